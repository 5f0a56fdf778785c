/-! ===== numbers: what the circle asks ===== -/
theorem dN_z {z : Nat → Int} {j : Nat} (h : dN z < j) (hj : j < 5) : z j = 0 := by
  by_cases z4 : z 4 = 0
  · by_cases z3 : z 3 = 0
    · by_cases z2 : z 2 = 0
      · by_cases z1 : z 1 = 0
        · rcases lt5 hj with rfl | rfl | rfl | rfl | rfl
          · omega
          · exact z1
          · exact z2
          · exact z3
          · exact z4
        · have := (dg1 z4 z3 z2 z1).2
          rcases lt5 hj with rfl | rfl | rfl | rfl | rfl
          · omega
          · omega
          · exact z2
          · exact z3
          · exact z4
      · have := (dg2 z4 z3 z2).2
        rcases lt5 hj with rfl | rfl | rfl | rfl | rfl
        · omega
        · omega
        · omega
        · exact z3
        · exact z4
    · have := (dg3 z4 z3).2
      rcases lt5 hj with rfl | rfl | rfl | rfl | rfl
      · omega
      · omega
      · omega
      · omega
      · exact z4
  · have := (dg4 z4).2
    omega
theorem dN_m {Q : Nat → Int} (h4 : Q 4 = 0) (h0 : dgZ Q ≠ -1) : dN (mul1 Q) = dN Q + 1 ∧ dgZ (mul1 Q) ≠ -1 := by
  have m4 : mul1 Q 4 = Q 3 := rfl
  have m3 : mul1 Q 3 = Q 3 + Q 2 := rfl
  have m2 : mul1 Q 2 = Q 2 + Q 1 := rfl
  have m1 : mul1 Q 1 = Q 1 + Q 0 := rfl
  by_cases z3 : Q 3 = 0
  · by_cases z2 : Q 2 = 0
    · by_cases z1 : Q 1 = 0
      · have z0 : Q 0 ≠ 0 := fun y => h0 (dgm h4 z3 z2 z1 y)
        have k := dg1 (z := mul1 Q) (by omega) (by omega) (by omega) (by omega)
        exact ⟨by rw [k.2, (dg0 h4 z3 z2 z1 z0).2], by rw [k.1]; decide⟩
      · have k := dg2 (z := mul1 Q) (by omega) (by omega) (by omega)
        exact ⟨by rw [k.2, (dg1 h4 z3 z2 z1).2], by rw [k.1]; decide⟩
    · have k := dg3 (z := mul1 Q) (by omega) (by omega)
      exact ⟨by rw [k.2, (dg2 h4 z3 z2).2], by rw [k.1]; decide⟩
  · have k := dg4 (z := mul1 Q) (by omega)
    exact ⟨by rw [k.2, (dg3 h4 z3).2], by rw [k.1]; decide⟩
def mulN : Nat → (Nat → Int) → Nat → Int
  | 0, P => P
  | n + 1, P => mul1 (mulN n P)
theorem MULN {P : Nat → Int} (h0 : dgZ P ≠ -1) : ∀ n, dN P + n ≤ 4 → Gz (mulN n P) = ad3 (Gz P) (0, 0, n) ∧ dN (mulN n P) = dN P + n ∧ dgZ (mulN n P) ≠ -1
  | 0, _ => ⟨rfl, rfl, h0⟩
  | n + 1, h => by
    obtain ⟨a, b, c⟩ := MULN h0 n (by omega)
    have h4 : mulN n P 4 = 0 := dN_z (by omega) (by decide)
    refine ⟨?_, ?_, (dN_m h4 c).2⟩
    · show Gz (mul1 (mulN n P)) = _
      rw [MUL h4 c, a]
      unfold ad3
      simp only [Nat.add_zero, Nat.add_assoc]
    · show dN (mul1 (mulN n P)) = _
      rw [(dN_m h4 c).1, b]
      omega
theorem Gz_eq {a b : Nat → Int} (h : ∀ k, k < 5 → a k = b k) : Gz a = Gz b := by
  unfold Gz
  rw [h 0 (by decide), h 1 (by decide), h 2 (by decide), h 3 (by decide), h 4 (by decide)]
theorem dN_eq {a b : Nat → Int} (h : ∀ k, k < 5 → a k = b k) : dN a = dN b := by
  unfold dN
  rw [h 1 (by decide), h 2 (by decide), h 3 (by decide), h 4 (by decide)]
theorem dgZ_eq {a b : Nat → Int} (h : ∀ k, k < 5 → a k = b k) : dgZ a = dgZ b := by
  unfold dgZ
  rw [h 0 (by decide), h 1 (by decide), h 2 (by decide), h 3 (by decide), h 4 (by decide)]
theorem dN_le_of {z : Nat → Int} {d : Nat} (h : ∀ j, d < j → j < 5 → z j = 0) (h0 : dgZ z ≠ -1) : dN z ≤ d := by
  rcases Nat.lt_or_ge d (dN z) with q | q
  · exact absurd (h _ q (by have := dN_le z; omega)) (dN_ne h0)
  · exact q
/-- the class's turned form is the reference's, times as many 1 + w as the degree lacks -/
theorem TN {z : Nat → Int} (hb : bnd7 z) (h0 : dgZ z ≠ -1) : dgZ (tdZ z) ≠ -1 ∧ dN (tdZ z) ≤ dN z ∧ bdN 130000 (tdZ z) ∧ ∀ k, k < 5 → tnZ z k = mulN (4 - dN z) (tdZ z) k := by
  have ne := dN_ne h0
  have b0 := hb 0 (by decide)
  have b1 := hb 1 (by decide)
  have b2 := hb 2 (by decide)
  have b3 := hb 3 (by decide)
  have b4 := hb 4 (by decide)
  have le := dN_le z
  have ex : ∀ x : Nat → Int, dgZ x = -1 → x 0 = 0 ∧ x 1 = 0 ∧ x 2 = 0 ∧ x 3 = 0 ∧ x 4 = 0 := fun x hx => by
    by_cases x4 : x 4 = 0
    · by_cases x3 : x 3 = 0
      · by_cases x2 : x 2 = 0
        · by_cases x1 : x 1 = 0
          · by_cases x0 : x 0 = 0
            · exact ⟨x0, x1, x2, x3, x4⟩
            · rw [(dg0 x4 x3 x2 x1 x0).1] at hx; exact absurd hx (by decide)
          · rw [(dg1 x4 x3 x2 x1).1] at hx; exact absurd hx (by decide)
        · rw [(dg2 x4 x3 x2).1] at hx; exact absurd hx (by decide)
      · rw [(dg3 x4 x3).1] at hx; exact absurd hx (by decide)
    · rw [(dg4 x4).1] at hx; exact absurd hx (by decide)
  have cs : dN z = 0 ∨ dN z = 1 ∨ dN z = 2 ∨ dN z = 3 ∨ dN z = 4 := by omega
  rcases cs with h | h | h | h | h
  · rw [h] at ne
    obtain ⟨t0, t1, t2, t3, t4⟩ := td_0 h
    have hne : dgZ (tdZ z) ≠ -1 := fun q => (by obtain ⟨x0, x1, x2, x3, x4⟩ := ex _ q; exact ne (by omega))
    refine ⟨hne, ?_, ?_, ?_⟩
    · rw [h]
      refine dN_le_of (fun j a b => ?_) hne
      rcases lt5 b with rfl | rfl | rfl | rfl | rfl <;> first | omega | assumption
    · exact all5 (P := fun j => (tdZ z j).natAbs ≤ 130000) (by rw [t0]; omega) (by rw [t1]; omega) (by rw [t2]; omega) (by rw [t3]; omega) (by rw [t4]; omega)
    · have hl : lackZ z = 4 := by unfold lackZ; rw [h]
      rw [h]
      unfold tnZ
      rw [hl]
      refine all5 (P := fun k => turnZ z 4 k = mulN 4 (tdZ z) k) ?_ ?_ ?_ ?_ ?_ <;> simp [turnZ, tBZ, mulN, mul1, t0, t1, t2, t3, t4] <;> omega
  · rw [h] at ne
    obtain ⟨t0, t1, t2, t3, t4⟩ := td_1 h
    have hne : dgZ (tdZ z) ≠ -1 := fun q => (by obtain ⟨x0, x1, x2, x3, x4⟩ := ex _ q; exact ne (by omega))
    refine ⟨hne, ?_, ?_, ?_⟩
    · rw [h]
      refine dN_le_of (fun j a b => ?_) hne
      rcases lt5 b with rfl | rfl | rfl | rfl | rfl <;> first | omega | assumption
    · exact all5 (P := fun j => (tdZ z j).natAbs ≤ 130000) (by rw [t0]; omega) (by rw [t1]; omega) (by rw [t2]; omega) (by rw [t3]; omega) (by rw [t4]; omega)
    · have hl : lackZ z = 3 := by unfold lackZ; rw [h]
      rw [h]
      unfold tnZ
      rw [hl]
      refine all5 (P := fun k => turnZ z 3 k = mulN 3 (tdZ z) k) ?_ ?_ ?_ ?_ ?_ <;> simp [turnZ, tBZ, mulN, mul1, t0, t1, t2, t3, t4] <;> omega
  · rw [h] at ne
    obtain ⟨t0, t1, t2, t3, t4⟩ := td_2 h
    have hne : dgZ (tdZ z) ≠ -1 := fun q => (by obtain ⟨x0, x1, x2, x3, x4⟩ := ex _ q; exact ne (by omega))
    refine ⟨hne, ?_, ?_, ?_⟩
    · rw [h]
      refine dN_le_of (fun j a b => ?_) hne
      rcases lt5 b with rfl | rfl | rfl | rfl | rfl <;> first | omega | assumption
    · exact all5 (P := fun j => (tdZ z j).natAbs ≤ 130000) (by rw [t0]; omega) (by rw [t1]; omega) (by rw [t2]; omega) (by rw [t3]; omega) (by rw [t4]; omega)
    · have hl : lackZ z = 2 := by unfold lackZ; rw [h]
      rw [h]
      unfold tnZ
      rw [hl]
      refine all5 (P := fun k => turnZ z 2 k = mulN 2 (tdZ z) k) ?_ ?_ ?_ ?_ ?_ <;> simp [turnZ, tBZ, mulN, mul1, t0, t1, t2, t3, t4] <;> omega
  · rw [h] at ne
    obtain ⟨t0, t1, t2, t3, t4⟩ := td_3 h
    have hne : dgZ (tdZ z) ≠ -1 := fun q => (by obtain ⟨x0, x1, x2, x3, x4⟩ := ex _ q; exact ne (by omega))
    refine ⟨hne, ?_, ?_, ?_⟩
    · rw [h]
      refine dN_le_of (fun j a b => ?_) hne
      rcases lt5 b with rfl | rfl | rfl | rfl | rfl <;> first | omega | assumption
    · exact all5 (P := fun j => (tdZ z j).natAbs ≤ 130000) (by rw [t0]; omega) (by rw [t1]; omega) (by rw [t2]; omega) (by rw [t3]; omega) (by rw [t4]; omega)
    · have hl : lackZ z = 1 := by unfold lackZ; rw [h]
      rw [h]
      unfold tnZ
      rw [hl]
      refine all5 (P := fun k => turnZ z 1 k = mulN 1 (tdZ z) k) ?_ ?_ ?_ ?_ ?_ <;> simp [turnZ, tBZ, mulN, mul1, t0, t1, t2, t3, t4] <;> omega
  · rw [h] at ne
    obtain ⟨t0, t1, t2, t3, t4⟩ := td_4 h
    have hne : dgZ (tdZ z) ≠ -1 := fun q => (by obtain ⟨x0, x1, x2, x3, x4⟩ := ex _ q; exact ne (by omega))
    refine ⟨hne, ?_, ?_, ?_⟩
    · rw [h]; exact dN_le _
    · exact all5 (P := fun j => (tdZ z j).natAbs ≤ 130000) (by rw [t0]; omega) (by rw [t1]; omega) (by rw [t2]; omega) (by rw [t3]; omega) (by rw [t4]; omega)
    · have hl : lackZ z = 0 := by unfold lackZ; rw [h]
      rw [h]
      unfold tnZ
      rw [hl]
      refine all5 (P := fun k => turnZ z 0 k = mulN 0 (tdZ z) k) ?_ ?_ ?_ ?_ ?_ <;> simp [turnZ, tBZ, mulN, mul1, t0, t1, t2, t3, t4] <;> omega
