/-! ===== numbers: both counts are the same ===== -/
theorem ra_S {a b c : Int} (ha : a.natAbs ≤ 130000) (hb : b.natAbs ≤ 130000) (hc : c.natAbs ≤ 130000) : ra4 (lZ a) (lZ b) (lZ c) = if bit a.sign = bit c.sign then (if b * b < 4 * a * c then 0 else if si b = 0 then 0 else if bit a.sign = bit b.sign then 4 else 0) else 2 := by
  have A := bd_of ha (by decide)
  have Bb := bd_of hb (by decide)
  have Cc := bd_of hc (by decide)
  have h1 := ab_mul hb hb
  have h2 := ab_mul (ab_mul (show (4 : Int).natAbs ≤ 4 by decide) ha) hc
  have e : (lZ b * lZ b < 4 * lZ a * lZ c) ↔ b * b < 4 * a * c := by
    rw [show (4 : Int64) = lZ 4 by decide, lZ_mul, lZ_mul, lZ_mul]
    exact lZ_lt (bd_of h1 (by decide)) (bd_of h2 (by decide))
  unfold ra4
  rw [bit_s A, bit_s Bb, bit_s Cc, ifz Bb]
  by_cases q : b * b < 4 * a * c
  · rw [if_pos (e.mpr q), if_pos q, if_pos rfl]
  · rw [if_neg (fun y => q (e.mp y)), if_neg q, if_neg (show ¬ (1 : Int32) = 0 by decide)]
theorem A4_1 {z : Nat → Int} {Z A : Nat → Int64} (e : ∀ k, k < 5 → Z k = lZ (z k)) (hb : bdN 130000 z) (z4 : z 4 ≠ 0) (z3 : z 3 = 0) (z1 : z 1 = 0) (z0 : z 0 ≠ 0) : cntM Z A = (cAR z, cAE z, cAL z) := by
  have h0 : dgZ z ≠ -1 := (by rw [(dg4 z4).1]; decide)
  have hl : loM Z = 0 := by unfold loM; rw [if_neg (fun y => z0 ((zB e hb (by decide)).mp y))]
  have s0 : shb z 0 0 = z 0 := rfl
  have s2 : shb z 0 2 = z 2 := rfl
  have s4 : shb z 0 4 = z 4 := rfl
  obtain ⟨hLF, k0, k1, k2, k3, k4⟩ := L4_1 hb z4 z3 z1
  have b2 := (hLF.2.2.1 0 (by simp)).2.2.2.2.2
  rw [lo_m hl, cn_sq (t := (0, nI 0, 0)) (shb_e (A := A) (m := 0) e) (shb_b hb) z1 z3 (Or.inr z4)]
  rw [hLF.cA h0 (e := if bit (z 4).sign = bit (z 0).sign then (if z 2 * z 2 < 4 * z 4 * z 0 then 0 else if si (z 2) = 0 then 0 else if bit (z 4).sign = bit (z 2).sign then 4 else 0) else 2) (by
    rw [show ([4] : List Nat).length - 1 = 0 from rfl, show ([4] : List Nat).getD 0 0 = 4 from rfl, rx4 (ZLn (b2 0 (by decide)) (by rw [k0]; exact z0))]
    show ra4 (lZ (rowZ z 0 4)) (lZ (rowZ z 0 2)) (lZ (rowZ z 0 0)) = _
    rw [k4, k2, k0]
    exact ra_S (hb 4 (by decide)) (hb 2 (by decide)) (hb 0 (by decide)))]
  simp only [s0, s2, s4]
  have key : si (z 2) = 0 → si (z 4) * si (z 0) = 1 → z 2 * z 2 < 4 * z 4 * z 0 := fun q r => by
    have q0 := si_z.mp q
    rw [← si_mul] at r
    have p : 0 < z 4 * z 0 := by
      rcases si_c (z 4 * z 0) with ⟨w, -, -⟩ | ⟨-, w, -⟩ | ⟨-, w, -⟩
      · exact w
      · rw [w] at r; exact absurd r (by decide)
      · rw [w] at r; exact absurd r (by decide)
    rw [q0]
    have : 4 * z 4 * z 0 = 4 * (z 4 * z 0) := by grind
    omega
  by_cases hi : z 2 * z 2 < 4 * z 4 * z 0
  · rw [if_pos hi]
    have hj : ¬ 0 ≤ z 2 * z 2 - 4 * z 4 * z 0 := by omega
    have hp : si (z 4) * si (z 0) = 1 := by
      rw [← si_mul]
      apply si_p
      have : 0 ≤ z 2 * z 2 := by
        rcases Int.le_total 0 (z 2) with w | w
        · exact Int.mul_nonneg w w
        · exact Int.mul_nonneg_of_nonpos_of_nonpos w w
      have : 4 * z 4 * z 0 = 4 * (z 4 * z 0) := by grind
      omega
    unfold sqsS
    rw [if_neg (fun y => z4 (si_z.mp y)), if_neg hj]
    rcases si_2 z4 with ⟨a4, b4⟩ | ⟨a4, b4⟩ <;> rcases si_2 z0 with ⟨a0, b0⟩ | ⟨a0, b0⟩ <;> rw [a4, a0] at hp <;> simp only [b4, b0] <;> first | decide | exact absurd hp (by decide)
  · rw [if_neg hi]
    have hj : 0 ≤ z 2 * z 2 - 4 * z 4 * z 0 := by omega
    unfold sqsS
    rw [if_neg (fun y => z4 (si_z.mp y)), if_pos hj]
    rcases si_2 z4 with ⟨a4, b4⟩ | ⟨a4, b4⟩ <;> rcases si_2 z0 with ⟨a0, b0⟩ | ⟨a0, b0⟩ <;> rcases si_32 (z 2) with ⟨a2, c2⟩ | ⟨a2, c2⟩ | ⟨a2, c2⟩ <;> simp only [a4, b4, a0, b0, a2, c2] <;> first | decide | exact absurd (key a2 (by rw [a4, a0]; decide)) hi
theorem cnt_all {z : Nat → Int} {Z A : Nat → Int64} (e : ∀ k, k < 5 → Z k = lZ (z k)) (hb : bdN 130000 z) (h0 : dgZ z ≠ -1) : cntM Z A = (cAR z, cAE z, cAL z) := by
  by_cases z4 : z 4 = 0
  · by_cases z3 : z 3 = 0
    · by_cases z2 : z 2 = 0
      · by_cases z1 : z 1 = 0
        · by_cases z0 : z 0 = 0
          · exact absurd (dgm z4 z3 z2 z1 z0) h0
          · exact A0_1 e hb z4 z3 z2 z1 z0
        · by_cases z0 : z 0 = 0
          · exact A1_1 e hb z4 z3 z2 z1 z0
          · exact A1_2 e hb z4 z3 z2 z1 z0
      · by_cases z1 : z 1 = 0
        · by_cases z0 : z 0 = 0
          · exact A2_1z e hb z4 z3 z2 z1 z0
          · exact A2_1 e hb z4 z3 z2 z1 z0
        · by_cases z0 : z 0 = 0
          · exact A2_2 e hb z4 z3 z2 z1 z0
          · exact A2_3 e hb z4 z3 z2 z1 z0
    · by_cases z2 : z 2 = 0
      · by_cases z0 : z 0 = 0
        · by_cases z1 : z 1 = 0
          · exact A3_1z e hb z4 z3 z2 z1 z0
          · exact A3_1 e hb z4 z3 z2 z1 z0
        · exact A3_2a e hb z4 z3 z2 z0
      · by_cases hD : (z 1 * z 2 - z 3 * z 0) = 0
        · by_cases z0 : z 0 = 0
          · have z1 : z 1 = 0 := by
              rw [z0] at hD
              have q : z 1 * z 2 = 0 := by grind
              exact (Int.mul_eq_zero.mp q).resolve_right z2
            exact A3_2dz e hb z4 z3 z2 z1 z0 hD
          · have z1 : z 1 ≠ 0 := fun y => by
              rw [y] at hD
              have q : z 3 * z 0 = 0 := by grind
              exact (Int.mul_eq_zero.mp q).elim z3 z0
            exact A3_2d e hb z4 z3 z2 z1 z0 hD
        · by_cases z0 : z 0 = 0
          · have z1 : z 1 ≠ 0 := fun y => hD (by rw [y, z0]; grind)
            exact A3_3 e hb z4 z3 z2 z1 z0 hD
          · exact A3_4 e hb z4 z3 z2 z0 hD
  · by_cases z3 : z 3 = 0
    · by_cases z1 : z 1 = 0
      · by_cases z0 : z 0 = 0
        · by_cases z2 : z 2 = 0
          · exact A4_1z e hb z4 z3 z2 z1 z0
          · exact A4_1m e hb z4 z3 z2 z1 z0
        · exact A4_1 e hb z4 z3 z1 z0
      · by_cases z0 : z 0 = 0
        · exact A4_2a e hb z4 z3 z1 z0
        · exact A4_3a e hb z4 z3 z1 z0
    · by_cases hB : (z 2 * z 3 - z 4 * z 1) = 0
      · by_cases z0 : z 0 = 0
        · by_cases z1 : z 1 = 0
          · have z2 : z 2 = 0 := by
              rw [z1] at hB
              have q : z 2 * z 3 = 0 := by grind
              exact (Int.mul_eq_zero.mp q).resolve_right z3
            exact A4_2bz e hb z4 z3 z2 z1 z0 hB
          · have z2 : z 2 ≠ 0 := fun y => by
              rw [y] at hB
              have q : z 4 * z 1 = 0 := by grind
              exact (Int.mul_eq_zero.mp q).elim z4 z1
            exact A4_2b e hb z4 z3 z2 z1 z0 hB
        · exact A4_3b e hb z4 z3 z0 hB
      · by_cases hC : (z 1 * (z 2 * z 3 - z 4 * z 1) - z 3 * (z 0 * z 3)) = 0
        · by_cases z0 : z 0 = 0
          · have z1 : z 1 = 0 := by
              rw [z0] at hC
              have q : z 1 * (z 2 * z 3 - z 4 * z 1) = 0 := by grind
              exact (Int.mul_eq_zero.mp q).resolve_right hB
            have z2 : z 2 ≠ 0 := fun y => hB (by rw [y, z1]; grind)
            exact A4_3cz e hb z4 z3 z2 z1 z0 hB hC
          · have z1 : z 1 ≠ 0 := fun y => by
              rw [y] at hC
              have q : z 0 * (z 3 * z 3) = 0 := by grind
              exact (Int.mul_eq_zero.mp q).elim z0 (fun w => (Int.mul_eq_zero.mp w).elim z3 z3)
            exact A4_3c e hb z4 z3 z1 z0 hB hC
        · by_cases z0 : z 0 = 0
          · have z1 : z 1 ≠ 0 := fun y => hC (by rw [y, z0]; grind)
            exact A4_4 e hb z4 z3 z1 z0 hB hC
          · exact A4_5 e hb z4 z3 z0 hB hC
