theorem L4_5 {z : Nat → Int} (hb : bdN 130000 z) (z4 : z 4 ≠ 0) (z3 : z 3 ≠ 0) (hB : (z 2 * z 3 - z 4 * z 1) ≠ 0) (hC : (z 1 * (z 2 * z 3 - z 4 * z 1) - z 3 * (z 0 * z 3)) ≠ 0) (z0 : z 0 ≠ 0) : LF z [4, 3, 2, 1, 0] [(z 4).sign, (z 3).sign, (z 3).sign * (z 2 * z 3 - z 4 * z 1).sign, (z 2 * z 3 - z 4 * z 1).sign * (z 1 * (z 2 * z 3 - z 4 * z 1) - z 3 * (z 0 * z 3)).sign, (z 0).sign] := by
  have hd := (dg4 z4).2
  obtain ⟨q0, q1⟩ := rows_e (z := z) (by rw [hd])
  have x00 : rowZ z 0 0 = z 0 := by rw [q0]; rfl
  have x01 : rowZ z 0 1 = 0 := by rw [q0]; rfl
  have x02 : rowZ z 0 2 = z 2 := by rw [q0]; rfl
  have x03 : rowZ z 0 3 = 0 := by rw [q0]; rfl
  have x04 : rowZ z 0 4 = z 4 := by rw [q0]; rfl
  have y0 : ∀ j, j < 5 → (rowZ z 0 j).natAbs ≤ 130000 := by rw [q0]; exact half_ab hb
  have x10 : rowZ z 1 0 = 0 := by rw [q1]; rfl
  have x11 : rowZ z 1 1 = z 1 := by rw [q1]; rfl
  have x12 : rowZ z 1 2 = 0 := by rw [q1]; rfl
  have x13 : rowZ z 1 3 = z 3 := by rw [q1]; rfl
  have x14 : rowZ z 1 4 = 0 := by rw [q1]; rfl
  have y1 : ∀ j, j < 5 → (rowZ z 1 j).natAbs ≤ 130000 := by rw [q1]; exact half_ab hb
  have r0 : rowI z 0 4 (z 4).sign := rI4 y0 (by decide) (by rw [x04]; exact z4) (by rw [x04])
  have r1 : rowI z 1 3 (z 3).sign := rI3 y1 (by decide) x14 (by rw [x13]; exact z3) (by rw [x13])
  obtain ⟨t0, ⟨g, hg, g2, g0⟩, n2, n0, n1, n3, n4, yy⟩ := S43 (A := rowZ z 0) (B := rowZ z 1) y0 y1 (by decide) (by decide) (by decide) x01 x03 (by rw [x04]; exact z4) x10 x12 (by rw [x13]; exact z3) x14
  rw [x02, x13, x04, x11] at n2 g2 hg
  rw [x00] at n0 hg
  rw [x00, x13] at g0
  rw [← rowZ_2] at n2 n0 n1 n3 n4 g2 g0 yy
  have w2 : rowZ z 2 2 ≠ 0 := fun q => (by rw [q] at n2; exact absurd (Int.mul_eq_zero.mp n2.symm) (fun y => y.elim (sg_ne0 z3) (sg_ne0 hB)))
  have r2 : rowI z 2 2 ((z 3).sign * (z 2 * z 3 - z 4 * z 1).sign) := rI2 yy (by decide) n4 n3 w2 n2
  have gp : 0 < g := hg (Or.inl (fun q => hB ((sg_ne z3).mp q)))
  obtain ⟨t1, k0, k1, k2, k3, k4⟩ := S32 (A := rowZ z 1) (B := rowZ z 2) y1 yy (by decide) (by decide) (by decide) x10 x12 (by rw [x13]; exact z3) x14 n1 w2 n3 n4
  rw [← rowZ_2] at k0 k1 k2 k3 k4
  rw [x11, x13] at k1
  have e1 : (z 1 * rowZ z 2 2 - z 3 * rowZ z 2 0).sign = (z 3).sign * (z 1 * (z 2 * z 3 - z 4 * z 1) - z 3 * (z 0 * z 3)).sign := (by
    have e : g * (z 1 * rowZ z 2 2 - z 3 * rowZ z 2 0) = (z 3).sign * (z 1 * (z 2 * z 3 - z 4 * z 1) - z 3 * (z 0 * z 3)) := (by grind)
    have f := congrArg Int.sign e
    rw [Int.sign_mul, Int.sign_mul, Int.sign_sign, Int.sign_eq_one_of_pos gp, Int.one_mul] at f
    exact f)
  have k1 : rowZ z 3 1 = (z 2 * z 3 - z 4 * z 1).sign * (z 1 * (z 2 * z 3 - z 4 * z 1) - z 3 * (z 0 * z 3)).sign := (by rw [k1, e1, n2]; have := sg_sq z3; grind)
  have kk : rowZ z 3 1 = ((z 2 * z 3 - z 4 * z 1) * (z 1 * (z 2 * z 3 - z 4 * z 1) - z 3 * (z 0 * z 3))).sign := by rw [k1, Int.sign_mul]
  have y3 := one_ab (v := rowZ z 3) (k := 1) (by decide) kk (all5 (fun _ => k0) (fun q => absurd rfl q) (fun _ => k2) (fun _ => k3) (fun _ => k4))
  have w3 : rowZ z 3 1 ≠ 0 := fun q => (by rw [q] at k1; exact absurd (Int.mul_eq_zero.mp k1.symm) (fun y => y.elim (sg_ne0 hB) (sg_ne0 hC)))
  have r3 : rowI z 3 1 ((z 2 * z 3 - z 4 * z 1).sign * (z 1 * (z 2 * z 3 - z 4 * z 1) - z 3 * (z 0 * z 3)).sign) := rI1 y3 (by decide) k4 k3 k2 w3 (by rw [k1, Int.sign_mul, Int.sign_sign, Int.sign_sign])
  obtain ⟨t2, l0, l1, l2, l3, l4⟩ := S21 (A := rowZ z 2) (B := rowZ z 3) yy y3 (by decide) (by decide) (by decide) n1 w2 n3 n4 k0 w3 k2 k3 k4
  rw [← rowZ_2] at l0 l1 l2 l3 l4
  rw [n0] at l0
  have y4 := one_ab (v := rowZ z 4) (k := 0) (by decide) l0 (all5 (fun q => absurd rfl q) (fun _ => l1) (fun _ => l2) (fun _ => l3) (fun _ => l4))
  have w4 : rowZ z 4 0 ≠ 0 := by rw [l0]; exact sg_ne0 z0
  have r4 : rowI z 4 0 (z 0).sign := rI0 y4 (by decide) l4 l3 l2 l1 w4 (by rw [l0, Int.sign_sign])
  obtain ⟨t3, hz⟩ := S10 (A := rowZ z 3) (B := rowZ z 4) y3 y4 (by decide) (by decide) (by decide) k0 w3 k2 k3 k4 w4 l1 l2 l3 l4
  rw [← rowZ_2] at hz
  exact LF_5 r0 r1 r2 r3 r4 hz t0 t1 t2 t3
theorem L4_4 {z : Nat → Int} (hb : bdN 130000 z) (z4 : z 4 ≠ 0) (z3 : z 3 ≠ 0) (hB : (z 2 * z 3 - z 4 * z 1) ≠ 0) (hC : (z 1 * (z 2 * z 3 - z 4 * z 1) - z 3 * (z 0 * z 3)) ≠ 0) (z0 : z 0 = 0) : LF z [4, 3, 2, 1] [(z 4).sign, (z 3).sign, (z 3).sign * (z 2 * z 3 - z 4 * z 1).sign, (z 2 * z 3 - z 4 * z 1).sign * (z 1 * (z 2 * z 3 - z 4 * z 1) - z 3 * (z 0 * z 3)).sign] ∧ rowZ z 3 0 = 0 := by
  have hd := (dg4 z4).2
  obtain ⟨q0, q1⟩ := rows_e (z := z) (by rw [hd])
  have x00 : rowZ z 0 0 = z 0 := by rw [q0]; rfl
  have x01 : rowZ z 0 1 = 0 := by rw [q0]; rfl
  have x02 : rowZ z 0 2 = z 2 := by rw [q0]; rfl
  have x03 : rowZ z 0 3 = 0 := by rw [q0]; rfl
  have x04 : rowZ z 0 4 = z 4 := by rw [q0]; rfl
  have y0 : ∀ j, j < 5 → (rowZ z 0 j).natAbs ≤ 130000 := by rw [q0]; exact half_ab hb
  have x10 : rowZ z 1 0 = 0 := by rw [q1]; rfl
  have x11 : rowZ z 1 1 = z 1 := by rw [q1]; rfl
  have x12 : rowZ z 1 2 = 0 := by rw [q1]; rfl
  have x13 : rowZ z 1 3 = z 3 := by rw [q1]; rfl
  have x14 : rowZ z 1 4 = 0 := by rw [q1]; rfl
  have y1 : ∀ j, j < 5 → (rowZ z 1 j).natAbs ≤ 130000 := by rw [q1]; exact half_ab hb
  have r0 : rowI z 0 4 (z 4).sign := rI4 y0 (by decide) (by rw [x04]; exact z4) (by rw [x04])
  have r1 : rowI z 1 3 (z 3).sign := rI3 y1 (by decide) x14 (by rw [x13]; exact z3) (by rw [x13])
  obtain ⟨t0, ⟨g, hg, g2, g0⟩, n2, n0, n1, n3, n4, yy⟩ := S43 (A := rowZ z 0) (B := rowZ z 1) y0 y1 (by decide) (by decide) (by decide) x01 x03 (by rw [x04]; exact z4) x10 x12 (by rw [x13]; exact z3) x14
  rw [x02, x13, x04, x11] at n2 g2 hg
  rw [x00] at n0 hg
  rw [x00, x13] at g0
  rw [← rowZ_2] at n2 n0 n1 n3 n4 g2 g0 yy
  have w2 : rowZ z 2 2 ≠ 0 := fun q => (by rw [q] at n2; exact absurd (Int.mul_eq_zero.mp n2.symm) (fun y => y.elim (sg_ne0 z3) (sg_ne0 hB)))
  have r2 : rowI z 2 2 ((z 3).sign * (z 2 * z 3 - z 4 * z 1).sign) := rI2 yy (by decide) n4 n3 w2 n2
  have gp : 0 < g := hg (Or.inl (fun q => hB ((sg_ne z3).mp q)))
  obtain ⟨t1, k0, k1, k2, k3, k4⟩ := S32 (A := rowZ z 1) (B := rowZ z 2) y1 yy (by decide) (by decide) (by decide) x10 x12 (by rw [x13]; exact z3) x14 n1 w2 n3 n4
  rw [← rowZ_2] at k0 k1 k2 k3 k4
  rw [x11, x13] at k1
  have e1 : (z 1 * rowZ z 2 2 - z 3 * rowZ z 2 0).sign = (z 3).sign * (z 1 * (z 2 * z 3 - z 4 * z 1) - z 3 * (z 0 * z 3)).sign := (by
    have e : g * (z 1 * rowZ z 2 2 - z 3 * rowZ z 2 0) = (z 3).sign * (z 1 * (z 2 * z 3 - z 4 * z 1) - z 3 * (z 0 * z 3)) := (by grind)
    have f := congrArg Int.sign e
    rw [Int.sign_mul, Int.sign_mul, Int.sign_sign, Int.sign_eq_one_of_pos gp, Int.one_mul] at f
    exact f)
  have k1 : rowZ z 3 1 = (z 2 * z 3 - z 4 * z 1).sign * (z 1 * (z 2 * z 3 - z 4 * z 1) - z 3 * (z 0 * z 3)).sign := (by rw [k1, e1, n2]; have := sg_sq z3; grind)
  have kk : rowZ z 3 1 = ((z 2 * z 3 - z 4 * z 1) * (z 1 * (z 2 * z 3 - z 4 * z 1) - z 3 * (z 0 * z 3))).sign := by rw [k1, Int.sign_mul]
  have y3 := one_ab (v := rowZ z 3) (k := 1) (by decide) kk (all5 (fun _ => k0) (fun q => absurd rfl q) (fun _ => k2) (fun _ => k3) (fun _ => k4))
  have w3 : rowZ z 3 1 ≠ 0 := fun q => (by rw [q] at k1; exact absurd (Int.mul_eq_zero.mp k1.symm) (fun y => y.elim (sg_ne0 hB) (sg_ne0 hC)))
  have r3 : rowI z 3 1 ((z 2 * z 3 - z 4 * z 1).sign * (z 1 * (z 2 * z 3 - z 4 * z 1) - z 3 * (z 0 * z 3)).sign) := rI1 y3 (by decide) k4 k3 k2 w3 (by rw [k1, Int.sign_mul, Int.sign_sign, Int.sign_sign])
  obtain ⟨t2, l0, l1, l2, l3, l4⟩ := S21 (A := rowZ z 2) (B := rowZ z 3) yy y3 (by decide) (by decide) (by decide) n1 w2 n3 n4 k0 w3 k2 k3 k4
  rw [← rowZ_2] at l0 l1 l2 l3 l4
  rw [n0] at l0
  rw [z0] at l0
  exact ⟨LF_4 r0 r1 r2 r3 (dgm l4 l3 l2 l1 l0) t0 t1 t2, k0⟩
theorem L4_3c {z : Nat → Int} (hb : bdN 130000 z) (z4 : z 4 ≠ 0) (z3 : z 3 ≠ 0) (hB : (z 2 * z 3 - z 4 * z 1) ≠ 0) (hC : (z 1 * (z 2 * z 3 - z 4 * z 1) - z 3 * (z 0 * z 3)) = 0) : LF z [4, 3, 2] [(z 4).sign, (z 3).sign, (z 3).sign * (z 2 * z 3 - z 4 * z 1).sign] ∧ ((rowZ z 2 0).sign = (z 0).sign ∧ (rowZ z 2 2).sign = (z 3).sign * (z 2 * z 3 - z 4 * z 1).sign ∧ rowZ z 2 1 = 0) := by
  have hd := (dg4 z4).2
  obtain ⟨q0, q1⟩ := rows_e (z := z) (by rw [hd])
  have x00 : rowZ z 0 0 = z 0 := by rw [q0]; rfl
  have x01 : rowZ z 0 1 = 0 := by rw [q0]; rfl
  have x02 : rowZ z 0 2 = z 2 := by rw [q0]; rfl
  have x03 : rowZ z 0 3 = 0 := by rw [q0]; rfl
  have x04 : rowZ z 0 4 = z 4 := by rw [q0]; rfl
  have y0 : ∀ j, j < 5 → (rowZ z 0 j).natAbs ≤ 130000 := by rw [q0]; exact half_ab hb
  have x10 : rowZ z 1 0 = 0 := by rw [q1]; rfl
  have x11 : rowZ z 1 1 = z 1 := by rw [q1]; rfl
  have x12 : rowZ z 1 2 = 0 := by rw [q1]; rfl
  have x13 : rowZ z 1 3 = z 3 := by rw [q1]; rfl
  have x14 : rowZ z 1 4 = 0 := by rw [q1]; rfl
  have y1 : ∀ j, j < 5 → (rowZ z 1 j).natAbs ≤ 130000 := by rw [q1]; exact half_ab hb
  have r0 : rowI z 0 4 (z 4).sign := rI4 y0 (by decide) (by rw [x04]; exact z4) (by rw [x04])
  have r1 : rowI z 1 3 (z 3).sign := rI3 y1 (by decide) x14 (by rw [x13]; exact z3) (by rw [x13])
  obtain ⟨t0, ⟨g, hg, g2, g0⟩, n2, n0, n1, n3, n4, yy⟩ := S43 (A := rowZ z 0) (B := rowZ z 1) y0 y1 (by decide) (by decide) (by decide) x01 x03 (by rw [x04]; exact z4) x10 x12 (by rw [x13]; exact z3) x14
  rw [x02, x13, x04, x11] at n2 g2 hg
  rw [x00] at n0 hg
  rw [x00, x13] at g0
  rw [← rowZ_2] at n2 n0 n1 n3 n4 g2 g0 yy
  have w2 : rowZ z 2 2 ≠ 0 := fun q => (by rw [q] at n2; exact absurd (Int.mul_eq_zero.mp n2.symm) (fun y => y.elim (sg_ne0 z3) (sg_ne0 hB)))
  have r2 : rowI z 2 2 ((z 3).sign * (z 2 * z 3 - z 4 * z 1).sign) := rI2 yy (by decide) n4 n3 w2 n2
  have gp : 0 < g := hg (Or.inl (fun q => hB ((sg_ne z3).mp q)))
  obtain ⟨t1, k0, k1, k2, k3, k4⟩ := S32 (A := rowZ z 1) (B := rowZ z 2) y1 yy (by decide) (by decide) (by decide) x10 x12 (by rw [x13]; exact z3) x14 n1 w2 n3 n4
  rw [← rowZ_2] at k0 k1 k2 k3 k4
  rw [x11, x13] at k1
  have e1 : (z 1 * rowZ z 2 2 - z 3 * rowZ z 2 0).sign = (z 3).sign * (z 1 * (z 2 * z 3 - z 4 * z 1) - z 3 * (z 0 * z 3)).sign := (by
    have e : g * (z 1 * rowZ z 2 2 - z 3 * rowZ z 2 0) = (z 3).sign * (z 1 * (z 2 * z 3 - z 4 * z 1) - z 3 * (z 0 * z 3)) := (by grind)
    have f := congrArg Int.sign e
    rw [Int.sign_mul, Int.sign_mul, Int.sign_sign, Int.sign_eq_one_of_pos gp, Int.one_mul] at f
    exact f)
  have k1 : rowZ z 3 1 = (z 2 * z 3 - z 4 * z 1).sign * (z 1 * (z 2 * z 3 - z 4 * z 1) - z 3 * (z 0 * z 3)).sign := (by rw [k1, e1, n2]; have := sg_sq z3; grind)
  rw [hC] at k1
  have k1 : rowZ z 3 1 = 0 := k1.trans (Int.mul_zero _)
  exact ⟨LF_3 r0 r1 r2 (dgm k4 k3 k2 k1 k0) t0 t1, n0, n2, n1⟩
theorem L4_3b {z : Nat → Int} (hb : bdN 130000 z) (z4 : z 4 ≠ 0) (z3 : z 3 ≠ 0) (hB : (z 2 * z 3 - z 4 * z 1) = 0) (z0 : z 0 ≠ 0) : LF z [4, 3, 0] [(z 4).sign, (z 3).sign, (z 0).sign] := by
  have hd := (dg4 z4).2
  obtain ⟨q0, q1⟩ := rows_e (z := z) (by rw [hd])
  have x00 : rowZ z 0 0 = z 0 := by rw [q0]; rfl
  have x01 : rowZ z 0 1 = 0 := by rw [q0]; rfl
  have x02 : rowZ z 0 2 = z 2 := by rw [q0]; rfl
  have x03 : rowZ z 0 3 = 0 := by rw [q0]; rfl
  have x04 : rowZ z 0 4 = z 4 := by rw [q0]; rfl
  have y0 : ∀ j, j < 5 → (rowZ z 0 j).natAbs ≤ 130000 := by rw [q0]; exact half_ab hb
  have x10 : rowZ z 1 0 = 0 := by rw [q1]; rfl
  have x11 : rowZ z 1 1 = z 1 := by rw [q1]; rfl
  have x12 : rowZ z 1 2 = 0 := by rw [q1]; rfl
  have x13 : rowZ z 1 3 = z 3 := by rw [q1]; rfl
  have x14 : rowZ z 1 4 = 0 := by rw [q1]; rfl
  have y1 : ∀ j, j < 5 → (rowZ z 1 j).natAbs ≤ 130000 := by rw [q1]; exact half_ab hb
  have r0 : rowI z 0 4 (z 4).sign := rI4 y0 (by decide) (by rw [x04]; exact z4) (by rw [x04])
  have r1 : rowI z 1 3 (z 3).sign := rI3 y1 (by decide) x14 (by rw [x13]; exact z3) (by rw [x13])
  obtain ⟨t0, ⟨g, hg, g2, g0⟩, n2, n0, n1, n3, n4, yy⟩ := S43 (A := rowZ z 0) (B := rowZ z 1) y0 y1 (by decide) (by decide) (by decide) x01 x03 (by rw [x04]; exact z4) x10 x12 (by rw [x13]; exact z3) x14
  rw [x02, x13, x04, x11] at n2 g2 hg
  rw [x00] at n0 hg
  rw [x00, x13] at g0
  rw [← rowZ_2] at n2 n0 n1 n3 n4 g2 g0 yy
  rw [hB] at n2
  have w2 : rowZ z 2 2 = 0 := Int.sign_eq_zero_iff_zero.mp (n2.trans (Int.mul_zero _))
  have w0 : rowZ z 2 0 ≠ 0 := fun q => (by rw [q] at n0; exact sg_ne0 z0 n0.symm)
  have r2 : rowI z 2 0 (z 0).sign := rI0 yy (by decide) n4 n3 w2 n1 w0 n0
  have gp : 0 < g := hg (Or.inr z0)
  rw [hB] at g2
  have y2 : ∀ j, j < 5 → (rowZ z 2 j).natAbs ≤ 1 := (by
    have hs : rowZ z 2 = low5 (strikeZ (rowZ z 0) 4 (rowZ z 1) 3) := (by rw [rowZ_2, r0.2.1, r1.2.1]; exact if_neg (by decide))
    have u : low5 (rowZ z 2) 0 = (rowZ z 2 0).sign := low5_one (by decide) (all5 (fun q => absurd rfl q) (fun _ => n1) (fun _ => w2) (fun _ => n3) (fun _ => n4))
    rw [rowZ_low 0 (by decide)] at u
    exact one_ab (by decide) u (all5 (fun q => absurd rfl q) (fun _ => n1) (fun _ => w2) (fun _ => n3) (fun _ => n4)))
  obtain ⟨t1, hz⟩ := S30 (A := rowZ z 1) (B := rowZ z 2) y1 y2 (by decide) (by decide) (by decide) (by decide) x10 x12 (by rw [x13]; exact z3) x14 w0 n1 w2 n3 n4
  rw [← rowZ_2] at hz
  exact LF_3 r0 r1 r2 hz t0 t1
theorem L4_2b {z : Nat → Int} (hb : bdN 130000 z) (z4 : z 4 ≠ 0) (z3 : z 3 ≠ 0) (hB : (z 2 * z 3 - z 4 * z 1) = 0) (z0 : z 0 = 0) : LF z [4, 3] [(z 4).sign, (z 3).sign] ∧ rowZ z 1 1 = z 1 ∧ rowZ z 1 3 = z 3 ∧ rowZ z 1 0 = 0 ∧ rowZ z 1 2 = 0 := by
  have hd := (dg4 z4).2
  obtain ⟨q0, q1⟩ := rows_e (z := z) (by rw [hd])
  have x00 : rowZ z 0 0 = z 0 := by rw [q0]; rfl
  have x01 : rowZ z 0 1 = 0 := by rw [q0]; rfl
  have x02 : rowZ z 0 2 = z 2 := by rw [q0]; rfl
  have x03 : rowZ z 0 3 = 0 := by rw [q0]; rfl
  have x04 : rowZ z 0 4 = z 4 := by rw [q0]; rfl
  have y0 : ∀ j, j < 5 → (rowZ z 0 j).natAbs ≤ 130000 := by rw [q0]; exact half_ab hb
  have x10 : rowZ z 1 0 = 0 := by rw [q1]; rfl
  have x11 : rowZ z 1 1 = z 1 := by rw [q1]; rfl
  have x12 : rowZ z 1 2 = 0 := by rw [q1]; rfl
  have x13 : rowZ z 1 3 = z 3 := by rw [q1]; rfl
  have x14 : rowZ z 1 4 = 0 := by rw [q1]; rfl
  have y1 : ∀ j, j < 5 → (rowZ z 1 j).natAbs ≤ 130000 := by rw [q1]; exact half_ab hb
  have r0 : rowI z 0 4 (z 4).sign := rI4 y0 (by decide) (by rw [x04]; exact z4) (by rw [x04])
  have r1 : rowI z 1 3 (z 3).sign := rI3 y1 (by decide) x14 (by rw [x13]; exact z3) (by rw [x13])
  obtain ⟨t0, ⟨g, hg, g2, g0⟩, n2, n0, n1, n3, n4, yy⟩ := S43 (A := rowZ z 0) (B := rowZ z 1) y0 y1 (by decide) (by decide) (by decide) x01 x03 (by rw [x04]; exact z4) x10 x12 (by rw [x13]; exact z3) x14
  rw [x02, x13, x04, x11] at n2 g2 hg
  rw [x00] at n0 hg
  rw [x00, x13] at g0
  rw [← rowZ_2] at n2 n0 n1 n3 n4 g2 g0 yy
  rw [hB] at n2
  have w2 : rowZ z 2 2 = 0 := Int.sign_eq_zero_iff_zero.mp (n2.trans (Int.mul_zero _))
  rw [z0] at n0
  have w0 : rowZ z 2 0 = 0 := Int.sign_eq_zero_iff_zero.mp n0
  exact ⟨LF_2 r0 r1 (dgm n4 n3 w2 n1 w0) t0, x11, x13, x10, x12⟩
theorem L4_3a {z : Nat → Int} (hb : bdN 130000 z) (z4 : z 4 ≠ 0) (z3 : z 3 = 0) (z1 : z 1 ≠ 0) (z0 : z 0 ≠ 0) : LF z [4, 1, 0] [(z 4).sign, (z 1).sign, (z 0).sign] := by
  have hd := (dg4 z4).2
  obtain ⟨q0, q1⟩ := rows_e (z := z) (by rw [hd])
  have x00 : rowZ z 0 0 = z 0 := by rw [q0]; rfl
  have x01 : rowZ z 0 1 = 0 := by rw [q0]; rfl
  have x02 : rowZ z 0 2 = z 2 := by rw [q0]; rfl
  have x03 : rowZ z 0 3 = 0 := by rw [q0]; rfl
  have x04 : rowZ z 0 4 = z 4 := by rw [q0]; rfl
  have y0 : ∀ j, j < 5 → (rowZ z 0 j).natAbs ≤ 130000 := by rw [q0]; exact half_ab hb
  have x10 : rowZ z 1 0 = 0 := by rw [q1]; rfl
  have x11 : rowZ z 1 1 = z 1 := by rw [q1]; rfl
  have x12 : rowZ z 1 2 = 0 := by rw [q1]; rfl
  have x13 : rowZ z 1 3 = z 3 := by rw [q1]; rfl
  have x14 : rowZ z 1 4 = 0 := by rw [q1]; rfl
  have y1 : ∀ j, j < 5 → (rowZ z 1 j).natAbs ≤ 130000 := by rw [q1]; exact half_ab hb
  have r0 : rowI z 0 4 (z 4).sign := rI4 y0 (by decide) (by rw [x04]; exact z4) (by rw [x04])
  have r1 : rowI z 1 1 (z 1).sign := rI1 y1 (by decide) x14 (by rw [x13]; exact z3) x12 (by rw [x11]; exact z1) (by rw [x11])
  obtain ⟨t0, l0, l1, l2, l3, l4⟩ := S41 (A := rowZ z 0) (B := rowZ z 1) y0 y1 (by decide) (by decide) (by decide) (by decide) x01 x03 (by rw [x04]; exact z4) x10 (by rw [x11]; exact z1) x12 (by rw [x13]; exact z3) x14
  rw [← rowZ_2] at l0 l1 l2 l3 l4
  rw [x00] at l0
  have y2 := one_ab (v := rowZ z 2) (k := 0) (by decide) l0 (all5 (fun q => absurd rfl q) (fun _ => l1) (fun _ => l2) (fun _ => l3) (fun _ => l4))
  have w0 : rowZ z 2 0 ≠ 0 := by rw [l0]; exact sg_ne0 z0
  have r2 : rowI z 2 0 (z 0).sign := rI0 y2 (by decide) l4 l3 l2 l1 w0 (by rw [l0, Int.sign_sign])
  obtain ⟨t1, hz⟩ := S10 (A := rowZ z 1) (B := rowZ z 2) y1 y2 (by decide) (by decide) (by decide) x10 (by rw [x11]; exact z1) x12 (by rw [x13]; exact z3) x14 w0 l1 l2 l3 l4
  rw [← rowZ_2] at hz
  exact LF_3 r0 r1 r2 hz t0 t1
theorem L4_2a {z : Nat → Int} (hb : bdN 130000 z) (z4 : z 4 ≠ 0) (z3 : z 3 = 0) (z1 : z 1 ≠ 0) (z0 : z 0 = 0) : LF z [4, 1] [(z 4).sign, (z 1).sign] ∧ rowZ z 1 0 = 0 := by
  have hd := (dg4 z4).2
  obtain ⟨q0, q1⟩ := rows_e (z := z) (by rw [hd])
  have x00 : rowZ z 0 0 = z 0 := by rw [q0]; rfl
  have x01 : rowZ z 0 1 = 0 := by rw [q0]; rfl
  have x02 : rowZ z 0 2 = z 2 := by rw [q0]; rfl
  have x03 : rowZ z 0 3 = 0 := by rw [q0]; rfl
  have x04 : rowZ z 0 4 = z 4 := by rw [q0]; rfl
  have y0 : ∀ j, j < 5 → (rowZ z 0 j).natAbs ≤ 130000 := by rw [q0]; exact half_ab hb
  have x10 : rowZ z 1 0 = 0 := by rw [q1]; rfl
  have x11 : rowZ z 1 1 = z 1 := by rw [q1]; rfl
  have x12 : rowZ z 1 2 = 0 := by rw [q1]; rfl
  have x13 : rowZ z 1 3 = z 3 := by rw [q1]; rfl
  have x14 : rowZ z 1 4 = 0 := by rw [q1]; rfl
  have y1 : ∀ j, j < 5 → (rowZ z 1 j).natAbs ≤ 130000 := by rw [q1]; exact half_ab hb
  have r0 : rowI z 0 4 (z 4).sign := rI4 y0 (by decide) (by rw [x04]; exact z4) (by rw [x04])
  have r1 : rowI z 1 1 (z 1).sign := rI1 y1 (by decide) x14 (by rw [x13]; exact z3) x12 (by rw [x11]; exact z1) (by rw [x11])
  obtain ⟨t0, l0, l1, l2, l3, l4⟩ := S41 (A := rowZ z 0) (B := rowZ z 1) y0 y1 (by decide) (by decide) (by decide) (by decide) x01 x03 (by rw [x04]; exact z4) x10 (by rw [x11]; exact z1) x12 (by rw [x13]; exact z3) x14
  rw [← rowZ_2] at l0 l1 l2 l3 l4
  rw [x00] at l0
  rw [z0] at l0
  exact ⟨LF_2 r0 r1 (dgm l4 l3 l2 l1 l0) t0, x10⟩
theorem L4_1 {z : Nat → Int} (hb : bdN 130000 z) (z4 : z 4 ≠ 0) (z3 : z 3 = 0) (z1 : z 1 = 0) : LF z [4] [(z 4).sign] ∧ rowZ z 0 0 = z 0 ∧ rowZ z 0 1 = 0 ∧ rowZ z 0 2 = z 2 ∧ rowZ z 0 3 = 0 ∧ rowZ z 0 4 = z 4 := by
  have hd := (dg4 z4).2
  obtain ⟨q0, q1⟩ := rows_e (z := z) (by rw [hd])
  have x00 : rowZ z 0 0 = z 0 := by rw [q0]; rfl
  have x01 : rowZ z 0 1 = 0 := by rw [q0]; rfl
  have x02 : rowZ z 0 2 = z 2 := by rw [q0]; rfl
  have x03 : rowZ z 0 3 = 0 := by rw [q0]; rfl
  have x04 : rowZ z 0 4 = z 4 := by rw [q0]; rfl
  have y0 : ∀ j, j < 5 → (rowZ z 0 j).natAbs ≤ 130000 := by rw [q0]; exact half_ab hb
  have x10 : rowZ z 1 0 = 0 := by rw [q1]; rfl
  have x11 : rowZ z 1 1 = z 1 := by rw [q1]; rfl
  have x12 : rowZ z 1 2 = 0 := by rw [q1]; rfl
  have x13 : rowZ z 1 3 = z 3 := by rw [q1]; rfl
  have x14 : rowZ z 1 4 = 0 := by rw [q1]; rfl
  have y1 : ∀ j, j < 5 → (rowZ z 1 j).natAbs ≤ 130000 := by rw [q1]; exact half_ab hb
  have r0 : rowI z 0 4 (z 4).sign := rI4 y0 (by decide) (by rw [x04]; exact z4) (by rw [x04])
  exact ⟨LF_1 r0 (dgm x14 (x13.trans z3) x12 (x11.trans z1) x10), x00, x01, x02, x03, x04⟩
theorem L3_4 {z : Nat → Int} (hb : bdN 130000 z) (z4 : z 4 = 0) (z3 : z 3 ≠ 0) (z2 : z 2 ≠ 0) (hD : (z 1 * z 2 - z 3 * z 0) ≠ 0) (z0 : z 0 ≠ 0) : LF z [3, 2, 1, 0] [(z 3).sign, (z 2).sign, (z 2).sign * (z 1 * z 2 - z 3 * z 0).sign, (z 0).sign] := by
  have hd := (dg3 z4 z3).2
  obtain ⟨q0, q1⟩ := rows_o (z := z) (by rw [hd])
  have x00 : rowZ z 0 0 = 0 := by rw [q0]; rfl
  have x01 : rowZ z 0 1 = z 1 := by rw [q0]; rfl
  have x02 : rowZ z 0 2 = 0 := by rw [q0]; rfl
  have x03 : rowZ z 0 3 = z 3 := by rw [q0]; rfl
  have x04 : rowZ z 0 4 = 0 := by rw [q0]; rfl
  have y0 : ∀ j, j < 5 → (rowZ z 0 j).natAbs ≤ 130000 := by rw [q0]; exact half_ab hb
  have x10 : rowZ z 1 0 = z 0 := by rw [q1]; rfl
  have x11 : rowZ z 1 1 = 0 := by rw [q1]; rfl
  have x12 : rowZ z 1 2 = z 2 := by rw [q1]; rfl
  have x13 : rowZ z 1 3 = 0 := by rw [q1]; rfl
  have x14 : rowZ z 1 4 = z 4 := by rw [q1]; rfl
  have y1 : ∀ j, j < 5 → (rowZ z 1 j).natAbs ≤ 130000 := by rw [q1]; exact half_ab hb
  have x14 : rowZ z 1 4 = 0 := x14.trans z4
  have r0 : rowI z 0 3 (z 3).sign := rI3 y0 (by decide) x04 (by rw [x03]; exact z3) (by rw [x03])
  have r1 : rowI z 1 2 (z 2).sign := rI2 y1 (by decide) x14 x13 (by rw [x12]; exact z2) (by rw [x12])
  obtain ⟨t0, k0, k1, k2, k3, k4⟩ := S32 (A := rowZ z 0) (B := rowZ z 1) y0 y1 (by decide) (by decide) (by decide) x00 x02 (by rw [x03]; exact z3) x04 x11 (by rw [x12]; exact z2) x13 x14
  rw [← rowZ_2] at k0 k1 k2 k3 k4
  rw [x01, x12, x03, x10] at k1
  have kk : rowZ z 2 1 = (z 2 * (z 1 * z 2 - z 3 * z 0)).sign := by rw [k1, Int.sign_mul]
  have y2 := one_ab (v := rowZ z 2) (k := 1) (by decide) kk (all5 (fun _ => k0) (fun q => absurd rfl q) (fun _ => k2) (fun _ => k3) (fun _ => k4))
  have w2 : rowZ z 2 1 ≠ 0 := fun q => (by rw [q] at k1; exact absurd (Int.mul_eq_zero.mp k1.symm) (fun y => y.elim (sg_ne0 z2) (sg_ne0 hD)))
  have r2 : rowI z 2 1 ((z 2).sign * (z 1 * z 2 - z 3 * z 0).sign) := rI1 y2 (by decide) k4 k3 k2 w2 (by rw [k1, Int.sign_mul, Int.sign_sign, Int.sign_sign])
  obtain ⟨t1, l0, l1, l2, l3, l4⟩ := S21 (A := rowZ z 1) (B := rowZ z 2) y1 y2 (by decide) (by decide) (by decide) x11 (by rw [x12]; exact z2) x13 x14 k0 w2 k2 k3 k4
  rw [← rowZ_2] at l0 l1 l2 l3 l4
  rw [x10] at l0
  have y3 := one_ab (v := rowZ z 3) (k := 0) (by decide) l0 (all5 (fun q => absurd rfl q) (fun _ => l1) (fun _ => l2) (fun _ => l3) (fun _ => l4))
  have w0 : rowZ z 3 0 ≠ 0 := by rw [l0]; exact sg_ne0 z0
  have r3 : rowI z 3 0 (z 0).sign := rI0 y3 (by decide) l4 l3 l2 l1 w0 (by rw [l0, Int.sign_sign])
  obtain ⟨t2, hz⟩ := S10 (A := rowZ z 2) (B := rowZ z 3) y2 y3 (by decide) (by decide) (by decide) k0 w2 k2 k3 k4 w0 l1 l2 l3 l4
  rw [← rowZ_2] at hz
  exact LF_4 r0 r1 r2 r3 hz t0 t1 t2
theorem L3_3 {z : Nat → Int} (hb : bdN 130000 z) (z4 : z 4 = 0) (z3 : z 3 ≠ 0) (z2 : z 2 ≠ 0) (hD : (z 1 * z 2 - z 3 * z 0) ≠ 0) (z0 : z 0 = 0) : LF z [3, 2, 1] [(z 3).sign, (z 2).sign, (z 2).sign * (z 1 * z 2 - z 3 * z 0).sign] ∧ rowZ z 2 0 = 0 := by
  have hd := (dg3 z4 z3).2
  obtain ⟨q0, q1⟩ := rows_o (z := z) (by rw [hd])
  have x00 : rowZ z 0 0 = 0 := by rw [q0]; rfl
  have x01 : rowZ z 0 1 = z 1 := by rw [q0]; rfl
  have x02 : rowZ z 0 2 = 0 := by rw [q0]; rfl
  have x03 : rowZ z 0 3 = z 3 := by rw [q0]; rfl
  have x04 : rowZ z 0 4 = 0 := by rw [q0]; rfl
  have y0 : ∀ j, j < 5 → (rowZ z 0 j).natAbs ≤ 130000 := by rw [q0]; exact half_ab hb
  have x10 : rowZ z 1 0 = z 0 := by rw [q1]; rfl
  have x11 : rowZ z 1 1 = 0 := by rw [q1]; rfl
  have x12 : rowZ z 1 2 = z 2 := by rw [q1]; rfl
  have x13 : rowZ z 1 3 = 0 := by rw [q1]; rfl
  have x14 : rowZ z 1 4 = z 4 := by rw [q1]; rfl
  have y1 : ∀ j, j < 5 → (rowZ z 1 j).natAbs ≤ 130000 := by rw [q1]; exact half_ab hb
  have x14 : rowZ z 1 4 = 0 := x14.trans z4
  have r0 : rowI z 0 3 (z 3).sign := rI3 y0 (by decide) x04 (by rw [x03]; exact z3) (by rw [x03])
  have r1 : rowI z 1 2 (z 2).sign := rI2 y1 (by decide) x14 x13 (by rw [x12]; exact z2) (by rw [x12])
  obtain ⟨t0, k0, k1, k2, k3, k4⟩ := S32 (A := rowZ z 0) (B := rowZ z 1) y0 y1 (by decide) (by decide) (by decide) x00 x02 (by rw [x03]; exact z3) x04 x11 (by rw [x12]; exact z2) x13 x14
  rw [← rowZ_2] at k0 k1 k2 k3 k4
  rw [x01, x12, x03, x10] at k1
  have kk : rowZ z 2 1 = (z 2 * (z 1 * z 2 - z 3 * z 0)).sign := by rw [k1, Int.sign_mul]
  have y2 := one_ab (v := rowZ z 2) (k := 1) (by decide) kk (all5 (fun _ => k0) (fun q => absurd rfl q) (fun _ => k2) (fun _ => k3) (fun _ => k4))
  have w2 : rowZ z 2 1 ≠ 0 := fun q => (by rw [q] at k1; exact absurd (Int.mul_eq_zero.mp k1.symm) (fun y => y.elim (sg_ne0 z2) (sg_ne0 hD)))
  have r2 : rowI z 2 1 ((z 2).sign * (z 1 * z 2 - z 3 * z 0).sign) := rI1 y2 (by decide) k4 k3 k2 w2 (by rw [k1, Int.sign_mul, Int.sign_sign, Int.sign_sign])
  obtain ⟨t1, l0, l1, l2, l3, l4⟩ := S21 (A := rowZ z 1) (B := rowZ z 2) y1 y2 (by decide) (by decide) (by decide) x11 (by rw [x12]; exact z2) x13 x14 k0 w2 k2 k3 k4
  rw [← rowZ_2] at l0 l1 l2 l3 l4
  rw [x10] at l0
  rw [z0] at l0
  exact ⟨LF_3 r0 r1 r2 (dgm l4 l3 l2 l1 l0) t0 t1, k0⟩
theorem L3_2d {z : Nat → Int} (hb : bdN 130000 z) (z4 : z 4 = 0) (z3 : z 3 ≠ 0) (z2 : z 2 ≠ 0) (hD : (z 1 * z 2 - z 3 * z 0) = 0) : LF z [3, 2] [(z 3).sign, (z 2).sign] ∧ rowZ z 1 0 = z 0 ∧ rowZ z 1 1 = 0 ∧ rowZ z 1 2 = z 2 := by
  have hd := (dg3 z4 z3).2
  obtain ⟨q0, q1⟩ := rows_o (z := z) (by rw [hd])
  have x00 : rowZ z 0 0 = 0 := by rw [q0]; rfl
  have x01 : rowZ z 0 1 = z 1 := by rw [q0]; rfl
  have x02 : rowZ z 0 2 = 0 := by rw [q0]; rfl
  have x03 : rowZ z 0 3 = z 3 := by rw [q0]; rfl
  have x04 : rowZ z 0 4 = 0 := by rw [q0]; rfl
  have y0 : ∀ j, j < 5 → (rowZ z 0 j).natAbs ≤ 130000 := by rw [q0]; exact half_ab hb
  have x10 : rowZ z 1 0 = z 0 := by rw [q1]; rfl
  have x11 : rowZ z 1 1 = 0 := by rw [q1]; rfl
  have x12 : rowZ z 1 2 = z 2 := by rw [q1]; rfl
  have x13 : rowZ z 1 3 = 0 := by rw [q1]; rfl
  have x14 : rowZ z 1 4 = z 4 := by rw [q1]; rfl
  have y1 : ∀ j, j < 5 → (rowZ z 1 j).natAbs ≤ 130000 := by rw [q1]; exact half_ab hb
  have x14 : rowZ z 1 4 = 0 := x14.trans z4
  have r0 : rowI z 0 3 (z 3).sign := rI3 y0 (by decide) x04 (by rw [x03]; exact z3) (by rw [x03])
  have r1 : rowI z 1 2 (z 2).sign := rI2 y1 (by decide) x14 x13 (by rw [x12]; exact z2) (by rw [x12])
  obtain ⟨t0, k0, k1, k2, k3, k4⟩ := S32 (A := rowZ z 0) (B := rowZ z 1) y0 y1 (by decide) (by decide) (by decide) x00 x02 (by rw [x03]; exact z3) x04 x11 (by rw [x12]; exact z2) x13 x14
  rw [← rowZ_2] at k0 k1 k2 k3 k4
  rw [x01, x12, x03, x10] at k1
  rw [hD] at k1
  have k1 : rowZ z 2 1 = 0 := k1.trans (Int.mul_zero _)
  exact ⟨LF_2 r0 r1 (dgm k4 k3 k2 k1 k0) t0, x10, x11, x12⟩
theorem L3_2a {z : Nat → Int} (hb : bdN 130000 z) (z4 : z 4 = 0) (z3 : z 3 ≠ 0) (z2 : z 2 = 0) (z0 : z 0 ≠ 0) : LF z [3, 0] [(z 3).sign, (z 0).sign] := by
  have hd := (dg3 z4 z3).2
  obtain ⟨q0, q1⟩ := rows_o (z := z) (by rw [hd])
  have x00 : rowZ z 0 0 = 0 := by rw [q0]; rfl
  have x01 : rowZ z 0 1 = z 1 := by rw [q0]; rfl
  have x02 : rowZ z 0 2 = 0 := by rw [q0]; rfl
  have x03 : rowZ z 0 3 = z 3 := by rw [q0]; rfl
  have x04 : rowZ z 0 4 = 0 := by rw [q0]; rfl
  have y0 : ∀ j, j < 5 → (rowZ z 0 j).natAbs ≤ 130000 := by rw [q0]; exact half_ab hb
  have x10 : rowZ z 1 0 = z 0 := by rw [q1]; rfl
  have x11 : rowZ z 1 1 = 0 := by rw [q1]; rfl
  have x12 : rowZ z 1 2 = z 2 := by rw [q1]; rfl
  have x13 : rowZ z 1 3 = 0 := by rw [q1]; rfl
  have x14 : rowZ z 1 4 = z 4 := by rw [q1]; rfl
  have y1 : ∀ j, j < 5 → (rowZ z 1 j).natAbs ≤ 130000 := by rw [q1]; exact half_ab hb
  have x14 : rowZ z 1 4 = 0 := x14.trans z4
  have r0 : rowI z 0 3 (z 3).sign := rI3 y0 (by decide) x04 (by rw [x03]; exact z3) (by rw [x03])
  have x12 : rowZ z 1 2 = 0 := x12.trans z2
  have r1 : rowI z 1 0 (z 0).sign := rI0 y1 (by decide) x14 x13 x12 x11 (by rw [x10]; exact z0) (by rw [x10])
  obtain ⟨t0, hz⟩ := S30 (A := rowZ z 0) (B := rowZ z 1) y0 y1 (by decide) (by decide) (by decide) (by decide) x00 x02 (by rw [x03]; exact z3) x04 (by rw [x10]; exact z0) x11 x12 x13 x14
  rw [← rowZ_2] at hz
  exact LF_2 r0 r1 hz t0
theorem L3_1 {z : Nat → Int} (hb : bdN 130000 z) (z4 : z 4 = 0) (z3 : z 3 ≠ 0) (z2 : z 2 = 0) (z0 : z 0 = 0) : LF z [3] [(z 3).sign] ∧ rowZ z 0 0 = 0 ∧ rowZ z 0 1 = z 1 ∧ rowZ z 0 2 = 0 ∧ rowZ z 0 3 = z 3 := by
  have hd := (dg3 z4 z3).2
  obtain ⟨q0, q1⟩ := rows_o (z := z) (by rw [hd])
  have x00 : rowZ z 0 0 = 0 := by rw [q0]; rfl
  have x01 : rowZ z 0 1 = z 1 := by rw [q0]; rfl
  have x02 : rowZ z 0 2 = 0 := by rw [q0]; rfl
  have x03 : rowZ z 0 3 = z 3 := by rw [q0]; rfl
  have x04 : rowZ z 0 4 = 0 := by rw [q0]; rfl
  have y0 : ∀ j, j < 5 → (rowZ z 0 j).natAbs ≤ 130000 := by rw [q0]; exact half_ab hb
  have x10 : rowZ z 1 0 = z 0 := by rw [q1]; rfl
  have x11 : rowZ z 1 1 = 0 := by rw [q1]; rfl
  have x12 : rowZ z 1 2 = z 2 := by rw [q1]; rfl
  have x13 : rowZ z 1 3 = 0 := by rw [q1]; rfl
  have x14 : rowZ z 1 4 = z 4 := by rw [q1]; rfl
  have y1 : ∀ j, j < 5 → (rowZ z 1 j).natAbs ≤ 130000 := by rw [q1]; exact half_ab hb
  have x14 : rowZ z 1 4 = 0 := x14.trans z4
  have r0 : rowI z 0 3 (z 3).sign := rI3 y0 (by decide) x04 (by rw [x03]; exact z3) (by rw [x03])
  exact ⟨LF_1 r0 (dgm x14 x13 (x12.trans z2) x11 (x10.trans z0)), x00, x01, x02, x03⟩
theorem L2_3 {z : Nat → Int} (hb : bdN 130000 z) (z4 : z 4 = 0) (z3 : z 3 = 0) (z2 : z 2 ≠ 0) (z1 : z 1 ≠ 0) (z0 : z 0 ≠ 0) : LF z [2, 1, 0] [(z 2).sign, (z 1).sign, (z 0).sign] := by
  have hd := (dg2 z4 z3 z2).2
  obtain ⟨q0, q1⟩ := rows_e (z := z) (by rw [hd])
  have x00 : rowZ z 0 0 = z 0 := by rw [q0]; rfl
  have x01 : rowZ z 0 1 = 0 := by rw [q0]; rfl
  have x02 : rowZ z 0 2 = z 2 := by rw [q0]; rfl
  have x03 : rowZ z 0 3 = 0 := by rw [q0]; rfl
  have x04 : rowZ z 0 4 = z 4 := by rw [q0]; rfl
  have y0 : ∀ j, j < 5 → (rowZ z 0 j).natAbs ≤ 130000 := by rw [q0]; exact half_ab hb
  have x10 : rowZ z 1 0 = 0 := by rw [q1]; rfl
  have x11 : rowZ z 1 1 = z 1 := by rw [q1]; rfl
  have x12 : rowZ z 1 2 = 0 := by rw [q1]; rfl
  have x13 : rowZ z 1 3 = z 3 := by rw [q1]; rfl
  have x14 : rowZ z 1 4 = 0 := by rw [q1]; rfl
  have y1 : ∀ j, j < 5 → (rowZ z 1 j).natAbs ≤ 130000 := by rw [q1]; exact half_ab hb
  have x04 : rowZ z 0 4 = 0 := x04.trans z4
  have x13 : rowZ z 1 3 = 0 := x13.trans z3
  have r0 : rowI z 0 2 (z 2).sign := rI2 y0 (by decide) x04 x03 (by rw [x02]; exact z2) (by rw [x02])
  have r1 : rowI z 1 1 (z 1).sign := rI1 y1 (by decide) x14 x13 x12 (by rw [x11]; exact z1) (by rw [x11])
  obtain ⟨t0, l0, l1, l2, l3, l4⟩ := S21 (A := rowZ z 0) (B := rowZ z 1) y0 y1 (by decide) (by decide) (by decide) x01 (by rw [x02]; exact z2) x03 x04 x10 (by rw [x11]; exact z1) x12 x13 x14
  rw [← rowZ_2] at l0 l1 l2 l3 l4
  rw [x00] at l0
  have y2 := one_ab (v := rowZ z 2) (k := 0) (by decide) l0 (all5 (fun q => absurd rfl q) (fun _ => l1) (fun _ => l2) (fun _ => l3) (fun _ => l4))
  have w0 : rowZ z 2 0 ≠ 0 := by rw [l0]; exact sg_ne0 z0
  have r2 : rowI z 2 0 (z 0).sign := rI0 y2 (by decide) l4 l3 l2 l1 w0 (by rw [l0, Int.sign_sign])
  obtain ⟨t1, hz⟩ := S10 (A := rowZ z 1) (B := rowZ z 2) y1 y2 (by decide) (by decide) (by decide) x10 (by rw [x11]; exact z1) x12 x13 x14 w0 l1 l2 l3 l4
  rw [← rowZ_2] at hz
  exact LF_3 r0 r1 r2 hz t0 t1
theorem L2_2 {z : Nat → Int} (hb : bdN 130000 z) (z4 : z 4 = 0) (z3 : z 3 = 0) (z2 : z 2 ≠ 0) (z1 : z 1 ≠ 0) (z0 : z 0 = 0) : LF z [2, 1] [(z 2).sign, (z 1).sign] ∧ rowZ z 1 0 = 0 := by
  have hd := (dg2 z4 z3 z2).2
  obtain ⟨q0, q1⟩ := rows_e (z := z) (by rw [hd])
  have x00 : rowZ z 0 0 = z 0 := by rw [q0]; rfl
  have x01 : rowZ z 0 1 = 0 := by rw [q0]; rfl
  have x02 : rowZ z 0 2 = z 2 := by rw [q0]; rfl
  have x03 : rowZ z 0 3 = 0 := by rw [q0]; rfl
  have x04 : rowZ z 0 4 = z 4 := by rw [q0]; rfl
  have y0 : ∀ j, j < 5 → (rowZ z 0 j).natAbs ≤ 130000 := by rw [q0]; exact half_ab hb
  have x10 : rowZ z 1 0 = 0 := by rw [q1]; rfl
  have x11 : rowZ z 1 1 = z 1 := by rw [q1]; rfl
  have x12 : rowZ z 1 2 = 0 := by rw [q1]; rfl
  have x13 : rowZ z 1 3 = z 3 := by rw [q1]; rfl
  have x14 : rowZ z 1 4 = 0 := by rw [q1]; rfl
  have y1 : ∀ j, j < 5 → (rowZ z 1 j).natAbs ≤ 130000 := by rw [q1]; exact half_ab hb
  have x04 : rowZ z 0 4 = 0 := x04.trans z4
  have x13 : rowZ z 1 3 = 0 := x13.trans z3
  have r0 : rowI z 0 2 (z 2).sign := rI2 y0 (by decide) x04 x03 (by rw [x02]; exact z2) (by rw [x02])
  have r1 : rowI z 1 1 (z 1).sign := rI1 y1 (by decide) x14 x13 x12 (by rw [x11]; exact z1) (by rw [x11])
  obtain ⟨t0, l0, l1, l2, l3, l4⟩ := S21 (A := rowZ z 0) (B := rowZ z 1) y0 y1 (by decide) (by decide) (by decide) x01 (by rw [x02]; exact z2) x03 x04 x10 (by rw [x11]; exact z1) x12 x13 x14
  rw [← rowZ_2] at l0 l1 l2 l3 l4
  rw [x00] at l0
  rw [z0] at l0
  exact ⟨LF_2 r0 r1 (dgm l4 l3 l2 l1 l0) t0, x10⟩
theorem L2_1 {z : Nat → Int} (hb : bdN 130000 z) (z4 : z 4 = 0) (z3 : z 3 = 0) (z2 : z 2 ≠ 0) (z1 : z 1 = 0) : LF z [2] [(z 2).sign] ∧ rowZ z 0 0 = z 0 ∧ rowZ z 0 1 = 0 ∧ rowZ z 0 2 = z 2 := by
  have hd := (dg2 z4 z3 z2).2
  obtain ⟨q0, q1⟩ := rows_e (z := z) (by rw [hd])
  have x00 : rowZ z 0 0 = z 0 := by rw [q0]; rfl
  have x01 : rowZ z 0 1 = 0 := by rw [q0]; rfl
  have x02 : rowZ z 0 2 = z 2 := by rw [q0]; rfl
  have x03 : rowZ z 0 3 = 0 := by rw [q0]; rfl
  have x04 : rowZ z 0 4 = z 4 := by rw [q0]; rfl
  have y0 : ∀ j, j < 5 → (rowZ z 0 j).natAbs ≤ 130000 := by rw [q0]; exact half_ab hb
  have x10 : rowZ z 1 0 = 0 := by rw [q1]; rfl
  have x11 : rowZ z 1 1 = z 1 := by rw [q1]; rfl
  have x12 : rowZ z 1 2 = 0 := by rw [q1]; rfl
  have x13 : rowZ z 1 3 = z 3 := by rw [q1]; rfl
  have x14 : rowZ z 1 4 = 0 := by rw [q1]; rfl
  have y1 : ∀ j, j < 5 → (rowZ z 1 j).natAbs ≤ 130000 := by rw [q1]; exact half_ab hb
  have x04 : rowZ z 0 4 = 0 := x04.trans z4
  have x13 : rowZ z 1 3 = 0 := x13.trans z3
  have r0 : rowI z 0 2 (z 2).sign := rI2 y0 (by decide) x04 x03 (by rw [x02]; exact z2) (by rw [x02])
  exact ⟨LF_1 r0 (dgm x14 x13 x12 (x11.trans z1) x10), x00, x01, x02⟩
theorem L1_2 {z : Nat → Int} (hb : bdN 130000 z) (z4 : z 4 = 0) (z3 : z 3 = 0) (z2 : z 2 = 0) (z1 : z 1 ≠ 0) (z0 : z 0 ≠ 0) : LF z [1, 0] [(z 1).sign, (z 0).sign] := by
  have hd := (dg1 z4 z3 z2 z1).2
  obtain ⟨q0, q1⟩ := rows_o (z := z) (by rw [hd])
  have x00 : rowZ z 0 0 = 0 := by rw [q0]; rfl
  have x01 : rowZ z 0 1 = z 1 := by rw [q0]; rfl
  have x02 : rowZ z 0 2 = 0 := by rw [q0]; rfl
  have x03 : rowZ z 0 3 = z 3 := by rw [q0]; rfl
  have x04 : rowZ z 0 4 = 0 := by rw [q0]; rfl
  have y0 : ∀ j, j < 5 → (rowZ z 0 j).natAbs ≤ 130000 := by rw [q0]; exact half_ab hb
  have x10 : rowZ z 1 0 = z 0 := by rw [q1]; rfl
  have x11 : rowZ z 1 1 = 0 := by rw [q1]; rfl
  have x12 : rowZ z 1 2 = z 2 := by rw [q1]; rfl
  have x13 : rowZ z 1 3 = 0 := by rw [q1]; rfl
  have x14 : rowZ z 1 4 = z 4 := by rw [q1]; rfl
  have y1 : ∀ j, j < 5 → (rowZ z 1 j).natAbs ≤ 130000 := by rw [q1]; exact half_ab hb
  have x14 : rowZ z 1 4 = 0 := x14.trans z4
  have x12 : rowZ z 1 2 = 0 := x12.trans z2
  have x03 : rowZ z 0 3 = 0 := x03.trans z3
  have r0 : rowI z 0 1 (z 1).sign := rI1 y0 (by decide) x04 x03 x02 (by rw [x01]; exact z1) (by rw [x01])
  have r1 : rowI z 1 0 (z 0).sign := rI0 y1 (by decide) x14 x13 x12 x11 (by rw [x10]; exact z0) (by rw [x10])
  obtain ⟨t0, hz⟩ := S10 (A := rowZ z 0) (B := rowZ z 1) y0 y1 (by decide) (by decide) (by decide) x00 (by rw [x01]; exact z1) x02 x03 x04 (by rw [x10]; exact z0) x11 x12 x13 x14
  rw [← rowZ_2] at hz
  exact LF_2 r0 r1 hz t0
theorem L1_1 {z : Nat → Int} (hb : bdN 130000 z) (z4 : z 4 = 0) (z3 : z 3 = 0) (z2 : z 2 = 0) (z1 : z 1 ≠ 0) (z0 : z 0 = 0) : LF z [1] [(z 1).sign] ∧ rowZ z 0 0 = 0 := by
  have hd := (dg1 z4 z3 z2 z1).2
  obtain ⟨q0, q1⟩ := rows_o (z := z) (by rw [hd])
  have x00 : rowZ z 0 0 = 0 := by rw [q0]; rfl
  have x01 : rowZ z 0 1 = z 1 := by rw [q0]; rfl
  have x02 : rowZ z 0 2 = 0 := by rw [q0]; rfl
  have x03 : rowZ z 0 3 = z 3 := by rw [q0]; rfl
  have x04 : rowZ z 0 4 = 0 := by rw [q0]; rfl
  have y0 : ∀ j, j < 5 → (rowZ z 0 j).natAbs ≤ 130000 := by rw [q0]; exact half_ab hb
  have x10 : rowZ z 1 0 = z 0 := by rw [q1]; rfl
  have x11 : rowZ z 1 1 = 0 := by rw [q1]; rfl
  have x12 : rowZ z 1 2 = z 2 := by rw [q1]; rfl
  have x13 : rowZ z 1 3 = 0 := by rw [q1]; rfl
  have x14 : rowZ z 1 4 = z 4 := by rw [q1]; rfl
  have y1 : ∀ j, j < 5 → (rowZ z 1 j).natAbs ≤ 130000 := by rw [q1]; exact half_ab hb
  have x14 : rowZ z 1 4 = 0 := x14.trans z4
  have x12 : rowZ z 1 2 = 0 := x12.trans z2
  have x03 : rowZ z 0 3 = 0 := x03.trans z3
  have r0 : rowI z 0 1 (z 1).sign := rI1 y0 (by decide) x04 x03 x02 (by rw [x01]; exact z1) (by rw [x01])
  exact ⟨LF_1 r0 (dgm x14 x13 x12 x11 (x10.trans z0)), x00⟩
theorem L0_1 {z : Nat → Int} (hb : bdN 130000 z) (z4 : z 4 = 0) (z3 : z 3 = 0) (z2 : z 2 = 0) (z1 : z 1 = 0) (z0 : z 0 ≠ 0) : LF z [0] [(z 0).sign] := by
  have hd := (dg0 z4 z3 z2 z1 z0).2
  obtain ⟨q0, q1⟩ := rows_e (z := z) (by rw [hd])
  have x00 : rowZ z 0 0 = z 0 := by rw [q0]; rfl
  have x01 : rowZ z 0 1 = 0 := by rw [q0]; rfl
  have x02 : rowZ z 0 2 = z 2 := by rw [q0]; rfl
  have x03 : rowZ z 0 3 = 0 := by rw [q0]; rfl
  have x04 : rowZ z 0 4 = z 4 := by rw [q0]; rfl
  have y0 : ∀ j, j < 5 → (rowZ z 0 j).natAbs ≤ 130000 := by rw [q0]; exact half_ab hb
  have x10 : rowZ z 1 0 = 0 := by rw [q1]; rfl
  have x11 : rowZ z 1 1 = z 1 := by rw [q1]; rfl
  have x12 : rowZ z 1 2 = 0 := by rw [q1]; rfl
  have x13 : rowZ z 1 3 = z 3 := by rw [q1]; rfl
  have x14 : rowZ z 1 4 = 0 := by rw [q1]; rfl
  have y1 : ∀ j, j < 5 → (rowZ z 1 j).natAbs ≤ 130000 := by rw [q1]; exact half_ab hb
  exact LF_1 (rI0 y0 (by decide) (x04.trans z4) x03 (x02.trans z2) x01 (by rw [x00]; exact z0) (by rw [x00])) (dgm x14 (x13.trans z3) x12 (x11.trans z1) x10)
