/-! ===== numbers: both counts are the same ===== -/
theorem si_2 {x : Int} (h : x ≠ 0) : (si x = 1 ∧ x.sign = 1) ∨ (si x = -1 ∧ x.sign = -1) := by
  rcases si_c x with ⟨-, e, f⟩ | ⟨q, -, -⟩ | ⟨-, e, f⟩
  · exact Or.inl ⟨e, f⟩
  · exact absurd q h
  · exact Or.inr ⟨e, f⟩
theorem si_32 (x : Int) : (si x = 1 ∧ x.sign = 1) ∨ (si x = 0 ∧ x.sign = 0) ∨ (si x = -1 ∧ x.sign = -1) := by
  rcases si_c x with ⟨-, e, f⟩ | ⟨-, e, f⟩ | ⟨-, e, f⟩
  · exact Or.inl ⟨e, f⟩
  · exact Or.inr (Or.inl ⟨e, f⟩)
  · exact Or.inr (Or.inr ⟨e, f⟩)
theorem ZL0 {z : Nat → Int} {j k : Nat} (h : rowZ z j k = 0) : ZL z j k = 0 := by
  show lZ (rowZ z j k) = 0
  rw [h]
  rfl
theorem ZLn {z : Nat → Int} {j k : Nat} (hb : bdZ (rowZ z j k)) (h : rowZ z j k ≠ 0) : ZL z j k ≠ 0 := fun q => h ((lZ_0 hb).mp q)
theorem ZLb {z : Nat → Int} {j k : Nat} (hb : bdZ (rowZ z j k)) : sgB (ZL z j k) = bit (rowZ z j k).sign := bit_s hb
theorem A4_5 {z : Nat → Int} {Z A : Nat → Int64} (e : ∀ k, k < 5 → Z k = lZ (z k)) (hb : bdN 130000 z) (z4 : z 4 ≠ 0) (z3 : z 3 ≠ 0) (z0 : z 0 ≠ 0) (hB : (z 2 * z 3 - z 4 * z 1) ≠ 0) (hC : (z 1 * (z 2 * z 3 - z 4 * z 1) - z 3 * (z 0 * z 3)) ≠ 0) : cntM Z A = (cAR z, cAE z, cAL z) := by
  have h0 : dgZ z ≠ -1 := (by rw [(dg4 z4).1]; decide)
  have hl : loM Z = 0 := by unfold loM; rw [if_neg (fun y => z0 ((zB e hb (by decide)).mp y))]
  have s0 : shb z 0 0 = z 0 := rfl
  have s1 : shb z 0 1 = z 1 := rfl
  have s2 : shb z 0 2 = z 2 := rfl
  have s3 : shb z 0 3 = z 3 := rfl
  have s4 : shb z 0 4 = z 4 := rfl
  have eB : z 3 * z 2 - z 4 * z 1 = (z 2 * z 3 - z 4 * z 1) := by grind
  have eC : (z 3 * z 2 - z 4 * z 1) * z 1 - z 3 * z 3 * z 0 = (z 1 * (z 2 * z 3 - z 4 * z 1) - z 3 * (z 0 * z 3)) := by grind
  obtain hLF := L4_5 hb z4 z3 hB hC z0
  have hcn := cn_4 (t := (0, nI 0, 0)) (shb_e (A := A) (m := 0) e) (shb_b hb) z4 (Or.inl ⟨z3, fun y => hC (by simp only [s0, s1, s2, s3, s4] at y; grind)⟩)
  rw [lo_m hl, hcn]
  rw [hLF.cA h0 (e := 0) rx0]
  simp only [s0, s1, s2, s3, s4]
  rw [eB]
  rw [show (z 2 * z 3 - z 4 * z 1) * z 1 - z 3 * z 3 * z 0 = (z 1 * (z 2 * z 3 - z 4 * z 1) - z 3 * (z 0 * z 3)) by grind]
  rcases si_2 z4 with ⟨a4, b4⟩ | ⟨a4, b4⟩ <;> rcases si_2 z3 with ⟨a3, b3⟩ | ⟨a3, b3⟩ <;> rcases si_2 hB with ⟨aB, bB⟩ | ⟨aB, bB⟩ <;> rcases si_2 hC with ⟨aC, bC⟩ | ⟨aC, bC⟩ <;> rcases si_2 z0 with ⟨a0, b0⟩ | ⟨a0, b0⟩ <;> rcases si_32 (z 1) with ⟨a1, b1⟩ | ⟨a1, b1⟩ | ⟨a1, b1⟩ <;> (simp only [a4, b4, a3, b3, aB, bB, aC, bC, a0, b0, a1, b1]; decide)
theorem A4_4 {z : Nat → Int} {Z A : Nat → Int64} (e : ∀ k, k < 5 → Z k = lZ (z k)) (hb : bdN 130000 z) (z4 : z 4 ≠ 0) (z3 : z 3 ≠ 0) (z1 : z 1 ≠ 0) (z0 : z 0 = 0) (hB : (z 2 * z 3 - z 4 * z 1) ≠ 0) (hC : (z 1 * (z 2 * z 3 - z 4 * z 1) - z 3 * (z 0 * z 3)) ≠ 0) : cntM Z A = (cAR z, cAE z, cAL z) := by
  have h0 : dgZ z ≠ -1 := (by rw [(dg4 z4).1]; decide)
  have hl : loM Z = 1 := by unfold loM; rw [if_pos ((zB e hb (by decide)).mpr z0), if_neg (fun y => z1 ((zB e hb (by decide)).mp y))]
  have s0 : shb z 1 0 = z 1 := rfl
  have s1 : shb z 1 1 = z 2 := rfl
  have s2 : shb z 1 2 = z 3 := rfl
  have s3 : shb z 1 3 = z 4 := rfl
  have s4 : shb z 1 4 = 0 := rfl
  have eB : z 3 * z 2 - z 4 * z 1 = (z 2 * z 3 - z 4 * z 1) := by grind
  have eC2 : (z 1 * (z 2 * z 3 - z 4 * z 1) - z 3 * (z 0 * z 3)) = z 1 * (z 2 * z 3 - z 4 * z 1) := by rw [z0]; grind
  obtain hLF := L4_4 hb z4 z3 hB hC z0
  have hcn := cn_3 (t := (0, nI 1, 0)) (shb_e (A := A) (m := 1) e) (shb_b hb) z4 rfl (fun y => hB (by simp only [s0, s1, s2, s3, s4] at y; have q : z 4 * (z 2 * z 3 - z 4 * z 1) = 0 := (by grind); exact (Int.mul_eq_zero.mp q).resolve_left z4))
  rw [lo_m hl, hcn]
  rw [hLF.1.cA h0 (e := 1) (rx1 (ZL0 hLF.2))]
  simp only [s0, s1, s2, s3, s4]
  rw [eB, eC2, Int.sign_mul]
  rcases si_2 z4 with ⟨a4, b4⟩ | ⟨a4, b4⟩ <;> rcases si_2 z3 with ⟨a3, b3⟩ | ⟨a3, b3⟩ <;> rcases si_2 hB with ⟨aB, bB⟩ | ⟨aB, bB⟩ <;> rcases si_2 z1 with ⟨a1, b1⟩ | ⟨a1, b1⟩ <;> (simp only [a4, b4, a3, b3, aB, bB, a1, b1]; decide)
theorem A4_3c {z : Nat → Int} {Z A : Nat → Int64} (e : ∀ k, k < 5 → Z k = lZ (z k)) (hb : bdN 130000 z) (z4 : z 4 ≠ 0) (z3 : z 3 ≠ 0) (z1 : z 1 ≠ 0) (z0 : z 0 ≠ 0) (hB : (z 2 * z 3 - z 4 * z 1) ≠ 0) (hC : (z 1 * (z 2 * z 3 - z 4 * z 1) - z 3 * (z 0 * z 3)) = 0) : cntM Z A = (cAR z, cAE z, cAL z) := by
  have h0 : dgZ z ≠ -1 := (by rw [(dg4 z4).1]; decide)
  have hl : loM Z = 0 := by unfold loM; rw [if_neg (fun y => z0 ((zB e hb (by decide)).mp y))]
  have s0 : shb z 0 0 = z 0 := rfl
  have s1 : shb z 0 1 = z 1 := rfl
  have s2 : shb z 0 2 = z 2 := rfl
  have s3 : shb z 0 3 = z 3 := rfl
  have s4 : shb z 0 4 = z 4 := rfl
  obtain hLF := L4_3c hb z4 z3 hB hC
  have hcn := cn_co (t := (0, nI 0, 0)) (shb_e (A := A) (m := 0) e) (shb_b hb) z3 (by simp only [s0, s1, s2, s3, s4]; grind)
  rw [lo_m hl, hcn]
  rw [hLF.1.cA h0 (e := if bit ((z 3).sign * (z 2 * z 3 - z 4 * z 1).sign) = bit (z 0).sign then 2 else 0) (by
    have b2 := (hLF.1.2.2.1 2 (by simp)).2.2.2.2.2
    rw [show ([4, 3, 2] : List Nat).length - 1 = 2 from rfl, show ([4, 3, 2] : List Nat).getD 2 0 = 2 from rfl, rx2 (ZLn (b2 0 (by decide)) (fun y => z0 (by have q := hLF.2.1; rw [y] at q; exact Int.sign_eq_zero_iff_zero.mp q.symm))), ZLb (b2 2 (by decide)), ZLb (b2 0 (by decide)), hLF.2.1, hLF.2.2.1])]
  simp only [s0, s1, s2, s3, s4]
  have r : si (z 1) * si (z 2 * z 3 - z 4 * z 1) = si (z 0) := (by
    have q : z 1 * (z 2 * z 3 - z 4 * z 1) = z 0 * (z 3 * z 3) := by grind
    have q2 := congrArg si q
    rw [si_mul, si_mul, si_mul] at q2
    rw [q2]
    rcases si_pm z3 with w | w <;> rw [w] <;> simp)
  rcases si_2 z4 with ⟨a4, b4⟩ | ⟨a4, b4⟩ <;> rcases si_2 z3 with ⟨a3, b3⟩ | ⟨a3, b3⟩ <;> rcases si_2 hB with ⟨aB, bB⟩ | ⟨aB, bB⟩ <;> rcases si_2 z1 with ⟨a1, b1⟩ | ⟨a1, b1⟩ <;> rcases si_2 z0 with ⟨a0, b0⟩ | ⟨a0, b0⟩ <;> (simp only [a4, b4, a3, b3, aB, bB, a1, b1, a0, b0] at r; simp only [a4, b4, a3, b3, aB, bB, a1, b1, a0, b0]; first | decide | exact absurd r (by decide))
theorem A4_3cz {z : Nat → Int} {Z A : Nat → Int64} (e : ∀ k, k < 5 → Z k = lZ (z k)) (hb : bdN 130000 z) (z4 : z 4 ≠ 0) (z3 : z 3 ≠ 0) (z2 : z 2 ≠ 0) (z1 : z 1 = 0) (z0 : z 0 = 0) (hB : (z 2 * z 3 - z 4 * z 1) ≠ 0) (hC : (z 1 * (z 2 * z 3 - z 4 * z 1) - z 3 * (z 0 * z 3)) = 0) : cntM Z A = (cAR z, cAE z, cAL z) := by
  have h0 : dgZ z ≠ -1 := (by rw [(dg4 z4).1]; decide)
  have hl : loM Z = 2 := by unfold loM; rw [if_pos ((zB e hb (by decide)).mpr z0), if_pos ((zB e hb (by decide)).mpr z1), if_neg (fun y => z2 ((zB e hb (by decide)).mp y))]
  have s0 : shb z 2 0 = z 2 := rfl
  have s1 : shb z 2 1 = z 3 := rfl
  have s2 : shb z 2 2 = z 4 := rfl
  have s3 : shb z 2 3 = 0 := rfl
  have s4 : shb z 2 4 = 0 := rfl
  have eB2 : (z 2 * z 3 - z 4 * z 1) = z 2 * z 3 := by rw [z1]; grind
  obtain hLF := L4_3c hb z4 z3 hB hC
  have hcn := cn_tw (t := (0, nI 2, 0)) (shb_e (A := A) (m := 2) e) (shb_b hb) z3 rfl rfl
  rw [lo_m hl, hcn]
  rw [hLF.1.cA h0 (e := 2) (rx2z (ZL0 (by have q := hLF.2.1; rw [z0] at q; exact Int.sign_eq_zero_iff_zero.mp q)) (ZL0 hLF.2.2.2))]
  simp only [s0, s1, s2, s3, s4]
  rw [eB2, Int.sign_mul]
  rcases si_2 z4 with ⟨a4, b4⟩ | ⟨a4, b4⟩ <;> rcases si_2 z3 with ⟨a3, b3⟩ | ⟨a3, b3⟩ <;> rcases si_2 z2 with ⟨a2, b2⟩ | ⟨a2, b2⟩ <;> (simp only [a4, b4, a3, b3, a2, b2]; decide)
theorem A4_3b {z : Nat → Int} {Z A : Nat → Int64} (e : ∀ k, k < 5 → Z k = lZ (z k)) (hb : bdN 130000 z) (z4 : z 4 ≠ 0) (z3 : z 3 ≠ 0) (z0 : z 0 ≠ 0) (hB : (z 2 * z 3 - z 4 * z 1) = 0) : cntM Z A = (cAR z, cAE z, cAL z) := by
  have h0 : dgZ z ≠ -1 := (by rw [(dg4 z4).1]; decide)
  have hl : loM Z = 0 := by unfold loM; rw [if_neg (fun y => z0 ((zB e hb (by decide)).mp y))]
  have s0 : shb z 0 0 = z 0 := rfl
  have s1 : shb z 0 1 = z 1 := rfl
  have s2 : shb z 0 2 = z 2 := rfl
  have s3 : shb z 0 3 = z 3 := rfl
  have s4 : shb z 0 4 = z 4 := rfl
  have eB : z 3 * z 2 - z 4 * z 1 = (z 2 * z 3 - z 4 * z 1) := by grind
  obtain hLF := L4_3b hb z4 z3 hB z0
  have hcn := cn_4 (t := (0, nI 0, 0)) (shb_e (A := A) (m := 0) e) (shb_b hb) z4 (Or.inl ⟨z3, fun y => z0 (by simp only [s0, s1, s2, s3, s4] at y; have q : z 0 * (z 3 * z 3) = 0 := (by grind); exact (Int.mul_eq_zero.mp q).resolve_right (fun w => z3 ((Int.mul_eq_zero.mp w).elim id id)))⟩)
  rw [lo_m hl, hcn]
  rw [hLF.cA h0 (e := 0) rx0]
  simp only [s0, s1, s2, s3, s4]
  rw [eB, hB]
  rw [show 0 * z 1 - z 3 * z 3 * z 0 = -(z 0 * (z 3 * z 3)) by grind, si_ng, si_mul, si_mul, si_0]
  rcases si_2 z4 with ⟨a4, b4⟩ | ⟨a4, b4⟩ <;> rcases si_2 z3 with ⟨a3, b3⟩ | ⟨a3, b3⟩ <;> rcases si_2 z0 with ⟨a0, b0⟩ | ⟨a0, b0⟩ <;> rcases si_32 (z 1) with ⟨a1, b1⟩ | ⟨a1, b1⟩ | ⟨a1, b1⟩ <;> (simp only [a4, b4, a3, b3, a0, b0, a1, b1]; decide)
theorem A4_2b {z : Nat → Int} {Z A : Nat → Int64} (e : ∀ k, k < 5 → Z k = lZ (z k)) (hb : bdN 130000 z) (z4 : z 4 ≠ 0) (z3 : z 3 ≠ 0) (z2 : z 2 ≠ 0) (z1 : z 1 ≠ 0) (z0 : z 0 = 0) (hB : (z 2 * z 3 - z 4 * z 1) = 0) : cntM Z A = (cAR z, cAE z, cAL z) := by
  have h0 : dgZ z ≠ -1 := (by rw [(dg4 z4).1]; decide)
  have hl : loM Z = 1 := by unfold loM; rw [if_pos ((zB e hb (by decide)).mpr z0), if_neg (fun y => z1 ((zB e hb (by decide)).mp y))]
  have s0 : shb z 1 0 = z 1 := rfl
  have s1 : shb z 1 1 = z 2 := rfl
  have s2 : shb z 1 2 = z 3 := rfl
  have s3 : shb z 1 3 = z 4 := rfl
  have s4 : shb z 1 4 = 0 := rfl
  obtain hLF := L4_2b hb z4 z3 hB z0
  have hcn := cn_co (t := (0, nI 1, 0)) (shb_e (A := A) (m := 1) e) (shb_b hb) z4 (by simp only [s0, s1, s2, s3, s4]; grind)
  rw [lo_m hl, hcn]
  rw [hLF.1.cA h0 (e := if bit (z 3).sign = bit (z 1).sign then 3 else 1) (by
    have b2 := (hLF.1.2.2.1 1 (by simp)).2.2.2.2.2
    rw [show ([4, 3] : List Nat).length - 1 = 1 from rfl, show ([4, 3] : List Nat).getD 1 0 = 3 from rfl, rx3 (ZL0 hLF.2.2.2.1) (ZLn (b2 1 (by decide)) (by rw [hLF.2.1]; exact z1)), ZLb (b2 3 (by decide)), ZLb (b2 1 (by decide)), hLF.2.1, hLF.2.2.1])]
  simp only [s0, s1, s2, s3, s4]
  have r : si (z 2) * si (z 3) = si (z 4) * si (z 1) := (by rw [← si_mul, ← si_mul]; congr 1; grind)
  rw [si_0]
  rcases si_2 z4 with ⟨a4, b4⟩ | ⟨a4, b4⟩ <;> rcases si_2 z3 with ⟨a3, b3⟩ | ⟨a3, b3⟩ <;> rcases si_2 z2 with ⟨a2, b2⟩ | ⟨a2, b2⟩ <;> rcases si_2 z1 with ⟨a1, b1⟩ | ⟨a1, b1⟩ <;> (simp only [a4, b4, a3, b3, a2, b2, a1, b1] at r; simp only [a4, b4, a3, b3, a2, b2, a1, b1]; first | decide | exact absurd r (by decide))
theorem A4_2bz {z : Nat → Int} {Z A : Nat → Int64} (e : ∀ k, k < 5 → Z k = lZ (z k)) (hb : bdN 130000 z) (z4 : z 4 ≠ 0) (z3 : z 3 ≠ 0) (z2 : z 2 = 0) (z1 : z 1 = 0) (z0 : z 0 = 0) (hB : (z 2 * z 3 - z 4 * z 1) = 0) : cntM Z A = (cAR z, cAE z, cAL z) := by
  have h0 : dgZ z ≠ -1 := (by rw [(dg4 z4).1]; decide)
  have hl : loM Z = 3 := by unfold loM; rw [if_pos ((zB e hb (by decide)).mpr z0), if_pos ((zB e hb (by decide)).mpr z1), if_pos ((zB e hb (by decide)).mpr z2), if_neg (fun y => z3 ((zB e hb (by decide)).mp y))]
  have s0 : shb z 3 0 = z 3 := rfl
  have s1 : shb z 3 1 = z 4 := rfl
  have s2 : shb z 3 2 = 0 := rfl
  have s3 : shb z 3 3 = 0 := rfl
  have s4 : shb z 3 4 = 0 := rfl
  obtain hLF := L4_2b hb z4 z3 hB z0
  have hcn := cn_tw (t := (0, nI 3, 0)) (shb_e (A := A) (m := 3) e) (shb_b hb) z4 rfl rfl
  rw [lo_m hl, hcn]
  rw [hLF.1.cA h0 (e := 3) (rx3z (ZL0 hLF.2.2.2.1) (ZL0 (hLF.2.1.trans z1)) (ZL0 hLF.2.2.2.2))]
  simp only [s0, s1, s2, s3, s4]
  rw [si_0]
  rcases si_2 z4 with ⟨a4, b4⟩ | ⟨a4, b4⟩ <;> rcases si_2 z3 with ⟨a3, b3⟩ | ⟨a3, b3⟩ <;> (simp only [a4, b4, a3, b3]; decide)
theorem A4_3a {z : Nat → Int} {Z A : Nat → Int64} (e : ∀ k, k < 5 → Z k = lZ (z k)) (hb : bdN 130000 z) (z4 : z 4 ≠ 0) (z3 : z 3 = 0) (z1 : z 1 ≠ 0) (z0 : z 0 ≠ 0) : cntM Z A = (cAR z, cAE z, cAL z) := by
  have h0 : dgZ z ≠ -1 := (by rw [(dg4 z4).1]; decide)
  have hl : loM Z = 0 := by unfold loM; rw [if_neg (fun y => z0 ((zB e hb (by decide)).mp y))]
  have s0 : shb z 0 0 = z 0 := rfl
  have s1 : shb z 0 1 = z 1 := rfl
  have s2 : shb z 0 2 = z 2 := rfl
  have s3 : shb z 0 3 = z 3 := rfl
  have s4 : shb z 0 4 = z 4 := rfl
  obtain hLF := L4_3a hb z4 z3 z1 z0
  have hcn := cn_4 (t := (0, nI 0, 0)) (shb_e (A := A) (m := 0) e) (shb_b hb) z4 (Or.inr ⟨z3, z1⟩)
  rw [lo_m hl, hcn]
  rw [hLF.cA h0 (e := 0) rx0]
  simp only [s0, s1, s2, s3, s4]
  rw [z3, show 0 * z 2 - z 4 * z 1 = -(z 4 * z 1) by grind, show -(z 4 * z 1) * z 1 - 0 * 0 * z 0 = -(z 4 * (z 1 * z 1)) by grind, si_ng, si_ng, si_mul, si_mul, si_mul, si_0]
  rcases si_2 z4 with ⟨a4, b4⟩ | ⟨a4, b4⟩ <;> rcases si_2 z1 with ⟨a1, b1⟩ | ⟨a1, b1⟩ <;> rcases si_2 z0 with ⟨a0, b0⟩ | ⟨a0, b0⟩ <;> (simp only [a4, b4, a1, b1, a0, b0]; decide)
theorem A4_2a {z : Nat → Int} {Z A : Nat → Int64} (e : ∀ k, k < 5 → Z k = lZ (z k)) (hb : bdN 130000 z) (z4 : z 4 ≠ 0) (z3 : z 3 = 0) (z1 : z 1 ≠ 0) (z0 : z 0 = 0) : cntM Z A = (cAR z, cAE z, cAL z) := by
  have h0 : dgZ z ≠ -1 := (by rw [(dg4 z4).1]; decide)
  have hl : loM Z = 1 := by unfold loM; rw [if_pos ((zB e hb (by decide)).mpr z0), if_neg (fun y => z1 ((zB e hb (by decide)).mp y))]
  have s0 : shb z 1 0 = z 1 := rfl
  have s1 : shb z 1 1 = z 2 := rfl
  have s2 : shb z 1 2 = z 3 := rfl
  have s3 : shb z 1 3 = z 4 := rfl
  have s4 : shb z 1 4 = 0 := rfl
  obtain hLF := L4_2a hb z4 z3 z1 z0
  have hcn := cn_3 (t := (0, nI 1, 0)) (shb_e (A := A) (m := 1) e) (shb_b hb) z4 rfl (fun y => z1 (by simp only [s0, s1, s2, s3, s4] at y; rw [z3] at y; have q : z 1 * (z 4 * z 4) = 0 := (by grind); exact (Int.mul_eq_zero.mp q).resolve_right (fun w => z4 ((Int.mul_eq_zero.mp w).elim id id))))
  rw [lo_m hl, hcn]
  rw [hLF.1.cA h0 (e := 1) (rx1 (ZL0 hLF.2))]
  simp only [s0, s1, s2, s3, s4]
  rw [z3, show 0 * z 2 - z 4 * z 1 = -(z 4 * z 1) by grind, si_ng, si_mul, si_0]
  rcases si_2 z4 with ⟨a4, b4⟩ | ⟨a4, b4⟩ <;> rcases si_2 z1 with ⟨a1, b1⟩ | ⟨a1, b1⟩ <;> (simp only [a4, b4, a1, b1]; decide)
theorem A4_1m {z : Nat → Int} {Z A : Nat → Int64} (e : ∀ k, k < 5 → Z k = lZ (z k)) (hb : bdN 130000 z) (z4 : z 4 ≠ 0) (z3 : z 3 = 0) (z2 : z 2 ≠ 0) (z1 : z 1 = 0) (z0 : z 0 = 0) : cntM Z A = (cAR z, cAE z, cAL z) := by
  have h0 : dgZ z ≠ -1 := (by rw [(dg4 z4).1]; decide)
  have hl : loM Z = 2 := by unfold loM; rw [if_pos ((zB e hb (by decide)).mpr z0), if_pos ((zB e hb (by decide)).mpr z1), if_neg (fun y => z2 ((zB e hb (by decide)).mp y))]
  have s0 : shb z 2 0 = z 2 := rfl
  have s1 : shb z 2 1 = z 3 := rfl
  have s2 : shb z 2 2 = z 4 := rfl
  have s3 : shb z 2 3 = 0 := rfl
  have s4 : shb z 2 4 = 0 := rfl
  obtain hLF := L4_1 hb z4 z3 z1
  have hcn := cn_sq (t := (0, nI 2, 0)) (shb_e (A := A) (m := 2) e) (shb_b hb) z3 rfl (Or.inl z4)
  rw [lo_m hl, hcn]
  rw [hLF.1.cA h0 (e := if bit (z 4).sign = bit (z 2).sign then 4 else 2) (by
    have b2 := (hLF.1.2.2.1 0 (by simp)).2.2.2.2.2
    rw [show ([4] : List Nat).length - 1 = 0 from rfl, show ([4] : List Nat).getD 0 0 = 4 from rfl, rx42 (ZL0 (hLF.2.1.trans z0)) (ZL0 hLF.2.2.1) (ZLn (b2 2 (by decide)) (by rw [hLF.2.2.2.1]; exact z2)), ZLb (b2 4 (by decide)), ZLb (b2 2 (by decide)), hLF.2.2.2.1, hLF.2.2.2.2.2])]
  simp only [s0, s1, s2, s3, s4]
  unfold sqsS
  rw [if_pos si_0, if_neg (fun y => z4 (si_z.mp y))]
  rcases si_2 z4 with ⟨a4, b4⟩ | ⟨a4, b4⟩ <;> rcases si_2 z2 with ⟨a2, b2⟩ | ⟨a2, b2⟩ <;> (simp only [a4, b4, a2, b2]; decide)
theorem A4_1z {z : Nat → Int} {Z A : Nat → Int64} (e : ∀ k, k < 5 → Z k = lZ (z k)) (hb : bdN 130000 z) (z4 : z 4 ≠ 0) (z3 : z 3 = 0) (z2 : z 2 = 0) (z1 : z 1 = 0) (z0 : z 0 = 0) : cntM Z A = (cAR z, cAE z, cAL z) := by
  have h0 : dgZ z ≠ -1 := (by rw [(dg4 z4).1]; decide)
  have hl : loM Z = 4 := by unfold loM; rw [if_pos ((zB e hb (by decide)).mpr z0), if_pos ((zB e hb (by decide)).mpr z1), if_pos ((zB e hb (by decide)).mpr z2), if_pos ((zB e hb (by decide)).mpr z3)]
  have s0 : shb z 4 0 = z 4 := rfl
  have s1 : shb z 4 1 = 0 := rfl
  have s2 : shb z 4 2 = 0 := rfl
  have s3 : shb z 4 3 = 0 := rfl
  have s4 : shb z 4 4 = 0 := rfl
  obtain hLF := L4_1 hb z4 z3 z1
  have hcn := cn_0 (t := (0, nI 4, 0)) (shb_e (A := A) (m := 4) e) (shb_b hb) rfl rfl rfl rfl
  rw [lo_m hl, hcn]
  rw [hLF.1.cA h0 (e := 4) (rx44 (ZL0 (hLF.2.1.trans z0)) (ZL0 hLF.2.2.1) (ZL0 (hLF.2.2.2.1.trans z2)) (ZL0 hLF.2.2.2.2.1))]
  rcases si_2 z4 with ⟨a4, b4⟩ | ⟨a4, b4⟩ <;> (simp only [a4, b4]; decide)
theorem A3_4 {z : Nat → Int} {Z A : Nat → Int64} (e : ∀ k, k < 5 → Z k = lZ (z k)) (hb : bdN 130000 z) (z4 : z 4 = 0) (z3 : z 3 ≠ 0) (z2 : z 2 ≠ 0) (z0 : z 0 ≠ 0) (hD : (z 1 * z 2 - z 3 * z 0) ≠ 0) : cntM Z A = (cAR z, cAE z, cAL z) := by
  have h0 : dgZ z ≠ -1 := (by rw [(dg3 z4 z3).1]; decide)
  have hl : loM Z = 0 := by unfold loM; rw [if_neg (fun y => z0 ((zB e hb (by decide)).mp y))]
  have s0 : shb z 0 0 = z 0 := rfl
  have s1 : shb z 0 1 = z 1 := rfl
  have s2 : shb z 0 2 = z 2 := rfl
  have s3 : shb z 0 3 = z 3 := rfl
  have s4 : shb z 0 4 = z 4 := rfl
  have eD : z 2 * z 1 - z 3 * z 0 = (z 1 * z 2 - z 3 * z 0) := by grind
  obtain hLF := L3_4 hb z4 z3 z2 hD z0
  have hcn := cn_3 (t := (0, nI 0, 0)) (shb_e (A := A) (m := 0) e) (shb_b hb) z3 z4 (fun y => hD (by simp only [s0, s1, s2, s3, s4] at y; rw [z4] at y; have q : z 3 * (z 1 * z 2 - z 3 * z 0) = 0 := (by grind); exact (Int.mul_eq_zero.mp q).resolve_left z3))
  rw [lo_m hl, hcn]
  rw [hLF.cA h0 (e := 0) rx0]
  simp only [s0, s1, s2, s3, s4]
  rw [eD]
  rcases si_2 z3 with ⟨a3, b3⟩ | ⟨a3, b3⟩ <;> rcases si_2 z2 with ⟨a2, b2⟩ | ⟨a2, b2⟩ <;> rcases si_2 hD with ⟨aD, bD⟩ | ⟨aD, bD⟩ <;> rcases si_2 z0 with ⟨a0, b0⟩ | ⟨a0, b0⟩ <;> (simp only [a3, b3, a2, b2, aD, bD, a0, b0]; decide)
theorem A3_3 {z : Nat → Int} {Z A : Nat → Int64} (e : ∀ k, k < 5 → Z k = lZ (z k)) (hb : bdN 130000 z) (z4 : z 4 = 0) (z3 : z 3 ≠ 0) (z2 : z 2 ≠ 0) (z1 : z 1 ≠ 0) (z0 : z 0 = 0) (hD : (z 1 * z 2 - z 3 * z 0) ≠ 0) : cntM Z A = (cAR z, cAE z, cAL z) := by
  have h0 : dgZ z ≠ -1 := (by rw [(dg3 z4 z3).1]; decide)
  have hl : loM Z = 1 := by unfold loM; rw [if_pos ((zB e hb (by decide)).mpr z0), if_neg (fun y => z1 ((zB e hb (by decide)).mp y))]
  have s0 : shb z 1 0 = z 1 := rfl
  have s1 : shb z 1 1 = z 2 := rfl
  have s2 : shb z 1 2 = z 3 := rfl
  have s3 : shb z 1 3 = z 4 := rfl
  have s4 : shb z 1 4 = 0 := rfl
  have eD2 : (z 1 * z 2 - z 3 * z 0) = z 1 * z 2 := by rw [z0]; grind
  obtain hLF := L3_3 hb z4 z3 z2 hD z0
  have hcn := cn_tw (t := (0, nI 1, 0)) (shb_e (A := A) (m := 1) e) (shb_b hb) z2 z4 rfl
  rw [lo_m hl, hcn]
  rw [hLF.1.cA h0 (e := 1) (rx1 (ZL0 hLF.2))]
  simp only [s0, s1, s2, s3, s4]
  rw [eD2, Int.sign_mul]
  rcases si_2 z3 with ⟨a3, b3⟩ | ⟨a3, b3⟩ <;> rcases si_2 z2 with ⟨a2, b2⟩ | ⟨a2, b2⟩ <;> rcases si_2 z1 with ⟨a1, b1⟩ | ⟨a1, b1⟩ <;> (simp only [a3, b3, a2, b2, a1, b1]; decide)
theorem A3_2d {z : Nat → Int} {Z A : Nat → Int64} (e : ∀ k, k < 5 → Z k = lZ (z k)) (hb : bdN 130000 z) (z4 : z 4 = 0) (z3 : z 3 ≠ 0) (z2 : z 2 ≠ 0) (z1 : z 1 ≠ 0) (z0 : z 0 ≠ 0) (hD : (z 1 * z 2 - z 3 * z 0) = 0) : cntM Z A = (cAR z, cAE z, cAL z) := by
  have h0 : dgZ z ≠ -1 := (by rw [(dg3 z4 z3).1]; decide)
  have hl : loM Z = 0 := by unfold loM; rw [if_neg (fun y => z0 ((zB e hb (by decide)).mp y))]
  have s0 : shb z 0 0 = z 0 := rfl
  have s1 : shb z 0 1 = z 1 := rfl
  have s2 : shb z 0 2 = z 2 := rfl
  have s3 : shb z 0 3 = z 3 := rfl
  have s4 : shb z 0 4 = z 4 := rfl
  obtain hLF := L3_2d hb z4 z3 z2 hD
  have hcn := cn_co (t := (0, nI 0, 0)) (shb_e (A := A) (m := 0) e) (shb_b hb) z3 (by simp only [s0, s1, s2, s3, s4]; rw [z4]; grind)
  rw [lo_m hl, hcn]
  rw [hLF.1.cA h0 (e := if bit (z 2).sign = bit (z 0).sign then 2 else 0) (by
    have b2 := (hLF.1.2.2.1 1 (by simp)).2.2.2.2.2
    rw [show ([3, 2] : List Nat).length - 1 = 1 from rfl, show ([3, 2] : List Nat).getD 1 0 = 2 from rfl, rx2 (ZLn (b2 0 (by decide)) (by rw [hLF.2.1]; exact z0)), ZLb (b2 2 (by decide)), ZLb (b2 0 (by decide)), hLF.2.1, hLF.2.2.2])]
  simp only [s0, s1, s2, s3, s4]
  have r : si (z 1) * si (z 2) = si (z 3) * si (z 0) := (by rw [← si_mul, ← si_mul]; congr 1; grind)
  rw [z4, si_0]
  rcases si_2 z3 with ⟨a3, b3⟩ | ⟨a3, b3⟩ <;> rcases si_2 z2 with ⟨a2, b2⟩ | ⟨a2, b2⟩ <;> rcases si_2 z1 with ⟨a1, b1⟩ | ⟨a1, b1⟩ <;> rcases si_2 z0 with ⟨a0, b0⟩ | ⟨a0, b0⟩ <;> (simp only [a3, b3, a2, b2, a1, b1, a0, b0] at r; simp only [a3, b3, a2, b2, a1, b1, a0, b0]; first | decide | exact absurd r (by decide))
theorem A3_2dz {z : Nat → Int} {Z A : Nat → Int64} (e : ∀ k, k < 5 → Z k = lZ (z k)) (hb : bdN 130000 z) (z4 : z 4 = 0) (z3 : z 3 ≠ 0) (z2 : z 2 ≠ 0) (z1 : z 1 = 0) (z0 : z 0 = 0) (hD : (z 1 * z 2 - z 3 * z 0) = 0) : cntM Z A = (cAR z, cAE z, cAL z) := by
  have h0 : dgZ z ≠ -1 := (by rw [(dg3 z4 z3).1]; decide)
  have hl : loM Z = 2 := by unfold loM; rw [if_pos ((zB e hb (by decide)).mpr z0), if_pos ((zB e hb (by decide)).mpr z1), if_neg (fun y => z2 ((zB e hb (by decide)).mp y))]
  have s0 : shb z 2 0 = z 2 := rfl
  have s1 : shb z 2 1 = z 3 := rfl
  have s2 : shb z 2 2 = z 4 := rfl
  have s3 : shb z 2 3 = 0 := rfl
  have s4 : shb z 2 4 = 0 := rfl
  obtain hLF := L3_2d hb z4 z3 z2 hD
  have hcn := cn_tw (t := (0, nI 2, 0)) (shb_e (A := A) (m := 2) e) (shb_b hb) z3 rfl rfl
  rw [lo_m hl, hcn]
  rw [hLF.1.cA h0 (e := 2) (rx2z (ZL0 (hLF.2.1.trans z0)) (ZL0 hLF.2.2.1))]
  simp only [s0, s1, s2, s3, s4]
  rw [z4, si_0]
  rcases si_2 z3 with ⟨a3, b3⟩ | ⟨a3, b3⟩ <;> rcases si_2 z2 with ⟨a2, b2⟩ | ⟨a2, b2⟩ <;> (simp only [a3, b3, a2, b2]; decide)
theorem A3_2a {z : Nat → Int} {Z A : Nat → Int64} (e : ∀ k, k < 5 → Z k = lZ (z k)) (hb : bdN 130000 z) (z4 : z 4 = 0) (z3 : z 3 ≠ 0) (z2 : z 2 = 0) (z0 : z 0 ≠ 0) : cntM Z A = (cAR z, cAE z, cAL z) := by
  have h0 : dgZ z ≠ -1 := (by rw [(dg3 z4 z3).1]; decide)
  have hl : loM Z = 0 := by unfold loM; rw [if_neg (fun y => z0 ((zB e hb (by decide)).mp y))]
  have s0 : shb z 0 0 = z 0 := rfl
  have s1 : shb z 0 1 = z 1 := rfl
  have s2 : shb z 0 2 = z 2 := rfl
  have s3 : shb z 0 3 = z 3 := rfl
  have s4 : shb z 0 4 = z 4 := rfl
  obtain hLF := L3_2a hb z4 z3 z2 z0
  have hcn := cn_3 (t := (0, nI 0, 0)) (shb_e (A := A) (m := 0) e) (shb_b hb) z3 z4 (fun y => z0 (by simp only [s0, s1, s2, s3, s4] at y; rw [z4, z2] at y; have q : z 0 * (z 3 * z 3) = 0 := (by grind); exact (Int.mul_eq_zero.mp q).resolve_right (fun w => z3 ((Int.mul_eq_zero.mp w).elim id id))))
  rw [lo_m hl, hcn]
  rw [hLF.cA h0 (e := 0) rx0]
  simp only [s0, s1, s2, s3, s4]
  rw [z2, show 0 * z 1 - z 3 * z 0 = -(z 3 * z 0) by grind, si_ng, si_mul, si_0]
  rcases si_2 z3 with ⟨a3, b3⟩ | ⟨a3, b3⟩ <;> rcases si_2 z0 with ⟨a0, b0⟩ | ⟨a0, b0⟩ <;> (simp only [a3, b3, a0, b0]; decide)
theorem A3_1 {z : Nat → Int} {Z A : Nat → Int64} (e : ∀ k, k < 5 → Z k = lZ (z k)) (hb : bdN 130000 z) (z4 : z 4 = 0) (z3 : z 3 ≠ 0) (z2 : z 2 = 0) (z1 : z 1 ≠ 0) (z0 : z 0 = 0) : cntM Z A = (cAR z, cAE z, cAL z) := by
  have h0 : dgZ z ≠ -1 := (by rw [(dg3 z4 z3).1]; decide)
  have hl : loM Z = 1 := by unfold loM; rw [if_pos ((zB e hb (by decide)).mpr z0), if_neg (fun y => z1 ((zB e hb (by decide)).mp y))]
  have s0 : shb z 1 0 = z 1 := rfl
  have s1 : shb z 1 1 = z 2 := rfl
  have s2 : shb z 1 2 = z 3 := rfl
  have s3 : shb z 1 3 = z 4 := rfl
  have s4 : shb z 1 4 = 0 := rfl
  obtain hLF := L3_1 hb z4 z3 z2 z0
  have hcn := cn_sq (t := (0, nI 1, 0)) (shb_e (A := A) (m := 1) e) (shb_b hb) z2 z4 (Or.inl z3)
  rw [lo_m hl, hcn]
  rw [hLF.1.cA h0 (e := if bit (z 3).sign = bit (z 1).sign then 3 else 1) (by
    have b2 := (hLF.1.2.2.1 0 (by simp)).2.2.2.2.2
    rw [show ([3] : List Nat).length - 1 = 0 from rfl, show ([3] : List Nat).getD 0 0 = 3 from rfl, rx3 (ZL0 hLF.2.1) (ZLn (b2 1 (by decide)) (by rw [hLF.2.2.1]; exact z1)), ZLb (b2 3 (by decide)), ZLb (b2 1 (by decide)), hLF.2.2.1, hLF.2.2.2.2])]
  simp only [s0, s1, s2, s3, s4]
  unfold sqsS
  rw [if_pos si_0, if_neg (fun y => z3 (si_z.mp y))]
  rcases si_2 z3 with ⟨a3, b3⟩ | ⟨a3, b3⟩ <;> rcases si_2 z1 with ⟨a1, b1⟩ | ⟨a1, b1⟩ <;> (simp only [a3, b3, a1, b1]; decide)
theorem A3_1z {z : Nat → Int} {Z A : Nat → Int64} (e : ∀ k, k < 5 → Z k = lZ (z k)) (hb : bdN 130000 z) (z4 : z 4 = 0) (z3 : z 3 ≠ 0) (z2 : z 2 = 0) (z1 : z 1 = 0) (z0 : z 0 = 0) : cntM Z A = (cAR z, cAE z, cAL z) := by
  have h0 : dgZ z ≠ -1 := (by rw [(dg3 z4 z3).1]; decide)
  have hl : loM Z = 3 := by unfold loM; rw [if_pos ((zB e hb (by decide)).mpr z0), if_pos ((zB e hb (by decide)).mpr z1), if_pos ((zB e hb (by decide)).mpr z2), if_neg (fun y => z3 ((zB e hb (by decide)).mp y))]
  have s0 : shb z 3 0 = z 3 := rfl
  have s1 : shb z 3 1 = z 4 := rfl
  have s2 : shb z 3 2 = 0 := rfl
  have s3 : shb z 3 3 = 0 := rfl
  have s4 : shb z 3 4 = 0 := rfl
  obtain hLF := L3_1 hb z4 z3 z2 z0
  have hcn := cn_0 (t := (0, nI 3, 0)) (shb_e (A := A) (m := 3) e) (shb_b hb) z4 rfl rfl rfl
  rw [lo_m hl, hcn]
  rw [hLF.1.cA h0 (e := 3) (rx3z (ZL0 hLF.2.1) (ZL0 (hLF.2.2.1.trans z1)) (ZL0 hLF.2.2.2.1))]
  rcases si_2 z3 with ⟨a3, b3⟩ | ⟨a3, b3⟩ <;> (simp only [a3, b3]; decide)
theorem A2_3 {z : Nat → Int} {Z A : Nat → Int64} (e : ∀ k, k < 5 → Z k = lZ (z k)) (hb : bdN 130000 z) (z4 : z 4 = 0) (z3 : z 3 = 0) (z2 : z 2 ≠ 0) (z1 : z 1 ≠ 0) (z0 : z 0 ≠ 0) : cntM Z A = (cAR z, cAE z, cAL z) := by
  have h0 : dgZ z ≠ -1 := (by rw [(dg2 z4 z3 z2).1]; decide)
  have hl : loM Z = 0 := by unfold loM; rw [if_neg (fun y => z0 ((zB e hb (by decide)).mp y))]
  have s0 : shb z 0 0 = z 0 := rfl
  have s1 : shb z 0 1 = z 1 := rfl
  have s2 : shb z 0 2 = z 2 := rfl
  have s3 : shb z 0 3 = z 3 := rfl
  have s4 : shb z 0 4 = z 4 := rfl
  obtain hLF := L2_3 hb z4 z3 z2 z1 z0
  have hcn := cn_tw (t := (0, nI 0, 0)) (shb_e (A := A) (m := 0) e) (shb_b hb) z1 z3 z4
  rw [lo_m hl, hcn]
  rw [hLF.cA h0 (e := 0) rx0]
  simp only [s0, s1, s2, s3, s4]
  rcases si_2 z2 with ⟨a2, b2⟩ | ⟨a2, b2⟩ <;> rcases si_2 z1 with ⟨a1, b1⟩ | ⟨a1, b1⟩ <;> rcases si_2 z0 with ⟨a0, b0⟩ | ⟨a0, b0⟩ <;> (simp only [a2, b2, a1, b1, a0, b0]; decide)
theorem A2_2 {z : Nat → Int} {Z A : Nat → Int64} (e : ∀ k, k < 5 → Z k = lZ (z k)) (hb : bdN 130000 z) (z4 : z 4 = 0) (z3 : z 3 = 0) (z2 : z 2 ≠ 0) (z1 : z 1 ≠ 0) (z0 : z 0 = 0) : cntM Z A = (cAR z, cAE z, cAL z) := by
  have h0 : dgZ z ≠ -1 := (by rw [(dg2 z4 z3 z2).1]; decide)
  have hl : loM Z = 1 := by unfold loM; rw [if_pos ((zB e hb (by decide)).mpr z0), if_neg (fun y => z1 ((zB e hb (by decide)).mp y))]
  have s0 : shb z 1 0 = z 1 := rfl
  have s1 : shb z 1 1 = z 2 := rfl
  have s2 : shb z 1 2 = z 3 := rfl
  have s3 : shb z 1 3 = z 4 := rfl
  have s4 : shb z 1 4 = 0 := rfl
  obtain hLF := L2_2 hb z4 z3 z2 z1 z0
  have hcn := cn_tw (t := (0, nI 1, 0)) (shb_e (A := A) (m := 1) e) (shb_b hb) z2 z4 rfl
  rw [lo_m hl, hcn]
  rw [hLF.1.cA h0 (e := 1) (rx1 (ZL0 hLF.2))]
  simp only [s0, s1, s2, s3, s4]
  rw [z3, si_0]
  rcases si_2 z2 with ⟨a2, b2⟩ | ⟨a2, b2⟩ <;> rcases si_2 z1 with ⟨a1, b1⟩ | ⟨a1, b1⟩ <;> (simp only [a2, b2, a1, b1]; decide)
theorem A2_1 {z : Nat → Int} {Z A : Nat → Int64} (e : ∀ k, k < 5 → Z k = lZ (z k)) (hb : bdN 130000 z) (z4 : z 4 = 0) (z3 : z 3 = 0) (z2 : z 2 ≠ 0) (z1 : z 1 = 0) (z0 : z 0 ≠ 0) : cntM Z A = (cAR z, cAE z, cAL z) := by
  have h0 : dgZ z ≠ -1 := (by rw [(dg2 z4 z3 z2).1]; decide)
  have hl : loM Z = 0 := by unfold loM; rw [if_neg (fun y => z0 ((zB e hb (by decide)).mp y))]
  have s0 : shb z 0 0 = z 0 := rfl
  have s1 : shb z 0 1 = z 1 := rfl
  have s2 : shb z 0 2 = z 2 := rfl
  have s3 : shb z 0 3 = z 3 := rfl
  have s4 : shb z 0 4 = z 4 := rfl
  obtain hLF := L2_1 hb z4 z3 z2 z1
  have hcn := cn_sq (t := (0, nI 0, 0)) (shb_e (A := A) (m := 0) e) (shb_b hb) z1 z3 (Or.inl z2)
  rw [lo_m hl, hcn]
  rw [hLF.1.cA h0 (e := if bit (z 2).sign = bit (z 0).sign then 2 else 0) (by
    have b2 := (hLF.1.2.2.1 0 (by simp)).2.2.2.2.2
    rw [show ([2] : List Nat).length - 1 = 0 from rfl, show ([2] : List Nat).getD 0 0 = 2 from rfl, rx2 (ZLn (b2 0 (by decide)) (by rw [hLF.2.1]; exact z0)), ZLb (b2 2 (by decide)), ZLb (b2 0 (by decide)), hLF.2.1, hLF.2.2.2])]
  simp only [s0, s1, s2, s3, s4]
  unfold sqsS
  rw [if_pos (si_z.mpr z4), if_neg (fun y => z2 (si_z.mp y))]
  rcases si_2 z2 with ⟨a2, b2⟩ | ⟨a2, b2⟩ <;> rcases si_2 z0 with ⟨a0, b0⟩ | ⟨a0, b0⟩ <;> (simp only [a2, b2, a0, b0]; decide)
theorem A2_1z {z : Nat → Int} {Z A : Nat → Int64} (e : ∀ k, k < 5 → Z k = lZ (z k)) (hb : bdN 130000 z) (z4 : z 4 = 0) (z3 : z 3 = 0) (z2 : z 2 ≠ 0) (z1 : z 1 = 0) (z0 : z 0 = 0) : cntM Z A = (cAR z, cAE z, cAL z) := by
  have h0 : dgZ z ≠ -1 := (by rw [(dg2 z4 z3 z2).1]; decide)
  have hl : loM Z = 2 := by unfold loM; rw [if_pos ((zB e hb (by decide)).mpr z0), if_pos ((zB e hb (by decide)).mpr z1), if_neg (fun y => z2 ((zB e hb (by decide)).mp y))]
  have s0 : shb z 2 0 = z 2 := rfl
  have s1 : shb z 2 1 = z 3 := rfl
  have s2 : shb z 2 2 = z 4 := rfl
  have s3 : shb z 2 3 = 0 := rfl
  have s4 : shb z 2 4 = 0 := rfl
  obtain hLF := L2_1 hb z4 z3 z2 z1
  have hcn := cn_0 (t := (0, nI 2, 0)) (shb_e (A := A) (m := 2) e) (shb_b hb) z3 z4 rfl rfl
  rw [lo_m hl, hcn]
  rw [hLF.1.cA h0 (e := 2) (rx2z (ZL0 (hLF.2.1.trans z0)) (ZL0 hLF.2.2.1))]
  rcases si_2 z2 with ⟨a2, b2⟩ | ⟨a2, b2⟩ <;> (simp only [a2, b2]; decide)
theorem A1_2 {z : Nat → Int} {Z A : Nat → Int64} (e : ∀ k, k < 5 → Z k = lZ (z k)) (hb : bdN 130000 z) (z4 : z 4 = 0) (z3 : z 3 = 0) (z2 : z 2 = 0) (z1 : z 1 ≠ 0) (z0 : z 0 ≠ 0) : cntM Z A = (cAR z, cAE z, cAL z) := by
  have h0 : dgZ z ≠ -1 := (by rw [(dg1 z4 z3 z2 z1).1]; decide)
  have hl : loM Z = 0 := by unfold loM; rw [if_neg (fun y => z0 ((zB e hb (by decide)).mp y))]
  have s0 : shb z 0 0 = z 0 := rfl
  have s1 : shb z 0 1 = z 1 := rfl
  have s2 : shb z 0 2 = z 2 := rfl
  have s3 : shb z 0 3 = z 3 := rfl
  have s4 : shb z 0 4 = z 4 := rfl
  obtain hLF := L1_2 hb z4 z3 z2 z1 z0
  have hcn := cn_tw (t := (0, nI 0, 0)) (shb_e (A := A) (m := 0) e) (shb_b hb) z1 z3 z4
  rw [lo_m hl, hcn]
  rw [hLF.cA h0 (e := 0) rx0]
  simp only [s0, s1, s2, s3, s4]
  rw [z2, si_0]
  rcases si_2 z1 with ⟨a1, b1⟩ | ⟨a1, b1⟩ <;> rcases si_2 z0 with ⟨a0, b0⟩ | ⟨a0, b0⟩ <;> (simp only [a1, b1, a0, b0]; decide)
theorem A1_1 {z : Nat → Int} {Z A : Nat → Int64} (e : ∀ k, k < 5 → Z k = lZ (z k)) (hb : bdN 130000 z) (z4 : z 4 = 0) (z3 : z 3 = 0) (z2 : z 2 = 0) (z1 : z 1 ≠ 0) (z0 : z 0 = 0) : cntM Z A = (cAR z, cAE z, cAL z) := by
  have h0 : dgZ z ≠ -1 := (by rw [(dg1 z4 z3 z2 z1).1]; decide)
  have hl : loM Z = 1 := by unfold loM; rw [if_pos ((zB e hb (by decide)).mpr z0), if_neg (fun y => z1 ((zB e hb (by decide)).mp y))]
  have s0 : shb z 1 0 = z 1 := rfl
  have s1 : shb z 1 1 = z 2 := rfl
  have s2 : shb z 1 2 = z 3 := rfl
  have s3 : shb z 1 3 = z 4 := rfl
  have s4 : shb z 1 4 = 0 := rfl
  obtain hLF := L1_1 hb z4 z3 z2 z1 z0
  have hcn := cn_0 (t := (0, nI 1, 0)) (shb_e (A := A) (m := 1) e) (shb_b hb) z2 z3 z4 rfl
  rw [lo_m hl, hcn]
  rw [hLF.1.cA h0 (e := 1) (rx1 (ZL0 hLF.2))]
  rcases si_2 z1 with ⟨a1, b1⟩ | ⟨a1, b1⟩ <;> (simp only [a1, b1]; decide)
theorem A0_1 {z : Nat → Int} {Z A : Nat → Int64} (e : ∀ k, k < 5 → Z k = lZ (z k)) (hb : bdN 130000 z) (z4 : z 4 = 0) (z3 : z 3 = 0) (z2 : z 2 = 0) (z1 : z 1 = 0) (z0 : z 0 ≠ 0) : cntM Z A = (cAR z, cAE z, cAL z) := by
  have h0 : dgZ z ≠ -1 := (by rw [(dg0 z4 z3 z2 z1 z0).1]; decide)
  have hl : loM Z = 0 := by unfold loM; rw [if_neg (fun y => z0 ((zB e hb (by decide)).mp y))]
  have s0 : shb z 0 0 = z 0 := rfl
  have s1 : shb z 0 1 = z 1 := rfl
  have s2 : shb z 0 2 = z 2 := rfl
  have s3 : shb z 0 3 = z 3 := rfl
  have s4 : shb z 0 4 = z 4 := rfl
  obtain hLF := L0_1 hb z4 z3 z2 z1 z0
  have hcn := cn_0 (t := (0, nI 0, 0)) (shb_e (A := A) (m := 0) e) (shb_b hb) z1 z2 z3 z4
  rw [lo_m hl, hcn]
  rw [hLF.cA h0 (e := 0) rx0]
  rcases si_2 z0 with ⟨a0, b0⟩ | ⟨a0, b0⟩ <;> (simp only [a0, b0]; decide)
