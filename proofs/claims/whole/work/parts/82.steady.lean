/-! ===== numbers: steady by the axis, told twice ===== -/
theorem sg_cd {x y : Int} (hx : bdZ x) (hy : bdZ y) (h : y ≠ 0) (u : Int32) : (if lZ x = 0 then 0 else if sgB (lZ x) = sgB (lZ y) then u else 0) = if cd x = cd y then u else 0 := by
  rw [sg_si hx, sg_si hy]
  rcases cd_i x with ⟨a, p⟩ | ⟨a, p⟩ | ⟨a, p⟩
  · rw [if_neg (fun q => absurd ((lZ_0 hx).mp q) (by omega)), if_neg (show ¬ x < 0 by omega), p]
    rcases cd_i y with ⟨b, q⟩ | ⟨b, q⟩ | ⟨b, q⟩
    · rw [if_neg (show ¬ y < 0 by omega), q, if_pos rfl, if_pos rfl]
    · exact absurd b h
    · rw [if_pos b, q, if_neg (show ¬ (0 : Int32) = 1 by decide), if_neg (show ¬ (1 : Nat) = 2 by decide)]
  · rw [if_pos ((lZ_0 hx).mpr a), p, if_neg (fun q => cdn h q.symm)]
  · rw [if_neg (fun q => absurd ((lZ_0 hx).mp q) (by omega)), if_pos a, p]
    rcases cd_i y with ⟨b, q⟩ | ⟨b, q⟩ | ⟨b, q⟩
    · rw [if_neg (show ¬ y < 0 by omega), q, if_neg (show ¬ (1 : Int32) = 0 by decide), if_neg (show ¬ (2 : Nat) = 1 by decide)]
    · exact absurd b h
    · rw [if_pos b, q, if_pos rfl, if_pos rfl]
theorem chk_c {Z : Nat → Int64} {z : Nat → Int} (e : ∀ k, k < 5 → Z k = lZ (z k)) (hb : bdN 130000 z) {d k r : Nat} (hd : d < 5) (hk : k < 5) (h : z d ≠ 0) (c : Int32) : chkS Z (sgB (Z d)) (r + 1) k c = if cd (z k) = cd (z d) then chkS Z (sgB (Z d)) r (k + 1) c else 0 := by
  rw [chkS, e k hk, e d hd]
  exact sg_cd (bd_of (hb k hk) (by decide)) (bd_of (hb d hd) (by decide)) h _
theorem stA_c {Z : Nat → Int64} {z : Nat → Int} (e : ∀ k, k < 5 → Z k = lZ (z k)) (hb : bdN 130000 z) (h0 : dgZ z ≠ -1) : stA Z = if stc (cd (z 0)) (cd (z 1)) (cd (z 2)) (cd (z 3)) (cd (z 4)) (cd (z 1 * (z 2 * z 3 - z 4 * z 1) - z 3 * (z 0 * z 3))) (cd (z 1 * z 2 - z 3 * z 0)) = true then 1 else 0 := by
  have h5 : deg5 Z = dgZ z := deg5_Z e (fun j hj => bd_of (hb j hj) (by decide))
  unfold stA stc
  rw [h5]
  by_cases z4 : z 4 = 0
  · rw [if_pos (cdz z4)]
    by_cases z3 : z 3 = 0
    · rw [if_pos (cdz z3)]
      by_cases z2 : z 2 = 0
      · rw [if_pos (cdz z2)]
        by_cases z1 : z 1 = 0
        · rw [if_pos (cdz z1)]
          have z0 : z 0 ≠ 0 := fun y => h0 (dgm z4 z3 z2 z1 y)
          rw [(dg0 z4 z3 z2 z1 z0).1]
          rfl
        · rw [if_neg (cdn z1), (dg1 z4 z3 z2 z1).1, if_neg (by decide), if_neg (by decide), if_pos rfl, chk_c e hb (by decide) (by decide) z1]
          by_cases c0 : cd (z 0) = cd (z 1)
          · rw [if_pos c0, if_pos (by rw [c0]; exact beq_self_eq_true _)]
            rfl
          · rw [if_neg c0, if_neg (fun y => c0 (eq_of_beq y))]
      · rw [if_neg (cdn z2), (dg2 z4 z3 z2).1, if_neg (by decide), if_neg (by decide), if_neg (by decide), if_pos rfl, chk_c e hb (by decide) (by decide) z2, chk_c e hb (by decide) (by decide) z2]
        by_cases c0 : cd (z 0) = cd (z 2)
        · by_cases c1 : cd (z 1) = cd (z 2)
          · rw [if_pos c0, if_pos c1, c0, c1, if_pos (by simp)]
            rfl
          · rw [if_pos c0, if_neg c1, if_neg (by simp [c1])]
        · rw [if_neg c0, if_neg (by simp [c0])]
    · rw [if_neg (cdn z3), (dg3 z4 z3).1, if_neg (by decide), if_neg (by decide), if_neg (by decide), if_neg (by decide), if_pos rfl, chk_c e hb (by decide) (by decide) z3, chk_c e hb (by decide) (by decide) z3, chk_c e hb (by decide) (by decide) z3]
      have eD : Z 3 * (Z 2 * Z 1 - Z 3 * Z 0) - Z 4 * Z 1 * Z 1 = lZ (z 3 * (z 1 * z 2 - z 3 * z 0)) := by
        rw [e 0 (by decide), e 1 (by decide), e 2 (by decide), e 3 (by decide), e 4 (by decide)]
        simp only [lZ_mul, lZ_sub]
        congr 1
        rw [z4]
        grind
      have nD : (z 1 * z 2 - z 3 * z 0).natAbs ≤ 130000 * 130000 + 130000 * 130000 := ab_sub (ab_mul (hb 1 (by decide)) (hb 2 (by decide))) (ab_mul (hb 3 (by decide)) (hb 0 (by decide)))
      have bD : bdZ (z 3 * (z 1 * z 2 - z 3 * z 0)) := bd_of (ab_mul (hb 3 (by decide)) nD) (by decide)
      have b3 : bdZ (z 3) := bd_of (hb 3 (by decide)) (by decide)
      have fD : chkS Z (sgB (Z 3)) 0 (0 + 1 + 1 + 1) (if sgB (Z 3) = 0 then (if Z 3 * (Z 2 * Z 1 - Z 3 * Z 0) - Z 4 * Z 1 * Z 1 ≤ 0 then (0 : Int32) else 1) else (if 0 ≤ Z 3 * (Z 2 * Z 1 - Z 3 * Z 0) - Z 4 * Z 1 * Z 1 then 0 else 1)) = if cd (z 1 * z 2 - z 3 * z 0) = 1 then 1 else 0 := by
        show (if sgB (Z 3) = 0 then (if Z 3 * (Z 2 * Z 1 - Z 3 * Z 0) - Z 4 * Z 1 * Z 1 ≤ 0 then (0 : Int32) else 1) else (if 0 ≤ Z 3 * (Z 2 * Z 1 - Z 3 * Z 0) - Z 4 * Z 1 * Z 1 then 0 else 1)) = _
        rw [eD, e 3 (by decide), sg_si b3]
        rcases cd_i (z 3) with ⟨b, q⟩ | ⟨b, q⟩ | ⟨b, q⟩
        · rw [if_neg (show ¬ z 3 < 0 by omega), if_pos rfl]
          rcases cd_i (z 1 * z 2 - z 3 * z 0) with ⟨a, p⟩ | ⟨a, p⟩ | ⟨a, p⟩
          · rw [if_neg (fun q => absurd ((lZ_le0 bD).mp q) (Int.not_le.mpr (Int.mul_pos b a))), if_pos p]
          · rw [if_pos ((lZ_le0 bD).mpr (by rw [a, Int.mul_zero]; exact Int.le_refl _)), p, if_neg (by decide)]
          · rw [if_pos ((lZ_le0 bD).mpr (Int.le_of_lt (Int.mul_neg_of_pos_of_neg b a))), p, if_neg (by decide)]
        · exact absurd b z3
        · rw [if_pos b, if_neg (by decide)]
          rcases cd_i (z 1 * z 2 - z 3 * z 0) with ⟨a, p⟩ | ⟨a, p⟩ | ⟨a, p⟩
          · rw [if_neg (fun q => absurd ((lZ_ge0 bD).mp q) (Int.not_le.mpr (Int.mul_neg_of_neg_of_pos b a))), if_pos p]
          · rw [if_pos ((lZ_ge0 bD).mpr (by rw [a, Int.mul_zero]; exact Int.le_refl _)), p, if_neg (by decide)]
          · rw [if_pos ((lZ_ge0 bD).mpr (Int.le_of_lt (Int.mul_pos_of_neg_of_neg b a))), p, if_neg (by decide)]
      rw [fD]
      by_cases c0 : cd (z 0) = cd (z 3)
      · by_cases c1 : cd (z 1) = cd (z 3)
        · by_cases c2 : cd (z 2) = cd (z 3)
          · rw [if_pos c0, if_pos c1, if_pos c2]
            by_cases cD : cd (z 1 * z 2 - z 3 * z 0) = 1
            · rw [if_pos cD, if_pos (by simp [c0, c1, c2, cD])]
            · rw [if_neg cD, if_neg (by simp [cD])]
          · rw [if_pos c0, if_pos c1, if_neg c2, if_neg (by simp [c2])]
        · rw [if_pos c0, if_neg c1, if_neg (by simp [c1])]
      · rw [if_neg c0, if_neg (by simp [c0])]
  · rw [if_neg (cdn z4), (dg4 z4).1, if_neg (by decide), if_neg (by decide), if_neg (by decide), if_neg (by decide), if_neg (by decide), chk_c e hb (by decide) (by decide) z4, chk_c e hb (by decide) (by decide) z4, chk_c e hb (by decide) (by decide) z4, chk_c e hb (by decide) (by decide) z4]
    have eC : Z 3 * (Z 2 * Z 1 - Z 3 * Z 0) - Z 4 * Z 1 * Z 1 = lZ (z 1 * (z 2 * z 3 - z 4 * z 1) - z 3 * (z 0 * z 3)) := by
      rw [e 0 (by decide), e 1 (by decide), e 2 (by decide), e 3 (by decide), e 4 (by decide)]
      simp only [lZ_mul, lZ_sub]
      congr 1
      grind
    have nB : (z 2 * z 3 - z 4 * z 1).natAbs ≤ 130000 * 130000 + 130000 * 130000 := ab_sub (ab_mul (hb 2 (by decide)) (hb 3 (by decide))) (ab_mul (hb 4 (by decide)) (hb 1 (by decide)))
    have bC : bdZ (z 1 * (z 2 * z 3 - z 4 * z 1) - z 3 * (z 0 * z 3)) := bd_of (ab_sub (ab_mul (hb 1 (by decide)) nB) (ab_mul (hb 3 (by decide)) (ab_mul (hb 0 (by decide)) (hb 3 (by decide))))) (by decide)
    have b4 : bdZ (z 4) := bd_of (hb 4 (by decide)) (by decide)
    have fC : chkS Z (sgB (Z 4)) 0 (0 + 1 + 1 + 1 + 1) (if sgB (Z 4) = 0 then (if Z 3 * (Z 2 * Z 1 - Z 3 * Z 0) - Z 4 * Z 1 * Z 1 ≤ 0 then (0 : Int32) else 1) else (if 0 ≤ Z 3 * (Z 2 * Z 1 - Z 3 * Z 0) - Z 4 * Z 1 * Z 1 then 0 else 1)) = if cd (z 1 * (z 2 * z 3 - z 4 * z 1) - z 3 * (z 0 * z 3)) = cd (z 4) then 1 else 0 := by
      show (if sgB (Z 4) = 0 then (if Z 3 * (Z 2 * Z 1 - Z 3 * Z 0) - Z 4 * Z 1 * Z 1 ≤ 0 then (0 : Int32) else 1) else (if 0 ≤ Z 3 * (Z 2 * Z 1 - Z 3 * Z 0) - Z 4 * Z 1 * Z 1 then 0 else 1)) = _
      rw [eC, e 4 (by decide), sg_si b4]
      rcases cd_i (z 4) with ⟨b, q⟩ | ⟨b, q⟩ | ⟨b, q⟩
      · rw [if_neg (show ¬ z 4 < 0 by omega), if_pos rfl, q]
        rcases cd_i (z 1 * (z 2 * z 3 - z 4 * z 1) - z 3 * (z 0 * z 3)) with ⟨a, p⟩ | ⟨a, p⟩ | ⟨a, p⟩
        · rw [if_neg (fun q => absurd ((lZ_le0 bC).mp q) (by omega)), if_pos p]
        · rw [if_pos ((lZ_le0 bC).mpr (by omega)), p, if_neg (by decide)]
        · rw [if_pos ((lZ_le0 bC).mpr (by omega)), p, if_neg (by decide)]
      · exact absurd b z4
      · rw [if_pos b, if_neg (by decide), q]
        rcases cd_i (z 1 * (z 2 * z 3 - z 4 * z 1) - z 3 * (z 0 * z 3)) with ⟨a, p⟩ | ⟨a, p⟩ | ⟨a, p⟩
        · rw [if_pos ((lZ_ge0 bC).mpr (by omega)), p, if_neg (by decide)]
        · rw [if_pos ((lZ_ge0 bC).mpr (by omega)), p, if_neg (by decide)]
        · rw [if_neg (fun q => absurd ((lZ_ge0 bC).mp q) (by omega)), if_pos p]
    rw [fC]
    by_cases c0 : cd (z 0) = cd (z 4)
    · by_cases c1 : cd (z 1) = cd (z 4)
      · by_cases c2 : cd (z 2) = cd (z 4)
        · by_cases c3 : cd (z 3) = cd (z 4)
          · rw [if_pos c0, if_pos c1, if_pos c2, if_pos c3]
            by_cases cC : cd (z 1 * (z 2 * z 3 - z 4 * z 1) - z 3 * (z 0 * z 3)) = cd (z 4)
            · rw [if_pos cC, if_pos (by simp [c0, c1, c2, c3, cC])]
            · rw [if_neg cC, if_neg (by simp [cC])]
          · rw [if_pos c0, if_pos c1, if_pos c2, if_neg c3, if_neg (by simp [c3])]
        · rw [if_pos c0, if_pos c1, if_neg c2, if_neg (by simp [c2])]
      · rw [if_pos c0, if_neg c1, if_neg (by simp [c1])]
    · rw [if_neg c0, if_neg (by simp [c0])]
theorem nI_i {a b : Nat} (ha : a ≤ 100) (hb : b ≤ 100) : nI a = nI b ↔ a = b := nI_eq (by omega) (by omega)
/-- steady by the axis: as many to the left as the degree says -/
theorem st_iff {Z : Nat → Int64} {z : Nat → Int} (e : ∀ k, k < 5 → Z k = lZ (z k)) (hb : bdN 130000 z) (h0 : dgZ z ≠ -1) : (stA Z = 0 ↔ (Gz z).2.2 ≠ dN z) := by
  rw [stA_c e hb h0]
  have h := (ST_all h0).2
  by_cases c : stc (cd (z 0)) (cd (z 1)) (cd (z 2)) (cd (z 3)) (cd (z 4)) (cd (z 1 * (z 2 * z 3 - z 4 * z 1) - z 3 * (z 0 * z 3))) (cd (z 1 * z 2 - z 3 * z 0)) = true
  · rw [if_pos c]
    exact ⟨fun y => absurd y (by decide), fun y => absurd (h.mpr c) y⟩
  · rw [if_neg c]
    exact ⟨fun _ y => c (h.mp y), fun _ => rfl⟩
