/-! ===== numbers: rows in lowest terms, a division's entries ===== -/
theorem gcd5_dvd (v : Nat → Int) {j : Nat} (hj : j < 5) : gcd5 v ∣ (v j).natAbs := by
  have e4 : gcd5 v ∣ (v 4).natAbs := Nat.gcd_dvd_left _ _
  have f4 : gcd5 v ∣ _ := Nat.gcd_dvd_right (v 4).natAbs _
  have e3 := Nat.dvd_trans f4 (Nat.gcd_dvd_left _ _)
  have f3 := Nat.dvd_trans f4 (Nat.gcd_dvd_right _ _)
  have e2 := Nat.dvd_trans f3 (Nat.gcd_dvd_left _ _)
  have f2 := Nat.dvd_trans f3 (Nat.gcd_dvd_right _ _)
  have e1 := Nat.dvd_trans f2 (Nat.gcd_dvd_left _ _)
  have f1 := Nat.dvd_trans f2 (Nat.gcd_dvd_right _ _)
  have e0 := Nat.dvd_trans f1 (Nat.gcd_dvd_left _ _)
  rcases lt5 hj with rfl | rfl | rfl | rfl | rfl
  · exact e0
  · exact e1
  · exact e2
  · exact e3
  · exact e4
theorem low5_mul (v : Nat → Int) {j : Nat} (hj : j < 5) : v j = (gcd5 v : Int) * low5 v j := (Int.mul_tdiv_cancel_of_dvd (Int.ofNat_dvd_left.mpr (gcd5_dvd v hj))).symm
theorem gcd5_pos {v : Nat → Int} {j : Nat} (hj : j < 5) (h : v j ≠ 0) : 0 < (gcd5 v : Int) := by
  have := gcd5_0 (z := v)
  rcases Nat.eq_zero_or_pos (gcd5 v) with e | e
  · exact absurd (this e j hj) h
  · omega
theorem low5_sign (v : Nat → Int) {j : Nat} (hj : j < 5) : (low5 v j).sign = (v j).sign := by
  by_cases h : v j = 0
  · rw [h]
    unfold low5
    rw [h, Int.zero_tdiv]
  · have e := low5_mul v hj
    have g := gcd5_pos hj h
    rw [e, Int.sign_mul, Int.sign_eq_one_of_pos g, Int.one_mul]
theorem low5_z (v : Nat → Int) {j : Nat} (hj : j < 5) : low5 v j = 0 ↔ v j = 0 := by
  rw [← Int.sign_eq_zero_iff_zero, low5_sign v hj, Int.sign_eq_zero_iff_zero]
theorem low5_abs (v : Nat → Int) (j : Nat) : (low5 v j).natAbs ≤ (v j).natAbs := Int.natAbs_tdiv_le_natAbs _ _
/-- one entry alone: its sign is left -/
theorem low5_one {v : Nat → Int} {k : Nat} (hk : k < 5) (h : ∀ j, j < 5 → j ≠ k → v j = 0) : low5 v k = (v k).sign := by
  by_cases h0 : v k = 0
  · rw [h0]
    exact (low5_z v hk).mpr h0
  · have hg : gcd5 v = (v k).natAbs := by
      have z : ∀ j, j < 5 → j ≠ k → (v j).natAbs = 0 := fun j hj e => by rw [h j hj e]; rfl
      unfold gcd5
      rcases lt5 hk with rfl | rfl | rfl | rfl | rfl
      · rw [z 1 (by decide) (by decide), z 2 (by decide) (by decide), z 3 (by decide) (by decide), z 4 (by decide) (by decide), Nat.gcd_zero_left, Nat.gcd_zero_left, Nat.gcd_zero_left, Nat.gcd_zero_left, Nat.gcd_zero_right]
      · rw [z 0 (by decide) (by decide), z 2 (by decide) (by decide), z 3 (by decide) (by decide), z 4 (by decide) (by decide), Nat.gcd_zero_left, Nat.gcd_zero_left, Nat.gcd_zero_left, Nat.gcd_zero_right, Nat.gcd_zero_right]
      · rw [z 0 (by decide) (by decide), z 1 (by decide) (by decide), z 3 (by decide) (by decide), z 4 (by decide) (by decide), Nat.gcd_zero_left, Nat.gcd_zero_left, Nat.gcd_zero_right, Nat.gcd_zero_right, Nat.gcd_zero_right]
      · rw [z 0 (by decide) (by decide), z 1 (by decide) (by decide), z 2 (by decide) (by decide), z 4 (by decide) (by decide), Nat.gcd_zero_left, Nat.gcd_zero_right, Nat.gcd_zero_right, Nat.gcd_zero_right, Nat.gcd_zero_right]
      · rw [z 0 (by decide) (by decide), z 1 (by decide) (by decide), z 2 (by decide) (by decide), z 3 (by decide) (by decide), Nat.gcd_zero_right, Nat.gcd_zero_right, Nat.gcd_zero_right, Nat.gcd_zero_right, Nat.gcd_zero_right]
    have e := low5_mul v hk
    rw [hg] at e
    have n : ((v k).natAbs : Int) ≠ 0 := by omega
    have e2 : ((v k).natAbs : Int) * low5 v k = ((v k).natAbs : Int) * (v k).sign := by
      rw [← e, Int.mul_comm, Int.sign_mul_natAbs]
    exact Int.eq_of_mul_eq_mul_left n e2
theorem strikeT_s {A B : Nat → Int} {e d : Nat} (h : B d ≠ 0) : strikeT A e B d = (B d).sign * A e := by
  unfold strikeT
  by_cases c : B d < 0
  · rw [if_pos c, Int.sign_eq_neg_one_iff_neg.mpr c]
    omega
  · rw [if_neg c, Int.sign_eq_one_iff_pos.mpr (by omega), Int.one_mul]
/-- an entry that the divisor reaches, one that it doesn't -/
theorem strike_Y {A B : Nat → Int} {e d j : Nat} (hA : A e ≠ 0) (hB : B d ≠ 0) (hj : e - d ≤ j ∧ j ≤ e) : strikeZ A e B d j = (B d).sign * (A j * B d - A e * B (j - (e - d))) := by
  rw [strike_y hA hj, strikeT_s hB, ← Int.sign_mul_self]
  grind
theorem strike_N {A B : Nat → Int} {e d j : Nat} (hA : A e ≠ 0) (hj : ¬ (e - d ≤ j ∧ j ≤ e)) : strikeZ A e B d j = (B d).sign * (A j * B d) := by
  rw [strike_n hA hj, ← Int.sign_mul_self]
  grind
theorem sg_abs {x y : Int} (h : x ≠ 0) : (x.sign * y).natAbs = y.natAbs := by
  rw [Int.natAbs_mul, Int.natAbs_sign_of_ne_zero h, Nat.one_mul]
theorem sg_ne {x y : Int} (h : x ≠ 0) : x.sign * y = 0 ↔ y = 0 := by
  rw [Int.mul_eq_zero, Int.sign_eq_zero_iff_zero]
  exact ⟨fun q => q.resolve_left h, Or.inr⟩
theorem sg_sq {x : Int} (h : x ≠ 0) : x.sign * x.sign = 1 := by
  rcases Int.sign_trichotomy x with e | e | e
  · rw [e]; rfl
  · exact absurd (Int.sign_eq_zero_iff_zero.mp e) h
  · rw [e]; rfl
/-- bounds -/
def bdN (N : Nat) (v : Nat → Int) : Prop := ∀ j, j < 5 → (v j).natAbs ≤ N
theorem bd_of {N : Nat} {x : Int} (h : x.natAbs ≤ N) (hN : N ≤ 9223372036854775807) : bdZ x := by
  unfold bdZ
  omega
theorem ab_mul {x y : Int} {a b : Nat} (hx : x.natAbs ≤ a) (hy : y.natAbs ≤ b) : (x * y).natAbs ≤ a * b := by
  rw [Int.natAbs_mul]
  exact Nat.mul_le_mul hx hy
theorem ab_sub {x y : Int} {a b : Nat} (hx : x.natAbs ≤ a) (hy : y.natAbs ≤ b) : (x - y).natAbs ≤ a + b := by omega
theorem strike_bd {A B : Nat → Int} {e d : Nat} {a b : Nat} (hA : ∀ j, j < 5 → (A j).natAbs ≤ a) (hB : ∀ j, j < 5 → (B j).natAbs ≤ b) (he : e < 5) (hd : d < 5) (hAe : A e ≠ 0) (hBd : B d ≠ 0) : ∀ j, j < 5 → (strikeZ A e B d j).natAbs ≤ 2 * (a * b) := fun j hj => by
  by_cases c : e - d ≤ j ∧ j ≤ e
  · rw [strike_Y hAe hBd c, sg_abs hBd]
    have h1 := ab_mul (hA j hj) (hB d hd)
    have h2 := ab_mul (hA e he) (hB (j - (e - d)) (by omega))
    have := ab_sub h1 h2
    omega
  · rw [strike_N hAe c, sg_abs hBd]
    have h1 := ab_mul (hA j hj) (hB d hd)
    omega
