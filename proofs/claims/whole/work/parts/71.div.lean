/-! ===== numbers: the six divisions ===== -/
theorem dg4 {z : Nat → Int} (h : z 4 ≠ 0) : dgZ z = 4 ∧ dN z = 4 := by
  unfold dgZ dN
  rw [if_neg h, if_neg h]
  exact ⟨rfl, rfl⟩
theorem dg3 {z : Nat → Int} (h4 : z 4 = 0) (h : z 3 ≠ 0) : dgZ z = 3 ∧ dN z = 3 := by
  unfold dgZ dN
  rw [if_pos h4, if_pos h4, if_neg h, if_neg h]
  exact ⟨rfl, rfl⟩
theorem dg2 {z : Nat → Int} (h4 : z 4 = 0) (h3 : z 3 = 0) (h : z 2 ≠ 0) : dgZ z = 2 ∧ dN z = 2 := by
  unfold dgZ dN
  rw [if_pos h4, if_pos h4, if_pos h3, if_pos h3, if_neg h, if_neg h]
  exact ⟨rfl, rfl⟩
theorem dg1 {z : Nat → Int} (h4 : z 4 = 0) (h3 : z 3 = 0) (h2 : z 2 = 0) (h : z 1 ≠ 0) : dgZ z = 1 ∧ dN z = 1 := by
  unfold dgZ dN
  rw [if_pos h4, if_pos h4, if_pos h3, if_pos h3, if_pos h2, if_pos h2, if_neg h, if_neg h]
  exact ⟨rfl, rfl⟩
theorem dg0 {z : Nat → Int} (h4 : z 4 = 0) (h3 : z 3 = 0) (h2 : z 2 = 0) (h1 : z 1 = 0) (h : z 0 ≠ 0) : dgZ z = 0 ∧ dN z = 0 := by
  unfold dgZ dN
  rw [if_pos h4, if_pos h4, if_pos h3, if_pos h3, if_pos h2, if_pos h2, if_pos h1, if_pos h1, if_neg h]
  exact ⟨rfl, rfl⟩
theorem dgm {z : Nat → Int} (h4 : z 4 = 0) (h3 : z 3 = 0) (h2 : z 2 = 0) (h1 : z 1 = 0) (h : z 0 = 0) : dgZ z = -1 := by
  unfold dgZ
  rw [if_pos h4, if_pos h3, if_pos h2, if_pos h1, if_pos h]
theorem all5 {P : Nat → Prop} (h0 : P 0) (h1 : P 1) (h2 : P 2) (h3 : P 3) (h4 : P 4) : ∀ j, j < 5 → P j := fun j hj => by
  rcases lt5 hj with rfl | rfl | rfl | rfl | rfl
  · exact h0
  · exact h1
  · exact h2
  · exact h3
  · exact h4
/-- nothing above a degree: so its number is less -/
theorem dg_lt0 {z : Nat → Int} (h : dgZ z = -1) (d : Nat) (hd : d ≤ 4) : orN (dgZ z) < nI d := by
  rw [h]
  match d, hd with
  | 0, _ => decide
  | 1, _ => decide
  | 2, _ => decide
  | 3, _ => decide
  | 4, _ => decide
theorem dg_lt1 {z : Nat → Int} (h4 : z 4 = 0) (h3 : z 3 = 0) (h2 : z 2 = 0) (h1 : z 1 = 0) {d : Nat} (h0 : 1 ≤ d) (hd : d ≤ 4) : orN (dgZ z) < nI d := by
  by_cases c : z 0 = 0
  · exact dg_lt0 (dgm h4 h3 h2 h1 c) d hd
  · rw [(dg0 h4 h3 h2 h1 c).1]
    match d, h0, hd with
    | 1, _, _ => decide
    | 2, _, _ => decide
    | 3, _, _ => decide
    | 4, _, _ => decide
theorem dg_lt2 {z : Nat → Int} (h4 : z 4 = 0) (h3 : z 3 = 0) (h2 : z 2 = 0) {d : Nat} (h0 : 2 ≤ d) (hd : d ≤ 4) : orN (dgZ z) < nI d := by
  by_cases c : z 1 = 0
  · exact dg_lt1 h4 h3 h2 c (by omega) hd
  · rw [(dg1 h4 h3 h2 c).1]
    match d, h0, hd with
    | 2, _, _ => decide
    | 3, _, _ => decide
    | 4, _, _ => decide
theorem dg_lt3 {z : Nat → Int} (h4 : z 4 = 0) (h3 : z 3 = 0) {d : Nat} (h0 : 3 ≤ d) (hd : d ≤ 4) : orN (dgZ z) < nI d := by
  by_cases c : z 2 = 0
  · exact dg_lt2 h4 h3 c (by omega) hd
  · rw [(dg2 h4 h3 c).1]
    match d, h0, hd with
    | 3, _, _ => decide
    | 4, _, _ => decide
theorem remOk_of {A B : Nat → Int} {e d a b : Nat} (hA : ∀ j, j < 5 → (A j).natAbs ≤ a) (hB : ∀ j, j < 5 → (B j).natAbs ≤ b) (he : e < 5) (hd : d < 5) (hAe : A e ≠ 0) (hBd : B d ≠ 0) (h1 : a ≤ 9223372036854775807) (h2 : b ≤ 9223372036854775807) (h3 : 2 * (a * b) ≤ 9223372036854775807) (h4 : e = d + 3 → 2 * (2 * (a * b) * b) ≤ 9223372036854775807) : remOk A B e d := by
  have s1 := strike_bd hA hB he hd hAe hBd
  refine ⟨bd_of (hB d hd) h2, bd_of (hA e he) h1, fun j hj => bd_of (s1 j hj) h3, fun e3 j hj => ?_⟩
  have l1 : ∀ j, j < 5 → (low5 (strikeZ A e B d) j).natAbs ≤ 2 * (a * b) := fun j hj => Nat.le_trans (low5_abs _ j) (s1 j hj)
  by_cases c : low5 (strikeZ A e B d) (e - 2) = 0
  · rw [strike_0 c]
    exact bd_of (l1 j hj) h3
  · exact bd_of (strike_bd l1 hB (by omega) hd c hBd j hj) (h4 e3)
section
variable {A B : Nat → Int} {a b : Nat}
theorem S10 (hA : ∀ j, j < 5 → (A j).natAbs ≤ a) (hB : ∀ j, j < 5 → (B j).natAbs ≤ b) (ha : a ≤ 9223372036854775807) (hb : b ≤ 9223372036854775807) (hab : 2 * (a * b) ≤ 9223372036854775807) (A0 : A 0 = 0) (A1 : A 1 ≠ 0) (A2 : A 2 = 0) (A3 : A 3 = 0) (A4 : A 4 = 0) (B0 : B 0 ≠ 0) (B1 : B 1 = 0) (B2 : B 2 = 0) (B3 : B 3 = 0) (B4 : B 4 = 0) : stepOk A B ∧ dgZ (remZ A B (dN A) (dN B)) = -1 := by
  have dA := (dg1 A4 A3 A2 A1).2
  have dB := (dg0 B4 B3 B2 B1 B0).2
  have v0 : strikeZ A 1 B 0 0 = 0 := by rw [strike_N A1 (by decide), A0]; grind
  have v1 : strikeZ A 1 B 0 1 = 0 := by rw [strike_Y A1 B0 (by decide)]; grind
  have v2 : strikeZ A 1 B 0 2 = 0 := by rw [strike_N A1 (by decide), A2]; grind
  have v3 : strikeZ A 1 B 0 3 = 0 := by rw [strike_N A1 (by decide), A3]; grind
  have v4 : strikeZ A 1 B 0 4 = 0 := by rw [strike_N A1 (by decide), A4]; grind
  have dz : dgZ (low5 (strikeZ A 1 B 0)) = -1 := dgm ((low5_z _ (by decide)).mpr v4) ((low5_z _ (by decide)).mpr v3) ((low5_z _ (by decide)).mpr v2) ((low5_z _ (by decide)).mpr v1) ((low5_z _ (by decide)).mpr v0)
  have hr : remZ A B 1 0 = low5 (strikeZ A 1 B 0) := if_neg (by decide)
  refine ⟨⟨fun j hj => bd_of (hA j hj) ha, fun j hj => bd_of (hB j hj) hb, ?_, ?_, ?_⟩, ?_⟩
  · rw [dA, dB]; exact Or.inl ⟨rfl, rfl⟩
  · rw [dA, dB]; exact remOk_of hA hB (by decide) (by decide) A1 B0 ha hb hab (fun q => absurd q (by decide))
  · rw [dA, dB]; exact (if_neg (by decide)).mpr (dg_lt0 dz 0 (by decide))
  · rw [dA, dB, hr]; exact dz
theorem S21 (hA : ∀ j, j < 5 → (A j).natAbs ≤ a) (hB : ∀ j, j < 5 → (B j).natAbs ≤ b) (ha : a ≤ 9223372036854775807) (hb : b ≤ 9223372036854775807) (hab : 2 * (a * b) ≤ 9223372036854775807) (A1 : A 1 = 0) (A2 : A 2 ≠ 0) (A3 : A 3 = 0) (A4 : A 4 = 0) (B0 : B 0 = 0) (B1 : B 1 ≠ 0) (B2 : B 2 = 0) (B3 : B 3 = 0) (B4 : B 4 = 0) : stepOk A B ∧ (remZ A B (dN A) (dN B)) 0 = (A 0).sign ∧ (remZ A B (dN A) (dN B)) 1 = 0 ∧ (remZ A B (dN A) (dN B)) 2 = 0 ∧ (remZ A B (dN A) (dN B)) 3 = 0 ∧ (remZ A B (dN A) (dN B)) 4 = 0 := by
  have dA := (dg2 A4 A3 A2).2
  have dB := (dg1 B4 B3 B2 B1).2
  have v0 : strikeZ A 2 B 1 0 = (B 1).sign * (A 0 * B 1) := strike_N A2 (by decide)
  have v1 : strikeZ A 2 B 1 1 = 0 := by rw [strike_Y A2 B1 (by decide), A1, show 1 - (2 - 1) = 0 from rfl, B0]; grind
  have v2 : strikeZ A 2 B 1 2 = 0 := by rw [strike_Y A2 B1 (by decide), show 2 - (2 - 1) = 1 from rfl]; grind
  have v3 : strikeZ A 2 B 1 3 = 0 := by rw [strike_N A2 (by decide), A3]; grind
  have v4 : strikeZ A 2 B 1 4 = 0 := by rw [strike_N A2 (by decide), A4]; grind
  have w1 := (low5_z (strikeZ A 2 B 1) (by decide)).mpr v1
  have w2 := (low5_z (strikeZ A 2 B 1) (by decide)).mpr v2
  have w3 := (low5_z (strikeZ A 2 B 1) (by decide)).mpr v3
  have w4 := (low5_z (strikeZ A 2 B 1) (by decide)).mpr v4
  have w0 : low5 (strikeZ A 2 B 1) 0 = (A 0).sign := by
    rw [low5_one (by decide) (all5 (fun q => absurd rfl q) (fun _ => v1) (fun _ => v2) (fun _ => v3) (fun _ => v4)), v0, Int.sign_mul, Int.sign_mul, Int.sign_sign]
    have := sg_sq B1
    grind
  have hr : remZ A B 2 1 = low5 (strikeZ A 2 B 1) := if_neg (by decide)
  refine ⟨⟨fun j hj => bd_of (hA j hj) ha, fun j hj => bd_of (hB j hj) hb, ?_, ?_, ?_⟩, ?_⟩
  · rw [dA, dB]; exact Or.inr (Or.inl ⟨rfl, rfl⟩)
  · rw [dA, dB]; exact remOk_of hA hB (by decide) (by decide) A2 B1 ha hb hab (fun q => absurd q (by decide))
  · rw [dA, dB]; exact (if_neg (by decide)).mpr (dg_lt1 w4 w3 w2 w1 (by decide) (by decide))
  · rw [dA, dB, hr]; exact ⟨w0, w1, w2, w3, w4⟩
theorem S32 (hA : ∀ j, j < 5 → (A j).natAbs ≤ a) (hB : ∀ j, j < 5 → (B j).natAbs ≤ b) (ha : a ≤ 9223372036854775807) (hb : b ≤ 9223372036854775807) (hab : 2 * (a * b) ≤ 9223372036854775807) (A0 : A 0 = 0) (A2 : A 2 = 0) (A3 : A 3 ≠ 0) (A4 : A 4 = 0) (B1 : B 1 = 0) (B2 : B 2 ≠ 0) (B3 : B 3 = 0) (B4 : B 4 = 0) : stepOk A B ∧ (remZ A B (dN A) (dN B)) 0 = 0 ∧ (remZ A B (dN A) (dN B)) 1 = (B 2).sign * (A 1 * B 2 - A 3 * B 0).sign ∧ (remZ A B (dN A) (dN B)) 2 = 0 ∧ (remZ A B (dN A) (dN B)) 3 = 0 ∧ (remZ A B (dN A) (dN B)) 4 = 0 := by
  have dA := (dg3 A4 A3).2
  have dB := (dg2 B4 B3 B2).2
  have v0 : strikeZ A 3 B 2 0 = 0 := by rw [strike_N A3 (by decide), A0]; grind
  have v1 : strikeZ A 3 B 2 1 = (B 2).sign * (A 1 * B 2 - A 3 * B 0) := strike_Y A3 B2 (by decide)
  have v2 : strikeZ A 3 B 2 2 = 0 := by rw [strike_Y A3 B2 (by decide), A2, show 2 - (3 - 2) = 1 from rfl, B1]; grind
  have v3 : strikeZ A 3 B 2 3 = 0 := by rw [strike_Y A3 B2 (by decide), show 3 - (3 - 2) = 2 from rfl]; grind
  have v4 : strikeZ A 3 B 2 4 = 0 := by rw [strike_N A3 (by decide), A4]; grind
  have w0 := (low5_z (strikeZ A 3 B 2) (by decide)).mpr v0
  have w2 := (low5_z (strikeZ A 3 B 2) (by decide)).mpr v2
  have w3 := (low5_z (strikeZ A 3 B 2) (by decide)).mpr v3
  have w4 := (low5_z (strikeZ A 3 B 2) (by decide)).mpr v4
  have w1 : low5 (strikeZ A 3 B 2) 1 = (B 2).sign * (A 1 * B 2 - A 3 * B 0).sign := by
    rw [low5_one (by decide) (all5 (fun _ => v0) (fun q => absurd rfl q) (fun _ => v2) (fun _ => v3) (fun _ => v4)), v1, Int.sign_mul, Int.sign_sign]
  have hr : remZ A B 3 2 = low5 (strikeZ A 3 B 2) := if_neg (by decide)
  refine ⟨⟨fun j hj => bd_of (hA j hj) ha, fun j hj => bd_of (hB j hj) hb, ?_, ?_, ?_⟩, ?_⟩
  · rw [dA, dB]; exact Or.inr (Or.inr (Or.inl ⟨rfl, rfl⟩))
  · rw [dA, dB]; exact remOk_of hA hB (by decide) (by decide) A3 B2 ha hb hab (fun q => absurd q (by decide))
  · rw [dA, dB]; exact (if_neg (by decide)).mpr (dg_lt2 w4 w3 w2 (by decide) (by decide))
  · rw [dA, dB, hr]; exact ⟨w0, w1, w2, w3, w4⟩
theorem S43 (hA : ∀ j, j < 5 → (A j).natAbs ≤ a) (hB : ∀ j, j < 5 → (B j).natAbs ≤ b) (ha : a ≤ 9223372036854775807) (hb : b ≤ 9223372036854775807) (hab : 2 * (a * b) ≤ 9223372036854775807) (A1 : A 1 = 0) (A3 : A 3 = 0) (A4 : A 4 ≠ 0) (B0 : B 0 = 0) (B2 : B 2 = 0) (B3 : B 3 ≠ 0) (B4 : B 4 = 0) : stepOk A B ∧ (∃ g : Int, (((B 3).sign * (A 2 * B 3 - A 4 * B 1) ≠ 0 ∨ A 0 ≠ 0) → 0 < g) ∧ g * (remZ A B (dN A) (dN B)) 2 = (B 3).sign * (A 2 * B 3 - A 4 * B 1) ∧ g * (remZ A B (dN A) (dN B)) 0 = (B 3).sign * (A 0 * B 3)) ∧ ((remZ A B (dN A) (dN B)) 2).sign = (B 3).sign * (A 2 * B 3 - A 4 * B 1).sign ∧ ((remZ A B (dN A) (dN B)) 0).sign = (A 0).sign ∧ (remZ A B (dN A) (dN B)) 1 = 0 ∧ (remZ A B (dN A) (dN B)) 3 = 0 ∧ (remZ A B (dN A) (dN B)) 4 = 0 ∧ ∀ j, j < 5 → ((remZ A B (dN A) (dN B)) j).natAbs ≤ 2 * (a * b) := by
  have dA := (dg4 A4).2
  have dB := (dg3 B4 B3).2
  have v0 : strikeZ A 4 B 3 0 = (B 3).sign * (A 0 * B 3) := strike_N A4 (by decide)
  have v1 : strikeZ A 4 B 3 1 = 0 := by rw [strike_Y A4 B3 (by decide), A1, show 1 - (4 - 3) = 0 from rfl, B0]; grind
  have v2 : strikeZ A 4 B 3 2 = (B 3).sign * (A 2 * B 3 - A 4 * B 1) := strike_Y A4 B3 (by decide)
  have v3 : strikeZ A 4 B 3 3 = 0 := by rw [strike_Y A4 B3 (by decide), A3, show 3 - (4 - 3) = 2 from rfl, B2]; grind
  have v4 : strikeZ A 4 B 3 4 = 0 := by rw [strike_Y A4 B3 (by decide), show 4 - (4 - 3) = 3 from rfl]; grind
  have w1 := (low5_z (strikeZ A 4 B 3) (by decide)).mpr v1
  have w3 := (low5_z (strikeZ A 4 B 3) (by decide)).mpr v3
  have w4 := (low5_z (strikeZ A 4 B 3) (by decide)).mpr v4
  have hr : remZ A B 4 3 = low5 (strikeZ A 4 B 3) := if_neg (by decide)
  refine ⟨⟨fun j hj => bd_of (hA j hj) ha, fun j hj => bd_of (hB j hj) hb, ?_, ?_, ?_⟩, ?_⟩
  · rw [dA, dB]; exact Or.inr (Or.inr (Or.inr (Or.inl ⟨rfl, rfl⟩)))
  · rw [dA, dB]; exact remOk_of hA hB (by decide) (by decide) A4 B3 ha hb hab (fun q => absurd q (by decide))
  · rw [dA, dB]; exact (if_neg (by decide)).mpr (dg_lt3 w4 w3 (by decide) (by decide))
  · rw [dA, dB, hr]
    refine ⟨⟨gcd5 (strikeZ A 4 B 3), fun q => ?_, by rw [← low5_mul _ (by decide), v2], by rw [← low5_mul _ (by decide), v0]⟩, ?_, ?_, w1, w3, w4, fun j hj => Nat.le_trans (low5_abs _ j) (strike_bd hA hB (by decide) (by decide) A4 B3 j hj)⟩
    · rcases q with q | q
      · exact gcd5_pos (j := 2) (by decide) (by rw [v2]; exact q)
      · exact gcd5_pos (j := 0) (by decide) (by rw [v0]; exact fun y => q ((Int.mul_eq_zero.mp ((sg_ne B3).mp y)).resolve_right B3))
    · rw [low5_sign _ (by decide), v2, Int.sign_mul, Int.sign_sign]
    · rw [low5_sign _ (by decide), v0, Int.sign_mul, Int.sign_mul, Int.sign_sign]
      have := sg_sq B3
      grind
end
