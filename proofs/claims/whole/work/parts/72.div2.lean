/-! ===== numbers: the two divisions of two steps ===== -/
section
variable {A B : Nat → Int} {a b : Nat}
theorem S30 (hA : ∀ j, j < 5 → (A j).natAbs ≤ a) (hB : ∀ j, j < 5 → (B j).natAbs ≤ b) (ha : a ≤ 9223372036854775807) (hb : b ≤ 9223372036854775807) (hab : 2 * (a * b) ≤ 9223372036854775807) (hab2 : 2 * (2 * (a * b) * b) ≤ 9223372036854775807) (A0 : A 0 = 0) (A2 : A 2 = 0) (A3 : A 3 ≠ 0) (A4 : A 4 = 0) (B0 : B 0 ≠ 0) (B1 : B 1 = 0) (B2 : B 2 = 0) (B3 : B 3 = 0) (B4 : B 4 = 0) : stepOk A B ∧ dgZ (remZ A B (dN A) (dN B)) = -1 := by
  have dA := (dg3 A4 A3).2
  have dB := (dg0 B4 B3 B2 B1 B0).2
  have v0 : strikeZ A 3 B 0 0 = 0 := by rw [strike_N A3 (by decide), A0]; grind
  have v2 : strikeZ A 3 B 0 2 = 0 := by rw [strike_N A3 (by decide), A2]; grind
  have v3 : strikeZ A 3 B 0 3 = 0 := by rw [strike_Y A3 B0 (by decide), show 3 - (3 - 0) = 0 from rfl]; grind
  have v4 : strikeZ A 3 B 0 4 = 0 := by rw [strike_N A3 (by decide), A4]; grind
  generalize hV : strikeZ A 3 B 0 = V at v0 v2 v3 v4
  have u0 := (low5_z V (by decide)).mpr v0
  have u2 := (low5_z V (by decide)).mpr v2
  have u3 := (low5_z V (by decide)).mpr v3
  have u4 := (low5_z V (by decide)).mpr v4
  have key : dgZ (low5 (strikeZ (low5 V) 1 B 0)) = -1 ∧ (low5 V 1 = 0 → dgZ (low5 V) = -1) := by
    by_cases c : low5 V 1 = 0
    · rw [strike_0 c]
      have z := dgm u4 u3 u2 c u0
      exact ⟨dgm ((low5_z _ (by decide)).mpr u4) ((low5_z _ (by decide)).mpr u3) ((low5_z _ (by decide)).mpr u2) ((low5_z _ (by decide)).mpr c) ((low5_z _ (by decide)).mpr u0), fun _ => z⟩
    · have t0 : strikeZ (low5 V) 1 B 0 0 = 0 := by rw [strike_N c (by decide), u0]; grind
      have t1 : strikeZ (low5 V) 1 B 0 1 = 0 := by rw [strike_Y c B0 (by decide)]; grind
      have t2 : strikeZ (low5 V) 1 B 0 2 = 0 := by rw [strike_N c (by decide), u2]; grind
      have t3 : strikeZ (low5 V) 1 B 0 3 = 0 := by rw [strike_N c (by decide), u3]; grind
      have t4 : strikeZ (low5 V) 1 B 0 4 = 0 := by rw [strike_N c (by decide), u4]; grind
      exact ⟨dgm ((low5_z _ (by decide)).mpr t4) ((low5_z _ (by decide)).mpr t3) ((low5_z _ (by decide)).mpr t2) ((low5_z _ (by decide)).mpr t1) ((low5_z _ (by decide)).mpr t0), fun q => absurd q c⟩
  have hr : remZ A B 3 0 = low5 (strikeZ (low5 V) 1 B 0) := by
    rw [← hV]
    exact if_pos (by decide)
  refine ⟨⟨fun j hj => bd_of (hA j hj) ha, fun j hj => bd_of (hB j hj) hb, ?_, ?_, ?_⟩, ?_⟩
  · rw [dA, dB]; exact Or.inr (Or.inr (Or.inr (Or.inr (Or.inl ⟨rfl, rfl⟩))))
  · rw [dA, dB]; exact remOk_of hA hB (by decide) (by decide) A3 B0 ha hb hab (fun _ => hab2)
  · rw [dA, dB]
    unfold dropOk
    rw [if_pos (by decide), hV]
    by_cases c : low5 V (3 - 2) = 0
    · rw [if_pos c]
      exact dg_lt0 (key.2 c) 0 (by decide)
    · rw [if_neg c]
      exact ⟨(dg1 u4 u3 u2 c).1, dg_lt0 key.1 0 (by decide)⟩
  · rw [dA, dB, hr]; exact key.1
theorem S41 (hA : ∀ j, j < 5 → (A j).natAbs ≤ a) (hB : ∀ j, j < 5 → (B j).natAbs ≤ b) (ha : a ≤ 9223372036854775807) (hb : b ≤ 9223372036854775807) (hab : 2 * (a * b) ≤ 9223372036854775807) (hab2 : 2 * (2 * (a * b) * b) ≤ 9223372036854775807) (A1 : A 1 = 0) (A3 : A 3 = 0) (A4 : A 4 ≠ 0) (B0 : B 0 = 0) (B1 : B 1 ≠ 0) (B2 : B 2 = 0) (B3 : B 3 = 0) (B4 : B 4 = 0) : stepOk A B ∧ (remZ A B (dN A) (dN B)) 0 = (A 0).sign ∧ (remZ A B (dN A) (dN B)) 1 = 0 ∧ (remZ A B (dN A) (dN B)) 2 = 0 ∧ (remZ A B (dN A) (dN B)) 3 = 0 ∧ (remZ A B (dN A) (dN B)) 4 = 0 := by
  have dA := (dg4 A4).2
  have dB := (dg1 B4 B3 B2 B1).2
  have v0 : strikeZ A 4 B 1 0 = (B 1).sign * (A 0 * B 1) := strike_N A4 (by decide)
  have v1 : strikeZ A 4 B 1 1 = 0 := by rw [strike_N A4 (by decide), A1]; grind
  have v3 : strikeZ A 4 B 1 3 = 0 := by rw [strike_Y A4 B1 (by decide), A3, show 3 - (4 - 1) = 0 from rfl, B0]; grind
  have v4 : strikeZ A 4 B 1 4 = 0 := by rw [strike_Y A4 B1 (by decide), show 4 - (4 - 1) = 1 from rfl]; grind
  generalize hV : strikeZ A 4 B 1 = V at v0 v1 v3 v4
  have u1 := (low5_z V (by decide)).mpr v1
  have u3 := (low5_z V (by decide)).mpr v3
  have u4 := (low5_z V (by decide)).mpr v4
  have u0 : (low5 V 0).sign = (A 0).sign := by
    rw [low5_sign _ (by decide), v0, Int.sign_mul, Int.sign_mul, Int.sign_sign]
    have := sg_sq B1
    grind
  generalize hW : strikeZ (low5 V) 2 B 1 = W
  have key : W 1 = 0 ∧ W 2 = 0 ∧ W 3 = 0 ∧ W 4 = 0 ∧ (W 0).sign = (A 0).sign := by
    rw [← hW]
    by_cases c : low5 V 2 = 0
    · rw [strike_0 c]
      exact ⟨u1, c, u3, u4, u0⟩
    · refine ⟨by rw [strike_Y c B1 (by decide), u1, show 1 - (2 - 1) = 0 from rfl, B0]; grind, by rw [strike_Y c B1 (by decide), show 2 - (2 - 1) = 1 from rfl]; grind, by rw [strike_N c (by decide), u3]; grind, by rw [strike_N c (by decide), u4]; grind, ?_⟩
      rw [strike_N c (by decide), Int.sign_mul, Int.sign_mul, Int.sign_sign, u0]
      have := sg_sq B1
      grind
  obtain ⟨w1, w2, w3, w4, w0⟩ := key
  have x1 := (low5_z W (by decide)).mpr w1
  have x2 := (low5_z W (by decide)).mpr w2
  have x3 := (low5_z W (by decide)).mpr w3
  have x4 := (low5_z W (by decide)).mpr w4
  have x0 : low5 W 0 = (A 0).sign := by
    rw [low5_one (by decide) (all5 (fun q => absurd rfl q) (fun _ => w1) (fun _ => w2) (fun _ => w3) (fun _ => w4))]
    exact w0
  have hr : remZ A B 4 1 = low5 W := by
    rw [← hW, ← hV]
    exact if_pos (by decide)
  refine ⟨⟨fun j hj => bd_of (hA j hj) ha, fun j hj => bd_of (hB j hj) hb, ?_, ?_, ?_⟩, ?_⟩
  · rw [dA, dB]; exact Or.inr (Or.inr (Or.inr (Or.inr (Or.inr ⟨rfl, rfl⟩))))
  · rw [dA, dB]; exact remOk_of hA hB (by decide) (by decide) A4 B1 ha hb hab (fun _ => hab2)
  · rw [dA, dB]
    unfold dropOk
    rw [if_pos (by decide), hV]
    by_cases c : low5 V (4 - 2) = 0
    · rw [if_pos c]
      exact dg_lt1 u4 u3 c u1 (by decide) (by decide)
    · rw [if_neg c]
      refine ⟨(dg2 u4 u3 c).1, ?_⟩
      rw [show (4 - 2 : Nat) = 2 from rfl, hW]
      exact dg_lt1 x4 x3 x2 x1 (by decide) (by decide)
  · rw [dA, dB, hr]; exact ⟨x0, x1, x2, x3, x4⟩
end
