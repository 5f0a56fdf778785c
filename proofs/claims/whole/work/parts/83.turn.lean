/-! ===== numbers: the turned form ===== -/
def prZ (s : Int) (P : Nat → Int) : Nat → Int := fun k => match k with
  | 0 => P 0
  | 1 => P 1 + s * P 0
  | 2 => P 2 + s * P 1
  | 3 => P 3 + s * P 2
  | 4 => P 4 + s * P 3
  | _ => 0
theorem pr_L {P : Nat → Int64} {p : Nat → Int} {b : Int32} {s : Int} (h : ∀ k, k < 5 → P k = lZ (p k)) (hb : b.toInt64 = lZ s) : ∀ k, k < 5 → prM b P k = lZ (prZ s p k) := by
  refine all5 ?_ ?_ ?_ ?_ ?_
  · show P 0 + 0 = lZ (p 0)
    rw [h 0 (by decide), Int64.add_zero]
  · show P 1 + b.toInt64 * P 0 = lZ (p 1 + s * p 0)
    rw [h 0 (by decide), h 1 (by decide), hb, lZ_mul, lZ_add]
  · show P 2 + b.toInt64 * P 1 = lZ (p 2 + s * p 1)
    rw [h 1 (by decide), h 2 (by decide), hb, lZ_mul, lZ_add]
  · show P 3 + b.toInt64 * P 2 = lZ (p 3 + s * p 2)
    rw [h 2 (by decide), h 3 (by decide), hb, lZ_mul, lZ_add]
  · show P 4 + b.toInt64 * P 3 = lZ (p 4 + s * p 3)
    rw [h 3 (by decide), h 4 (by decide), hb, lZ_mul, lZ_add]
def mlZ (j : Nat) : Nat → Nat → (Nat → Int) → Nat → Int
  | 0, _, p => p
  | r + 1, i, p => mlZ j r (i + 1) (prZ (if j ≤ i then -1 else 1) p)
theorem ml_L {j : Nat} (hj : j ≤ 4) : ∀ (r i : Nat) (P : Nat → Int64) (p : Nat → Int), i + r ≤ 4 → (∀ k, k < 5 → P k = lZ (p k)) → ∀ k, k < 5 → mltR j r i P k = lZ (mlZ j r i p k)
  | 0, _, _, _, _, h => h
  | r + 1, i, P, p, hi, h => by
    rw [mltR, mlZ]
    refine ml_L hj r (i + 1) _ _ (by omega) (pr_L h ?_)
    by_cases c : j ≤ i
    · rw [if_pos c, if_pos (by rw [Int32.le_iff_toInt_le, nI_toInt (by omega), nI_toInt (by omega)]; omega)]
      decide
    · rw [if_neg c, if_neg (by rw [Int32.le_iff_toInt_le, nI_toInt (by omega), nI_toInt (by omega)]; omega)]
      decide
def trZ (z : Nat → Int) (d : Nat) : Nat → Nat → (Nat → Int) → Nat → Int
  | 0, _, t => t
  | r + 1, j, t => trZ z d r (j + 1) (fun k => t k + mlZ j d 0 (fun k => if k = 0 then z j else 0) k)
theorem tr_L {Z : Nat → Int64} {z : Nat → Int} {d : Nat} (hd : d ≤ 4) (e : ∀ k, k < 5 → Z k = lZ (z k)) : ∀ (r j : Nat) (T Pr : Nat → Int64) (t : Nat → Int), j + r ≤ 5 → (∀ k, k < 5 → T k = lZ (t k)) → ∀ k, k < 5 → (trR Z d r j T Pr).1 k = lZ (trZ z d r j t k)
  | 0, _, _, _, _, _, h => h
  | r + 1, j, T, Pr, t, hj, h => by
    rw [trR, trZ]
    refine tr_L hd e r (j + 1) _ _ _ (by omega) (fun k hk => ?_)
    have h1 : ∀ k, k < 5 → trP Z Pr d j k = lZ (mlZ j d 0 (fun k => if k = 0 then z j else 0) k) := by
      unfold trP
      refine ml_L (by omega) d 0 _ _ (by omega) (fun k hk => ?_)
      rw [fill5_at hk]
      unfold stZ
      by_cases c : k = 0
      · rw [if_pos c, if_pos c, e j (by omega)]
      · rw [if_neg c, if_neg c]
        rfl
    unfold adP
    rw [fill5_at hk, h k hk, h1 k hk, lZ_add]
def tdZ (z : Nat → Int) : Nat → Int := trZ z (dN z) (dN z + 1) 0 (fun _ => 0)
theorem tu_L {Z T0 Pr : Nat → Int64} {z : Nat → Int} (e : ∀ k, k < 5 → Z k = lZ (z k)) (hb : bdN 130000 z) : ∀ k, k < 5 → tuZ Z T0 Pr k = lZ (tdZ z k) := fun k hk => by
  unfold tuZ tuR tdZ
  rw [fill5_at hk, dgN_b e hb]
  refine tr_L (dN_le z) e _ _ _ _ _ (by have := dN_le z; omega) (fun k hk => ?_) k hk
  rw [fill5_at hk]
  rfl
theorem td_0 {z : Nat → Int} (h : dN z = 0) : tdZ z 0 = 1 * z 0 ∧ tdZ z 1 = 0 ∧ tdZ z 2 = 0 ∧ tdZ z 3 = 0 ∧ tdZ z 4 = 0 := by
  unfold tdZ
  rw [h]
  refine ⟨?_, ?_, ?_, ?_, ?_⟩ <;> simp [trZ, mlZ, prZ] <;> omega
theorem td_1 {z : Nat → Int} (h : dN z = 1) : tdZ z 0 = 1 * z 0 + 1 * z 1 ∧ tdZ z 1 = 0 - 1 * z 0 + 1 * z 1 ∧ tdZ z 2 = 0 ∧ tdZ z 3 = 0 ∧ tdZ z 4 = 0 := by
  unfold tdZ
  rw [h]
  refine ⟨?_, ?_, ?_, ?_, ?_⟩ <;> simp [trZ, mlZ, prZ] <;> omega
theorem td_2 {z : Nat → Int} (h : dN z = 2) : tdZ z 0 = 1 * z 0 + 1 * z 1 + 1 * z 2 ∧ tdZ z 1 = 0 - 2 * z 0 + 2 * z 2 ∧ tdZ z 2 = 1 * z 0 - 1 * z 1 + 1 * z 2 ∧ tdZ z 3 = 0 ∧ tdZ z 4 = 0 := by
  unfold tdZ
  rw [h]
  refine ⟨?_, ?_, ?_, ?_, ?_⟩ <;> simp [trZ, mlZ, prZ] <;> omega
theorem td_3 {z : Nat → Int} (h : dN z = 3) : tdZ z 0 = 1 * z 0 + 1 * z 1 + 1 * z 2 + 1 * z 3 ∧ tdZ z 1 = 0 - 3 * z 0 - 1 * z 1 + 1 * z 2 + 3 * z 3 ∧ tdZ z 2 = 3 * z 0 - 1 * z 1 - 1 * z 2 + 3 * z 3 ∧ tdZ z 3 = 0 - 1 * z 0 + 1 * z 1 - 1 * z 2 + 1 * z 3 ∧ tdZ z 4 = 0 := by
  unfold tdZ
  rw [h]
  refine ⟨?_, ?_, ?_, ?_, ?_⟩ <;> simp [trZ, mlZ, prZ] <;> omega
theorem td_4 {z : Nat → Int} (h : dN z = 4) : tdZ z 0 = 1 * z 0 + 1 * z 1 + 1 * z 2 + 1 * z 3 + 1 * z 4 ∧ tdZ z 1 = 0 - 4 * z 0 - 2 * z 1 + 2 * z 3 + 4 * z 4 ∧ tdZ z 2 = 6 * z 0 - 2 * z 2 + 6 * z 4 ∧ tdZ z 3 = 0 - 4 * z 0 + 2 * z 1 - 2 * z 3 + 4 * z 4 ∧ tdZ z 4 = 1 * z 0 - 1 * z 1 + 1 * z 2 - 1 * z 3 + 1 * z 4 := by
  unfold tdZ
  rw [h]
  refine ⟨?_, ?_, ?_, ?_, ?_⟩ <;> simp [trZ, mlZ, prZ] <;> omega
