/-! ===== numbers: the reference's counts, by signs ===== -/
def si (x : Int) : Int32 := if x ≤ 0 then (if 0 ≤ x then 0 else -1) else 1
theorem si_p {x : Int} (h : 0 < x) : si x = 1 := if_neg (by omega)
theorem si_n {x : Int} (h : x < 0) : si x = -1 := (if_pos (by omega)).trans (if_neg (by omega))
theorem si_0 : si 0 = 0 := rfl
theorem si_c (x : Int) : (0 < x ∧ si x = 1 ∧ x.sign = 1) ∨ (x = 0 ∧ si x = 0 ∧ x.sign = 0) ∨ (x < 0 ∧ si x = -1 ∧ x.sign = -1) := by
  rcases Int.lt_trichotomy x 0 with h | h | h
  · exact Or.inr (Or.inr ⟨h, si_n h, Int.sign_eq_neg_one_iff_neg.mpr h⟩)
  · subst h
    exact Or.inr (Or.inl ⟨rfl, rfl, rfl⟩)
  · exact Or.inl ⟨h, si_p h, Int.sign_eq_one_iff_pos.mpr h⟩
theorem si_z {x : Int} : si x = 0 ↔ x = 0 := by
  rcases si_c x with ⟨h, e, -⟩ | ⟨h, e, -⟩ | ⟨h, e, -⟩
  · rw [e]; exact ⟨fun q => absurd q (by decide), fun q => absurd q (by omega)⟩
  · rw [e]; exact ⟨fun _ => h, fun _ => rfl⟩
  · rw [e]; exact ⟨fun q => absurd q (by decide), fun q => absurd q (by omega)⟩
theorem si_mul (x y : Int) : si (x * y) = si x * si y := by
  have s := Int.sign_mul x y
  rcases si_c x with ⟨-, e, f⟩ | ⟨-, e, f⟩ | ⟨-, e, f⟩ <;> rcases si_c y with ⟨-, e2, f2⟩ | ⟨-, e2, f2⟩ | ⟨-, e2, f2⟩ <;> rw [f, f2] at s <;> rw [e, e2] <;> rcases si_c (x * y) with ⟨-, e3, f3⟩ | ⟨-, e3, f3⟩ | ⟨-, e3, f3⟩ <;> rw [f3] at s <;> first | exact e3 | exact absurd s (by decide)
theorem si_ng (x : Int) : si (-x) = -si x := by
  rcases si_c x with ⟨h, e, -⟩ | ⟨h, e, -⟩ | ⟨h, e, -⟩
  · rw [e, si_n (by omega)]
  · rw [e, h]; rfl
  · rw [e, si_p (by omega)]; rfl
theorem si_pm {x : Int} (h : x ≠ 0) : si x = 1 ∨ si x = -1 := by
  rcases si_c x with ⟨-, e, -⟩ | ⟨q, -, -⟩ | ⟨-, e, -⟩
  · exact Or.inl e
  · exact absurd q h
  · exact Or.inr e
theorem si_eq {x y : Int} (h : x.sign = y.sign) : si x = si y := by
  rcases si_c x with ⟨-, e, f⟩ | ⟨-, e, f⟩ | ⟨-, e, f⟩ <;> rcases si_c y with ⟨-, e2, f2⟩ | ⟨-, e2, f2⟩ | ⟨-, e2, f2⟩ <;> rw [f, f2] at h <;> rw [e, e2] <;> exact absurd h (by decide)
theorem sn_si {x : Int} (h : bdZ x) : snM (lZ x) = si x := by
  unfold snM si
  by_cases c : x ≤ 0
  · rw [if_pos ((lZ_le0 h).mpr c), if_pos c]
    by_cases c2 : 0 ≤ x
    · rw [if_pos ((lZ_ge0 h).mpr c2), if_pos c2]
    · rw [if_neg (fun q => c2 ((lZ_ge0 h).mp q)), if_neg c2]
  · rw [if_neg (fun q => c ((lZ_le0 h).mp q)), if_neg c]
theorem si_64 (x : Int) : (si x).toInt64 = lZ x.sign := by
  rcases si_c x with ⟨-, e, f⟩ | ⟨-, e, f⟩ | ⟨-, e, f⟩ <;> rw [e, f] <;> decide
theorem sg_si {x : Int} (h : bdZ x) : sgB (lZ x) = if x < 0 then 1 else 0 := by
  unfold sgB
  by_cases c : 0 ≤ x
  · rw [if_pos ((lZ_ge0 h).mpr c), if_neg (by omega)]
  · rw [if_neg (fun q => c ((lZ_ge0 h).mp q)), if_pos (by omega)]
def twS (a b c : Int32) (t : T3) : T3 := if a = 0 then (t.1 + (if 0 ≤ b * c then 0 else 1), t.2.1 + 0, t.2.2 + (if b * c ≤ 0 then 0 else 1)) else if 0 ≤ a * c then (t.1 + (if 0 ≤ a * b then 0 else 2), t.2.1 + 0, t.2.2 + (if a * b ≤ 0 then 0 else 2)) else (t.1 + 1, t.2.1 + 0, t.2.2 + 1)
theorem ifz {α : Type} {x : Int} (h : bdZ x) (u v : α) : (if lZ x = 0 then u else v) = if si x = 0 then u else v := by
  by_cases c : x = 0
  · rw [if_pos ((lZ_0 h).mpr c), if_pos (si_z.mpr c)]
  · rw [if_neg (fun q => c ((lZ_0 h).mp q)), if_neg (fun q => c (si_z.mp q))]
theorem tw_S {a b c : Int} {t : T3} (ha : bdZ a) (hb : bdZ b) (hc : bdZ c) : twM (lZ a) (lZ b) (lZ c) t = twS (si a) (si b) (si c) t := by
  unfold twM twS
  rw [ifz ha, sn_si ha, sn_si hb, sn_si hc]
def sqsS (a b c : Int32) (i : Prop) [Decidable i] (t : T3) : T3 := if a = 0 then (if b = 0 then t else sqM (-b * c) t) else if i then (if 0 ≤ a * c then sqM (-b * a) (sqM (-b * a) t) else sqM 1 (sqM (-1) t)) else (t.1 + 2, t.2.1 + 0, t.2.2 + 2)
theorem sqs_S {a b c : Int} {t : T3} (ha : bdZ a) (hb : bdZ b) (hc : bdZ c) (hi : bdZ (b * b - 4 * a * c)) : sqsM (lZ a) (lZ b) (lZ c) t = sqsS (si a) (si b) (si c) (0 ≤ b * b - 4 * a * c) t := by
  unfold sqsM sqsS
  rw [ifz ha, ifz hb, sn_si ha, sn_si hb, sn_si hc]
  have e : lZ b * lZ b - 4 * lZ a * lZ c = lZ (b * b - 4 * a * c) := by
    rw [show (4 : Int64) = lZ 4 by decide, lZ_mul, lZ_mul, lZ_mul, lZ_sub]
  rw [e]
  have f : ∀ u v : T3, (if 0 ≤ lZ (b * b - 4 * a * c) then u else v) = if 0 ≤ b * b - 4 * a * c then u else v := fun u v => by
    by_cases q : 0 ≤ b * b - 4 * a * c
    · rw [if_pos ((lZ_ge0 hi).mpr q), if_pos q]
    · rw [if_neg (fun y => q ((lZ_ge0 hi).mp y)), if_neg q]
  rw [f]
def thS (b δ d : Int32) : Int32 × Int32 := paM d (paM (if b = 0 then -d else δ * b) (paM (if b = 0 then 1 else b) (0, 1)))
theorem th_S {a b c d : Int} (hb : bdZ b) (hd : bdZ d) (h : bdZ (b * c - a * d)) : thM (lZ a) (lZ b) (lZ c) (lZ d) = thS (si b) (si (b * c - a * d)) (si d) := by
  unfold thM thS
  rw [ifz hb, ifz hb, sn_si hb, sn_si hd, lZ_mul, lZ_mul, lZ_sub, sn_si h]
def foS (a0 a1 a3 β γ : Int32) : Int32 × Int32 := if a3 = 0 then paM a0 (paM a1 (paM (-a1) (paM 1 (0, 1)))) else paM a0 (paM (if β = 0 then -a3 * a0 else γ * β) (paM (if β = 0 then 1 else β * a3) (paM a3 (0, 1))))
theorem fo_S {A : Nat → Int64} {b : Nat → Int} (e0 : A 0 = lZ (b 0)) (e1 : A 1 = lZ (b 1)) (e2 : A 2 = lZ (b 2)) (e3 : A 3 = lZ (b 3)) (e4 : A 4 = lZ (b 4)) (h0 : bdZ (b 0)) (h1 : bdZ (b 1)) (h3 : bdZ (b 3)) (hB : bdZ (b 3 * b 2 - b 4 * b 1)) (hC : bdZ ((b 3 * b 2 - b 4 * b 1) * b 1 - b 3 * b 3 * b 0)) : foM A = foS (si (b 0)) (si (b 1)) (si (b 3)) (si (b 3 * b 2 - b 4 * b 1)) (si ((b 3 * b 2 - b 4 * b 1) * b 1 - b 3 * b 3 * b 0)) := by
  have f1 : foB A = lZ (b 3 * b 2 - b 4 * b 1) := by
    unfold foB
    rw [e3, e2, e4, e1, lZ_mul, lZ_mul, lZ_sub]
  have f2 : foC A = lZ ((b 3 * b 2 - b 4 * b 1) * b 1 - b 3 * b 3 * b 0) := by
    unfold foC
    rw [f1, e3, e1, e0, lZ_mul, lZ_mul, lZ_mul, lZ_sub]
  unfold foM foS
  rw [f1, f2, e0, e1, e3, ifz h3, ifz hB, ifz hB, sn_si h0, sn_si h1, sn_si h3, sn_si hB, sn_si hC]
/-- what is scaled by a sign -/
theorem mul_S {A : Nat → Int64} {b : Nat → Int} {d k : Nat} (ed : A d = lZ (b d)) (hd : bdZ (b d)) (ek : A k = lZ (b k)) : mulA A (snM (A d)) k = lZ (b k * (b d).sign) := by
  unfold mulA
  rw [ed, ek, sn_si hd, si_64, lZ_mul]
theorem si_sg (x y : Int) : si (x * y.sign) = si x * si y := by
  rw [si_mul]
  congr 1
  exact si_eq Int.sign_sign
theorem ab_sg {x y : Int} {a : Nat} (h : x.natAbs ≤ a) : (x * y.sign).natAbs ≤ a := by
  rw [Int.natAbs_mul]
  have : y.sign.natAbs ≤ 1 := by
    rcases Int.sign_trichotomy y with q | q | q <;> rw [q] <;> decide
  have := Nat.mul_le_mul h this
  omega
theorem ap3_S {A : Nat → Int64} {b : Nat → Int} (e : ∀ k, k < 5 → A k = lZ (b k)) (hb : bdN 130000 b) (h3 : b 3 ≠ 0) : apC A 3 = thS (si (b 2) * si (b 3)) (si (b 2 * b 1 - b 3 * b 0)) (si (b 0) * si (b 3)) := by
  have q : ∀ k, k < 5 → (b k * (b 3).sign).natAbs ≤ 130000 := fun k hk => ab_sg (hb k hk)
  have hd : bdZ (b 3) := bd_of (hb 3 (by decide)) (by decide)
  unfold apC
  rw [if_pos rfl, mul_S (e 3 (by decide)) hd (e 3 (by decide)), mul_S (e 3 (by decide)) hd (e 2 (by decide)), mul_S (e 3 (by decide)) hd (e 1 (by decide)), mul_S (e 3 (by decide)) hd (e 0 (by decide))]
  rw [th_S (bd_of (q 2 (by decide)) (by decide)) (bd_of (q 0 (by decide)) (by decide)) (bd_of (ab_sub (ab_mul (q 2 (by decide)) (q 1 (by decide))) (ab_mul (q 3 (by decide)) (q 0 (by decide)))) (by decide)), si_sg, si_sg]
  have s := sg_sq h3
  rw [show b 2 * (b 3).sign * (b 1 * (b 3).sign) - b 3 * (b 3).sign * (b 0 * (b 3).sign) = b 2 * b 1 - b 3 * b 0 by grind]
theorem ap4_S {A : Nat → Int64} {b : Nat → Int} (e : ∀ k, k < 5 → A k = lZ (b k)) (hb : bdN 130000 b) (h4 : b 4 ≠ 0) : apC A 4 = foS (si (b 0) * si (b 4)) (si (b 1) * si (b 4)) (si (b 3) * si (b 4)) (si (b 3 * b 2 - b 4 * b 1)) (si ((b 3 * b 2 - b 4 * b 1) * b 1 - b 3 * b 3 * b 0) * si (b 4)) := by
  have q : ∀ k, k < 5 → (b k * (b 4).sign).natAbs ≤ 130000 := fun k hk => ab_sg (hb k hk)
  have hd : bdZ (b 4) := bd_of (hb 4 (by decide)) (by decide)
  have s := sg_sq h4
  have eB : b 3 * (b 4).sign * (b 2 * (b 4).sign) - b 4 * (b 4).sign * (b 1 * (b 4).sign) = b 3 * b 2 - b 4 * b 1 := by grind
  have eC : (b 3 * b 2 - b 4 * b 1) * (b 1 * (b 4).sign) - b 3 * (b 4).sign * (b 3 * (b 4).sign) * (b 0 * (b 4).sign) = ((b 3 * b 2 - b 4 * b 1) * b 1 - b 3 * b 3 * b 0) * (b 4).sign := by grind
  have nB : (b 3 * b 2 - b 4 * b 1).natAbs ≤ 130000 * 130000 + 130000 * 130000 := ab_sub (ab_mul (hb 3 (by decide)) (hb 2 (by decide))) (ab_mul (hb 4 (by decide)) (hb 1 (by decide)))
  have nC : ((b 3 * b 2 - b 4 * b 1) * b 1 - b 3 * b 3 * b 0).natAbs ≤ (130000 * 130000 + 130000 * 130000) * 130000 + 130000 * 130000 * 130000 := ab_sub (ab_mul nB (hb 1 (by decide))) (ab_mul (ab_mul (hb 3 (by decide)) (hb 3 (by decide))) (hb 0 (by decide)))
  unfold apC
  rw [if_neg (by decide)]
  rw [fo_S (b := fun k => b k * (b 4).sign) ((fill5_at (by decide)).trans (mul_S (e 4 (by decide)) hd (e 0 (by decide)))) ((fill5_at (by decide)).trans (mul_S (e 4 (by decide)) hd (e 1 (by decide)))) ((fill5_at (by decide)).trans (mul_S (e 4 (by decide)) hd (e 2 (by decide)))) ((fill5_at (by decide)).trans (mul_S (e 4 (by decide)) hd (e 3 (by decide)))) ((fill5_at (by decide)).trans (mul_S (e 4 (by decide)) hd (e 4 (by decide)))) (bd_of (q 0 (by decide)) (by decide)) (bd_of (q 1 (by decide)) (by decide)) (bd_of (q 3 (by decide)) (by decide)) (by rw [eB]; exact bd_of nB (by decide)) (by rw [eB, eC]; exact bd_of (ab_sg nC) (by decide))]
  rw [eB, eC, si_sg, si_sg, si_sg, si_sg]
