/-! ===== numbers: counts out of the signs' numbers (0; 1: above 0; 2: below) ===== -/
def cd (x : Int) : Nat := if x = 0 then 0 else if 0 < x then 1 else 2
def mulc (a b : Nat) : Nat := if a = 0 then 0 else if b = 0 then 0 else if a = b then 1 else 2
def negc (a : Nat) : Nat := if a = 0 then 0 else if a = 1 then 2 else 1
abbrev N3 : Type := Nat × Nat × Nat
def ad3 (x y : N3) : N3 := (x.1 + y.1, x.2.1 + y.2.1, x.2.2 + y.2.2)
def twC (a b c : Nat) : N3 := if a = 0 then (if mulc b c = 2 then 1 else 0, 0, if mulc b c = 1 then 1 else 0) else if mulc a c = 2 then (1, 0, 1) else (if mulc a b = 2 then 2 else 0, 0, if mulc a b = 1 then 2 else 0)
def sqC (s : Nat) : N3 := if s = 2 then (0, 2, 0) else (1, 0, 1)
def sqsC (a b c : Nat) (i : Bool) : N3 := if a = 0 then (if b = 0 then (0, 0, 0) else sqC (negc (mulc b c))) else if i = true then (if mulc a c = 2 then (1, 2, 1) else ad3 (sqC (negc (mulc b a))) (sqC (negc (mulc b a)))) else (2, 0, 2)
def chC : List Nat → Nat → Nat → Nat
  | [], _, n => n
  | s :: L, l, n => chC L s (if s = l then n else n + 1)
def thC (b δ d : Nat) : Nat := chC [if b = 0 then 1 else b, if b = 0 then negc d else mulc δ b, d] 1 0
def foD (a0 a1 a3 β γ : Nat) : Nat := if a3 = 0 then chC [1, negc a1, a1, a0] 1 0 else chC [a3, if β = 0 then 1 else mulc β a3, if β = 0 then negc (mulc a3 a0) else mulc γ β, a0] 1 0
def f3 (c : Nat) : N3 := (c, 0, 3 - c)
def f4 (c : Nat) : N3 := (c, 0, 4 - c)
def G3 (s3 s4 : Nat) : N3 := if s3 = 0 then (0, 4, 0) else ad3 (0, 3, 0) (if s4 = 0 then (0, 0, 0) else twC 0 s4 s3)
def G2 (s2 s3 s4 : Nat) (i : Bool) : N3 := if s2 = 0 then G3 s3 s4 else ad3 (0, 2, 0) (if s3 = 0 then sqsC 0 s4 s2 i else twC s4 s3 s2)
def G1 (s1 s2 s3 s4 β : Nat) (i : Bool) : N3 := if s1 = 0 then G2 s2 s3 s4 i else ad3 (0, 1, 0) (if s4 = 0 then (if s2 = 0 then sqsC 0 s3 s1 i else twC s3 s2 s1) else if β = 0 then ad3 (twC 0 (mulc s4 s2) (mulc s1 s4)) (sqC (negc (mulc s2 s4))) else f3 (thC (mulc s3 s4) β (mulc s1 s4)))
def Gc (s0 s1 s2 s3 s4 β γ δ : Nat) (i : Bool) : N3 := if s0 = 0 then G1 s1 s2 s3 s4 β i else if s3 = 0 then (if s1 = 0 then sqsC s4 s2 s0 i else if s4 = 0 then twC s2 s1 s0 else f4 (foD (mulc s0 s4) (mulc s1 s4) 0 β (mulc γ s4))) else if γ = 0 then ad3 (twC (mulc s4 s1) (mulc s3 s1) (mulc s0 s3)) (sqC (negc (mulc s1 s3))) else if s4 = 0 then f3 (thC (mulc s2 s3) δ (mulc s0 s3)) else f4 (foD (mulc s0 s4) (mulc s1 s4) (mulc s3 s4) β (mulc γ s4))
def Gz (z : Nat → Int) : N3 := Gc (cd (z 0)) (cd (z 1)) (cd (z 2)) (cd (z 3)) (cd (z 4)) (cd (z 2 * z 3 - z 4 * z 1)) (cd (z 1 * (z 2 * z 3 - z 4 * z 1) - z 3 * (z 0 * z 3))) (cd (z 1 * z 2 - z 3 * z 0)) (decide (0 ≤ z 2 * z 2 - 4 * z 4 * z 0))
def enc (x : N3) : T3 := (nI x.1, nI x.2.1, nI x.2.2)
theorem cd_c (x : Int) : (si x = 1 ∧ cd x = 1) ∨ (si x = 0 ∧ cd x = 0) ∨ (si x = -1 ∧ cd x = 2) := by
  unfold cd
  rcases si_c x with ⟨h, e, -⟩ | ⟨h, e, -⟩ | ⟨h, e, -⟩
  · exact Or.inl ⟨e, by rw [if_neg (by omega), if_pos h]⟩
  · exact Or.inr (Or.inl ⟨e, by rw [if_pos h]⟩)
  · exact Or.inr (Or.inr ⟨e, by rw [if_neg (by omega), if_neg (by omega)]⟩)
theorem cd_2 {x : Int} (h : x ≠ 0) : (si x = 1 ∧ cd x = 1) ∨ (si x = -1 ∧ cd x = 2) := by
  rcases cd_c x with q | q | q
  · exact Or.inl q
  · exact absurd (si_z.mp q.1) h
  · exact Or.inr q
theorem cdz {x : Int} (h : x = 0) : cd x = 0 := if_pos h
theorem cdn {x : Int} (h : x ≠ 0) : ¬ cd x = 0 := by
  rcases cd_2 h with q | q <;> rw [q.2] <;> decide
theorem K_sq {z : Nat → Int} {Z A : Nat → Int64} (e : ∀ k, k < 5 → Z k = lZ (z k)) (hb : bdN 130000 z) (z3 : z 3 = 0) (z1 : z 1 = 0) (z0 : z 0 ≠ 0) (hn : z 2 ≠ 0 ∨ z 4 ≠ 0) : cntM Z A = enc (Gz z) := by
  have hl : loM Z = 0 := by unfold loM; rw [if_neg (fun y => z0 ((zB e hb (by decide)).mp y))]
  have s0 : shb z 0 0 = z 0 := rfl
  have s1 : shb z 0 1 = z 1 := rfl
  have s2 : shb z 0 2 = z 2 := rfl
  have s3 : shb z 0 3 = z 3 := rfl
  have s4 : shb z 0 4 = z 4 := rfl
  have hG : Gz z = sqsC (cd (z 4)) (cd (z 2)) (cd (z 0)) (decide (0 ≤ z 2 * z 2 - 4 * z 4 * z 0)) := by unfold Gz Gc; rw [if_neg (cdn z0), if_pos (cdz z3), if_pos (cdz z1)]
  rw [lo_m hl, cn_sq (t := (0, nI 0, 0)) (shb_e (A := A) (m := 0) e) (shb_b hb) z1 z3 hn, hG]
  simp only [s0, s1, s2, s3, s4]
  unfold sqsS
  by_cases hi : 0 ≤ z 2 * z 2 - 4 * z 4 * z 0
  · rw [if_pos hi, decide_eq_true hi]
    rcases cd_c (z 4) with ⟨a4, b4⟩ | ⟨a4, b4⟩ | ⟨a4, b4⟩ <;> rcases cd_c (z 2) with ⟨a2, b2⟩ | ⟨a2, b2⟩ | ⟨a2, b2⟩ <;> rcases cd_2 z0 with ⟨a0, b0⟩ | ⟨a0, b0⟩ <;> (simp only [a4, b4, a2, b2, a0, b0]; decide)
  · rw [if_neg hi, decide_eq_false hi]
    rcases cd_c (z 4) with ⟨a4, b4⟩ | ⟨a4, b4⟩ | ⟨a4, b4⟩ <;> rcases cd_c (z 2) with ⟨a2, b2⟩ | ⟨a2, b2⟩ | ⟨a2, b2⟩ <;> rcases cd_2 z0 with ⟨a0, b0⟩ | ⟨a0, b0⟩ <;> (simp only [a4, b4, a2, b2, a0, b0]; decide)
theorem K_0 {z : Nat → Int} {Z A : Nat → Int64} (e : ∀ k, k < 5 → Z k = lZ (z k)) (hb : bdN 130000 z) (z4 : z 4 = 0) (z3 : z 3 = 0) (z2 : z 2 = 0) (z1 : z 1 = 0) (z0 : z 0 ≠ 0) : cntM Z A = enc (Gz z) := by
  have hl : loM Z = 0 := by unfold loM; rw [if_neg (fun y => z0 ((zB e hb (by decide)).mp y))]
  have s0 : shb z 0 0 = z 0 := rfl
  have s1 : shb z 0 1 = z 1 := rfl
  have s2 : shb z 0 2 = z 2 := rfl
  have s3 : shb z 0 3 = z 3 := rfl
  have s4 : shb z 0 4 = z 4 := rfl
  have hG : Gz z = sqsC (cd (z 4)) (cd (z 2)) (cd (z 0)) (decide (0 ≤ z 2 * z 2 - 4 * z 4 * z 0)) := by unfold Gz Gc; rw [if_neg (cdn z0), if_pos (cdz z3), if_pos (cdz z1)]
  rw [lo_m hl, cn_0 (t := (0, nI 0, 0)) (shb_e (A := A) (m := 0) e) (shb_b hb) z1 z2 z3 z4, hG]
  unfold sqsC
  rw [if_pos (cdz z4), if_pos (cdz z2)]
  rfl
theorem K_tw {z : Nat → Int} {Z A : Nat → Int64} (e : ∀ k, k < 5 → Z k = lZ (z k)) (hb : bdN 130000 z) (z4 : z 4 = 0) (z3 : z 3 = 0) (z1 : z 1 ≠ 0) (z0 : z 0 ≠ 0) : cntM Z A = enc (Gz z) := by
  have hl : loM Z = 0 := by unfold loM; rw [if_neg (fun y => z0 ((zB e hb (by decide)).mp y))]
  have s0 : shb z 0 0 = z 0 := rfl
  have s1 : shb z 0 1 = z 1 := rfl
  have s2 : shb z 0 2 = z 2 := rfl
  have s3 : shb z 0 3 = z 3 := rfl
  have s4 : shb z 0 4 = z 4 := rfl
  have hG : Gz z = twC (cd (z 2)) (cd (z 1)) (cd (z 0)) := by unfold Gz Gc; rw [if_neg (cdn z0), if_pos (cdz z3), if_neg (cdn z1), if_pos (cdz z4)]
  rw [lo_m hl, cn_tw (t := (0, nI 0, 0)) (shb_e (A := A) (m := 0) e) (shb_b hb) z1 z3 z4, hG]
  simp only [s0, s1, s2, s3, s4]
  rcases cd_c (z 2) with ⟨a2, b2⟩ | ⟨a2, b2⟩ | ⟨a2, b2⟩ <;> rcases cd_2 z1 with ⟨a1, b1⟩ | ⟨a1, b1⟩ <;> rcases cd_2 z0 with ⟨a0, b0⟩ | ⟨a0, b0⟩ <;> (simp only [a2, b2, a1, b1, a0, b0]; decide)
theorem K_4a {z : Nat → Int} {Z A : Nat → Int64} (e : ∀ k, k < 5 → Z k = lZ (z k)) (hb : bdN 130000 z) (z4 : z 4 ≠ 0) (z3 : z 3 = 0) (z1 : z 1 ≠ 0) (z0 : z 0 ≠ 0) : cntM Z A = enc (Gz z) := by
  have hl : loM Z = 0 := by unfold loM; rw [if_neg (fun y => z0 ((zB e hb (by decide)).mp y))]
  have s0 : shb z 0 0 = z 0 := rfl
  have s1 : shb z 0 1 = z 1 := rfl
  have s2 : shb z 0 2 = z 2 := rfl
  have s3 : shb z 0 3 = z 3 := rfl
  have s4 : shb z 0 4 = z 4 := rfl
  have hG : Gz z = f4 (foD (mulc (cd (z 0)) (cd (z 4))) (mulc (cd (z 1)) (cd (z 4))) 0 (cd (z 2 * z 3 - z 4 * z 1)) (mulc (cd (z 1 * (z 2 * z 3 - z 4 * z 1) - z 3 * (z 0 * z 3))) (cd (z 4)))) := by unfold Gz Gc; rw [if_neg (cdn z0), if_pos (cdz z3), if_neg (cdn z1), if_neg (cdn z4)]
  rw [lo_m hl, cn_4 (t := (0, nI 0, 0)) (shb_e (A := A) (m := 0) e) (shb_b hb) z4 (Or.inr ⟨z3, z1⟩), hG]
  simp only [s0, s1, s2, s3, s4]
  unfold foS foD
  rw [show si (z 3) * si (z 4) = 0 by rw [si_z.mpr z3, Int32.zero_mul], if_pos rfl, if_pos rfl]
  rcases cd_2 z4 with ⟨a4, b4⟩ | ⟨a4, b4⟩ <;> rcases cd_2 z1 with ⟨a1, b1⟩ | ⟨a1, b1⟩ <;> rcases cd_2 z0 with ⟨a0, b0⟩ | ⟨a0, b0⟩ <;> (simp only [a4, b4, a1, b1, a0, b0]; decide)
theorem K_co {z : Nat → Int} {Z A : Nat → Int64} (e : ∀ k, k < 5 → Z k = lZ (z k)) (hb : bdN 130000 z) (z3 : z 3 ≠ 0) (z0 : z 0 ≠ 0) (hC : (z 1 * (z 2 * z 3 - z 4 * z 1) - z 3 * (z 0 * z 3)) = 0) : cntM Z A = enc (Gz z) := by
  have hl : loM Z = 0 := by unfold loM; rw [if_neg (fun y => z0 ((zB e hb (by decide)).mp y))]
  have s0 : shb z 0 0 = z 0 := rfl
  have s1 : shb z 0 1 = z 1 := rfl
  have s2 : shb z 0 2 = z 2 := rfl
  have s3 : shb z 0 3 = z 3 := rfl
  have s4 : shb z 0 4 = z 4 := rfl
  have hG : Gz z = ad3 (twC (mulc (cd (z 4)) (cd (z 1))) (mulc (cd (z 3)) (cd (z 1))) (mulc (cd (z 0)) (cd (z 3)))) (sqC (negc (mulc (cd (z 1)) (cd (z 3))))) := by unfold Gz Gc; rw [if_neg (cdn z0), if_neg (cdn z3), if_pos (cdz hC)]
  rw [lo_m hl, cn_co (t := (0, nI 0, 0)) (shb_e (A := A) (m := 0) e) (shb_b hb) z3 (by simp only [s0, s1, s2, s3, s4]; grind), hG]
  simp only [s0, s1, s2, s3, s4]
  rcases cd_c (z 4) with ⟨a4, b4⟩ | ⟨a4, b4⟩ | ⟨a4, b4⟩ <;> rcases cd_2 z3 with ⟨a3, b3⟩ | ⟨a3, b3⟩ <;> rcases cd_c (z 1) with ⟨a1, b1⟩ | ⟨a1, b1⟩ | ⟨a1, b1⟩ <;> rcases cd_2 z0 with ⟨a0, b0⟩ | ⟨a0, b0⟩ <;> (simp only [a4, b4, a3, b3, a1, b1, a0, b0]; decide)
theorem K_3 {z : Nat → Int} {Z A : Nat → Int64} (e : ∀ k, k < 5 → Z k = lZ (z k)) (hb : bdN 130000 z) (z4 : z 4 = 0) (z3 : z 3 ≠ 0) (z0 : z 0 ≠ 0) (hC : (z 1 * (z 2 * z 3 - z 4 * z 1) - z 3 * (z 0 * z 3)) ≠ 0) : cntM Z A = enc (Gz z) := by
  have hl : loM Z = 0 := by unfold loM; rw [if_neg (fun y => z0 ((zB e hb (by decide)).mp y))]
  have s0 : shb z 0 0 = z 0 := rfl
  have s1 : shb z 0 1 = z 1 := rfl
  have s2 : shb z 0 2 = z 2 := rfl
  have s3 : shb z 0 3 = z 3 := rfl
  have s4 : shb z 0 4 = z 4 := rfl
  have hG : Gz z = f3 (thC (mulc (cd (z 2)) (cd (z 3))) (cd (z 1 * z 2 - z 3 * z 0)) (mulc (cd (z 0)) (cd (z 3)))) := by unfold Gz Gc; rw [if_neg (cdn z0), if_neg (cdn z3), if_neg (cdn hC), if_pos (cdz z4)]
  rw [lo_m hl, cn_3 (t := (0, nI 0, 0)) (shb_e (A := A) (m := 0) e) (shb_b hb) z3 z4 (fun y => hC (by simp only [s0, s1, s2, s3, s4] at y; grind)), hG]
  simp only [s0, s1, s2, s3, s4]
  rw [show z 2 * z 1 - z 3 * z 0 = (z 1 * z 2 - z 3 * z 0) by grind]
  have hD : (z 1 * z 2 - z 3 * z 0) ≠ 0 := fun y => hC (by rw [z4]; have q : (z 1 * z 2 - z 3 * z 0) * z 3 = 0 := (by rw [y, Int.zero_mul]); grind)
  rcases cd_2 z3 with ⟨a3, b3⟩ | ⟨a3, b3⟩ <;> rcases cd_c (z 2) with ⟨a2, b2⟩ | ⟨a2, b2⟩ | ⟨a2, b2⟩ <;> rcases cd_2 hD with ⟨aD, bD⟩ | ⟨aD, bD⟩ <;> rcases cd_2 z0 with ⟨a0, b0⟩ | ⟨a0, b0⟩ <;> (simp only [a3, b3, a2, b2, aD, bD, a0, b0]; decide)
theorem K_4 {z : Nat → Int} {Z A : Nat → Int64} (e : ∀ k, k < 5 → Z k = lZ (z k)) (hb : bdN 130000 z) (z4 : z 4 ≠ 0) (z3 : z 3 ≠ 0) (z0 : z 0 ≠ 0) (hC : (z 1 * (z 2 * z 3 - z 4 * z 1) - z 3 * (z 0 * z 3)) ≠ 0) : cntM Z A = enc (Gz z) := by
  have hl : loM Z = 0 := by unfold loM; rw [if_neg (fun y => z0 ((zB e hb (by decide)).mp y))]
  have s0 : shb z 0 0 = z 0 := rfl
  have s1 : shb z 0 1 = z 1 := rfl
  have s2 : shb z 0 2 = z 2 := rfl
  have s3 : shb z 0 3 = z 3 := rfl
  have s4 : shb z 0 4 = z 4 := rfl
  have hG : Gz z = f4 (foD (mulc (cd (z 0)) (cd (z 4))) (mulc (cd (z 1)) (cd (z 4))) (mulc (cd (z 3)) (cd (z 4))) (cd (z 2 * z 3 - z 4 * z 1)) (mulc (cd (z 1 * (z 2 * z 3 - z 4 * z 1) - z 3 * (z 0 * z 3))) (cd (z 4)))) := by unfold Gz Gc; rw [if_neg (cdn z0), if_neg (cdn z3), if_neg (cdn hC), if_neg (cdn z4)]
  rw [lo_m hl, cn_4 (t := (0, nI 0, 0)) (shb_e (A := A) (m := 0) e) (shb_b hb) z4 (Or.inl ⟨z3, (fun y => hC (by simp only [s0, s1, s2, s3, s4] at y; grind))⟩), hG]
  simp only [s0, s1, s2, s3, s4]
  rw [show z 3 * z 2 - z 4 * z 1 = (z 2 * z 3 - z 4 * z 1) by grind]
  rw [show (z 2 * z 3 - z 4 * z 1) * z 1 - z 3 * z 3 * z 0 = (z 1 * (z 2 * z 3 - z 4 * z 1) - z 3 * (z 0 * z 3)) by grind]
  rcases cd_2 z4 with ⟨a4, b4⟩ | ⟨a4, b4⟩ <;> rcases cd_2 z3 with ⟨a3, b3⟩ | ⟨a3, b3⟩ <;> rcases cd_c (z 1) with ⟨a1, b1⟩ | ⟨a1, b1⟩ | ⟨a1, b1⟩ <;> rcases cd_2 z0 with ⟨a0, b0⟩ | ⟨a0, b0⟩ <;> rcases cd_c (z 2 * z 3 - z 4 * z 1) with ⟨aB, bB⟩ | ⟨aB, bB⟩ | ⟨aB, bB⟩ <;> rcases cd_2 hC with ⟨aC, bC⟩ | ⟨aC, bC⟩ <;> (simp only [a4, b4, a3, b3, a1, b1, a0, b0, aB, bB, aC, bC]; decide)
theorem K1_sq {z : Nat → Int} {Z A : Nat → Int64} (e : ∀ k, k < 5 → Z k = lZ (z k)) (hb : bdN 130000 z) (z4 : z 4 = 0) (z2 : z 2 = 0) (z1 : z 1 ≠ 0) (z0 : z 0 = 0) (z3 : z 3 ≠ 0) : cntM Z A = enc (Gz z) := by
  have hl : loM Z = 1 := by unfold loM; rw [if_pos ((zB e hb (by decide)).mpr z0), if_neg (fun y => z1 ((zB e hb (by decide)).mp y))]
  have s0 : shb z 1 0 = z 1 := rfl
  have s1 : shb z 1 1 = z 2 := rfl
  have s2 : shb z 1 2 = z 3 := rfl
  have s3 : shb z 1 3 = z 4 := rfl
  have s4 : shb z 1 4 = 0 := rfl
  have hG : Gz z = ad3 (0, 1, 0) (sqsC 0 (cd (z 3)) (cd (z 1)) (decide (0 ≤ z 2 * z 2 - 4 * z 4 * z 0))) := by unfold Gz Gc G1; rw [if_pos (cdz z0), if_neg (cdn z1), if_pos (cdz z4), if_pos (cdz z2)]
  rw [lo_m hl, cn_sq (t := (0, nI 1, 0)) (shb_e (A := A) (m := 1) e) (shb_b hb) z2 z4 (Or.inl z3), hG]
  simp only [s0, s1, s2, s3, s4]
  unfold sqsS sqsC
  rw [if_pos si_0, if_pos rfl, if_neg (fun y => z3 (si_z.mp y)), if_neg (cdn z3)]
  rcases cd_2 z3 with ⟨a3, b3⟩ | ⟨a3, b3⟩ <;> rcases cd_2 z1 with ⟨a1, b1⟩ | ⟨a1, b1⟩ <;> (simp only [a3, b3, a1, b1]; decide)
theorem K1_0 {z : Nat → Int} {Z A : Nat → Int64} (e : ∀ k, k < 5 → Z k = lZ (z k)) (hb : bdN 130000 z) (z4 : z 4 = 0) (z3 : z 3 = 0) (z2 : z 2 = 0) (z1 : z 1 ≠ 0) (z0 : z 0 = 0) : cntM Z A = enc (Gz z) := by
  have hl : loM Z = 1 := by unfold loM; rw [if_pos ((zB e hb (by decide)).mpr z0), if_neg (fun y => z1 ((zB e hb (by decide)).mp y))]
  have s0 : shb z 1 0 = z 1 := rfl
  have s1 : shb z 1 1 = z 2 := rfl
  have s2 : shb z 1 2 = z 3 := rfl
  have s3 : shb z 1 3 = z 4 := rfl
  have s4 : shb z 1 4 = 0 := rfl
  have hG : Gz z = ad3 (0, 1, 0) (sqsC 0 (cd (z 3)) (cd (z 1)) (decide (0 ≤ z 2 * z 2 - 4 * z 4 * z 0))) := by unfold Gz Gc G1; rw [if_pos (cdz z0), if_neg (cdn z1), if_pos (cdz z4), if_pos (cdz z2)]
  rw [lo_m hl, cn_0 (t := (0, nI 1, 0)) (shb_e (A := A) (m := 1) e) (shb_b hb) z2 z3 z4 rfl, hG]
  unfold sqsC
  rw [if_pos rfl, if_pos (cdz z3)]
  rfl
theorem K1_tw {z : Nat → Int} {Z A : Nat → Int64} (e : ∀ k, k < 5 → Z k = lZ (z k)) (hb : bdN 130000 z) (z4 : z 4 = 0) (z2 : z 2 ≠ 0) (z1 : z 1 ≠ 0) (z0 : z 0 = 0) : cntM Z A = enc (Gz z) := by
  have hl : loM Z = 1 := by unfold loM; rw [if_pos ((zB e hb (by decide)).mpr z0), if_neg (fun y => z1 ((zB e hb (by decide)).mp y))]
  have s0 : shb z 1 0 = z 1 := rfl
  have s1 : shb z 1 1 = z 2 := rfl
  have s2 : shb z 1 2 = z 3 := rfl
  have s3 : shb z 1 3 = z 4 := rfl
  have s4 : shb z 1 4 = 0 := rfl
  have hG : Gz z = ad3 (0, 1, 0) (twC (cd (z 3)) (cd (z 2)) (cd (z 1))) := by unfold Gz Gc G1; rw [if_pos (cdz z0), if_neg (cdn z1), if_pos (cdz z4), if_neg (cdn z2)]
  rw [lo_m hl, cn_tw (t := (0, nI 1, 0)) (shb_e (A := A) (m := 1) e) (shb_b hb) z2 z4 rfl, hG]
  simp only [s0, s1, s2, s3, s4]
  rcases cd_c (z 3) with ⟨a3, b3⟩ | ⟨a3, b3⟩ | ⟨a3, b3⟩ <;> rcases cd_2 z2 with ⟨a2, b2⟩ | ⟨a2, b2⟩ <;> rcases cd_2 z1 with ⟨a1, b1⟩ | ⟨a1, b1⟩ <;> (simp only [a3, b3, a2, b2, a1, b1]; decide)
theorem K1_co {z : Nat → Int} {Z A : Nat → Int64} (e : ∀ k, k < 5 → Z k = lZ (z k)) (hb : bdN 130000 z) (z4 : z 4 ≠ 0) (z1 : z 1 ≠ 0) (z0 : z 0 = 0) (hB : (z 2 * z 3 - z 4 * z 1) = 0) : cntM Z A = enc (Gz z) := by
  have hl : loM Z = 1 := by unfold loM; rw [if_pos ((zB e hb (by decide)).mpr z0), if_neg (fun y => z1 ((zB e hb (by decide)).mp y))]
  have s0 : shb z 1 0 = z 1 := rfl
  have s1 : shb z 1 1 = z 2 := rfl
  have s2 : shb z 1 2 = z 3 := rfl
  have s3 : shb z 1 3 = z 4 := rfl
  have s4 : shb z 1 4 = 0 := rfl
  have hG : Gz z = ad3 (0, 1, 0) (ad3 (twC 0 (mulc (cd (z 4)) (cd (z 2))) (mulc (cd (z 1)) (cd (z 4)))) (sqC (negc (mulc (cd (z 2)) (cd (z 4)))))) := by unfold Gz Gc G1; rw [if_pos (cdz z0), if_neg (cdn z1), if_neg (cdn z4), if_pos (cdz hB)]
  rw [lo_m hl, cn_co (t := (0, nI 1, 0)) (shb_e (A := A) (m := 1) e) (shb_b hb) z4 (by simp only [s0, s1, s2, s3, s4]; grind), hG]
  simp only [s0, s1, s2, s3, s4]
  rw [si_0, Int32.zero_mul]
  rcases cd_2 z4 with ⟨a4, b4⟩ | ⟨a4, b4⟩ <;> rcases cd_c (z 2) with ⟨a2, b2⟩ | ⟨a2, b2⟩ | ⟨a2, b2⟩ <;> rcases cd_2 z1 with ⟨a1, b1⟩ | ⟨a1, b1⟩ <;> (simp only [a4, b4, a2, b2, a1, b1]; decide)
theorem K1_3 {z : Nat → Int} {Z A : Nat → Int64} (e : ∀ k, k < 5 → Z k = lZ (z k)) (hb : bdN 130000 z) (z4 : z 4 ≠ 0) (z1 : z 1 ≠ 0) (z0 : z 0 = 0) (hB : (z 2 * z 3 - z 4 * z 1) ≠ 0) : cntM Z A = enc (Gz z) := by
  have hl : loM Z = 1 := by unfold loM; rw [if_pos ((zB e hb (by decide)).mpr z0), if_neg (fun y => z1 ((zB e hb (by decide)).mp y))]
  have s0 : shb z 1 0 = z 1 := rfl
  have s1 : shb z 1 1 = z 2 := rfl
  have s2 : shb z 1 2 = z 3 := rfl
  have s3 : shb z 1 3 = z 4 := rfl
  have s4 : shb z 1 4 = 0 := rfl
  have hG : Gz z = ad3 (0, 1, 0) (f3 (thC (mulc (cd (z 3)) (cd (z 4))) (cd (z 2 * z 3 - z 4 * z 1)) (mulc (cd (z 1)) (cd (z 4))))) := by unfold Gz Gc G1; rw [if_pos (cdz z0), if_neg (cdn z1), if_neg (cdn z4), if_neg (cdn hB)]
  rw [lo_m hl, cn_3 (t := (0, nI 1, 0)) (shb_e (A := A) (m := 1) e) (shb_b hb) z4 rfl (fun y => hB (by simp only [s0, s1, s2, s3, s4] at y; have q : z 4 * (z 2 * z 3 - z 4 * z 1) = 0 := (by grind); exact (Int.mul_eq_zero.mp q).resolve_left z4)), hG]
  simp only [s0, s1, s2, s3, s4]
  rw [show z 3 * z 2 - z 4 * z 1 = (z 2 * z 3 - z 4 * z 1) by grind]
  rcases cd_2 z4 with ⟨a4, b4⟩ | ⟨a4, b4⟩ <;> rcases cd_c (z 3) with ⟨a3, b3⟩ | ⟨a3, b3⟩ | ⟨a3, b3⟩ <;> rcases cd_2 z1 with ⟨a1, b1⟩ | ⟨a1, b1⟩ <;> rcases cd_2 hB with ⟨aB, bB⟩ | ⟨aB, bB⟩ <;> (simp only [a4, b4, a3, b3, a1, b1, aB, bB]; decide)
theorem K2_sq {z : Nat → Int} {Z A : Nat → Int64} (e : ∀ k, k < 5 → Z k = lZ (z k)) (hb : bdN 130000 z) (z3 : z 3 = 0) (z4 : z 4 ≠ 0) (z2 : z 2 ≠ 0) (z1 : z 1 = 0) (z0 : z 0 = 0) : cntM Z A = enc (Gz z) := by
  have hl : loM Z = 2 := by unfold loM; rw [if_pos ((zB e hb (by decide)).mpr z0), if_pos ((zB e hb (by decide)).mpr z1), if_neg (fun y => z2 ((zB e hb (by decide)).mp y))]
  have s0 : shb z 2 0 = z 2 := rfl
  have s1 : shb z 2 1 = z 3 := rfl
  have s2 : shb z 2 2 = z 4 := rfl
  have s3 : shb z 2 3 = 0 := rfl
  have s4 : shb z 2 4 = 0 := rfl
  have hG : Gz z = ad3 (0, 2, 0) (sqsC 0 (cd (z 4)) (cd (z 2)) (decide (0 ≤ z 2 * z 2 - 4 * z 4 * z 0))) := by unfold Gz Gc G1 G2; rw [if_pos (cdz z0), if_pos (cdz z1), if_neg (cdn z2), if_pos (cdz z3)]
  rw [lo_m hl, cn_sq (t := (0, nI 2, 0)) (shb_e (A := A) (m := 2) e) (shb_b hb) z3 rfl (Or.inl z4), hG]
  simp only [s0, s1, s2, s3, s4]
  unfold sqsS sqsC
  rw [if_pos si_0, if_pos rfl, if_neg (fun y => z4 (si_z.mp y)), if_neg (cdn z4)]
  rcases cd_2 z4 with ⟨a4, b4⟩ | ⟨a4, b4⟩ <;> rcases cd_2 z2 with ⟨a2, b2⟩ | ⟨a2, b2⟩ <;> (simp only [a4, b4, a2, b2]; decide)
theorem K2_0 {z : Nat → Int} {Z A : Nat → Int64} (e : ∀ k, k < 5 → Z k = lZ (z k)) (hb : bdN 130000 z) (z4 : z 4 = 0) (z3 : z 3 = 0) (z2 : z 2 ≠ 0) (z1 : z 1 = 0) (z0 : z 0 = 0) : cntM Z A = enc (Gz z) := by
  have hl : loM Z = 2 := by unfold loM; rw [if_pos ((zB e hb (by decide)).mpr z0), if_pos ((zB e hb (by decide)).mpr z1), if_neg (fun y => z2 ((zB e hb (by decide)).mp y))]
  have s0 : shb z 2 0 = z 2 := rfl
  have s1 : shb z 2 1 = z 3 := rfl
  have s2 : shb z 2 2 = z 4 := rfl
  have s3 : shb z 2 3 = 0 := rfl
  have s4 : shb z 2 4 = 0 := rfl
  have hG : Gz z = ad3 (0, 2, 0) (sqsC 0 (cd (z 4)) (cd (z 2)) (decide (0 ≤ z 2 * z 2 - 4 * z 4 * z 0))) := by unfold Gz Gc G1 G2; rw [if_pos (cdz z0), if_pos (cdz z1), if_neg (cdn z2), if_pos (cdz z3)]
  rw [lo_m hl, cn_0 (t := (0, nI 2, 0)) (shb_e (A := A) (m := 2) e) (shb_b hb) z3 z4 rfl rfl, hG]
  unfold sqsC
  rw [if_pos rfl, if_pos (cdz z4)]
  rfl
theorem K2_tw {z : Nat → Int} {Z A : Nat → Int64} (e : ∀ k, k < 5 → Z k = lZ (z k)) (hb : bdN 130000 z) (z3 : z 3 ≠ 0) (z2 : z 2 ≠ 0) (z1 : z 1 = 0) (z0 : z 0 = 0) : cntM Z A = enc (Gz z) := by
  have hl : loM Z = 2 := by unfold loM; rw [if_pos ((zB e hb (by decide)).mpr z0), if_pos ((zB e hb (by decide)).mpr z1), if_neg (fun y => z2 ((zB e hb (by decide)).mp y))]
  have s0 : shb z 2 0 = z 2 := rfl
  have s1 : shb z 2 1 = z 3 := rfl
  have s2 : shb z 2 2 = z 4 := rfl
  have s3 : shb z 2 3 = 0 := rfl
  have s4 : shb z 2 4 = 0 := rfl
  have hG : Gz z = ad3 (0, 2, 0) (twC (cd (z 4)) (cd (z 3)) (cd (z 2))) := by unfold Gz Gc G1 G2; rw [if_pos (cdz z0), if_pos (cdz z1), if_neg (cdn z2), if_neg (cdn z3)]
  rw [lo_m hl, cn_tw (t := (0, nI 2, 0)) (shb_e (A := A) (m := 2) e) (shb_b hb) z3 rfl rfl, hG]
  simp only [s0, s1, s2, s3, s4]
  rcases cd_c (z 4) with ⟨a4, b4⟩ | ⟨a4, b4⟩ | ⟨a4, b4⟩ <;> rcases cd_2 z3 with ⟨a3, b3⟩ | ⟨a3, b3⟩ <;> rcases cd_2 z2 with ⟨a2, b2⟩ | ⟨a2, b2⟩ <;> (simp only [a4, b4, a3, b3, a2, b2]; decide)
theorem K3_0 {z : Nat → Int} {Z A : Nat → Int64} (e : ∀ k, k < 5 → Z k = lZ (z k)) (hb : bdN 130000 z) (z4 : z 4 = 0) (z3 : z 3 ≠ 0) (z2 : z 2 = 0) (z1 : z 1 = 0) (z0 : z 0 = 0) : cntM Z A = enc (Gz z) := by
  have hl : loM Z = 3 := by unfold loM; rw [if_pos ((zB e hb (by decide)).mpr z0), if_pos ((zB e hb (by decide)).mpr z1), if_pos ((zB e hb (by decide)).mpr z2), if_neg (fun y => z3 ((zB e hb (by decide)).mp y))]
  have s0 : shb z 3 0 = z 3 := rfl
  have s1 : shb z 3 1 = z 4 := rfl
  have s2 : shb z 3 2 = 0 := rfl
  have s3 : shb z 3 3 = 0 := rfl
  have s4 : shb z 3 4 = 0 := rfl
  have hG : Gz z = ad3 (0, 3, 0) (0, 0, 0) := by unfold Gz Gc G1 G2 G3; rw [if_pos (cdz z0), if_pos (cdz z1), if_pos (cdz z2), if_neg (cdn z3), if_pos (cdz z4)]
  rw [lo_m hl, cn_0 (t := (0, nI 3, 0)) (shb_e (A := A) (m := 3) e) (shb_b hb) z4 rfl rfl rfl, hG]
  rfl
theorem K3_tw {z : Nat → Int} {Z A : Nat → Int64} (e : ∀ k, k < 5 → Z k = lZ (z k)) (hb : bdN 130000 z) (z4 : z 4 ≠ 0) (z3 : z 3 ≠ 0) (z2 : z 2 = 0) (z1 : z 1 = 0) (z0 : z 0 = 0) : cntM Z A = enc (Gz z) := by
  have hl : loM Z = 3 := by unfold loM; rw [if_pos ((zB e hb (by decide)).mpr z0), if_pos ((zB e hb (by decide)).mpr z1), if_pos ((zB e hb (by decide)).mpr z2), if_neg (fun y => z3 ((zB e hb (by decide)).mp y))]
  have s0 : shb z 3 0 = z 3 := rfl
  have s1 : shb z 3 1 = z 4 := rfl
  have s2 : shb z 3 2 = 0 := rfl
  have s3 : shb z 3 3 = 0 := rfl
  have s4 : shb z 3 4 = 0 := rfl
  have hG : Gz z = ad3 (0, 3, 0) (twC 0 (cd (z 4)) (cd (z 3))) := by unfold Gz Gc G1 G2 G3; rw [if_pos (cdz z0), if_pos (cdz z1), if_pos (cdz z2), if_neg (cdn z3), if_neg (cdn z4)]
  rw [lo_m hl, cn_tw (t := (0, nI 3, 0)) (shb_e (A := A) (m := 3) e) (shb_b hb) z4 rfl rfl, hG]
  simp only [s0, s1, s2, s3, s4]
  rw [si_0]
  rcases cd_2 z4 with ⟨a4, b4⟩ | ⟨a4, b4⟩ <;> rcases cd_2 z3 with ⟨a3, b3⟩ | ⟨a3, b3⟩ <;> (simp only [a4, b4, a3, b3]; decide)
theorem K4_0 {z : Nat → Int} {Z A : Nat → Int64} (e : ∀ k, k < 5 → Z k = lZ (z k)) (hb : bdN 130000 z) (z4 : z 4 ≠ 0) (z3 : z 3 = 0) (z2 : z 2 = 0) (z1 : z 1 = 0) (z0 : z 0 = 0) : cntM Z A = enc (Gz z) := by
  have hl : loM Z = 4 := by unfold loM; rw [if_pos ((zB e hb (by decide)).mpr z0), if_pos ((zB e hb (by decide)).mpr z1), if_pos ((zB e hb (by decide)).mpr z2), if_pos ((zB e hb (by decide)).mpr z3)]
  have s0 : shb z 4 0 = z 4 := rfl
  have s1 : shb z 4 1 = 0 := rfl
  have s2 : shb z 4 2 = 0 := rfl
  have s3 : shb z 4 3 = 0 := rfl
  have s4 : shb z 4 4 = 0 := rfl
  have hG : Gz z = (0, 4, 0) := by unfold Gz Gc G1 G2 G3; rw [if_pos (cdz z0), if_pos (cdz z1), if_pos (cdz z2), if_pos (cdz z3)]
  rw [lo_m hl, cn_0 (t := (0, nI 4, 0)) (shb_e (A := A) (m := 4) e) (shb_b hb) rfl rfl rfl rfl, hG]
  rfl
theorem cnG {z : Nat → Int} {Z A : Nat → Int64} (e : ∀ k, k < 5 → Z k = lZ (z k)) (hb : bdN 130000 z) (h0 : dgZ z ≠ -1) : cntM Z A = enc (Gz z) := by
  by_cases z0 : z 0 = 0
  · by_cases z1 : z 1 = 0
    · by_cases z2 : z 2 = 0
      · by_cases z3 : z 3 = 0
        · by_cases z4 : z 4 = 0
          · exact absurd (dgm z4 z3 z2 z1 z0) h0
          · exact K4_0 e hb z4 z3 z2 z1 z0
        · by_cases z4 : z 4 = 0
          · exact K3_0 e hb z4 z3 z2 z1 z0
          · exact K3_tw e hb z4 z3 z2 z1 z0
      · by_cases z3 : z 3 = 0
        · by_cases z4 : z 4 = 0
          · exact K2_0 e hb z4 z3 z2 z1 z0
          · exact K2_sq e hb z3 z4 z2 z1 z0
        · exact K2_tw e hb z3 z2 z1 z0
    · by_cases z4 : z 4 = 0
      · by_cases z2 : z 2 = 0
        · by_cases z3 : z 3 = 0
          · exact K1_0 e hb z4 z3 z2 z1 z0
          · exact K1_sq e hb z4 z2 z1 z0 z3
        · exact K1_tw e hb z4 z2 z1 z0
      · by_cases hB : (z 2 * z 3 - z 4 * z 1) = 0
        · exact K1_co e hb z4 z1 z0 hB
        · exact K1_3 e hb z4 z1 z0 hB
  · by_cases z3 : z 3 = 0
    · by_cases z1 : z 1 = 0
      · by_cases z4 : z 4 = 0
        · by_cases z2 : z 2 = 0
          · exact K_0 e hb z4 z3 z2 z1 z0
          · exact K_sq e hb z3 z1 z0 (Or.inl z2)
        · exact K_sq e hb z3 z1 z0 (Or.inr z4)
      · by_cases z4 : z 4 = 0
        · exact K_tw e hb z4 z3 z1 z0
        · exact K_4a e hb z4 z3 z1 z0
    · by_cases hC : (z 1 * (z 2 * z 3 - z 4 * z 1) - z 3 * (z 0 * z 3)) = 0
      · exact K_co e hb z3 z0 hC
      · by_cases z4 : z 4 = 0
        · exact K_3 e hb z4 z3 z0 hC
        · exact K_4 e hb z4 z3 z0 hC
