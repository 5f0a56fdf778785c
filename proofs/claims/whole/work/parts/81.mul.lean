/-! ===== numbers: one root -1 more is one root to the left more ===== -/
def consb (u v w : Nat) : Bool := if v = 0 then u == w else if w = 0 then u == v else if v = w then u == v else true
theorem cd_lt (x : Int) : cd x < 3 := by
  rcases cd_c x with q | q | q <;> rw [q.2] <;> decide
theorem cd_m (x y : Int) : cd (x * y) = mulc (cd x) (cd y) := by
  have h := si_mul x y
  rcases cd_c x with q | q | q <;> rcases cd_c y with r | r | r <;> rcases cd_c (x * y) with t | t | t <;> rw [q.1, r.1, t.1] at h <;> rw [q.2, r.2, t.2] <;> first | rfl | exact absurd h (by decide)
theorem cd_n (x : Int) : cd (-x) = negc (cd x) := by
  have h := si_ng x
  rcases cd_c x with q | q | q <;> rcases cd_c (-x) with t | t | t <;> rw [q.1, t.1] at h <;> rw [q.2, t.2] <;> first | rfl | exact absurd h (by decide)
theorem cd_i (x : Int) : (0 < x ∧ cd x = 1) ∨ (x = 0 ∧ cd x = 0) ∨ (x < 0 ∧ cd x = 2) := by
  unfold cd
  rcases Int.lt_trichotomy x 0 with h | h | h
  · exact Or.inr (Or.inr ⟨h, by rw [if_neg (by omega), if_neg (by omega)]⟩)
  · exact Or.inr (Or.inl ⟨h, by rw [if_pos h]⟩)
  · exact Or.inl ⟨h, by rw [if_neg (by omega), if_pos h]⟩
theorem cd_a {u v w : Int} (h : u = v + w) : consb (cd u) (cd v) (cd w) = true := by
  rcases cd_i u with ⟨a, p⟩ | ⟨a, p⟩ | ⟨a, p⟩ <;> rcases cd_i v with ⟨b, q⟩ | ⟨b, q⟩ | ⟨b, q⟩ <;> rcases cd_i w with ⟨c, r⟩ | ⟨c, r⟩ | ⟨c, r⟩ <;> rw [p, q, r] <;> first | rfl | (exfalso; omega)
theorem cd_a2 {u v w : Int} {a b c : Nat} (h : u = v + w) (ha : cd u = a) (hb : cd v = b) (hc : cd w = c) : consb a b c = true := by
  rw [← ha, ← hb, ← hc]
  exact cd_a h
theorem sq_i {b c : Nat} (i j : Bool) : sqsC 0 b c i = sqsC 0 b c j := by
  unfold sqsC
  rw [if_pos rfl, if_pos rfl]
theorem Gc_irr {s0 s1 s2 s3 s4 β γ δ δ' : Nat} {i j : Bool} (hd : s4 ≠ 0 ∨ δ = δ') (hi : s4 = 0 ∨ i = j ∨ s1 ≠ 0 ∨ s3 ≠ 0) : Gc s0 s1 s2 s3 s4 β γ δ i = Gc s0 s1 s2 s3 s4 β γ δ' j := by
  unfold Gc
  by_cases h0 : s0 = 0
  · rw [if_pos h0, if_pos h0]
    unfold G1 G2
    rw [sq_i i j (b := s3) (c := s1), sq_i i j (b := s4) (c := s2)]
  · rw [if_neg h0, if_neg h0]
    by_cases h3 : s3 = 0
    · rw [if_pos h3, if_pos h3]
      by_cases h1 : s1 = 0
      · rw [if_pos h1, if_pos h1]
        rcases hi with q | q | q | q
        · rw [q]
          exact sq_i i j
        · rw [q]
        · exact absurd h1 q
        · exact absurd h3 q
      · rw [if_neg h1, if_neg h1]
    · rw [if_neg h3, if_neg h3]
      by_cases hg : γ = 0
      · rw [if_pos hg, if_pos hg]
      · rw [if_neg hg, if_neg hg]
        by_cases h4 : s4 = 0
        · rw [if_pos h4, if_pos h4, hd.resolve_left (fun y => y h4)]
        · rw [if_neg h4, if_neg h4]
def al3 (f : Nat → Bool) : Bool := f 0 && f 1 && f 2
theorem al3_x {f : Nat → Bool} (h : al3 f = true) {x : Nat} (hx : x < 3) : f x = true := by
  unfold al3 at h
  rw [Bool.and_eq_true, Bool.and_eq_true] at h
  match x, hx with
  | 0, _ => exact h.1.1
  | 1, _ => exact h.1.2
  | 2, _ => exact h.2
def al2 (f : Bool → Bool) : Bool := f true && f false
theorem al2_x {f : Bool → Bool} (h : al2 f = true) (x : Bool) : f x = true := by
  unfold al2 at h
  rw [Bool.and_eq_true] at h
  cases x
  · exact h.2
  · exact h.1
theorem im_x {a b : Bool} (h : (if a then b else true) = true) (ha : a = true) : b = true := by
  rw [ha, if_pos rfl] at h
  exact h
def mchk : Bool := al3 (fun p3 => al3 (fun p2 => al3 (fun q3 => (if consb q3 p3 p2 then al3 (fun p1 => al3 (fun p0 => (if decide (¬ (p0 + p1 + p2 + p3 = 0)) then al3 (fun De => (if consb De (mulc p2 p1) (negc (mulc p3 p0)) then al3 (fun q1 => (if consb q1 p1 p0 then (if consb (mulc p3 q1) (mulc p1 q3) (negc De) then al3 (fun s1 => (if consb s1 q3 q1 then al3 (fun v => (if consb v p3 p1 then (if consb (mulc p3 s1) (mulc q3 v) (negc De) then al3 (fun b => (if consb b De (mulc p2 q3) then (if consb b (mulc p2 s1) (negc (mulc p0 q3)) then al3 (fun q2 => (if consb q2 p2 p1 then al3 (fun w => (if consb w p3 p0 then (if consb s1 w q2 then decide (Gc p0 q1 q2 q3 p3 b (mulc De s1) (mulc p1 s1) true = ad3 (Gc p0 p1 p2 p3 0 (mulc p2 p3) (mulc p3 De) De false) (0, 0, 1)) else true) else true)) else true)) else true) else true)) else true) else true)) else true)) else true) else true)) else true)) else true))) else true))))
set_option maxRecDepth 100000 in
theorem mchk_ok : mchk = true := by decide +kernel
theorem M_dec : ∀ p3, p3 < 3 → ∀ p2, p2 < 3 → ∀ q3, q3 < 3 → consb q3 p3 p2 = true → ∀ p1, p1 < 3 → ∀ p0, p0 < 3 → ¬ (p0 + p1 + p2 + p3 = 0) → ∀ De, De < 3 → consb De (mulc p2 p1) (negc (mulc p3 p0)) = true → ∀ q1, q1 < 3 → consb q1 p1 p0 = true → consb (mulc p3 q1) (mulc p1 q3) (negc De) = true → ∀ s1, s1 < 3 → consb s1 q3 q1 = true → ∀ v, v < 3 → consb v p3 p1 = true → consb (mulc p3 s1) (mulc q3 v) (negc De) = true → ∀ b, b < 3 → consb b De (mulc p2 q3) = true → consb b (mulc p2 s1) (negc (mulc p0 q3)) = true → ∀ q2, q2 < 3 → consb q2 p2 p1 = true → ∀ w, w < 3 → consb w p3 p0 = true → consb s1 w q2 = true → Gc p0 q1 q2 q3 p3 b (mulc De s1) (mulc p1 s1) true = ad3 (Gc p0 p1 p2 p3 0 (mulc p2 p3) (mulc p3 De) De false) (0, 0, 1) := fun p3 h1 p2 h2 q3 h3 h4 p1 h5 p0 h6 h7 De h8 h9 q1 h10 h11 h12 s1 h13 h14 v h15 h16 h17 b h18 h19 h20 q2 h21 h22 w h23 h24 h25 => of_decide_eq_true (im_x (im_x (al3_x (im_x (al3_x (im_x (im_x (al3_x (im_x (im_x (al3_x (im_x (al3_x (im_x (im_x (al3_x (im_x (al3_x (im_x (al3_x (al3_x (im_x (al3_x (al3_x (al3_x mchk_ok h1) h2) h3) h4) h5) h6) (decide_eq_true h7)) h8) h9) h10) h11) h12) h13) h14) h15) h16) h17) h18) h19) h20) h21) h22) h23) h24) h25)
def mul1 (P : Nat → Int) : Nat → Int := fun k => match k with
  | 0 => P 0
  | 1 => P 1 + P 0
  | 2 => P 2 + P 1
  | 3 => P 3 + P 2
  | 4 => P 3
  | _ => 0
theorem MUL {P : Nat → Int} (h4 : P 4 = 0) (h0 : dgZ P ≠ -1) : Gz (mul1 P) = ad3 (Gz P) (0, 0, 1) := by
  have hn : ¬ (cd (P 0) + cd (P 1) + cd (P 2) + cd (P 3) = 0) := fun q => by
    have z : ∀ x : Int, cd x = 0 → x = 0 := fun x hx => by
      rcases cd_i x with y | y | y
      · rw [y.2] at hx; exact absurd hx (by decide)
      · exact y.1
      · rw [y.2] at hx; exact absurd hx (by decide)
    exact h0 (dgm h4 (z _ (by omega)) (z _ (by omega)) (z _ (by omega)) (z _ (by omega)))
  have key := M_dec (cd (P 3)) (cd_lt _) (cd (P 2)) (cd_lt _) (cd (P 3 + P 2)) (cd_lt _) (cd_a rfl) (cd (P 1)) (cd_lt _) (cd (P 0)) (cd_lt _) hn (cd (P 2 * P 1 - P 3 * P 0)) (cd_lt _) (cd_a2 (v := P 2 * P 1) (w := -(P 3 * P 0)) (by omega) rfl (cd_m _ _) (by rw [cd_n, cd_m])) (cd (P 1 + P 0)) (cd_lt _) (cd_a rfl) (cd_a2 (u := P 3 * (P 1 + P 0)) (v := P 1 * (P 3 + P 2)) (w := -(P 2 * P 1 - P 3 * P 0)) (by grind) (cd_m _ _) (cd_m _ _) (cd_n _)) (cd (P 3 + P 2 + (P 1 + P 0))) (cd_lt _) (cd_a rfl) (cd (P 3 + P 1)) (cd_lt _) (cd_a rfl) (cd_a2 (u := P 3 * (P 3 + P 2 + (P 1 + P 0))) (v := (P 3 + P 2) * (P 3 + P 1)) (w := -(P 2 * P 1 - P 3 * P 0)) (by grind) (cd_m _ _) (cd_m _ _) (cd_n _)) (cd ((P 2 + P 1) * (P 3 + P 2) - P 3 * (P 1 + P 0))) (cd_lt _) (cd_a2 (v := P 2 * P 1 - P 3 * P 0) (w := P 2 * (P 3 + P 2)) (by grind) rfl rfl (cd_m _ _)) (cd_a2 (v := P 2 * (P 3 + P 2 + (P 1 + P 0))) (w := -(P 0 * (P 3 + P 2))) (by grind) rfl (cd_m _ _) (by rw [cd_n, cd_m])) (cd (P 2 + P 1)) (cd_lt _) (cd_a rfl) (cd (P 3 + P 0)) (cd_lt _) (cd_a rfl) (cd_a2 (u := P 3 + P 2 + (P 1 + P 0)) (v := P 3 + P 0) (w := P 2 + P 1) (by omega) rfl rfl rfl)
  have e1 : Gz P = Gc (cd (P 0)) (cd (P 1)) (cd (P 2)) (cd (P 3)) 0 (mulc (cd (P 2)) (cd (P 3))) (mulc (cd (P 3)) (cd (P 2 * P 1 - P 3 * P 0))) (cd (P 2 * P 1 - P 3 * P 0)) false := by
    unfold Gz
    rw [h4, show P 2 * P 3 - 0 * P 1 = P 2 * P 3 by grind, show P 1 * (P 2 * P 3) - P 3 * (P 0 * P 3) = P 3 * (P 2 * P 1 - P 3 * P 0) by grind, show P 1 * P 2 - P 3 * P 0 = P 2 * P 1 - P 3 * P 0 by grind, cd_m, cd_m, show cd 0 = 0 from rfl]
    exact Gc_irr (Or.inr rfl) (Or.inl rfl)
  have e2 : Gz (mul1 P) = Gc (cd (P 0)) (cd (P 1 + P 0)) (cd (P 2 + P 1)) (cd (P 3 + P 2)) (cd (P 3)) (cd ((P 2 + P 1) * (P 3 + P 2) - P 3 * (P 1 + P 0))) (mulc (cd (P 2 * P 1 - P 3 * P 0)) (cd (P 3 + P 2 + (P 1 + P 0)))) (mulc (cd (P 1)) (cd (P 3 + P 2 + (P 1 + P 0)))) true := by
    unfold Gz
    rw [show mul1 P 0 = P 0 from rfl, show mul1 P 1 = P 1 + P 0 from rfl, show mul1 P 2 = P 2 + P 1 from rfl, show mul1 P 3 = P 3 + P 2 from rfl, show mul1 P 4 = P 3 from rfl, ← cd_m, ← cd_m]
    rw [show (P 1 + P 0) * ((P 2 + P 1) * (P 3 + P 2) - P 3 * (P 1 + P 0)) - (P 3 + P 2) * (P 0 * (P 3 + P 2)) = (P 2 * P 1 - P 3 * P 0) * (P 3 + P 2 + (P 1 + P 0)) by grind]
    refine Gc_irr ?_ ?_
    · by_cases c : P 3 = 0
      · refine Or.inr ?_
        rw [c]
        congr 1
        grind
      · exact Or.inl (cdn c)
    · by_cases c3 : P 3 + P 2 = 0
      · by_cases c1 : P 1 + P 0 = 0
        · refine Or.inr (Or.inl ?_)
          refine decide_eq_true ?_
          rw [show P 2 + P 1 = -(P 3 + P 0) by omega, show -(P 3 + P 0) * -(P 3 + P 0) - 4 * P 3 * P 0 = (P 3 - P 0) * (P 3 - P 0) by grind]
          rcases Int.le_total 0 (P 3 - P 0) with w | w
          · exact Int.mul_nonneg w w
          · exact Int.mul_nonneg_of_nonpos_of_nonpos w w
        · exact Or.inr (Or.inr (Or.inl (cdn c1)))
      · exact Or.inr (Or.inr (Or.inr (cdn c3)))
  rw [e2, e1]
  exact key
/-- the roots are as many as the degree says; steady: all to the left -/
def stc (s0 s1 s2 s3 s4 γ δ : Nat) : Bool := if s4 = 0 then (if s3 = 0 then (if s2 = 0 then (if s1 = 0 then true else s0 == s1) else (s0 == s2 && s1 == s2)) else (s0 == s3 && s1 == s3 && s2 == s3 && δ == 1)) else (s0 == s4 && s1 == s4 && s2 == s4 && s3 == s4 && γ == s4)
def dgc (s1 s2 s3 s4 : Nat) : Nat := if s4 = 0 then if s3 = 0 then if s2 = 0 then if s1 = 0 then 0 else 1 else 2 else 3 else 4
def schk : Bool := al3 (fun s0 => al3 (fun s1 => al3 (fun s2 => al3 (fun s3 => al3 (fun s4 => (if decide (¬ (s0 + s1 + s2 + s3 + s4 = 0)) then al3 (fun b => (if consb b (mulc s2 s3) (negc (mulc s4 s1)) then al3 (fun γ => (if consb γ (mulc s1 b) (negc (mulc s3 (mulc s0 s3))) then al3 (fun δ => (if consb δ (mulc s1 s2) (negc (mulc s3 s0)) then (if decide (s4 = 0 → γ = mulc s3 δ) then (al2 (fun i => decide ((Gc s0 s1 s2 s3 s4 b γ δ i).1 + (Gc s0 s1 s2 s3 s4 b γ δ i).2.1 + (Gc s0 s1 s2 s3 s4 b γ δ i).2.2 = dgc s1 s2 s3 s4 ∧ ((Gc s0 s1 s2 s3 s4 b γ δ i).2.2 = dgc s1 s2 s3 s4 ↔ stc s0 s1 s2 s3 s4 γ δ = true)))) else true) else true)) else true)) else true)) else true))))))
set_option maxRecDepth 100000 in
theorem schk_ok : schk = true := by decide +kernel
theorem S_dec : ∀ s0, s0 < 3 → ∀ s1, s1 < 3 → ∀ s2, s2 < 3 → ∀ s3, s3 < 3 → ∀ s4, s4 < 3 → ¬ (s0 + s1 + s2 + s3 + s4 = 0) → ∀ b, b < 3 → consb b (mulc s2 s3) (negc (mulc s4 s1)) = true → ∀ γ, γ < 3 → consb γ (mulc s1 b) (negc (mulc s3 (mulc s0 s3))) = true → ∀ δ, δ < 3 → consb δ (mulc s1 s2) (negc (mulc s3 s0)) = true → (s4 = 0 → γ = mulc s3 δ) → ∀ i : Bool, (Gc s0 s1 s2 s3 s4 b γ δ i).1 + (Gc s0 s1 s2 s3 s4 b γ δ i).2.1 + (Gc s0 s1 s2 s3 s4 b γ δ i).2.2 = dgc s1 s2 s3 s4 ∧ ((Gc s0 s1 s2 s3 s4 b γ δ i).2.2 = dgc s1 s2 s3 s4 ↔ stc s0 s1 s2 s3 s4 γ δ = true) := fun s0 h1 s1 h2 s2 h3 s3 h4 s4 h5 h6 b h7 h8 γ h9 h10 δ h11 h12 h13 i => of_decide_eq_true (al2_x (im_x (im_x (al3_x (im_x (al3_x (im_x (al3_x (im_x (al3_x (al3_x (al3_x (al3_x (al3_x schk_ok h1) h2) h3) h4) h5) (decide_eq_true h6)) h7) h8) h9) h10) h11) h12) (decide_eq_true h13)) i)
theorem dgc_N (z : Nat → Int) : dgc (cd (z 1)) (cd (z 2)) (cd (z 3)) (cd (z 4)) = dN z := by
  have q : ∀ x : Int, cd x = 0 ↔ x = 0 := fun x => ⟨fun hx => by
      rcases cd_i x with y | y | y
      · rw [y.2] at hx; exact absurd hx (by decide)
      · exact y.1
      · rw [y.2] at hx; exact absurd hx (by decide), cdz⟩
  unfold dgc dN
  simp only [q]
theorem ST_all {z : Nat → Int} (h0 : dgZ z ≠ -1) : (Gz z).1 + (Gz z).2.1 + (Gz z).2.2 = dN z ∧ ((Gz z).2.2 = dN z ↔ stc (cd (z 0)) (cd (z 1)) (cd (z 2)) (cd (z 3)) (cd (z 4)) (cd (z 1 * (z 2 * z 3 - z 4 * z 1) - z 3 * (z 0 * z 3))) (cd (z 1 * z 2 - z 3 * z 0)) = true) := by
  have hn : ¬ (cd (z 0) + cd (z 1) + cd (z 2) + cd (z 3) + cd (z 4) = 0) := fun q => by
    have w : ∀ x : Int, cd x = 0 → x = 0 := fun x hx => by
      rcases cd_i x with y | y | y
      · rw [y.2] at hx; exact absurd hx (by decide)
      · exact y.1
      · rw [y.2] at hx; exact absurd hx (by decide)
    exact h0 (dgm (w _ (by omega)) (w _ (by omega)) (w _ (by omega)) (w _ (by omega)) (w _ (by omega)))
  have key := S_dec (cd (z 0)) (cd_lt _) (cd (z 1)) (cd_lt _) (cd (z 2)) (cd_lt _) (cd (z 3)) (cd_lt _) (cd (z 4)) (cd_lt _) hn (cd (z 2 * z 3 - z 4 * z 1)) (cd_lt _) (cd_a2 (v := z 2 * z 3) (w := -(z 4 * z 1)) (by omega) rfl (cd_m _ _) (by rw [cd_n, cd_m])) (cd (z 1 * (z 2 * z 3 - z 4 * z 1) - z 3 * (z 0 * z 3))) (cd_lt _) (cd_a2 (v := z 1 * (z 2 * z 3 - z 4 * z 1)) (w := -(z 3 * (z 0 * z 3))) (by omega) rfl (cd_m _ _) (by rw [cd_n, cd_m, cd_m])) (cd (z 1 * z 2 - z 3 * z 0)) (cd_lt _) (cd_a2 (v := z 1 * z 2) (w := -(z 3 * z 0)) (by omega) rfl (cd_m _ _) (by rw [cd_n, cd_m])) (fun h4 => by
    have z4 : z 4 = 0 := by
      rcases cd_i (z 4) with y | y | y
      · rw [y.2] at h4; exact absurd h4 (by decide)
      · exact y.1
      · rw [y.2] at h4; exact absurd h4 (by decide)
    rw [← cd_m, z4]
    congr 1
    grind) (decide (0 ≤ z 2 * z 2 - 4 * z 4 * z 0))
  rw [dgc_N] at key
  exact key
