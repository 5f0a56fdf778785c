/-! ===== numbers: how many spans there are ===== -/
/-- how often a property begins to hold -/
def nS (P : Int → Bool) : Nat → Int → Nat
  | 0, _ => 0
  | r + 1, w => (if P w = true ∧ P (w - 1) = false then 1 else 0) + nS P r (w + 1)
theorem nS_or (P Q : Int → Bool) : ∀ r w, nS (fun x => P x || Q x) r w ≤ nS P r w + nS Q r w := by
  intro r
  induction r with
  | zero => intro w; exact Nat.zero_le _
  | succ r ih =>
    intro w
    have i := ih (w + 1)
    unfold nS
    have k : (if (P w || Q w) = true ∧ (P (w - 1) || Q (w - 1)) = false then 1 else 0) ≤ (if P w = true ∧ P (w - 1) = false then 1 else 0) + (if Q w = true ∧ Q (w - 1) = false then 1 else 0) := by
      cases P w <;> cases Q w <;> cases P (w - 1) <;> cases Q (w - 1) <;> decide
    omega
theorem nS_and (P Q : Int → Bool) : ∀ r w, nS (fun x => P x && Q x) r w ≤ nS P r w + nS Q r w := by
  intro r
  induction r with
  | zero => intro w; exact Nat.zero_le _
  | succ r ih =>
    intro w
    have i := ih (w + 1)
    unfold nS
    have k : (if (P w && Q w) = true ∧ (P (w - 1) && Q (w - 1)) = false then 1 else 0) ≤ (if P w = true ∧ P (w - 1) = false then 1 else 0) + (if Q w = true ∧ Q (w - 1) = false then 1 else 0) := by
      cases P w <;> cases Q w <;> cases P (w - 1) <;> cases Q (w - 1) <;> decide
    omega
/-- runs are at most n, wherever one looks -/
def atM (n : Nat) (P : Int → Bool) : Prop := ∀ r w, nS P r w ≤ n
theorem atM.or {m n : Nat} {P Q : Int → Bool} (h : atM m P) (g : atM n Q) : atM (m + n) (fun x => P x || Q x) := fun r w => Nat.le_trans (nS_or P Q r w) (Nat.add_le_add (h r w) (g r w))
theorem atM.and {m n : Nat} {P Q : Int → Bool} (h : atM m P) (g : atM n Q) : atM (m + n) (fun x => P x && Q x) := fun r w => Nat.le_trans (nS_and P Q r w) (Nat.add_le_add (h r w) (g r w))
/-- without holes -/
def cvx (P : Int → Bool) : Prop := ∀ a b c : Int, a ≤ b → b ≤ c → P a = true → P c = true → P b = true
theorem cvx.and {P Q : Int → Bool} (h : cvx P) (g : cvx Q) : cvx (fun x => P x && Q x) := fun a b c h1 h2 ha hc => by
  have ha : (P a && Q a) = true := ha
  have hc : (P c && Q c) = true := hc
  rw [Bool.and_eq_true] at ha hc
  show (P b && Q b) = true
  rw [Bool.and_eq_true]
  exact ⟨h a b c h1 h2 ha.1 hc.1, g a b c h1 h2 ha.2 hc.2⟩
theorem cvx.none {P : Int → Bool} (h : cvx P) : ∀ r w a, a < w → P a = true → nS P r w = 0 := by
  intro r
  induction r with
  | zero => intro w a _ _; rfl
  | succ r ih =>
    intro w a ha hp
    unfold nS
    rw [ih (w + 1) a (by omega) hp, if_neg]
    intro ⟨q1, q2⟩
    rw [h a (w - 1) w (by omega) (by omega) hp q1] at q2
    exact absurd q2 (by decide)
theorem cvx.at {P : Int → Bool} (h : cvx P) : atM 1 P := by
  intro r
  induction r with
  | zero => intro w; exact Nat.zero_le _
  | succ r ih =>
    intro w
    unfold nS
    by_cases q : P w = true ∧ P (w - 1) = false
    · rw [if_pos q, h.none r (w + 1) w (by omega) q.1]
      exact Nat.le_refl _
    · rw [if_neg q]
      have := ih (w + 1)
      omega
/-- no + - + - + -/
def no5 (P : Int → Bool) : Prop := ∀ a b c d e : Int, a < b → b < c → c < d → d < e → P a = true → P b = false → P c = true → P d = false → P e = true → False
theorem no5.two {P : Int → Bool} (h : no5 P) : ∀ r w a b c, a < b → b < c → c < w → P a = true → P b = false → P c = true → nS P r w = 0 := by
  intro r
  induction r with
  | zero => intro w a b c _ _ _ _ _ _; rfl
  | succ r ih =>
    intro w a b c h1 h2 h3 pa pb pc
    unfold nS
    rw [ih (w + 1) a b c h1 h2 (by omega) pa pb pc, if_neg]
    intro ⟨q1, q2⟩
    have n : c ≠ w - 1 := fun q => by rw [q, q2] at pc; exact absurd pc (by decide)
    exact h a b c (w - 1) w h1 h2 (by omega) (by omega) pa pb pc q2 q1
theorem no5.one {P : Int → Bool} (h : no5 P) : ∀ r w a, a < w → P a = true → nS P r w ≤ 1 := by
  intro r
  induction r with
  | zero => intro w a _ _; exact Nat.zero_le _
  | succ r ih =>
    intro w a h1 pa
    unfold nS
    by_cases q : P w = true ∧ P (w - 1) = false
    · have n : a ≠ w - 1 := fun p => by rw [p, q.2] at pa; exact absurd pa (by decide)
      rw [if_pos q, h.two r (w + 1) a (w - 1) w (by omega) (by omega) (by omega) pa q.2 q.1]
      exact Nat.le_refl _
    · rw [if_neg q]
      have := ih (w + 1) a (by omega) pa
      omega
theorem no5.at {P : Int → Bool} (h : no5 P) : atM 2 P := by
  intro r
  induction r with
  | zero => intro w; exact Nat.zero_le _
  | succ r ih =>
    intro w
    unfold nS
    by_cases q : P w = true ∧ P (w - 1) = false
    · rw [if_pos q]
      have := h.one r (w + 1) w (by omega) q.1
      omega
    · rw [if_neg q]
      have := ih (w + 1)
      omega
/-- lines, and curves up to the third degree -/
def lin (f : Int → Int) : Prop := ∃ a b : Int, ∀ w, f w = a + b * w
def qua (f : Int → Int) : Prop := ∃ a b c : Int, ∀ w, f w = a + b * w + c * (w * w)
def cub (f : Int → Int) : Prop := ∃ a b c d : Int, ∀ w, f w = a + b * w + c * (w * w) + d * (w * w * w)
theorem lin.mul {f g : Int → Int} (hf : lin f) (hg : lin g) : qua (fun w => f w * g w) := by
  obtain ⟨a, b, h⟩ := hf
  obtain ⟨c, d, k⟩ := hg
  exact ⟨a * c, a * d + b * c, b * d, fun w => by show f w * g w = _; rw [h, k]; grind⟩
theorem lin.muq {f g : Int → Int} (hf : lin f) (hg : qua g) : cub (fun w => f w * g w) := by
  obtain ⟨a, b, h⟩ := hf
  obtain ⟨c, d, e, k⟩ := hg
  exact ⟨a * c, a * d + b * c, a * e + b * d, b * e, fun w => by show f w * g w = _; rw [h, k]; grind⟩
theorem qua.sub {f g : Int → Int} (hf : qua f) (hg : qua g) : qua (fun w => f w - g w) := by
  obtain ⟨a, b, e, h⟩ := hf
  obtain ⟨c, d, e', k⟩ := hg
  exact ⟨a - c, b - d, e - e', fun w => by show f w - g w = _; rw [h, k]; grind⟩
theorem cub.sub {f g : Int → Int} (hf : cub f) (hg : cub g) : cub (fun w => f w - g w) := by
  obtain ⟨a, b, e, i, h⟩ := hf
  obtain ⟨c, d, e', i', k⟩ := hg
  exact ⟨a - c, b - d, e - e', i - i', fun w => by show f w - g w = _; rw [h, k]; grind⟩
theorem qua.cub {f : Int → Int} (hf : qua f) : cub f := by
  obtain ⟨a, b, c, h⟩ := hf
  exact ⟨a, b, c, 0, fun w => by rw [h]; grind⟩
theorem cub.neg {f : Int → Int} (hf : cub f) : cub (fun w => - f w) := by
  obtain ⟨a, b, e, i, h⟩ := hf
  exact ⟨-a, -b, -e, -i, fun w => by show - f w = _; rw [h]; grind⟩
theorem lin.neg {f : Int → Int} (hf : lin f) : lin (fun w => - f w) := by
  obtain ⟨a, b, h⟩ := hf
  exact ⟨-a, -b, fun w => by show - f w = _; rw [h]; grind⟩
theorem ps_of {x y : Int} (hx : 0 < x) (h : 0 < x * y) : 0 < y := by
  rcases Int.lt_trichotomy y 0 with q | q | q
  · have := Int.mul_neg_of_pos_of_neg hx q
    omega
  · rw [q, Int.mul_zero] at h
    omega
  · exact q
theorem ng_of {x y : Int} (hx : 0 < x) (h : x * y < 0) : y < 0 := by
  rcases Int.lt_trichotomy y 0 with q | q | q
  · exact q
  · rw [q, Int.mul_zero] at h
    omega
  · have := Int.mul_pos hx q
    omega
theorem cub.no {f : Int → Int} (hf : cub f) : ∀ a b c d e : Int, a < b → b < c → c < d → d < e → 0 < f a → f b ≤ 0 → 0 < f c → f d ≤ 0 → 0 < f e → False := by
  obtain ⟨k0, k1, k2, k3, h⟩ := hf
  intro a b c d e h1 h2 h3 h4 fa fb fc fd fe
  have g : ∀ x y : Int, f y - f x = (y - x) * (k3 * (x * x + x * y + y * y) + k2 * (x + y) + k1) := fun x y => by rw [h, h]; grind
  have hh : ∀ x y z : Int, (k3 * (y * y + y * z + z * z) + k2 * (y + z) + k1) - (k3 * (x * x + x * y + y * y) + k2 * (x + y) + k1) = (z - x) * (k3 * (x + y + z) + k2) := fun x y z => by grind
  have kk : ∀ x y z u : Int, (k3 * (y + z + u) + k2) - (k3 * (x + y + z) + k2) = (u - x) * k3 := fun x y z u => by grind
  have g1 := ng_of (x := b - a) (by omega) (by rw [← g a b]; omega)
  have g2 := ps_of (x := c - b) (by omega) (by rw [← g b c]; omega)
  have g3 := ng_of (x := d - c) (by omega) (by rw [← g c d]; omega)
  have g4 := ps_of (x := e - d) (by omega) (by rw [← g d e]; omega)
  have i1 := ps_of (x := c - a) (by omega) (by rw [← hh a b c]; omega)
  have i2 := ng_of (x := d - b) (by omega) (by rw [← hh b c d]; omega)
  have i3 := ps_of (x := e - c) (by omega) (by rw [← hh c d e]; omega)
  have j1 := ng_of (x := d - a) (by omega) (by rw [← kk a b c d]; omega)
  have j2 := ps_of (x := e - b) (by omega) (by rw [← kk b c d e]; omega)
  omega
theorem cdq_1 {x : Int} : (cd x == 1) = decide (0 < x) := by
  rcases cd_i x with ⟨a, p⟩ | ⟨a, p⟩ | ⟨a, p⟩
  · rw [p, decide_eq_true a]; rfl
  · rw [p, decide_eq_false (by omega)]; rfl
  · rw [p, decide_eq_false (by omega)]; rfl
theorem cdq_2 {x : Int} : (cd x == 2) = decide (0 < -x) := by
  rcases cd_i x with ⟨a, p⟩ | ⟨a, p⟩ | ⟨a, p⟩
  · rw [p, decide_eq_false (by omega)]; rfl
  · rw [p, decide_eq_false (by omega)]; rfl
  · rw [p, decide_eq_true (by omega)]; rfl
theorem cdq_0 {x : Int} : (cd x == 0) = decide (x = 0) := by
  rcases cd_i x with ⟨a, p⟩ | ⟨a, p⟩ | ⟨a, p⟩
  · rw [p, decide_eq_false (by omega)]; rfl
  · rw [p, decide_eq_true a]; rfl
  · rw [p, decide_eq_false (by omega)]; rfl
theorem cub.p {f : Int → Int} (hf : cub f) : atM 2 (fun w => decide (0 < f w)) := no5.at (fun a b c d e h1 h2 h3 h4 fa fb fc fd fe => hf.no a b c d e h1 h2 h3 h4 (of_decide_eq_true fa) (Int.not_lt.mp (of_decide_eq_false fb)) (of_decide_eq_true fc) (Int.not_lt.mp (of_decide_eq_false fd)) (of_decide_eq_true fe))
theorem cub.c1 {f : Int → Int} (hf : cub f) : atM 2 (fun w => cd (f w) == 1) := by
  rw [show (fun w => cd (f w) == 1) = (fun w => decide (0 < f w)) from funext (fun w => cdq_1)]
  exact hf.p
theorem cub.c2 {f : Int → Int} (hf : cub f) : atM 2 (fun w => cd (f w) == 2) := by
  rw [show (fun w => cd (f w) == 2) = (fun w => decide (0 < - f w)) from funext (fun w => cdq_2)]
  exact hf.neg.p
theorem lin.bt {f : Int → Int} (hf : lin f) {a b c : Int} (h1 : a ≤ b) (h2 : b ≤ c) : (f a ≤ f b ∧ f b ≤ f c) ∨ (f c ≤ f b ∧ f b ≤ f a) := by
  obtain ⟨k, s, h⟩ := hf
  rw [h, h, h]
  rcases Int.le_total 0 s with q | q
  · have := Int.mul_le_mul_of_nonneg_left h1 q
    have := Int.mul_le_mul_of_nonneg_left h2 q
    omega
  · have := Int.mul_le_mul_of_nonpos_left q h1
    have := Int.mul_le_mul_of_nonpos_left q h2
    omega
theorem lin.p {f : Int → Int} (hf : lin f) : cvx (fun w => decide (0 < f w)) := fun a b c h1 h2 ha hc => by
  have ha := of_decide_eq_true ha
  have hc := of_decide_eq_true hc
  refine decide_eq_true ?_
  have := hf.bt h1 h2
  omega
theorem lin.c0 {f : Int → Int} (hf : lin f) : cvx (fun w => cd (f w) == 0) := by
  rw [show (fun w => cd (f w) == 0) = (fun w => decide (f w = 0)) from funext (fun w => cdq_0)]
  intro a b c h1 h2 ha hc
  have ha := of_decide_eq_true ha
  have hc := of_decide_eq_true hc
  refine decide_eq_true ?_
  have := hf.bt h1 h2
  omega
theorem lin.c1 {f : Int → Int} (hf : lin f) : cvx (fun w => cd (f w) == 1) := by
  rw [show (fun w => cd (f w) == 1) = (fun w => decide (0 < f w)) from funext (fun w => cdq_1)]
  exact hf.p
theorem lin.c2 {f : Int → Int} (hf : lin f) : cvx (fun w => cd (f w) == 2) := by
  rw [show (fun w => cd (f w) == 2) = (fun w => decide (0 < - f w)) from funext (fun w => cdq_2)]
  exact hf.neg.p
/-- the conditions told by codes -/
def sq5 (s0 s1 s2 s3 s4 i : Nat) : Bool := s0 == i && s1 == i && s2 == i && s3 == i && s4 == i
def st4 (s0 s1 s2 s3 s4 γ : Nat) : Bool := (sq5 s0 s1 s2 s3 s4 1 && γ == 1) || (sq5 s0 s1 s2 s3 s4 2 && γ == 2)
def stD (s0 s1 s2 s3 s4 γ δ : Nat) : Bool := st4 s0 s1 s2 s3 s4 γ || ((s4 == 0 && s0 == 1 && s1 == 1 && s2 == 1 && s3 == 1) && δ == 1) || ((s4 == 0 && s0 == 2 && s1 == 2 && s2 == 2 && s3 == 2) && δ == 1) || (s4 == 0 && s3 == 0 && s0 == 1 && s1 == 1 && s2 == 1) || (s4 == 0 && s3 == 0 && s0 == 2 && s1 == 2 && s2 == 2) || (s4 == 0 && s3 == 0 && s2 == 0 && s0 == 1 && s1 == 1) || (s4 == 0 && s3 == 0 && s2 == 0 && s0 == 2 && s1 == 2) || (s4 == 0 && s3 == 0 && s2 == 0 && s1 == 0 && s0 == 1) || (s4 == 0 && s3 == 0 && s2 == 0 && s1 == 0 && s0 == 2)
def dchk : Bool := al3 (fun s0 => al3 (fun s1 => al3 (fun s2 => al3 (fun s3 => al3 (fun s4 => al3 (fun γ => al3 (fun δ => (if decide (¬ (s0 + s1 + s2 + s3 + s4 = 0)) then stc s0 s1 s2 s3 s4 γ δ == stD s0 s1 s2 s3 s4 γ δ else stD s0 s1 s2 s3 s4 γ δ == false))))))))
set_option maxRecDepth 100000 in
theorem dchk_ok : dchk = true := by decide +kernel
theorem D_dec : ∀ s0, s0 < 3 → ∀ s1, s1 < 3 → ∀ s2, s2 < 3 → ∀ s3, s3 < 3 → ∀ s4, s4 < 3 → ∀ γ, γ < 3 → ∀ δ, δ < 3 → (if decide (¬ (s0 + s1 + s2 + s3 + s4 = 0)) then stc s0 s1 s2 s3 s4 γ δ == stD s0 s1 s2 s3 s4 γ δ else stD s0 s1 s2 s3 s4 γ δ == false) = true := fun s0 h1 s1 h2 s2 h3 s3 h4 s4 h5 γ h6 δ h7 => al3_x (al3_x (al3_x (al3_x (al3_x (al3_x (al3_x dchk_ok h1) h2) h3) h4) h5) h6) h7
