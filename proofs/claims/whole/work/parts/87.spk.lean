/-! ===== numbers: never more than 32 spans ===== -/
def fC (f : Nat → Int → Int) (w : Int) : Int := f 1 w * (f 2 w * f 3 w - f 4 w * f 1 w) - f 3 w * (f 0 w * f 3 w)
def fD (f : Nat → Int → Int) (w : Int) : Int := f 1 w * f 2 w - f 3 w * f 0 w
def zC (z : Nat → Int) : Int := z 1 * (z 2 * z 3 - z 4 * z 1) - z 3 * (z 0 * z 3)
def zD (z : Nat → Int) : Int := z 1 * z 2 - z 3 * z 0
theorem fC_c {f : Nat → Int → Int} (h : ∀ k, k < 5 → lin (f k)) : cub (fC f) := ((h 1 (by decide)).muq (((h 2 (by decide)).mul (h 3 (by decide))).sub ((h 4 (by decide)).mul (h 1 (by decide))))).sub ((h 3 (by decide)).muq ((h 0 (by decide)).mul (h 3 (by decide))))
theorem fD_c {f : Nat → Int → Int} (h : ∀ k, k < 5 → lin (f k)) : cub (fD f) := (((h 1 (by decide)).mul (h 2 (by decide))).sub ((h 3 (by decide)).mul (h 0 (by decide)))).cub
theorem sq5_1 {f : Nat → Int → Int} (h : ∀ k, k < 5 → lin (f k)) : cvx (fun w => sq5 (cd (f 0 w)) (cd (f 1 w)) (cd (f 2 w)) (cd (f 3 w)) (cd (f 4 w)) 1) := ((((h 0 (by decide)).c1.and (h 1 (by decide)).c1).and (h 2 (by decide)).c1).and (h 3 (by decide)).c1).and (h 4 (by decide)).c1
theorem sq5_2 {f : Nat → Int → Int} (h : ∀ k, k < 5 → lin (f k)) : cvx (fun w => sq5 (cd (f 0 w)) (cd (f 1 w)) (cd (f 2 w)) (cd (f 3 w)) (cd (f 4 w)) 2) := ((((h 0 (by decide)).c2.and (h 1 (by decide)).c2).and (h 2 (by decide)).c2).and (h 3 (by decide)).c2).and (h 4 (by decide)).c2
def st4f (f : Nat → Int → Int) (w : Int) : Bool := st4 (cd (f 0 w)) (cd (f 1 w)) (cd (f 2 w)) (cd (f 3 w)) (cd (f 4 w)) (cd (fC f w))
def st4E (E : Int → Bool) (f : Nat → Int → Int) (w : Int) : Bool := ((E w && sq5 (cd (f 0 w)) (cd (f 1 w)) (cd (f 2 w)) (cd (f 3 w)) (cd (f 4 w)) 1) && cd (fC f w) == 1) || ((E w && sq5 (cd (f 0 w)) (cd (f 1 w)) (cd (f 2 w)) (cd (f 3 w)) (cd (f 4 w)) 2) && cd (fC f w) == 2)
theorem st4E_at {E : Int → Bool} {f : Nat → Int → Int} (hE : cvx E) (h : ∀ k, k < 5 → lin (f k)) : atM 6 (st4E E f) := ((hE.and (sq5_1 h)).at.and (fC_c h).c1).or ((hE.and (sq5_2 h)).at.and (fC_c h).c2)
theorem st4E_eq (E : Int → Bool) (f : Nat → Int → Int) (w : Int) : st4E E f w = (E w && st4f f w) := by
  unfold st4E st4f st4
  cases E w <;> rfl
theorem st4_at {f : Nat → Int → Int} (h : ∀ k, k < 5 → lin (f k)) : atM 6 (st4f f) := ((sq5_1 h).at.and (fC_c h).c1).or ((sq5_2 h).at.and (fC_c h).c2)
def stDf (f : Nat → Int → Int) (w : Int) : Bool := stD (cd (f 0 w)) (cd (f 1 w)) (cd (f 2 w)) (cd (f 3 w)) (cd (f 4 w)) (cd (fC f w)) (cd (fD f w))
theorem stD_at {f : Nat → Int → Int} (h : ∀ k, k < 5 → lin (f k)) : atM 18 (stDf f) := by
  have h0 := h 0 (by decide)
  have h1 := h 1 (by decide)
  have h2 := h 2 (by decide)
  have h3 := h 3 (by decide)
  have h4 := h 4 (by decide)
  exact ((((((((st4_at h).or (((((h4.c0.and h0.c1).and h1.c1).and h2.c1).and h3.c1).at.and (fD_c h).c1)).or (((((h4.c0.and h0.c2).and h1.c2).and h2.c2).and h3.c2).at.and (fD_c h).c1)).or ((((h4.c0.and h3.c0).and h0.c1).and h1.c1).and h2.c1).at).or ((((h4.c0.and h3.c0).and h0.c2).and h1.c2).and h2.c2).at).or ((((h4.c0.and h3.c0).and h2.c0).and h0.c1).and h1.c1).at).or ((((h4.c0.and h3.c0).and h2.c0).and h0.c2).and h1.c2).at).or ((((h4.c0.and h3.c0).and h2.c0).and h1.c0).and h0.c1).at).or ((((h4.c0.and h3.c0).and h2.c0).and h1.c0).and h0.c2).at
/-- spans of the class are such runs -/
theorem cnt_n {F : Int → Int32} {P : Int → Bool} : ∀ (r : Nat) (w : Int), (∀ x, w - 1 ≤ x → x < w + r → (F x = 0 ↔ P x = false)) → cntU F r w (if P (w - 1) = true then 1 else 0) = nS P r w := by
  intro r
  induction r with
  | zero => intro w _; rfl
  | succ r ih =>
    intro w h
    have i := ih (w + 1) (fun x a b => h x (by omega) (by omega))
    rw [show w + 1 - 1 = w by omega] at i
    have k := h w (by omega) (by omega)
    unfold cntU nS
    cases q : P w
    · rw [q, if_neg (by decide)] at i
      rw [if_pos (k.mpr q), i, if_neg (fun y => absurd y.1 (by decide)), Nat.zero_add]
    · rw [q, if_pos rfl] at i
      rw [if_neg (fun y => absurd ((k.mp y).symm.trans q) (by decide)), i]
      cases P (w - 1) <;> rfl
theorem cnt_0 (F : Int → Int32) : ∀ (r : Nat) (w : Int) (a : Int32), cntU F r w 0 ≤ 1 + cntU F r w a := by
  intro r w a
  cases r with
  | zero => exact Nat.zero_le _
  | succ r =>
    unfold cntU
    by_cases q : F w = 0
    · rw [if_pos q, if_pos q]
      omega
    · rw [if_neg q, if_neg q, if_pos rfl]
      omega
theorem cnt_at {F : Int → Int32} {P : Int → Bool} {n : Nat} (hP : atM n P) (h : ∀ x, -800 ≤ x → x ≤ 800 → (F x = 0 ↔ P x = false)) : cntU F 1601 (-800) 0 ≤ 1 + n := by
  have a : cntU F 1601 (-800) 0 ≤ 1 + cntU F 1600 (-799) (if P (-800) = true then 1 else 0) := by
    rw [cntU]
    by_cases q : F (-800) = 0
    · rw [if_pos q, if_neg (by rw [(h (-800) (by decide) (by decide)).mp q]; decide)]
      exact Nat.le_add_left _ _
    · rw [if_neg q, if_pos rfl, if_pos (by
        cases p : P (-800)
        · exact absurd ((h (-800) (by decide) (by decide)).mpr p) q
        · rfl)]
      exact Nat.le_refl _
  have b := cnt_n (F := F) (P := P) 1600 (-799) (fun x p q => h x (by omega) (by omega))
  rw [show (-799 : Int) - 1 = -800 by decide] at b
  rw [b] at a
  exact Nat.le_trans a (Nat.add_le_add_left (hP 1600 (-799)) 1)
/-- by the axis -/
theorem A_iff {Z : Nat → Int64} {z : Nat → Int} (e : ∀ k, k < 5 → Z k = lZ (z k)) (hb : bdN 130000 z) : stA Z = 0 ↔ stD (cd (z 0)) (cd (z 1)) (cd (z 2)) (cd (z 3)) (cd (z 4)) (cd (zC z)) (cd (zD z)) = false := by
  have key := D_dec _ (cd_lt (z 0)) _ (cd_lt (z 1)) _ (cd_lt (z 2)) _ (cd_lt (z 3)) _ (cd_lt (z 4)) _ (cd_lt (zC z)) _ (cd_lt (zD z))
  by_cases h0 : dgZ z = -1
  · have hz : cd (z 0) + cd (z 1) + cd (z 2) + cd (z 3) + cd (z 4) = 0 := by
      unfold dgZ at h0
      by_cases a4 : z 4 = 0
      · rw [if_pos a4] at h0
        by_cases a3 : z 3 = 0
        · rw [if_pos a3] at h0
          by_cases a2 : z 2 = 0
          · rw [if_pos a2] at h0
            by_cases a1 : z 1 = 0
            · rw [if_pos a1] at h0
              by_cases a0 : z 0 = 0
              · rw [a0, a1, a2, a3, a4]; rfl
              · rw [if_neg a0] at h0; exact absurd h0 (by decide)
            · rw [if_neg a1] at h0; exact absurd h0 (by decide)
          · rw [if_neg a2] at h0; exact absurd h0 (by decide)
        · rw [if_neg a3] at h0; exact absurd h0 (by decide)
      · rw [if_neg a4] at h0; exact absurd h0 (by decide)
    rw [decide_eq_false (fun y => y hz), if_neg (by decide)] at key
    have s : stA Z = 0 := by
      unfold stA
      rw [if_pos ((dg_Z e hb).trans h0)]
    exact ⟨fun _ => eq_of_beq key, fun _ => s⟩
  · have hz : ¬ (cd (z 0) + cd (z 1) + cd (z 2) + cd (z 3) + cd (z 4) = 0) := fun q => by
      have w : ∀ x : Int, cd x = 0 → x = 0 := fun x hx => by
        rcases cd_i x with y | y | y
        · rw [y.2] at hx; exact absurd hx (by decide)
        · exact y.1
        · rw [y.2] at hx; exact absurd hx (by decide)
      exact h0 (dgm (w _ (by omega)) (w _ (by omega)) (w _ (by omega)) (w _ (by omega)) (w _ (by omega)))
    rw [decide_eq_true hz, if_pos rfl] at key
    have key := eq_of_beq key
    rw [stA_c e hb h0, ← key]
    show (if stc (cd (z 0)) (cd (z 1)) (cd (z 2)) (cd (z 3)) (cd (z 4)) (cd (zC z)) (cd (zD z)) = true then (1 : Int32) else 0) = 0 ↔ _
    cases q : stc (cd (z 0)) (cd (z 1)) (cd (z 2)) (cd (z 3)) (cd (z 4)) (cd (zC z)) (cd (zD z))
    · exact ⟨fun _ => rfl, fun _ => rfl⟩
    · exact ⟨fun y => absurd y (by decide), fun y => absurd y (by decide)⟩
/-- by the circle -/
def s4z (t : Nat → Int) : Bool := st4 (cd (t 0)) (cd (t 1)) (cd (t 2)) (cd (t 3)) (cd (t 4)) (cd (zC t))
theorem s4_i {t : Nat → Int} (h : s4z t = true) : (0 < t 0 ∧ 0 < t 1 ∧ 0 < t 2 ∧ 0 < t 3 ∧ 0 < t 4) ∨ (t 0 < 0 ∧ t 1 < 0 ∧ t 2 < 0 ∧ t 3 < 0 ∧ t 4 < 0) := by
  unfold s4z st4 sq5 at h
  simp only [cdq_1, cdq_2, Bool.or_eq_true, Bool.and_eq_true, decide_eq_true_eq] at h
  omega
theorem s4_st {s0 s1 s2 s3 s4 γ δ : Nat} (h : s4 ≠ 0) : s4 < 3 → stD s0 s1 s2 s3 s4 γ δ = st4 s0 s1 s2 s3 s4 γ := fun h3 => by
  have k : (s4 == 0) = false := by
    cases q : s4 == 0
    · rfl
    · exact absurd (eq_of_beq q) h
  unfold stD
  rw [k]
  simp only [Bool.false_and, Bool.or_false]
theorem tB_s (z : Nat → Int) {l : Nat} (h : l < 5) : turnZ z l 0 + turnZ z l 1 + turnZ z l 2 + turnZ z l 3 + turnZ z l 4 = 16 * z (4 - l) := by
  simp only [turnZ]
  have e : tBZ z l 4 = z (4 - l) := if_neg (by omega)
  omega
theorem s4_no {z : Nat → Int} {l : Nat} (h : l < 5) (hz : z (4 - l) = 0) : s4z (turnZ z l) = false := by
  cases q : s4z (turnZ z l)
  · rfl
  · have a := s4_i q
    have b := tB_s z h
    rw [hz] at b
    omega
def stK (z : Nat → Int) : Bool := s4z (turnZ z 0) || (cd (z 4) == 0 && s4z (turnZ z 1)) || ((cd (z 4) == 0 && cd (z 3) == 0) && s4z (turnZ z 2)) || ((cd (z 4) == 0 && cd (z 3) == 0 && cd (z 2) == 0) && s4z (turnZ z 3)) || ((cd (z 4) == 0 && cd (z 3) == 0 && cd (z 2) == 0 && cd (z 1) == 0) && s4z (turnZ z 4))
theorem nz0 {x : Int} (h : x ≠ 0) : (cd x == 0) = false := by rw [cdq_0]; exact decide_eq_false h
theorem zz0 {x : Int} (h : x = 0) : (cd x == 0) = true := by rw [cdq_0]; exact decide_eq_true h
theorem stK_l {z : Nat → Int} (h : dgZ z ≠ -1) : stK z = s4z (tnZ z) := by
  have t : ∀ l, 4 - dN z = l → tnZ z = turnZ z l := fun l hl => by
    unfold tnZ lackZ
    rw [hl]
  unfold stK
  by_cases a4 : z 4 = 0
  · rw [s4_no (l := 0) (by decide) a4, zz0 a4]
    by_cases a3 : z 3 = 0
    · rw [s4_no (l := 1) (by decide) a3, zz0 a3]
      by_cases a2 : z 2 = 0
      · rw [s4_no (l := 2) (by decide) a2, zz0 a2]
        by_cases a1 : z 1 = 0
        · rw [s4_no (l := 3) (by decide) a1, zz0 a1, t 4 (by unfold dN; rw [if_pos a4, if_pos a3, if_pos a2, if_pos a1])]
          rfl
        · rw [nz0 a1, t 3 (by unfold dN; rw [if_pos a4, if_pos a3, if_pos a2, if_neg a1])]
          simp only [Bool.true_and, Bool.false_and, Bool.and_false, Bool.or_false, Bool.false_or]
      · rw [nz0 a2, t 2 (by unfold dN; rw [if_pos a4, if_pos a3, if_neg a2])]
        simp only [Bool.true_and, Bool.false_and, Bool.and_false, Bool.or_false, Bool.false_or]
    · rw [nz0 a3, t 1 (by unfold dN; rw [if_pos a4, if_neg a3])]
      simp only [Bool.true_and, Bool.false_and, Bool.and_false, Bool.or_false, Bool.false_or]
  · rw [nz0 a4, t 0 (by unfold dN; rw [if_neg a4])]
    simp only [Bool.true_and, Bool.false_and, Bool.and_false, Bool.or_false, Bool.false_or]
theorem stK_0 {z : Nat → Int} (h : ∀ k, k < 5 → z k = 0) : stK z = false := by
  unfold stK
  rw [s4_no (l := 0) (by decide) (h 4 (by decide)), s4_no (l := 1) (by decide) (h 3 (by decide)), s4_no (l := 2) (by decide) (h 2 (by decide)), s4_no (l := 3) (by decide) (h 1 (by decide)), s4_no (l := 4) (by decide) (h 0 (by decide))]
  simp only [Bool.and_false, Bool.or_false]
theorem dgm_i {z : Nat → Int} (h0 : dgZ z = -1) : ∀ k, k < 5 → z k = 0 := by
  unfold dgZ at h0
  by_cases a4 : z 4 = 0
  · rw [if_pos a4] at h0
    by_cases a3 : z 3 = 0
    · rw [if_pos a3] at h0
      by_cases a2 : z 2 = 0
      · rw [if_pos a2] at h0
        by_cases a1 : z 1 = 0
        · rw [if_pos a1] at h0
          by_cases a0 : z 0 = 0
          · intro k hk
            rcases lt5 hk with rfl | rfl | rfl | rfl | rfl <;> assumption
          · rw [if_neg a0] at h0; exact absurd h0 (by decide)
        · rw [if_neg a1] at h0; exact absurd h0 (by decide)
      · rw [if_neg a2] at h0; exact absurd h0 (by decide)
    · rw [if_neg a3] at h0; exact absurd h0 (by decide)
  · rw [if_neg a4] at h0; exact absurd h0 (by decide)
theorem C_iff {Z : Nat → Int64} {z : Nat → Int} (e : ∀ k, k < 5 → Z k = lZ (z k)) (hb : bnd7 z) : stC Z = 0 ↔ stK z = false := by
  have hN := bd7N hb
  have d5 := dg_Z e hN
  unfold stC
  by_cases h0 : dgZ z = -1
  · rw [if_pos (d5.trans h0)]
    exact ⟨fun _ => stK_0 (dgm_i h0), fun _ => rfl⟩
  · rw [if_neg (fun y => h0 (d5.symm.trans y)), stK_l h0]
    have tv := tV_Z e hN
    have z4 : turnV Z (lackN Z) 4 = 0 ↔ tnZ z 4 = 0 := by
      rw [tv 4 (by decide)]
      exact lZ_0 (bd_of (tn_N hb 4 (by decide)) (by decide))
    by_cases c : tnZ z 4 = 0
    · rw [if_pos (z4.mpr c)]
      refine ⟨fun _ => ?_, fun _ => rfl⟩
      cases q : s4z (tnZ z)
      · rfl
      · have := s4_i q
        omega
    · rw [if_neg (fun y => c (z4.mp y))]
      have f := A_iff tv (tn_N hb)
      rw [s4_st (cdn c) (cd_lt _)] at f
      by_cases q : stA (turnV Z (lackN Z)) = 0
      · rw [if_pos q]
        exact ⟨fun _ => f.mp q, fun _ => rfl⟩
      · rw [if_neg q]
        exact ⟨fun y => absurd y (by decide), fun y => absurd (f.mpr y) q⟩
/-- the loop's numbers are lines in the gain -/
def zw (c : Nat → Int32) (k : Nat) (w : Int) : Int := 8 * (c k).toInt + w * (c (5 + k)).toInt
theorem zw_lin (c : Nat → Int32) (k : Nat) : lin (zw c k) := ⟨8 * (c k).toInt, (c (5 + k)).toInt, fun w => by unfold zw; rw [Int.mul_comm w]⟩
theorem lin.add {f g : Int → Int} (hf : lin f) (hg : lin g) : lin (fun w => f w + g w) := by
  obtain ⟨a, b, h⟩ := hf
  obtain ⟨c, d, k⟩ := hg
  exact ⟨a + c, b + d, fun w => by show f w + g w = _; rw [h, k]; grind⟩
theorem lin.sub {f g : Int → Int} (hf : lin f) (hg : lin g) : lin (fun w => f w - g w) := by
  obtain ⟨a, b, h⟩ := hf
  obtain ⟨c, d, k⟩ := hg
  exact ⟨a - c, b - d, fun w => by show f w - g w = _; rw [h, k]; grind⟩
theorem lin.sm {f : Int → Int} (m : Int) (hf : lin f) : lin (fun w => m * f w) := by
  obtain ⟨a, b, h⟩ := hf
  exact ⟨m * a, m * b, fun w => by show m * f w = _; rw [h]; grind⟩
theorem tb_lin (c : Nat → Int32) (l k : Nat) : lin (fun w => tBZ (fun j => zw c j w) l k) := by
  by_cases h : k < l
  · exact ⟨0, 0, fun w => by show tBZ _ l k = _; unfold tBZ; rw [if_pos h]; omega⟩
  · obtain ⟨a, b, e⟩ := zw_lin c (k - l)
    exact ⟨a, b, fun w => by show tBZ _ l k = _; unfold tBZ; rw [if_neg h]; exact e w⟩
def tw (c : Nat → Int32) (l k : Nat) (w : Int) : Int := turnZ (fun j => zw c j w) l k
theorem tw_lin (c : Nat → Int32) (l : Nat) : ∀ k, k < 5 → lin (tw c l k) := fun k hk => by
  have b := tb_lin c l
  rcases lt5 hk with rfl | rfl | rfl | rfl | rfl
  · exact ((((b 0).add (b 1)).add (b 2)).add (b 3)).add (b 4)
  · exact (((b 4).sub (b 0)).sm 4).add (((b 3).sub (b 1)).sm 2)
  · exact (((b 4).add (b 0)).sm 6).sub ((b 2).sm 2)
  · exact (((b 4).sub (b 0)).sm 4).sub (((b 3).sub (b 1)).sm 2)
  · exact ((((b 0).sub (b 1)).add (b 2)).sub (b 3)).add (b 4)
def stKf (c : Nat → Int32) (w : Int) : Bool := st4f (tw c 0) w || st4E (fun w => cd (zw c 4 w) == 0) (tw c 1) w || st4E (fun w => cd (zw c 4 w) == 0 && cd (zw c 3 w) == 0) (tw c 2) w || st4E (fun w => cd (zw c 4 w) == 0 && cd (zw c 3 w) == 0 && cd (zw c 2 w) == 0) (tw c 3) w || st4E (fun w => cd (zw c 4 w) == 0 && cd (zw c 3 w) == 0 && cd (zw c 2 w) == 0 && cd (zw c 1 w) == 0) (tw c 4) w
theorem stK_at (c : Nat → Int32) : atM 30 (stKf c) := by
  have z := fun k => (zw_lin c k).c0
  exact ((((st4_at (tw_lin c 0)).or (st4E_at (z 4) (tw_lin c 1))).or (st4E_at ((z 4).and (z 3)) (tw_lin c 2))).or (st4E_at (((z 4).and (z 3)).and (z 2)) (tw_lin c 3))).or (st4E_at ((((z 4).and (z 3)).and (z 2)).and (z 1)) (tw_lin c 4))
theorem stK_eq (c : Nat → Int32) (w : Int) : stKf c w = stK (fun j => zw c j w) := by
  unfold stKf
  rw [st4E_eq, st4E_eq, st4E_eq, st4E_eq]
  rfl
theorem stD_eq (c : Nat → Int32) (x : Int) : stD (cd ((fun j => zw c j x) 0)) (cd ((fun j => zw c j x) 1)) (cd ((fun j => zw c j x) 2)) (cd ((fun j => zw c j x) 3)) (cd ((fun j => zw c j x) 4)) (cd (zC (fun j => zw c j x))) (cd (zD (fun j => zw c j x))) = stDf (fun k => zw c k) x := by
  unfold stDf zC zD fC fD
  rfl
theorem SPK_ok : SPK := fun b c hb hc => by
  have e : ∀ w : Int, -800 ≤ w → w ≤ 800 → (∀ k, k < 5 → loopI c (iZ w) k = lZ ((fun j => zw c j w) k)) ∧ bnd7 (fun j => zw c j w) := fun w h1 h2 => by
    have t : (iZ w).toInt = w := iZ_toInt (by omega) (by omega)
    have g : inG (iZ w) := by
      unfold inG
      rw [t]
      exact ⟨h1, h2⟩
    have l : loopZ c (iZ w) = fun j => zw c j w := funext (fun k => by unfold loopZ zw; rw [t])
    rw [← l]
    exact ⟨fun k hk => loopI_Z hc.1 g hk, loopZ_bd hc.1 g⟩
  obtain ⟨v, hv, rfl, -⟩ := inC_N hb
  match v, hv with
  | 0, _ =>
    refine Nat.le_trans (cnt_at (stD_at (f := fun k => zw c k) (fun k _ => zw_lin c k)) (fun x h1 h2 => ?_)) (by decide)
    show stB (nI 0) (loopI c (iZ x)) = 0 ↔ _
    rw [show stB (nI 0) (loopI c (iZ x)) = stA (loopI c (iZ x)) from stB_0]
    have a := A_iff (z := fun j => zw c j x) (e x h1 h2).1 (bd7N (e x h1 h2).2)
    rw [stD_eq] at a
    exact a
  | 1, _ =>
    refine Nat.le_trans (cnt_at (stK_at c) (fun x h1 h2 => ?_)) (by decide)
    show stB (nI 1) (loopI c (iZ x)) = 0 ↔ _
    rw [show stB (nI 1) (loopI c (iZ x)) = stC (loopI c (iZ x)) from stB_1, stK_eq]
    exact C_iff (e x h1 h2).1 (e x h1 h2).2
