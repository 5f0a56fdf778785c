/-! ===== numbers: the counts of a chain, by signs; the reference's ways ===== -/
def bit (σ : Int) : Int32 := if σ < 0 then 1 else 0
def sgM2 (fl b : Int32) : Int32 := if fl = b then 0 else 1
def sgT2 (D : Nat → Nat) (β : Nat → Int32) : Nat → Nat → Int32 → Int32 → Int32 → Int32 → Int32
  | 0, _, t, _, _, _ => t
  | r + 1, i, t, d2, d1, m1 => sgT2 D β r (i + 1) (t + (if sgM2 (sgF d2 (nI (D i))) (β i) = m1 then 1 else -1)) d1 (nI (D i)) (sgM2 (sgF d2 (nI (D i))) (β i))
theorem sgT_2 {LL : Nat → Nat → Int64} {dd D : Nat → Nat} {β : Nat → Int32} : ∀ (r i : Nat) (t d2 d1 m1 : Int32), (∀ j, i ≤ j → j < i + r → dd j = D j ∧ sgB (LL j (dd j)) = β j) → sgT LL dd r i t d2 d1 m1 = sgT2 D β r i t d2 d1 m1
  | 0, _, _, _, _, _, _ => rfl
  | r + 1, i, t, d2, d1, m1, h => by
    have h1 := h i (Nat.le_refl _) (by omega)
    have e : ∀ fl, sgM fl (LL i (dd i)) = sgM2 fl (β i) := fun fl => by
      unfold sgM sgM2
      rw [h1.2]
    rw [sgT, sgT2, sgT_2 r (i + 1) _ _ _ _ (fun j a b => h j (by omega) (by omega)), e, h1.1]
def sgA (D : List Nat) (σ : List Int) : Int32 := sgT2 (fun i => D.getD i 0) (fun i => bit (σ.getD i 0)) (D.length - 1) 1 0 (nI (D.getD 0 0) + 1) (nI (D.getD 0 0)) (bit (σ.getD 0 0))
def cF (D : List Nat) (σ : List Int) (e : Int32) : T3 := ((nI (D.getD 0 0) - nI (D.getD (D.length - 1) 0) - sgA D σ + nI (D.getD (D.length - 1) 0) - e) / 2, e, (nI (D.getD 0 0) - nI (D.getD (D.length - 1) 0) + sgA D σ + nI (D.getD (D.length - 1) 0) - e) / 2)
theorem bit_s {x : Int} (h : bdZ x) : sgB (lZ x) = bit x.sign := by
  rw [sg_si h]
  unfold bit
  rcases si_c x with ⟨q, -, f⟩ | ⟨q, -, f⟩ | ⟨q, -, f⟩
  · rw [f, if_neg (by omega), if_neg (by decide)]
  · rw [f, if_neg (by omega), if_neg (by decide)]
  · rw [f, if_pos q, if_pos (by decide)]
theorem LF.cA {z : Nat → Int} {D : List Nat} {σ : List Int} (h : LF z D σ) (h0 : dgZ z ≠ -1) {e : Int32} (he : raxL (ZL z (D.length - 1)) (D.getD (D.length - 1) 0) (D.getD (D.length - 1) 0) 0 = e) : (cAR z, cAE z, cAL z) = cF D σ e := by
  have hs := h.sz h0
  obtain ⟨h1, h2, h3, -, -⟩ := h
  have hd : ∀ i, i < D.length → ddZ z i = D.getD i 0 := fun i hi => (h3 i hi).2.1
  have hb : ∀ i, i < D.length → sgB (ZL z i (ddZ z i)) = bit (σ.getD i 0) := fun i hi => by
    obtain ⟨-, a2, a3, a4, -, a6⟩ := h3 i hi
    rw [hd i hi, ← a4]
    exact bit_s (a6 _ (by omega))
  have hE : cntE (ZL z) (ddZ z) (szZ z) = e := by
    unfold cntE
    rw [hs, if_neg (by omega), hd _ (by omega)]
    exact he
  have hT : sgTA (ZL z) (ddZ z) (szZ z) = sgA D σ := by
    unfold sgTA sgA
    rw [hs, hd 0 (by omega)]
    have := hb 0 (by omega)
    rw [hd 0 (by omega)] at this
    rw [this]
    exact sgT_2 _ _ _ _ _ _ (fun j a b => ⟨hd j (by omega), hb j (by omega)⟩)
  unfold cAR cAE cAL cntR cntL cF
  rw [hE, hT, hs, if_neg (by omega), if_neg (by omega), hd 0 (by omega), hd _ (by omega)]
/-! last lines -/
theorem rx0 {Z : Nat → Int64} : raxL Z 0 0 0 = 0 := rfl
theorem rx1 {Z : Nat → Int64} (h : Z 0 = 0) : raxL Z 1 1 0 = 1 := by
  rw [raxL, if_pos h]
  rfl
theorem rx2 {Z : Nat → Int64} (h : Z 0 ≠ 0) : raxL Z 2 2 0 = if sgB (Z 2) = sgB (Z 0) then 2 else 0 := by
  rw [raxL, if_neg h]
  rfl
theorem rx2z {Z : Nat → Int64} (h : Z 0 = 0) (h1 : Z 1 = 0) : raxL Z 2 2 0 = 2 := by
  rw [raxL, if_pos h, raxL, if_pos h1]
  rfl
theorem rx3 {Z : Nat → Int64} (h0 : Z 0 = 0) (h : Z 1 ≠ 0) : raxL Z 3 3 0 = if sgB (Z 3) = sgB (Z 1) then 3 else 1 := by
  rw [raxL, if_pos h0, raxL, if_neg h]
  rfl
theorem rx3z {Z : Nat → Int64} (h0 : Z 0 = 0) (h : Z 1 = 0) (h2 : Z 2 = 0) : raxL Z 3 3 0 = 3 := by
  rw [raxL, if_pos h0, raxL, if_pos h, raxL, if_pos h2]
  rfl
theorem rx4 {Z : Nat → Int64} (h0 : Z 0 ≠ 0) : raxL Z 4 4 0 = ra4 (Z 4) (Z 2) (Z 0) := by
  rw [raxL, if_neg h0]
  rfl
theorem rx42 {Z : Nat → Int64} (h0 : Z 0 = 0) (h1 : Z 1 = 0) (h2 : Z 2 ≠ 0) : raxL Z 4 4 0 = if sgB (Z 4) = sgB (Z 2) then 4 else 2 := by
  rw [raxL, if_pos h0, raxL, if_pos h1, raxL, if_neg h2]
  rfl
theorem rx44 {Z : Nat → Int64} (h0 : Z 0 = 0) (h1 : Z 1 = 0) (h2 : Z 2 = 0) (h3 : Z 3 = 0) : raxL Z 4 4 0 = 4 := by
  rw [raxL, if_pos h0, raxL, if_pos h1, raxL, if_pos h2, raxL, if_pos h3]
  rfl
/-! the ways of the reference -/
section
variable {B : Nat → Int64} {b : Nat → Int} {t : T3}
theorem dgN_b (e : ∀ k, k < 5 → B k = lZ (b k)) (hb : bdN 130000 b) : dgN B = dN b := by
  have q : ∀ k, k < 5 → (B k = 0 ↔ b k = 0) := fun k hk => by
    rw [e k hk]
    exact lZ_0 (bd_of (hb k hk) (by decide))
  unfold dgN dN
  simp only [q 1 (by decide), q 2 (by decide), q 3 (by decide), q 4 (by decide)]
theorem zB (e : ∀ k, k < 5 → B k = lZ (b k)) (hb : bdN 130000 b) {k : Nat} (hk : k < 5) : B k = 0 ↔ b k = 0 := by
  rw [e k hk]
  exact lZ_0 (bd_of (hb k hk) (by decide))
theorem co_b (e : ∀ k, k < 5 → B k = lZ (b k)) (hb : bdN 130000 b) : coM B = 0 ↔ b 4 * b 1 * b 1 - b 2 * b 1 * b 3 + b 0 * b 3 * b 3 = 0 := by
  have f : coM B = lZ (b 4 * b 1 * b 1 - b 2 * b 1 * b 3 + b 0 * b 3 * b 3) := by
    unfold coM
    rw [e 0 (by decide), e 1 (by decide), e 2 (by decide), e 3 (by decide), e 4 (by decide)]
    simp only [lZ_mul, lZ_sub, lZ_add]
  rw [f]
  refine lZ_0 (bd_of (N := 130000 * 130000 * 130000 * 3) ?_ (by decide))
  have h1 := ab_mul (ab_mul (hb 4 (by decide)) (hb 1 (by decide))) (hb 1 (by decide))
  have h2 := ab_mul (ab_mul (hb 2 (by decide)) (hb 1 (by decide))) (hb 3 (by decide))
  have h3 := ab_mul (ab_mul (hb 0 (by decide)) (hb 3 (by decide))) (hb 3 (by decide))
  omega
theorem cn_0 (e : ∀ k, k < 5 → B k = lZ (b k)) (hb : bdN 130000 b) (h1 : b 1 = 0) (h2 : b 2 = 0) (h3 : b 3 = 0) (h4 : b 4 = 0) : cnT B t = t := by
  unfold cnT
  rw [dgN_b e hb, if_pos (by unfold dN; rw [if_pos h4, if_pos h3, if_pos h2, if_pos h1]; rfl)]
theorem cn_sq (e : ∀ k, k < 5 → B k = lZ (b k)) (hb : bdN 130000 b) (h1 : b 1 = 0) (h3 : b 3 = 0) (hn : b 2 ≠ 0 ∨ b 4 ≠ 0) : cnT B t = sqsS (si (b 4)) (si (b 2)) (si (b 0)) (0 ≤ b 2 * b 2 - 4 * b 4 * b 0) t := by
  have hd : ¬ nI (dN b) = 0 := by
    unfold dN
    by_cases q4 : b 4 = 0
    · rw [if_pos q4, if_pos h3, if_neg (hn.resolve_right (fun y => y q4))]
      decide
    · rw [if_neg q4]
      decide
  unfold cnT
  rw [dgN_b e hb, if_neg hd, if_pos ((zB e hb (by decide)).mpr h1), if_pos ((zB e hb (by decide)).mpr h3), e 0 (by decide), e 2 (by decide), e 4 (by decide)]
  refine sqs_S (bd_of (hb 4 (by decide)) (by decide)) (bd_of (hb 2 (by decide)) (by decide)) (bd_of (hb 0 (by decide)) (by decide)) (bd_of (N := 130000 * 130000 * 5) ?_ (by decide))
  have h5 := ab_mul (hb 2 (by decide)) (hb 2 (by decide))
  have h6 := ab_mul (ab_mul (show (4 : Int).natAbs ≤ 4 by decide) (hb 4 (by decide))) (hb 0 (by decide))
  omega
theorem cn_X (e : ∀ k, k < 5 → B k = lZ (b k)) (hb : bdN 130000 b) (h : b 1 ≠ 0 ∨ b 3 ≠ 0) : cnT B t = cnX B t := by
  have hd : ¬ nI (dN b) = 0 := by
    unfold dN
    by_cases q4 : b 4 = 0
    · by_cases q3 : b 3 = 0
      · by_cases q2 : b 2 = 0
        · rw [if_pos q4, if_pos q3, if_pos q2, if_neg (h.resolve_right (fun y => y q3))]; decide
        · rw [if_pos q4, if_pos q3, if_neg q2]; decide
      · rw [if_pos q4, if_neg q3]; decide
    · rw [if_neg q4]; decide
  unfold cnT
  rw [dgN_b e hb, if_neg hd]
  by_cases q1 : B 1 = 0
  · rw [if_pos q1, if_neg (fun y => h.elim (fun z => z ((zB e hb (by decide)).mp q1)) (fun z => z ((zB e hb (by decide)).mp y)))]
  · rw [if_neg q1]
theorem cn_tw (e : ∀ k, k < 5 → B k = lZ (b k)) (hb : bdN 130000 b) (h1 : b 1 ≠ 0) (h3 : b 3 = 0) (h4 : b 4 = 0) : cnT B t = twS (si (b 2)) (si (b 1)) (si (b 0)) t := by
  have hd : dgN B < 3 := by
    rw [dgN_b e hb]
    unfold dN
    rw [if_pos h4, if_pos h3]
    split <;> first | decide | (split <;> decide)
  rw [cn_X e hb (Or.inl h1)]
  unfold cnX
  rw [if_pos ((zB e hb (by decide)).mpr h3)]
  unfold apM
  rw [if_pos hd, e 0 (by decide), e 1 (by decide), e 2 (by decide)]
  exact tw_S (bd_of (hb 2 (by decide)) (by decide)) (bd_of (hb 1 (by decide)) (by decide)) (bd_of (hb 0 (by decide)) (by decide))
theorem cn_co (e : ∀ k, k < 5 → B k = lZ (b k)) (hb : bdN 130000 b) (h3 : b 3 ≠ 0) (hc : b 4 * b 1 * b 1 - b 2 * b 1 * b 3 + b 0 * b 3 * b 3 = 0) : cnT B t = twS (si (b 4) * si (b 1)) (si (b 3) * si (b 1)) (si (b 0) * si (b 3)) (sqM (-si (b 1) * si (b 3)) t) := by
  rw [cn_X e hb (Or.inr h3)]
  unfold cnX
  rw [if_neg (fun y => h3 ((zB e hb (by decide)).mp y)), if_pos ((co_b e hb).mpr hc), e 0 (by decide), e 1 (by decide), e 3 (by decide), e 4 (by decide), lZ_mul, lZ_mul, lZ_mul, sn_si (bd_of (hb 1 (by decide)) (by decide)), sn_si (bd_of (hb 3 (by decide)) (by decide))]
  rw [tw_S (bd_of (ab_mul (hb 4 (by decide)) (hb 1 (by decide))) (by decide)) (bd_of (ab_mul (hb 3 (by decide)) (hb 1 (by decide))) (by decide)) (bd_of (ab_mul (hb 0 (by decide)) (hb 3 (by decide))) (by decide)), si_mul, si_mul, si_mul]
theorem cn_3 (e : ∀ k, k < 5 → B k = lZ (b k)) (hb : bdN 130000 b) (h3 : b 3 ≠ 0) (h4 : b 4 = 0) (hc : b 4 * b 1 * b 1 - b 2 * b 1 * b 3 + b 0 * b 3 * b 3 ≠ 0) : cnT B t = (t.1 + (thS (si (b 2) * si (b 3)) (si (b 2 * b 1 - b 3 * b 0)) (si (b 0) * si (b 3))).1, t.2.1 + 0, t.2.2 + (nI 3 - (thS (si (b 2) * si (b 3)) (si (b 2 * b 1 - b 3 * b 0)) (si (b 0) * si (b 3))).1)) := by
  have hd : dgN B = 3 := by rw [dgN_b e hb]; exact (dg3 h4 h3).2
  rw [cn_X e hb (Or.inr h3)]
  unfold cnX
  rw [if_neg (fun y => h3 ((zB e hb (by decide)).mp y)), if_neg (fun y => hc ((co_b e hb).mp y)), hd]
  unfold apM
  rw [if_neg (by decide), ap3_S e hb h3]
theorem cn_4 (e : ∀ k, k < 5 → B k = lZ (b k)) (hb : bdN 130000 b) (h4 : b 4 ≠ 0) (h : b 3 ≠ 0 ∧ b 4 * b 1 * b 1 - b 2 * b 1 * b 3 + b 0 * b 3 * b 3 ≠ 0 ∨ b 3 = 0 ∧ b 1 ≠ 0) : cnT B t = (t.1 + (foS (si (b 0) * si (b 4)) (si (b 1) * si (b 4)) (si (b 3) * si (b 4)) (si (b 3 * b 2 - b 4 * b 1)) (si ((b 3 * b 2 - b 4 * b 1) * b 1 - b 3 * b 3 * b 0) * si (b 4))).1, t.2.1 + 0, t.2.2 + (nI 4 - (foS (si (b 0) * si (b 4)) (si (b 1) * si (b 4)) (si (b 3) * si (b 4)) (si (b 3 * b 2 - b 4 * b 1)) (si ((b 3 * b 2 - b 4 * b 1) * b 1 - b 3 * b 3 * b 0) * si (b 4))).1)) := by
  have hd : dgN B = 4 := by rw [dgN_b e hb]; exact (dg4 h4).2
  rw [cn_X e hb (h.elim (fun y => Or.inr y.1) (fun y => Or.inl y.2))]
  have k : cnX B t = apM B 4 t := by
    unfold cnX
    rw [hd]
    rcases h with y | y
    · rw [if_neg (fun q => y.1 ((zB e hb (by decide)).mp q)), if_neg (fun q => y.2 ((co_b e hb).mp q))]
    · rw [if_pos ((zB e hb (by decide)).mpr y.1)]
  rw [k]
  unfold apM
  rw [if_neg (by decide), ap4_S e hb h4]
end
/-- what is left where the first m are 0 -/
def shb (z : Nat → Int) (m k : Nat) : Int := if k + m < 5 then z (k + m) else 0
theorem shb_e {Z A : Nat → Int64} {z : Nat → Int} {m : Nat} (e : ∀ k, k < 5 → Z k = lZ (z k)) : ∀ k, k < 5 → fill5 (shA Z m) A k = lZ (shb z m k) := fun k hk => by
  rw [fill5_at hk]
  unfold shA shb
  by_cases c : k + m < 5
  · rw [if_pos c, if_pos c, e _ c]
  · rw [if_neg c, if_neg c]
    rfl
theorem shb_b {z : Nat → Int} {m : Nat} (h : bdN 130000 z) : bdN 130000 (shb z m) := fun k hk => by
  unfold shb
  split
  · exact h _ (by assumption)
  · exact Nat.zero_le _
theorem lo_m {Z A : Nat → Int64} {m : Nat} (h : loM Z = m) : cntM Z A = cnT (fill5 (shA Z m) A) (0, nI m, 0) := by
  unfold cntM
  rw [h]
