/-! ===== what all states keep ===== -/
def okV (c : Nat → Int32) : Prop := okC c ∧ 0 ≤ (c 11).toInt
def okT (S : TS) : Prop := okV S.1 ∧ ∀ j, j < S.2.1 → okV (S.2.2 j)
theorem okT_push {S : TS} {c : Nat → Int32} (h : okT S) (hc : okV c) : okT (c, pushK S.2.1, pushH S.1 S.2.2) := by
  refine ⟨hc, fun j hj => ?_⟩
  have hj : j < pushK S.2.1 := hj
  unfold pushK at hj
  match j with
  | 0 => exact h.1
  | j + 1 => exact h.2 j (by split at hj <;> omega)
theorem okV_9 {c : Nat → Int32} {i : Nat} {v : Int32} (h : okV c) (hi : i < 10) (hv : in9 v) : okV (va_up c i v) := by
  refine ⟨⟨fun t ht => ?_, ?_⟩, ?_⟩
  · by_cases e : t = i
    · rw [e, va_up_self]
      exact hv
    · rw [va_up_ne _ _ e]
      exact h.1.1 t ht
  · rw [va_up_ne _ _ (by omega)]
    exact h.1.2
  · rw [va_up_ne _ _ (by omega)]
    exact h.2
theorem okV_10 {c : Nat → Int32} {v : Int32} (h : okV c) (hv : inG v) : okV (va_up c 10 v) := by
  refine ⟨⟨fun t ht => ?_, ?_⟩, ?_⟩
  · rw [va_up_ne _ _ (by omega)]
    exact h.1.1 t ht
  · rw [va_up_self]
    exact hv
  · rw [va_up_ne _ _ (by decide)]
    exact h.2
theorem okV_11 {c : Nat → Int32} {v : Int32} (h : okV c) (hv : 0 ≤ v.toInt) : okV (va_up c 11 v) := by
  refine ⟨⟨fun t ht => ?_, ?_⟩, ?_⟩
  · rw [va_up_ne _ _ (by omega)]
    exact h.1.1 t ht
  · rw [va_up_ne _ _ (by decide)]
    exact h.1.2
  · rw [va_up_self]
    exact hv
theorem tIx_lt {a k : Int32} (ha : inC a 2) (hk : inC k 5) : tIx a k < 10 := by
  unfold tIx
  have := ha.1
  have := ha.2
  have := hk.1
  have := hk.2
  omega
theorem ok_part {S : TS} {a k v : Int32} (h : okT S) : okT (sPart S a k v).2 := by
  unfold sPart
  split
  · split
    · exact h
    · rename_i q _
      exact okT_push h (okV_9 h.1 (tIx_lt q.1 q.2.1) q.2.2)
  · exact h
theorem ok_gain {S : TS} {v : Int32} (h : okT S) : okT (sGain S v).2 := by
  unfold sGain
  split
  · split
    · exact h
    · rename_i q _
      exact okT_push h (okV_10 h.1 q)
  · exact h
theorem ok_seed {S : TS} {v : Int32} (h : okT S) : okT (sSeed S v).2 := by
  unfold sSeed
  split
  · rename_i q
    exact ⟨okV_11 h.1 (by rw [Int32.le_iff_toInt_le] at q; exact q), h.2⟩
  · exact h
theorem ok_undo {S : TS} (h : okT S) : okT (sUndo S).2 := by
  unfold sUndo
  split
  · exact h
  · exact ⟨h.2 0 (by omega), fun j hj => h.2 (j + 1) (by have hj : j < S.2.1 - 1 := hj; omega)⟩
theorem drawV_9 (d : Nat) : in9 (drawV d) := by
  unfold drawV
  have h : d / 65536 / 16 % 19 < 19 := Nat.mod_lt _ (by decide)
  have e : (nI (d / 65536 / 16 % 19) - 9).toInt = ((d / 65536 / 16 % 19 : Nat) : Int) - 9 := by
    rw [Int32.toInt_sub, nI_toInt (by omega), show (9 : Int32).toInt = 9 by decide]
    exact bmod32 (by omega) (by omega)
  show -9 ≤ (nI (d / 65536 / 16 % 19) - 9).toInt ∧ (nI (d / 65536 / 16 % 19) - 9).toInt ≤ 9
  rw [e]
  omega
theorem ok_step {S : TS} (h : okT S) : okT (stepT S) := by
  refine okT_push h ?_
  refine okV_9 (okV_11 h.1 ?_) (drawAt_lt _) (drawV_9 _)
  rw [nI_toInt (show drwN S < 2 ^ 31 from drawN_lt _)]
  omega
theorem ok_iter : ∀ (m : Nat) {S : TS}, okT S → okT (iterT m S)
  | 0, _, h => h
  | m + 1, _, h => ok_iter m (ok_step h)
theorem ok_drift {S : TS} {x : Int32} (h : okT S) : okT (sDrift S x).2 := by
  unfold sDrift
  split
  · exact h
  · split
    · exact ok_iter _ h
    · exact h
/-! the numbers that a text tells -/
theorem cTerm_v {LT : Nat → Int32} {z p : Nat} : 1 ≤ (cTerm LT z p).2.1.toInt ∧ (cTerm LT z p).2.1.toInt ≤ 9 := by
  unfold cTerm
  by_cases c1 : ltrB LT z p < 49
  · rw [if_pos c1]
    split <;> exact (show 1 ≤ (1 : Int32).toInt ∧ (1 : Int32).toInt ≤ 9 by decide)
  · rw [if_neg c1]
    by_cases c2 : 57 < ltrB LT z p
    · rw [if_pos c2]
      split <;> exact (show 1 ≤ (1 : Int32).toInt ∧ (1 : Int32).toInt ≤ 9 by decide)
    · rw [if_neg c2]
      have h := (digN_of c1 c2 (by decide) (by decide)).2
      have e : 1 ≤ (nI (digN (ltrB LT z p))).toInt ∧ (nI (digN (ltrB LT z p))).toInt ≤ 9 := by
        rw [Int32.lt_iff_toInt_lt, show (49 : Int32).toInt = 49 by decide] at c1
        rw [Int32.lt_iff_toInt_lt, show (57 : Int32).toInt = 57 by decide] at c2
        rw [nI_toInt (by omega)]
        omega
      split <;> exact e
theorem sg_9 {sg v : Int32} (hs : sg = 1 ∨ sg = -1) (h : 1 ≤ v.toInt ∧ v.toInt ≤ 9) : in9 (sg * v) := by
  rcases hs with rfl | rfl
  · rw [Int32.one_mul]
    exact ⟨by omega, by omega⟩
  · have e : (-1 * v).toInt = -v.toInt := by
      rw [Int32.toInt_mul, show (-1 : Int32).toInt = -1 by decide, show -1 * v.toInt = -v.toInt by omega]
      exact bmod32 (by omega) (by omega)
    show -9 ≤ (-1 * v).toInt ∧ (-1 * v).toInt ≤ 9
    rw [e]
    omega
def al9 (P : Nat → Int32) : Prop := ∀ t, t < 10 → in9 (P t)
theorem al9_up {P : Nat → Int32} {i : Nat} {v : Int32} (h : al9 P) (hv : in9 v) : al9 (va_up P i v) := fun t ht => by
  by_cases e : t = i
  · rw [e, va_up_self]
    exact hv
  · rw [va_up_ne _ _ e]
    exact h t ht
theorem cTerms_9 {LT : Nat → Int32} {z b : Nat} : ∀ (m : Nat) (la sg fg : Int32) (pw p : Nat) (P : Nat → Int32), (sg = 1 ∨ sg = -1) → al9 P → al9 (cTerms LT z b m la sg fg pw p P).2.1
  | 0, _, _, _, _, _, _, _, h => h
  | m + 1, la, sg, fg, pw, p, P, hs, h => by
    by_cases e0 : (cTerm LT z p).1 = 0
    · rw [cTerms_f e0]
      exact h
    · by_cases e1 : nI (cTerm LT z p).2.2.1 < la
      · rw [cTerms_s e0 e1]
        have h2 : al9 (va_up P (b + (cTerm LT z p).2.2.1) (sg * (cTerm LT z p).2.1)) := al9_up h (sg_9 hs cTerm_v)
        unfold cNext
        split
        · exact cTerms_9 m _ _ _ _ _ _ (Or.inl rfl) h2
        · split
          · exact cTerms_9 m _ _ _ _ _ _ (Or.inr rfl) h2
          · exact h2
      · rw [cTerms_g e0 e1]
        exact h
theorem cTermsAll_9 {LT : Nat → Int32} {z b : Nat} {fg : Int32} {pw p : Nat} {P : Nat → Int32} (h : al9 P) : al9 (cTermsAll LT z b fg pw p P).2.1 := by
  unfold cTermsAll
  split
  · exact cTerms_9 _ _ _ _ _ _ _ (Or.inr rfl) h
  · exact cTerms_9 _ _ _ _ _ _ _ (Or.inl rfl) h
theorem cText2_9 {LT : Nat → Int32} {z : Nat} {tq : Int32} {R : Int32 × (Nat → Int32) × Int32 × Nat × Nat} (h : al9 R.2.1) : al9 (cText2 LT z tq R).2.2.1 := by
  unfold cText2
  split
  · split <;> exact h
  · exact h
theorem cText_9 {LT : Nat → Int32} {z : Nat} {fg : Int32} {pw : Nat} {P : Nat → Int32} (h : al9 P) : al9 (cText LT z fg pw P).2.2.1 := by
  unfold cText
  split
  · split
    · exact cText2_9 (cTermsAll_9 (cTermsAll_9 h))
    · exact cText2_9 (cTermsAll_9 h)
  · exact cTermsAll_9 h
theorem ok_read {S : TS} {R : RdT} (h : okT S) (hR : al9 R.2.2.1) : okT (sRead S R).2 := by
  unfold sRead
  split
  · refine okT_push h ⟨⟨fun t ht => ?_, ?_⟩, ?_⟩
    · unfold rdC
      split
      · exact hR t ht
      · exact h.1.1.1 t ht
    · unfold rdC rdN
      rw [if_neg (by split <;> omega)]
      exact h.1.1.2
    · unfold rdC rdN
      rw [if_neg (by split <;> omega)]
      exact h.1.2
  · exact h
theorem ok_readC {S : TS} {LT : Nat → Int32} {z : Nat} {fg : Int32} {pw : Nat} {P : Nat → Int32} (h : okT S) : okT (sRead S (cText LT z fg pw (fillTo P 0 10))).2 := ok_read h (cText_9 (fun t ht => by rw [show fillTo P 0 10 t = 0 from if_pos ht]; decide))
theorem ok_type {z : Nat} {LT : Nat → Int32} {x : Int32} (h : tpOk z LT) : tpOk (sType z LT x).2.1 (sType z LT x).2.2 := by
  by_cases hx : 32 ≤ x.toInt ∧ x.toInt ≤ 126
  · rw [sType_ok hx]
    by_cases c : z < 60
    · rw [if_pos c]
      intro t ht
      have ht : t < z + 1 := ht
      show 32 ≤ (va_up LT z x t).toInt ∧ (va_up LT z x t).toInt ≤ 126
      by_cases e : t = z
      · rw [e, va_up_self]
        exact hx
      · rw [va_up_ne _ _ e]
        exact h t (by omega)
    · rw [if_neg c]
      exact h
  · rw [sType_bad hx]
    exact h
theorem okS_up {X : SH} {a : Nat} {v : Int32} (h : okS X) (hv : 0 ≤ v.toInt ∧ v.toInt ≤ 24) : ∀ s, s < 4 → 0 ≤ (va_up X.2.1 a v s).toInt ∧ (va_up X.2.1 a v s).toInt ≤ 24 := fun s hs => by
  by_cases e : s = a
  · rw [e, va_up_self]
    exact hv
  · rw [va_up_ne _ _ e]
    exact h s hs
theorem ok_sheet {X : SH} {s l z : Int32} (h : okS X) : okS (sSheet X s l z).2 := by
  unfold sSheet
  split
  · rename_i q
    split
    · rename_i q2
      have q3 := q.2.2
      rw [Int32.le_iff_toInt_le, show (24 : Int32).toInt = 24 by decide] at q3
      rw [Int32.le_iff_toInt_le, show (0 : Int32).toInt = 0 by decide] at q2
      exact okS_up h ⟨q2, q3⟩
    · exact h
  · exact h
theorem ok_drop {X : SH} {s : Int32} (h : okS X) : okS (sDrop X s).2 := by
  unfold sDrop
  split
  · split
    · exact h
    · exact okS_up h (by decide)
  · exact h
theorem ok_item {X : SH} {s l i : Int32} {v : Int64} (h : okS X) : okS (sItem X s l i v).2 := by
  unfold sItem
  split
  · split
    · exact h
    · exact h
  · exact h
theorem ok_copy {X : SH} {s i t j z : Int32} (h : okS X) : okS (sCopy X s i t j z).2 := by
  unfold sCopy
  split
  · split
    · exact h
    · split
      · split
        · exact h
        · exact h
      · exact h
  · exact h
theorem ok_film {S : TS} {X : SH} {w s l i : Int32} (h : okS X) : okS (sFilm S X w s l i).2 := by
  unfold sFilm
  split
  · split
    · exact h
    · exact h
  · exact h
theorem ok_T0 : okT TS0 := by
  refine ⟨⟨⟨fun t ht => ?_, by decide⟩, by decide⟩, fun j hj => absurd hj (Nat.not_lt_zero _)⟩
  match t, ht with
  | 0, _ => decide
  | 1, _ => decide
  | 2, _ => decide
  | 3, _ => decide
  | 4, _ => decide
  | 5, _ => decide
  | 6, _ => decide
  | 7, _ => decide
  | 8, _ => decide
  | 9, _ => decide
theorem ok_K0 : okT TK0 := by
  refine ⟨⟨⟨fun t ht => ?_, by decide⟩, by decide⟩, fun j hj => absurd hj (Nat.not_lt_zero _)⟩
  match t, ht with
  | 0, _ => decide
  | 1, _ => decide
  | 2, _ => decide
  | 3, _ => decide
  | 4, _ => decide
  | 5, _ => decide
  | 6, _ => decide
  | 7, _ => decide
  | 8, _ => decide
  | 9, _ => decide
theorem ok_S0 : okS SH0 := fun s _ => by
  show 0 ≤ (0 : Int32).toInt ∧ (0 : Int32).toInt ≤ 24
  decide
