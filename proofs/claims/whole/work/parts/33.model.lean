/-! ===== the reference: its cells, what is told ===== -/
def oMod (ac ia tm ri ev le ch ls rm sm ra fa : Int32) : Nat → Value := fun k => match k with
  | 0 => .ref 68
  | 1 => .ref 69
  | 2 => .int ac
  | 3 => .ref 70
  | 4 => .ref 71
  | 5 => .int ia
  | 6 => .ref 72
  | 7 => .int tm
  | 8 => .ref 73
  | 9 => .ref 74
  | 10 => .ref 75
  | 11 => .ref 76
  | 12 => .int ri
  | 13 => .int ev
  | 14 => .int le
  | 15 => .ref 77
  | 16 => .int ch
  | 17 => .int ls
  | 18 => .ref 78
  | 19 => .ref 79
  | 20 => .ref 80
  | 21 => .int rm
  | 22 => .ref 81
  | 23 => .ref 82
  | 24 => .ref 83
  | 25 => .int sm
  | 26 => .int ra
  | 27 => .int fa
  | 28 => .ref 84
  | _ => .null
theorem oMod_2 (ac ia tm ri ev le ch ls rm sm ra fa : Int32) (x9 : Int32) : va_up (oMod ac ia tm ri ev le ch ls rm sm ra fa) 2 (.int x9) = oMod x9 ia tm ri ev le ch ls rm sm ra fa := by
  funext k
  match k with
  | 0 => rfl
  | 1 => rfl
  | 2 => rfl
  | 3 => rfl
  | 4 => rfl
  | 5 => rfl
  | 6 => rfl
  | 7 => rfl
  | 8 => rfl
  | 9 => rfl
  | 10 => rfl
  | 11 => rfl
  | 12 => rfl
  | 13 => rfl
  | 14 => rfl
  | 15 => rfl
  | 16 => rfl
  | 17 => rfl
  | 18 => rfl
  | 19 => rfl
  | 20 => rfl
  | 21 => rfl
  | 22 => rfl
  | 23 => rfl
  | 24 => rfl
  | 25 => rfl
  | 26 => rfl
  | 27 => rfl
  | 28 => rfl
  | k + 29 => simp [va_up, oMod]
theorem oMod_5 (ac ia tm ri ev le ch ls rm sm ra fa : Int32) (x9 : Int32) : va_up (oMod ac ia tm ri ev le ch ls rm sm ra fa) 5 (.int x9) = oMod ac x9 tm ri ev le ch ls rm sm ra fa := by
  funext k
  match k with
  | 0 => rfl
  | 1 => rfl
  | 2 => rfl
  | 3 => rfl
  | 4 => rfl
  | 5 => rfl
  | 6 => rfl
  | 7 => rfl
  | 8 => rfl
  | 9 => rfl
  | 10 => rfl
  | 11 => rfl
  | 12 => rfl
  | 13 => rfl
  | 14 => rfl
  | 15 => rfl
  | 16 => rfl
  | 17 => rfl
  | 18 => rfl
  | 19 => rfl
  | 20 => rfl
  | 21 => rfl
  | 22 => rfl
  | 23 => rfl
  | 24 => rfl
  | 25 => rfl
  | 26 => rfl
  | 27 => rfl
  | 28 => rfl
  | k + 29 => simp [va_up, oMod]
theorem oMod_7 (ac ia tm ri ev le ch ls rm sm ra fa : Int32) (x9 : Int32) : va_up (oMod ac ia tm ri ev le ch ls rm sm ra fa) 7 (.int x9) = oMod ac ia x9 ri ev le ch ls rm sm ra fa := by
  funext k
  match k with
  | 0 => rfl
  | 1 => rfl
  | 2 => rfl
  | 3 => rfl
  | 4 => rfl
  | 5 => rfl
  | 6 => rfl
  | 7 => rfl
  | 8 => rfl
  | 9 => rfl
  | 10 => rfl
  | 11 => rfl
  | 12 => rfl
  | 13 => rfl
  | 14 => rfl
  | 15 => rfl
  | 16 => rfl
  | 17 => rfl
  | 18 => rfl
  | 19 => rfl
  | 20 => rfl
  | 21 => rfl
  | 22 => rfl
  | 23 => rfl
  | 24 => rfl
  | 25 => rfl
  | 26 => rfl
  | 27 => rfl
  | 28 => rfl
  | k + 29 => simp [va_up, oMod]
theorem oMod_12 (ac ia tm ri ev le ch ls rm sm ra fa : Int32) (x9 : Int32) : va_up (oMod ac ia tm ri ev le ch ls rm sm ra fa) 12 (.int x9) = oMod ac ia tm x9 ev le ch ls rm sm ra fa := by
  funext k
  match k with
  | 0 => rfl
  | 1 => rfl
  | 2 => rfl
  | 3 => rfl
  | 4 => rfl
  | 5 => rfl
  | 6 => rfl
  | 7 => rfl
  | 8 => rfl
  | 9 => rfl
  | 10 => rfl
  | 11 => rfl
  | 12 => rfl
  | 13 => rfl
  | 14 => rfl
  | 15 => rfl
  | 16 => rfl
  | 17 => rfl
  | 18 => rfl
  | 19 => rfl
  | 20 => rfl
  | 21 => rfl
  | 22 => rfl
  | 23 => rfl
  | 24 => rfl
  | 25 => rfl
  | 26 => rfl
  | 27 => rfl
  | 28 => rfl
  | k + 29 => simp [va_up, oMod]
theorem oMod_13 (ac ia tm ri ev le ch ls rm sm ra fa : Int32) (x9 : Int32) : va_up (oMod ac ia tm ri ev le ch ls rm sm ra fa) 13 (.int x9) = oMod ac ia tm ri x9 le ch ls rm sm ra fa := by
  funext k
  match k with
  | 0 => rfl
  | 1 => rfl
  | 2 => rfl
  | 3 => rfl
  | 4 => rfl
  | 5 => rfl
  | 6 => rfl
  | 7 => rfl
  | 8 => rfl
  | 9 => rfl
  | 10 => rfl
  | 11 => rfl
  | 12 => rfl
  | 13 => rfl
  | 14 => rfl
  | 15 => rfl
  | 16 => rfl
  | 17 => rfl
  | 18 => rfl
  | 19 => rfl
  | 20 => rfl
  | 21 => rfl
  | 22 => rfl
  | 23 => rfl
  | 24 => rfl
  | 25 => rfl
  | 26 => rfl
  | 27 => rfl
  | 28 => rfl
  | k + 29 => simp [va_up, oMod]
theorem oMod_14 (ac ia tm ri ev le ch ls rm sm ra fa : Int32) (x9 : Int32) : va_up (oMod ac ia tm ri ev le ch ls rm sm ra fa) 14 (.int x9) = oMod ac ia tm ri ev x9 ch ls rm sm ra fa := by
  funext k
  match k with
  | 0 => rfl
  | 1 => rfl
  | 2 => rfl
  | 3 => rfl
  | 4 => rfl
  | 5 => rfl
  | 6 => rfl
  | 7 => rfl
  | 8 => rfl
  | 9 => rfl
  | 10 => rfl
  | 11 => rfl
  | 12 => rfl
  | 13 => rfl
  | 14 => rfl
  | 15 => rfl
  | 16 => rfl
  | 17 => rfl
  | 18 => rfl
  | 19 => rfl
  | 20 => rfl
  | 21 => rfl
  | 22 => rfl
  | 23 => rfl
  | 24 => rfl
  | 25 => rfl
  | 26 => rfl
  | 27 => rfl
  | 28 => rfl
  | k + 29 => simp [va_up, oMod]
theorem oMod_16 (ac ia tm ri ev le ch ls rm sm ra fa : Int32) (x9 : Int32) : va_up (oMod ac ia tm ri ev le ch ls rm sm ra fa) 16 (.int x9) = oMod ac ia tm ri ev le x9 ls rm sm ra fa := by
  funext k
  match k with
  | 0 => rfl
  | 1 => rfl
  | 2 => rfl
  | 3 => rfl
  | 4 => rfl
  | 5 => rfl
  | 6 => rfl
  | 7 => rfl
  | 8 => rfl
  | 9 => rfl
  | 10 => rfl
  | 11 => rfl
  | 12 => rfl
  | 13 => rfl
  | 14 => rfl
  | 15 => rfl
  | 16 => rfl
  | 17 => rfl
  | 18 => rfl
  | 19 => rfl
  | 20 => rfl
  | 21 => rfl
  | 22 => rfl
  | 23 => rfl
  | 24 => rfl
  | 25 => rfl
  | 26 => rfl
  | 27 => rfl
  | 28 => rfl
  | k + 29 => simp [va_up, oMod]
theorem oMod_17 (ac ia tm ri ev le ch ls rm sm ra fa : Int32) (x9 : Int32) : va_up (oMod ac ia tm ri ev le ch ls rm sm ra fa) 17 (.int x9) = oMod ac ia tm ri ev le ch x9 rm sm ra fa := by
  funext k
  match k with
  | 0 => rfl
  | 1 => rfl
  | 2 => rfl
  | 3 => rfl
  | 4 => rfl
  | 5 => rfl
  | 6 => rfl
  | 7 => rfl
  | 8 => rfl
  | 9 => rfl
  | 10 => rfl
  | 11 => rfl
  | 12 => rfl
  | 13 => rfl
  | 14 => rfl
  | 15 => rfl
  | 16 => rfl
  | 17 => rfl
  | 18 => rfl
  | 19 => rfl
  | 20 => rfl
  | 21 => rfl
  | 22 => rfl
  | 23 => rfl
  | 24 => rfl
  | 25 => rfl
  | 26 => rfl
  | 27 => rfl
  | 28 => rfl
  | k + 29 => simp [va_up, oMod]
theorem oMod_21 (ac ia tm ri ev le ch ls rm sm ra fa : Int32) (x9 : Int32) : va_up (oMod ac ia tm ri ev le ch ls rm sm ra fa) 21 (.int x9) = oMod ac ia tm ri ev le ch ls x9 sm ra fa := by
  funext k
  match k with
  | 0 => rfl
  | 1 => rfl
  | 2 => rfl
  | 3 => rfl
  | 4 => rfl
  | 5 => rfl
  | 6 => rfl
  | 7 => rfl
  | 8 => rfl
  | 9 => rfl
  | 10 => rfl
  | 11 => rfl
  | 12 => rfl
  | 13 => rfl
  | 14 => rfl
  | 15 => rfl
  | 16 => rfl
  | 17 => rfl
  | 18 => rfl
  | 19 => rfl
  | 20 => rfl
  | 21 => rfl
  | 22 => rfl
  | 23 => rfl
  | 24 => rfl
  | 25 => rfl
  | 26 => rfl
  | 27 => rfl
  | 28 => rfl
  | k + 29 => simp [va_up, oMod]
theorem oMod_25 (ac ia tm ri ev le ch ls rm sm ra fa : Int32) (x9 : Int32) : va_up (oMod ac ia tm ri ev le ch ls rm sm ra fa) 25 (.int x9) = oMod ac ia tm ri ev le ch ls rm x9 ra fa := by
  funext k
  match k with
  | 0 => rfl
  | 1 => rfl
  | 2 => rfl
  | 3 => rfl
  | 4 => rfl
  | 5 => rfl
  | 6 => rfl
  | 7 => rfl
  | 8 => rfl
  | 9 => rfl
  | 10 => rfl
  | 11 => rfl
  | 12 => rfl
  | 13 => rfl
  | 14 => rfl
  | 15 => rfl
  | 16 => rfl
  | 17 => rfl
  | 18 => rfl
  | 19 => rfl
  | 20 => rfl
  | 21 => rfl
  | 22 => rfl
  | 23 => rfl
  | 24 => rfl
  | 25 => rfl
  | 26 => rfl
  | 27 => rfl
  | 28 => rfl
  | k + 29 => simp [va_up, oMod]
theorem oMod_26 (ac ia tm ri ev le ch ls rm sm ra fa : Int32) (x9 : Int32) : va_up (oMod ac ia tm ri ev le ch ls rm sm ra fa) 26 (.int x9) = oMod ac ia tm ri ev le ch ls rm sm x9 fa := by
  funext k
  match k with
  | 0 => rfl
  | 1 => rfl
  | 2 => rfl
  | 3 => rfl
  | 4 => rfl
  | 5 => rfl
  | 6 => rfl
  | 7 => rfl
  | 8 => rfl
  | 9 => rfl
  | 10 => rfl
  | 11 => rfl
  | 12 => rfl
  | 13 => rfl
  | 14 => rfl
  | 15 => rfl
  | 16 => rfl
  | 17 => rfl
  | 18 => rfl
  | 19 => rfl
  | 20 => rfl
  | 21 => rfl
  | 22 => rfl
  | 23 => rfl
  | 24 => rfl
  | 25 => rfl
  | 26 => rfl
  | 27 => rfl
  | 28 => rfl
  | k + 29 => simp [va_up, oMod]
theorem oMod_27 (ac ia tm ri ev le ch ls rm sm ra fa : Int32) (x9 : Int32) : va_up (oMod ac ia tm ri ev le ch ls rm sm ra fa) 27 (.int x9) = oMod ac ia tm ri ev le ch ls rm sm ra x9 := by
  funext k
  match k with
  | 0 => rfl
  | 1 => rfl
  | 2 => rfl
  | 3 => rfl
  | 4 => rfl
  | 5 => rfl
  | 6 => rfl
  | 7 => rfl
  | 8 => rfl
  | 9 => rfl
  | 10 => rfl
  | 11 => rfl
  | 12 => rfl
  | 13 => rfl
  | 14 => rfl
  | 15 => rfl
  | 16 => rfl
  | 17 => rfl
  | 18 => rfl
  | 19 => rfl
  | 20 => rfl
  | 21 => rfl
  | 22 => rfl
  | 23 => rfl
  | 24 => rfl
  | 25 => rfl
  | 26 => rfl
  | 27 => rfl
  | 28 => rfl
  | k + 29 => simp [va_up, oMod]
def inI (v a b : Int64) : Int32 := if v < a then 0 else if b < v then 0 else 1
theorem inI_iff {v : Int32} {a b : Int64} {x y : Int} (ha : a.toInt = x) (hb : b.toInt = y) : inI v.toInt64 a b = 0 ↔ ¬ (x ≤ v.toInt ∧ v.toInt ≤ y) := by
  unfold inI
  rw [if01, Int64.lt_iff_toInt_lt, Int64.lt_iff_toInt_lt, Int32.toInt_toInt64, ha, hb]
  omega
/-- such an object stands at 67 -/
def mObj (hp : mHp) (ac ia tm : Int32) : Prop := ∃ ri ev le ch ls rm sm ra fa : Int32, hp 67 = eO 8 (oMod ac ia tm ri ev le ch ls rm sm ra fa)
def mHist (PA : Nat → Int32) (k : Nat) (H : Nat → Nat → Int32) : Prop := ∀ j, j < k → ∀ t, t < 12 → PA (12 * (k - 1 - j) + t) = H j t
theorem mHist_drop {PA : Nat → Int32} {H : Nat → Nat → Int32} (h : mHist PA 6 H) : mHist (va_cpy PA PA 12 0 60) 5 H := fun j hj t ht => by
  unfold va_cpy
  rw [if_pos (by omega), show 12 + (12 * (5 - 1 - j) + t - 0) = 12 * (6 - 1 - j) + t by omega]
  exact h j (by omega) t ht
theorem mHist_push {PA C c : Nat → Int32} {k : Nat} {H : Nat → Nat → Int32} (h : mHist PA k H) (hc : eq12 C c) : mHist (va_cpy C PA 0 (12 * k) 12) (k + 1) (pushH c H) := fun j hj t ht => by
  unfold va_cpy
  match j with
  | 0 =>
    rw [if_pos (by omega), show 0 + (12 * (k + 1 - 1 - 0) + t - 12 * k) = t by omega]
    exact hc t ht
  | j + 1 =>
    rw [if_neg (by omega), show 12 * (k + 1 - 1 - (j + 1)) + t = 12 * (k - 1 - j) + t by omega]
    exact h j (by omega) t ht
set_option maxHeartbeats 400000 in
set_option maxRecDepth 100000 in
theorem t_X8_in {n : Nat} {hp : mHp} {v a b : Int64} : mC D_X8_in [.long v, .long a, .long b] n hp (rI (inI v a b) hp) := by
  refine m_enter rfl rfl (Nat.le_of_ble_eq_true rfl) (fun K hF => ?_)
  show mW K _ 0 0 _ _ 0 [.long v, .retAddr 0, .long a, .retAddr 0, .long b, .retAddr 0] []
  refine m_lload_n dX8_in_0 rfl ?_
  refine m_lload_n dX8_in_1 rfl ?_
  refine m_lc_lt (t := 17) dX8_in_2 dX8_in_3 (by decide) (fun c2 => ?_) (fun c2 => ?_)
  · refine m_iconst (v := 0) dX8_in_17 (by decide) ?_
    exact m_zreturn hF dX8_in_18 rfl rfl rfl rfl ⟨by unfold inI; simp only [if_pos c2], rfl⟩
  refine m_lload_n dX8_in_6 rfl ?_
  refine m_lload dX8_in_7 rfl ?_
  refine m_lc_gt (t := 17) dX8_in_9 dX8_in_10 (by decide) (fun c9 => ?_) (fun c9 => ?_)
  · refine m_iconst (v := 0) dX8_in_17 (by decide) ?_
    exact m_zreturn hF dX8_in_18 rfl rfl rfl rfl ⟨by unfold inI; simp only [if_neg c2, if_pos c9], rfl⟩
  refine m_iconst (v := 1) dX8_in_13 (by decide) ?_
  refine m_goto (t := 18) dX8_in_14 (by decide) ?_
  exact m_zreturn hF dX8_in_18 rfl rfl rfl rfl ⟨by unfold inI; simp only [if_neg c2, if_neg c9], rfl⟩

theorem eI_inj {la lb : Nat} {f g : Nat → Int32} (h : eI la f = eI lb g) : la = lb ∧ f = g := by
  have a := (Prod.mk.inj (Sum.inl.inj h)).2
  have c := Prod.mk.inj a
  exact ⟨c.1, Sum.inl.inj c.2⟩
theorem cpy_0 {α : Type} {f g : Nat → α} {i j : Nat} : va_cpy f g i j 0 = g := by
  funext t
  unfold va_cpy
  rw [if_neg (by omega)]
set_option maxHeartbeats 400000 in
set_option maxRecDepth 100000 in
theorem l_X8_bring {n : Nat} {hp : mHp} {a b la lb i j m : Nat} {f g : Nat → Int32} (h1 : hp a = eI la f) (h2 : hp b = eI lb g) (hab : a ≠ b ∨ j ≤ i) (h3 : i + m ≤ la) (h4 : j + m ≤ lb) (h5 : la ≤ 1000) (h6 : lb ≤ 1000) {K : mK} (hF : mFin K D_X8_bring n (rV (va_up hp b (eI lb (va_cpy f g i j m))))) : ∀ r k : Nat, k + r = m → mW K D_X8_bring 0 0 n (va_up hp b (eI lb (va_cpy f g i j k))) 3 [.ref a, .int (nI i), .ref b, .int (nI j), .int (nI m), .int (nI k)] [] := by
  intro r
  induction r using Nat.strongRecOn with
  | ind r ih =>
    intro k hkr
    have hRd : ∃ fa : Nat → Int32, va_up hp b (eI lb (va_cpy f g i j k)) a = eI la fa ∧ fa (i + k) = f (i + k) := by
      by_cases e : a = b
      · subst e
        have e1 : eI la f = eI lb g := h1.symm.trans h2
        obtain ⟨rfl, rfl⟩ := eI_inj e1
        refine ⟨va_cpy f f i j k, va_up_self _ _ _, ?_⟩
        have hji : j ≤ i := hab.resolve_left (fun q => q rfl)
        unfold va_cpy
        rw [if_neg (by omega)]
      · exact ⟨f, (va_up_ne _ _ e).trans h1, rfl⟩
    obtain ⟨fa, hRd, hfa⟩ := hRd
    refine m_iload dX8_bring_3 rfl ?_
    refine m_iload dX8_bring_5 rfl ?_
    refine m_icmp_ge (t := 28) dX8_bring_7 (by decide) (fun cc => ?_) (fun cc => ?_)
    · have hm : k = m := by have := nI_cmp' (by omega) (by omega) cc; omega
      subst hm
      exact m_return hF dX8_bring_28 rfl rfl rfl ⟨rfl, rfl⟩
    have hlt : k < m := nI_cmp (by omega) (by omega) cc
    refine m_aload_n dX8_bring_10 rfl ?_
    refine m_iload_n dX8_bring_11 rfl ?_
    refine m_iload dX8_bring_12 rfl ?_
    refine m_iadd dX8_bring_14 ?_
    refine m_ci (v := nI (j + k)) (nI_add j k) ?_
    refine m_aload_n dX8_bring_15 rfl ?_
    refine m_iload_n dX8_bring_16 rfl ?_
    refine m_iload dX8_bring_17 rfl ?_
    refine m_iadd dX8_bring_19 ?_
    refine m_ci (v := nI (i + k)) (nI_add i k) ?_
    refine m_iaload (f := fa) dX8_bring_20 (by first | exact hRd | exact va_up_self _ _ _) (mIx_lit (show i + k < la by omega) (by omega)) ?_
    refine m_ci hfa ?_
    refine m_iastore dX8_bring_21 (by first | exact hRd | exact va_up_self _ _ _) (mIx_lit (show j + k < lb by omega) (by omega)) ?_
    try rw [va_uu]
    have e9 : va_up (va_cpy f g i j k) (j + k) (f (i + k)) = va_cpy f g i j (k + 1) := by
      funext t
      by_cases e : t = j + k
      · rw [e, va_up_self]
        unfold va_cpy
        rw [if_pos (by omega), show i + (j + k - j) = i + k by omega]
      · rw [va_up_ne _ _ e]
        unfold va_cpy
        by_cases e2 : j ≤ t ∧ t < j + k
        · rw [if_pos e2, if_pos (by omega)]
        · rw [if_neg e2, if_neg (by omega)]
    rw [e9]
    refine m_iinc (v := nI (k + 1)) dX8_bring_22 rfl (nI_1 k) (by decide) ?_
    show mW _ _ _ _ _ _ 25 [_, _, _, _, _, _] _
    refine m_goto (t := 3) dX8_bring_25 (by decide) ?_
    exact ih (r - 1) (by omega) (k + 1) (by omega)

set_option maxHeartbeats 400000 in
set_option maxRecDepth 100000 in
theorem t_X8_bring {n : Nat} {hp : mHp} {a b la lb i j m : Nat} {f g : Nat → Int32} (h1 : hp a = eI la f) (h2 : hp b = eI lb g) (hab : a ≠ b ∨ j ≤ i) (h3 : i + m ≤ la) (h4 : j + m ≤ lb) (h5 : la ≤ 1000) (h6 : lb ≤ 1000) : mC D_X8_bring [.ref a, .int (nI i), .ref b, .int (nI j), .int (nI m)] n hp (rV (va_up hp b (eI lb (va_cpy f g i j m)))) := by
  refine m_enter rfl rfl (Nat.le_of_ble_eq_true rfl) (fun K hF => ?_)
  show mW K _ 0 0 _ _ 0 [.ref a, .int (nI i), .ref b, .int (nI j), .int (nI m), .retAddr 0] []
  refine m_iconst (v := 0) dX8_bring_0 (by decide) ?_
  refine m_istore dX8_bring_1 (by decide) ?_
  show mW _ _ _ _ _ _ 3 [_, _, _, _, _, _] _
  have q9 := l_X8_bring h1 h2 hab h3 h4 h5 h6 hF m 0 (by omega)
  rw [cpy_0, va_uid hp h2] at q9
  exact q9

abbrev qNotes (hp : mHp) (k : Nat) (c : Nat → Int32) (H : Nat → Nat → Int32) (ia tm ri ev le ch ls rm sm ra fa : Int32) : mQ := fun v hp' => v = none ∧ ∃ PA' : Nat → Int32, hp' = va_up (va_up hp 69 (eI 72 PA')) 67 (eO 8 (oMod (nI (pushK k)) ia tm ri ev le ch ls rm sm ra fa)) ∧ mHist PA' (pushK k) (pushH c H)
theorem up_3 {hp : mHp} {x y z u : mE} : va_up (va_up (va_up (va_up hp 69 x) 67 y) 69 z) 67 u = va_up (va_up hp 69 z) 67 u := by
  funext q
  by_cases e : q = 67
  · rw [e, va_up_self, va_up_self]
  · rw [va_up_ne _ _ e, va_up_ne _ _ e]
    by_cases e2 : q = 69
    · rw [e2, va_up_self, va_up_self]
    · rw [va_up_ne _ _ e2, va_up_ne _ _ e, va_up_ne _ _ e2, va_up_ne _ _ e2]
set_option maxHeartbeats 400000 in
set_option maxRecDepth 100000 in
theorem t_X8_notesA {n : Nat} {hp : mHp} {k : Nat} {ia tm ri ev le ch ls rm sm ra fa : Int32} {C PA c : Nat → Int32} {H : Nat → Nat → Int32} (h1 : hp 67 = eO 8 (oMod (nI k) ia tm ri ev le ch ls rm sm ra fa)) (h2 : hp 68 = eI 12 C) (h3 : hp 69 = eI 72 PA) (hk : k < 6) (hc : eq12 C c) (hH : mHist PA k H) : mC D_X8_notes [.ref 67] n hp (qNotes hp k c H ia tm ri ev le ch ls rm sm ra fa) := by
  refine m_enter rfl rfl (Nat.le_of_ble_eq_true rfl) (fun K hF => ?_)
  show mW K _ 0 0 _ _ 0 [.ref 67] []
  refine m_aload_n dX8_notes_0 rfl ?_
  refine m_getfield dX8_notes_1 fl_X8_66 (by first | assumption | rfl | exact (va_up_ne _ _ (by decide)).trans h1 | exact (va_up_ne _ _ (by decide)).trans h2 | exact (va_up_ne _ _ (by decide)).trans ((va_up_ne _ _ (by decide)).trans h1) | exact va_up_self _ _ _ | exact (va_up_ne _ _ (by decide)).trans (va_up_self _ _ _)) (by first | assumption | rfl | exact (va_up_ne _ _ (by decide)).trans h1 | exact (va_up_ne _ _ (by decide)).trans h2 | exact (va_up_ne _ _ (by decide)).trans ((va_up_ne _ _ (by decide)).trans h1) | exact va_up_self _ _ _ | exact (va_up_ne _ _ (by decide)).trans (va_up_self _ _ _)) ?_
  show mW _ _ _ _ _ _ _ _ (.int _ :: _)
  refine m_bipush (v := 6) dX8_notes_4 (by decide) ?_
  refine m_icmp_ne (t := 35) dX8_notes_6 (by decide) (fun c6 => ?_) (fun c6 => ?_)
  rotate_left
  · exact absurd ((nI_eq (b := 6) (by omega) (by decide)).mp c6) (by omega)
  refine m_aload_n dX8_notes_35 rfl ?_
  refine m_getfield dX8_notes_36 fl_X8_7 (by first | assumption | rfl | exact (va_up_ne _ _ (by decide)).trans h1 | exact (va_up_ne _ _ (by decide)).trans h2 | exact (va_up_ne _ _ (by decide)).trans ((va_up_ne _ _ (by decide)).trans h1) | exact va_up_self _ _ _ | exact (va_up_ne _ _ (by decide)).trans (va_up_self _ _ _)) (by first | assumption | rfl | exact (va_up_ne _ _ (by decide)).trans h1 | exact (va_up_ne _ _ (by decide)).trans h2 | exact (va_up_ne _ _ (by decide)).trans ((va_up_ne _ _ (by decide)).trans h1) | exact va_up_self _ _ _ | exact (va_up_ne _ _ (by decide)).trans (va_up_self _ _ _)) ?_
  show mW _ _ _ _ _ _ _ _ (.ref _ :: _)
  refine m_iconst (v := 0) dX8_notes_39 (by decide) ?_
  refine m_aload_n dX8_notes_40 rfl ?_
  refine m_getfield dX8_notes_41 fl_X8_13 (by first | assumption | rfl | exact (va_up_ne _ _ (by decide)).trans h1 | exact (va_up_ne _ _ (by decide)).trans h2 | exact (va_up_ne _ _ (by decide)).trans ((va_up_ne _ _ (by decide)).trans h1) | exact va_up_self _ _ _ | exact (va_up_ne _ _ (by decide)).trans (va_up_self _ _ _)) (by first | assumption | rfl | exact (va_up_ne _ _ (by decide)).trans h1 | exact (va_up_ne _ _ (by decide)).trans h2 | exact (va_up_ne _ _ (by decide)).trans ((va_up_ne _ _ (by decide)).trans h1) | exact va_up_self _ _ _ | exact (va_up_ne _ _ (by decide)).trans (va_up_self _ _ _)) ?_
  show mW _ _ _ _ _ _ _ _ (.ref _ :: _)
  refine m_bipush (v := 12) dX8_notes_44 (by decide) ?_
  refine m_aload_n dX8_notes_46 rfl ?_
  refine m_getfield dX8_notes_47 fl_X8_66 (by first | assumption | rfl | exact (va_up_ne _ _ (by decide)).trans h1 | exact (va_up_ne _ _ (by decide)).trans h2 | exact (va_up_ne _ _ (by decide)).trans ((va_up_ne _ _ (by decide)).trans h1) | exact va_up_self _ _ _ | exact (va_up_ne _ _ (by decide)).trans (va_up_self _ _ _)) (by first | assumption | rfl | exact (va_up_ne _ _ (by decide)).trans h1 | exact (va_up_ne _ _ (by decide)).trans h2 | exact (va_up_ne _ _ (by decide)).trans ((va_up_ne _ _ (by decide)).trans h1) | exact va_up_self _ _ _ | exact (va_up_ne _ _ (by decide)).trans (va_up_self _ _ _)) ?_
  show mW _ _ _ _ _ _ _ _ (.int _ :: _)
  refine m_imul dX8_notes_50 ?_
  refine m_ci (v := nI (12 * k)) (nI_mulN 12 k) ?_
  refine m_bipush (v := 12) dX8_notes_51 (by decide) ?_
  refine m_invS_V dX8_notes_53 lk_X8_69 ar_X8_bring (t_X8_bring (a := 68) (b := 69) (i := 0) (j := 12 * k) (m := 12) h2 h3 (Or.inl (by decide)) (by decide) (by omega) (by decide) (by decide)) rfl (Nat.le_of_ble_eq_true rfl) (by decide) (by decide) (by decide) (by decide) rfl rfl ?_
  try rw [va_uu]
  refine m_aload_n dX8_notes_56 rfl ?_
  refine m_dup dX8_notes_57 rfl ?_
  refine m_getfield dX8_notes_58 fl_X8_66 (by first | assumption | rfl | exact (va_up_ne _ _ (by decide)).trans h1 | exact (va_up_ne _ _ (by decide)).trans h2 | exact (va_up_ne _ _ (by decide)).trans ((va_up_ne _ _ (by decide)).trans h1) | exact va_up_self _ _ _ | exact (va_up_ne _ _ (by decide)).trans (va_up_self _ _ _)) (by first | assumption | rfl | exact (va_up_ne _ _ (by decide)).trans h1 | exact (va_up_ne _ _ (by decide)).trans h2 | exact (va_up_ne _ _ (by decide)).trans ((va_up_ne _ _ (by decide)).trans h1) | exact va_up_self _ _ _ | exact (va_up_ne _ _ (by decide)).trans (va_up_self _ _ _)) ?_
  show mW _ _ _ _ _ _ _ _ (.int _ :: _)
  refine m_iconst (v := 1) dX8_notes_61 (by decide) ?_
  refine m_iadd dX8_notes_62 ?_
  refine m_ci (v := nI (k + 1)) (nI_add k 1) ?_
  refine m_putfield dX8_notes_63 fl_X8_66 (by first | assumption | rfl | exact (va_up_ne _ _ (by decide)).trans h1 | exact (va_up_ne _ _ (by decide)).trans h2 | exact (va_up_ne _ _ (by decide)).trans ((va_up_ne _ _ (by decide)).trans h1) | exact va_up_self _ _ _ | exact (va_up_ne _ _ (by decide)).trans (va_up_self _ _ _)) (fun _ => rfl) (fun _ => rfl) ?_
  try rw [va_uu]
  rw [oMod_2]
  exact m_return hF dX8_notes_66 rfl rfl rfl ⟨rfl, _, by unfold pushK; rw [if_neg (by omega)], by unfold pushK; rw [if_neg (by omega)]; exact mHist_push hH hc⟩

set_option maxHeartbeats 400000 in
set_option maxRecDepth 100000 in
theorem t_X8_notesB {n : Nat} {hp : mHp} {ia tm ri ev le ch ls rm sm ra fa : Int32} {C PA c : Nat → Int32} {H : Nat → Nat → Int32} (h1 : hp 67 = eO 8 (oMod (nI 6) ia tm ri ev le ch ls rm sm ra fa)) (h2 : hp 68 = eI 12 C) (h3 : hp 69 = eI 72 PA) (hc : eq12 C c) (hH : mHist PA 6 H) : mC D_X8_notes [.ref 67] n hp (qNotes hp 6 c H ia tm ri ev le ch ls rm sm ra fa) := by
  refine m_enter rfl rfl (Nat.le_of_ble_eq_true rfl) (fun K hF => ?_)
  show mW K _ 0 0 _ _ 0 [.ref 67] []
  refine m_aload_n dX8_notes_0 rfl ?_
  refine m_getfield dX8_notes_1 fl_X8_66 (by first | assumption | rfl | exact (va_up_ne _ _ (by decide)).trans h1 | exact (va_up_ne _ _ (by decide)).trans h2 | exact (va_up_ne _ _ (by decide)).trans ((va_up_ne _ _ (by decide)).trans h1) | exact va_up_self _ _ _ | exact (va_up_ne _ _ (by decide)).trans (va_up_self _ _ _)) (by first | assumption | rfl | exact (va_up_ne _ _ (by decide)).trans h1 | exact (va_up_ne _ _ (by decide)).trans h2 | exact (va_up_ne _ _ (by decide)).trans ((va_up_ne _ _ (by decide)).trans h1) | exact va_up_self _ _ _ | exact (va_up_ne _ _ (by decide)).trans (va_up_self _ _ _)) ?_
  show mW _ _ _ _ _ _ _ _ (.int _ :: _)
  refine m_bipush (v := 6) dX8_notes_4 (by decide) ?_
  refine m_icmp_ne (t := 35) dX8_notes_6 (by decide) (fun c6 => ?_) (fun c6 => ?_)
  · exact absurd (show nI 6 = 6 by decide) c6
  refine m_aload_n dX8_notes_9 rfl ?_
  refine m_getfield dX8_notes_10 fl_X8_13 (by first | assumption | rfl | exact (va_up_ne _ _ (by decide)).trans h1 | exact (va_up_ne _ _ (by decide)).trans h2 | exact (va_up_ne _ _ (by decide)).trans ((va_up_ne _ _ (by decide)).trans h1) | exact va_up_self _ _ _ | exact (va_up_ne _ _ (by decide)).trans (va_up_self _ _ _)) (by first | assumption | rfl | exact (va_up_ne _ _ (by decide)).trans h1 | exact (va_up_ne _ _ (by decide)).trans h2 | exact (va_up_ne _ _ (by decide)).trans ((va_up_ne _ _ (by decide)).trans h1) | exact va_up_self _ _ _ | exact (va_up_ne _ _ (by decide)).trans (va_up_self _ _ _)) ?_
  show mW _ _ _ _ _ _ _ _ (.ref _ :: _)
  refine m_bipush (v := 12) dX8_notes_13 (by decide) ?_
  refine m_aload_n dX8_notes_15 rfl ?_
  refine m_getfield dX8_notes_16 fl_X8_13 (by first | assumption | rfl | exact (va_up_ne _ _ (by decide)).trans h1 | exact (va_up_ne _ _ (by decide)).trans h2 | exact (va_up_ne _ _ (by decide)).trans ((va_up_ne _ _ (by decide)).trans h1) | exact va_up_self _ _ _ | exact (va_up_ne _ _ (by decide)).trans (va_up_self _ _ _)) (by first | assumption | rfl | exact (va_up_ne _ _ (by decide)).trans h1 | exact (va_up_ne _ _ (by decide)).trans h2 | exact (va_up_ne _ _ (by decide)).trans ((va_up_ne _ _ (by decide)).trans h1) | exact va_up_self _ _ _ | exact (va_up_ne _ _ (by decide)).trans (va_up_self _ _ _)) ?_
  show mW _ _ _ _ _ _ _ _ (.ref _ :: _)
  refine m_iconst (v := 0) dX8_notes_19 (by decide) ?_
  refine m_bipush (v := 60) dX8_notes_20 (by decide) ?_
  refine m_invS_V dX8_notes_22 lk_X8_69 ar_X8_bring (t_X8_bring (a := 69) (b := 69) (i := 12) (j := 0) (m := 60) h3 h3 (Or.inr (by decide)) (by decide) (by decide) (by decide) (by decide)) rfl (Nat.le_of_ble_eq_true rfl) (by decide) (by decide) (by decide) (by decide) rfl rfl ?_
  try rw [va_uu]
  refine m_aload_n dX8_notes_25 rfl ?_
  refine m_dup dX8_notes_26 rfl ?_
  refine m_getfield dX8_notes_27 fl_X8_66 (by first | assumption | rfl | exact (va_up_ne _ _ (by decide)).trans h1 | exact (va_up_ne _ _ (by decide)).trans h2 | exact (va_up_ne _ _ (by decide)).trans ((va_up_ne _ _ (by decide)).trans h1) | exact va_up_self _ _ _ | exact (va_up_ne _ _ (by decide)).trans (va_up_self _ _ _)) (by first | assumption | rfl | exact (va_up_ne _ _ (by decide)).trans h1 | exact (va_up_ne _ _ (by decide)).trans h2 | exact (va_up_ne _ _ (by decide)).trans ((va_up_ne _ _ (by decide)).trans h1) | exact va_up_self _ _ _ | exact (va_up_ne _ _ (by decide)).trans (va_up_self _ _ _)) ?_
  show mW _ _ _ _ _ _ _ _ (.int _ :: _)
  refine m_iconst (v := 1) dX8_notes_30 (by decide) ?_
  refine m_isub dX8_notes_31 ?_
  refine m_ci (v := nI 5) (by decide) ?_
  refine m_putfield dX8_notes_32 fl_X8_66 (by first | assumption | rfl | exact (va_up_ne _ _ (by decide)).trans h1 | exact (va_up_ne _ _ (by decide)).trans h2 | exact (va_up_ne _ _ (by decide)).trans ((va_up_ne _ _ (by decide)).trans h1) | exact va_up_self _ _ _ | exact (va_up_ne _ _ (by decide)).trans (va_up_self _ _ _)) (fun _ => rfl) (fun _ => rfl) ?_
  try rw [va_uu]
  rw [oMod_2]
  skip
  refine m_aload_n dX8_notes_35 rfl ?_
  refine m_getfield dX8_notes_36 fl_X8_7 (by first | assumption | rfl | exact (va_up_ne _ _ (by decide)).trans h1 | exact (va_up_ne _ _ (by decide)).trans h2 | exact (va_up_ne _ _ (by decide)).trans ((va_up_ne _ _ (by decide)).trans h1) | exact va_up_self _ _ _ | exact (va_up_ne _ _ (by decide)).trans (va_up_self _ _ _)) (by first | assumption | rfl | exact (va_up_ne _ _ (by decide)).trans h1 | exact (va_up_ne _ _ (by decide)).trans h2 | exact (va_up_ne _ _ (by decide)).trans ((va_up_ne _ _ (by decide)).trans h1) | exact va_up_self _ _ _ | exact (va_up_ne _ _ (by decide)).trans (va_up_self _ _ _)) ?_
  show mW _ _ _ _ _ _ _ _ (.ref _ :: _)
  refine m_iconst (v := 0) dX8_notes_39 (by decide) ?_
  refine m_aload_n dX8_notes_40 rfl ?_
  refine m_getfield dX8_notes_41 fl_X8_13 (by first | assumption | rfl | exact (va_up_ne _ _ (by decide)).trans h1 | exact (va_up_ne _ _ (by decide)).trans h2 | exact (va_up_ne _ _ (by decide)).trans ((va_up_ne _ _ (by decide)).trans h1) | exact va_up_self _ _ _ | exact (va_up_ne _ _ (by decide)).trans (va_up_self _ _ _)) (by first | assumption | rfl | exact (va_up_ne _ _ (by decide)).trans h1 | exact (va_up_ne _ _ (by decide)).trans h2 | exact (va_up_ne _ _ (by decide)).trans ((va_up_ne _ _ (by decide)).trans h1) | exact va_up_self _ _ _ | exact (va_up_ne _ _ (by decide)).trans (va_up_self _ _ _)) ?_
  show mW _ _ _ _ _ _ _ _ (.ref _ :: _)
  refine m_bipush (v := 12) dX8_notes_44 (by decide) ?_
  refine m_aload_n dX8_notes_46 rfl ?_
  refine m_getfield dX8_notes_47 fl_X8_66 (by first | assumption | rfl | exact (va_up_ne _ _ (by decide)).trans h1 | exact (va_up_ne _ _ (by decide)).trans h2 | exact (va_up_ne _ _ (by decide)).trans ((va_up_ne _ _ (by decide)).trans h1) | exact va_up_self _ _ _ | exact (va_up_ne _ _ (by decide)).trans (va_up_self _ _ _)) (by first | assumption | rfl | exact (va_up_ne _ _ (by decide)).trans h1 | exact (va_up_ne _ _ (by decide)).trans h2 | exact (va_up_ne _ _ (by decide)).trans ((va_up_ne _ _ (by decide)).trans h1) | exact va_up_self _ _ _ | exact (va_up_ne _ _ (by decide)).trans (va_up_self _ _ _)) ?_
  show mW _ _ _ _ _ _ _ _ (.int _ :: _)
  refine m_imul dX8_notes_50 ?_
  refine m_ci (v := nI 60) (by decide) ?_
  refine m_bipush (v := 12) dX8_notes_51 (by decide) ?_
  refine m_invS_V dX8_notes_53 lk_X8_69 ar_X8_bring (t_X8_bring (a := 68) (b := 69) (la := 12) (lb := 72) (f := C) (g := va_cpy PA PA 12 0 60) (i := 0) (j := 60) (m := 12) ((va_up_ne _ _ (by decide)).trans ((va_up_ne _ _ (by decide)).trans h2)) ((va_up_ne _ _ (by decide)).trans (va_up_self _ _ _)) (Or.inl (by decide)) (by decide) (by decide) (by decide) (by decide)) rfl (Nat.le_of_ble_eq_true rfl) (by decide) (by decide) (by decide) (by decide) rfl rfl ?_
  try rw [va_uu]
  refine m_aload_n dX8_notes_56 rfl ?_
  refine m_dup dX8_notes_57 rfl ?_
  refine m_getfield dX8_notes_58 fl_X8_66 (by first | assumption | rfl | exact (va_up_ne _ _ (by decide)).trans h1 | exact (va_up_ne _ _ (by decide)).trans h2 | exact (va_up_ne _ _ (by decide)).trans ((va_up_ne _ _ (by decide)).trans h1) | exact va_up_self _ _ _ | exact (va_up_ne _ _ (by decide)).trans (va_up_self _ _ _)) (by first | assumption | rfl | exact (va_up_ne _ _ (by decide)).trans h1 | exact (va_up_ne _ _ (by decide)).trans h2 | exact (va_up_ne _ _ (by decide)).trans ((va_up_ne _ _ (by decide)).trans h1) | exact va_up_self _ _ _ | exact (va_up_ne _ _ (by decide)).trans (va_up_self _ _ _)) ?_
  show mW _ _ _ _ _ _ _ _ (.int _ :: _)
  refine m_iconst (v := 1) dX8_notes_61 (by decide) ?_
  refine m_iadd dX8_notes_62 ?_
  refine m_ci (v := nI 6) (by decide) ?_
  refine m_putfield dX8_notes_63 fl_X8_66 (by first | assumption | rfl | exact (va_up_ne _ _ (by decide)).trans h1 | exact (va_up_ne _ _ (by decide)).trans h2 | exact (va_up_ne _ _ (by decide)).trans ((va_up_ne _ _ (by decide)).trans h1) | exact va_up_self _ _ _ | exact (va_up_ne _ _ (by decide)).trans (va_up_self _ _ _)) (fun _ => rfl) (fun _ => rfl) ?_
  try rw [va_uu]
  rw [oMod_2]
  exact m_return hF dX8_notes_66 rfl rfl rfl ⟨rfl, _, up_3, mHist_push (k := 5) (mHist_drop hH) hc⟩

