/-! ===== Chain.fill: the ROWS ===== -/
def dN (z : Nat → Int) : Nat := if z 4 = 0 then if z 3 = 0 then if z 2 = 0 then if z 1 = 0 then 0 else 1 else 2 else 3 else 4
theorem dgZ_N {z : Nat → Int} (h : dgZ z ≠ -1) : dgZ z = nI (dN z) := by
  unfold dgZ dN at *
  repeat' split
  all_goals first | rfl | (exfalso; simp_all)
theorem dN_le (z : Nat → Int) : dN z ≤ 4 := by
  unfold dN
  repeat' split
  all_goals decide
theorem dgZ_of {z : Nat → Int} {d : Nat} (h : dgZ z = nI d) (hd : d < 5) : dN z = d ∧ dgZ z ≠ -1 := by
  have h1 : dgZ z ≠ -1 := by
    rw [h]
    rcases lt5 hd with rfl | rfl | rfl | rfl | rfl <;> decide
  rw [dgZ_N h1] at h
  have := dN_le z
  exact ⟨(nI_eq (by omega) (by omega)).mp h, h1⟩
def rowP (z : Nat → Int) : Nat → (Nat → Int) × (Nat → Int)
  | 0 => (halfZ z (dN z % 2), halfZ z (1 - dN z % 2))
  | i + 1 => ((rowP z i).2, remZ (rowP z i).1 (rowP z i).2 (dN (rowP z i).1) (dN (rowP z i).2))
/-- the ROWS of a polynomial -/
def rowZ (z : Nat → Int) (i : Nat) : Nat → Int := (rowP z i).1
theorem rowZ_2 (z : Nat → Int) (i : Nat) : rowZ z (i + 2) = remZ (rowZ z i) (rowZ z (i + 1)) (dN (rowZ z i)) (dN (rowZ z (i + 1))) := rfl
/-- how many there are -/
def szZ (z : Nat → Int) : Nat := if dgZ z = -1 then 0 else if dgZ (rowZ z 1) = -1 then 1 else if dgZ (rowZ z 2) = -1 then 2 else if dgZ (rowZ z 3) = -1 then 3 else if dgZ (rowZ z 4) = -1 then 4 else 5
theorem half_top {z : Nat → Int} (h : dgZ z ≠ -1) : dgZ (halfZ z (dN z % 2)) = dgZ z := by
  unfold dgZ dN halfZ at *
  by_cases h4 : z 4 = 0 <;> by_cases h3 : z 3 = 0 <;> by_cases h2 : z 2 = 0 <;> by_cases h1 : z 1 = 0 <;> by_cases h0 : z 0 = 0 <;> simp_all
theorem row0_dg {z : Nat → Int} (h : dgZ z ≠ -1) : dgZ (rowZ z 0) ≠ -1 := by
  show dgZ (halfZ z (dN z % 2)) ≠ -1
  rw [half_top h]
  exact h
def pairOk (dA dB : Nat) : Prop := (dA = 1 ∧ dB = 0) ∨ (dA = 2 ∧ dB = 1) ∨ (dA = 3 ∧ dB = 2) ∨ (dA = 4 ∧ dB = 3) ∨ (dA = 3 ∧ dB = 0) ∨ (dA = 4 ∧ dB = 1)
/-- the chain's numbers fit, its degrees fall as they must -/
def chOk (z : Nat → Int) : Prop := ∀ i, i + 2 < 5 → (∀ j, j < i + 2 → dgZ (rowZ z j) ≠ -1) → pairOk (dN (rowZ z i)) (dN (rowZ z (i + 1))) ∧ remOk (rowZ z i) (rowZ z (i + 1)) (dN (rowZ z i)) (dN (rowZ z (i + 1)))
theorem t_X0_addRemainder {n : Nat} {hp : mHp} {LL : Nat → Nat → Int64} {DG : Nat → Int32} {i : Nat} {z : Nat → Int} (h46 : hp 46 = eR tyJJ 5 rLines) (hi : i < 5) (h2i : 2 ≤ i) (hr : ∀ j, j < i → (∀ k, k < 5 → LL j k = lZ (rowZ z j k)) ∧ DG j = dgZ (rowZ z j) ∧ dgZ (rowZ z j) ≠ -1) (hc : chOk z) : mC D_X0_addRemainder [.ref 45, .int (nI i)] n (hpC hp LL DG i) (fun v hp' => v = none ∧ ∃ L : Nat → Int64, hp' = hpC hp (va_up LL i L) (va_up DG i (dgZ (rowZ z i))) (if dgZ (rowZ z i) = -1 then i else i + 1) ∧ ∀ j, j < 5 → L j = lZ (rowZ z i j)) := by
  obtain ⟨i, rfl⟩ : ∃ i', i = i' + 2 := ⟨i - 2, by omega⟩
  obtain ⟨h1, h2⟩ := hc i hi (fun j hj => (hr j hj).2.2)
  have a := hr i (by omega)
  have b := hr (i + 1) (by omega)
  have ha := dgZ_N a.2.2
  have hb := dgZ_N b.2.2
  rw [rowZ_2]
  unfold pairOk at h1
  generalize dN (rowZ z i) = dA at *
  generalize dN (rowZ z (i + 1)) = dB at *
  rcases h1 with ⟨rfl, rfl⟩ | ⟨rfl, rfl⟩ | ⟨rfl, rfl⟩ | ⟨rfl, rfl⟩ | ⟨rfl, rfl⟩ | ⟨rfl, rfl⟩
  · exact t_X0_addRemainder_1_0 h46 hi h2i a.1 b.1 (b.2.1.trans hb) (a.2.1.trans ha) h2
  · exact t_X0_addRemainder_2_1 h46 hi h2i a.1 b.1 (b.2.1.trans hb) (a.2.1.trans ha) h2
  · exact t_X0_addRemainder_3_2 h46 hi h2i a.1 b.1 (b.2.1.trans hb) (a.2.1.trans ha) h2
  · exact t_X0_addRemainder_4_3 h46 hi h2i a.1 b.1 (b.2.1.trans hb) (a.2.1.trans ha) h2
  · exact t_X0_addRemainder_3_0 h46 hi h2i a.1 b.1 (b.2.1.trans hb) (a.2.1.trans ha) h2
  · exact t_X0_addRemainder_4_1 h46 hi h2i a.1 b.1 (b.2.1.trans hb) (a.2.1.trans ha) h2
theorem szZ_at {z : Nat → Int} {i : Nat} (hi : i < 5) (h0 : dgZ z ≠ -1) (h1 : 1 ≤ i) (h : ∀ j, j < i → dgZ (rowZ z j) ≠ -1) (hz : dgZ (rowZ z i) = -1) : szZ z = i := by
  unfold szZ
  rw [if_neg h0]
  rcases (show i = 1 ∨ i = 2 ∨ i = 3 ∨ i = 4 by omega) with rfl | rfl | rfl | rfl
  · rw [if_pos hz]
  · rw [if_neg (h 1 (by decide)), if_pos hz]
  · rw [if_neg (h 1 (by decide)), if_neg (h 2 (by decide)), if_pos hz]
  · rw [if_neg (h 1 (by decide)), if_neg (h 2 (by decide)), if_neg (h 3 (by decide)), if_pos hz]
theorem szZ_5 {z : Nat → Int} (h0 : dgZ z ≠ -1) (h : ∀ j, j < 5 → dgZ (rowZ z j) ≠ -1) : szZ z = 5 := by
  unfold szZ
  rw [if_neg h0, if_neg (h 1 (by decide)), if_neg (h 2 (by decide)), if_neg (h 3 (by decide)), if_neg (h 4 (by decide))]
/-- the rows that a chain holds -/
def chAt (LL : Nat → Nat → Int64) (DG : Nat → Int32) (z : Nat → Int) (m : Nat) : Prop := ∀ j, j < m → (∀ k, k < 5 → LL j k = lZ (rowZ z j k)) ∧ DG j = dgZ (rowZ z j)
abbrev qFill (hp : mHp) (z : Nat → Int) : mQ := fun v hp' => v = none ∧ ∃ (LL' : Nat → Nat → Int64) (DG' : Nat → Int32), hp' = hpC hp LL' DG' (szZ z) ∧ chAt LL' DG' z (szZ z)
set_option maxHeartbeats 4000000 in
set_option maxRecDepth 100000 in
theorem l_X0_fill {n : Nat} {hp : mHp} {h : Nat} {z : Nat → Int} (h46 : hp 46 = eR tyJJ 5 rLines) (h0 : dgZ z ≠ -1) (hc : chOk z) {dg : Int32} {K : mK} (hF : mFin K D_X0_fill n (qFill hp z)) : ∀ (r i m : Nat) (LL : Nat → Nat → Int64) (DG : Nat → Int32), i + r = 5 → 2 ≤ i → chAt LL DG z m → ((m = i ∧ ∀ j, j < i → dgZ (rowZ z j) ≠ -1) ∨ (m < i ∧ m = szZ z)) → mW K D_X0_fill 0 0 n (hpC hp LL DG m) 36 [.ref 45, .ref h, .int dg, .int (nI i)] [] := by
  intro r
  induction r with
  | zero =>
    intro i m LL DG hir h2i hrow hst
    have hi5 : i = 5 := by omega
    have a45 : hpC hp LL DG m 45 = eO 0 (oChain (nI m)) := rfl
    refine m_iload_n dX0_fill_36 rfl ?_
    refine m_iconst (v := 5) dX0_fill_37 (by decide) ?_
    refine m_icmp_ge (t := 60) dX0_fill_38 (by decide) (fun c38 => ?_) (fun c38 => ?_)
    rotate_left
    · exact absurd (show (5 : Int32) ≤ nI i by rw [hi5]; decide) c38
    have hfin : m = szZ z := by
      rcases hst with ⟨q1, q2⟩ | ⟨q1, q2⟩
      · first
          | (have hi5 := nI_cmp' (b := 5) (by decide) (by omega) c38
             have hi6 : i = 5 := by omega
             subst hi6
             rw [szZ_5 h0 q2]
             exact q1)
          | exact absurd (by rw [q1]) c46
      · exact q2
    subst hfin
    exact m_return hF dX0_fill_60 rfl rfl rfl ⟨rfl, LL, DG, rfl, hrow⟩
  | succ r ih =>
    intro i m LL DG hir h2i hrow hst
    have hm5 : m ≤ 5 := by rcases hst with ⟨q, -⟩ | ⟨q, -⟩ <;> omega
    have a45 : hpC hp LL DG m 45 = eO 0 (oChain (nI m)) := rfl
    refine m_iload_n dX0_fill_36 rfl ?_
    refine m_iconst (v := 5) dX0_fill_37 (by decide) ?_
    refine m_icmp_ge (t := 60) dX0_fill_38 (by decide) (fun c38 => ?_) (fun c38 => ?_)
    · have hfin : m = szZ z := by
        rcases hst with ⟨q1, q2⟩ | ⟨q1, q2⟩
        · first
            | (have hi5 := nI_cmp' (b := 5) (by decide) (by omega) c38
               have hi6 : i = 5 := by omega
               subst hi6
               rw [szZ_5 h0 q2]
               exact q1)
            | exact absurd (by rw [q1]) c46
        · exact q2
      subst hfin
      exact m_return hF dX0_fill_60 rfl rfl rfl ⟨rfl, LL, DG, rfl, hrow⟩
    have hi : i < 5 := nI_cmp (b := 5) (by decide) (by omega) c38
    refine m_aload_n dX0_fill_41 rfl ?_
    refine m_getfield dX0_fill_42 fl_X0_20 (by first | assumption | rfl) (by first | assumption | rfl) ?_
    show mW _ _ _ _ _ _ _ _ (.int _ :: _)
    refine m_iload_n dX0_fill_45 rfl ?_
    refine m_icmp_ne (t := 60) dX0_fill_46 (by decide) (fun c46 => ?_) (fun c46 => ?_)
    · have hfin : m = szZ z := by
        rcases hst with ⟨q1, q2⟩ | ⟨q1, q2⟩
        · first
            | (have hi5 := nI_cmp' (b := 5) (by decide) (by omega) c38
               have hi6 : i = 5 := by omega
               subst hi6
               rw [szZ_5 h0 q2]
               exact q1)
            | exact absurd (by rw [q1]) c46
        · exact q2
      subst hfin
      exact m_return hF dX0_fill_60 rfl rfl rfl ⟨rfl, LL, DG, rfl, hrow⟩
    have hmi : m = i := (nI_eq (by omega) (by omega)).mp c46
    have hal : ∀ j, j < i → dgZ (rowZ z j) ≠ -1 := by
      rcases hst with ⟨-, q⟩ | ⟨q, -⟩
      · exact q
      · omega
    subst hmi
    refine m_aload_n dX0_fill_49 rfl ?_
    refine m_iload_n dX0_fill_50 rfl ?_
    refine m_invV dX0_fill_51 lk_X0_32 ar_X0_addRemainder (ci := 0) rfl rfl (by first | assumption | rfl) (t_X0_addRemainder h46 hi (by omega) (fun j hj => ⟨(hrow j hj).1, (hrow j hj).2, hal j hj⟩) hc) rfl (Nat.le_of_ble_eq_true rfl) (by decide) (by decide) (by decide) (by decide) (fun v hp' q => ?_)
    obtain ⟨rfl, L, rfl, hL⟩ := q
    show mW K _ 0 0 n _ 54 [.ref 45, .ref h, .int dg, .int (nI m)] []
    refine m_iinc (v := nI (m + 1)) dX0_fill_54 rfl (nI_1 m) (by decide) ?_
    show mW _ _ _ _ _ _ 57 [_, _, _, _] _
    refine m_goto (t := 36) dX0_fill_57 (by decide) ?_
    refine ih (m + 1) _ _ _ (by omega) (by omega) ?_ ?_
    · intro j hj
      by_cases e : j = m
      · subst e
        rw [va_up_self, va_up_self]
        exact ⟨hL, rfl⟩
      · rw [va_up_ne _ _ e, va_up_ne _ _ e]
        have : j < m := by split at hj <;> omega
        exact hrow j this
    · by_cases e : dgZ (rowZ z m) = -1
      · rw [if_pos e]
        exact Or.inr ⟨by omega, (szZ_at hi h0 (by omega) hal e).symm⟩
      · rw [if_neg e]
        refine Or.inl ⟨rfl, fun j hj => ?_⟩
        rcases (show j < m ∨ j = m by omega) with q | rfl
        · exact hal j q
        · exact e

set_option maxHeartbeats 4000000 in
set_option maxRecDepth 100000 in
theorem t_X0_fill {n : Nat} {hp : mHp} {LL : Nat → Nat → Int64} {DG : Nat → Int32} {m h : Nat} {Z : Nat → Int64} {z : Nat → Int} (h46 : hp 46 = eR tyJJ 5 rLines) (hh : hp h = eL 5 Z) (ho : 52 < h) (hZ : ∀ j, j < 5 → Z j = lZ (z j)) (hb : ∀ j, j < 5 → bdZ (z j)) (hc : chOk z) : mC D_X0_fill [.ref 45, .ref h] n (hpC hp LL DG m) (qFill hp z) := by
  refine m_enter rfl rfl (Nat.le_of_ble_eq_true rfl) (fun K hF => ?_)
  show mW K _ 0 0 _ _ 0 [.ref 45, .ref h, .retAddr 0, .retAddr 0] []
  have a45 : hpC hp LL DG m 45 = eO 0 (oChain (nI m)) := rfl
  have hh2 : hpC hp LL DG 0 h = eL 5 Z := (hpC_out (Or.inr (Or.inr ho))).trans hh
  refine m_aload_n dX0_fill_0 rfl ?_
  refine m_iconst (v := 0) dX0_fill_1 (by decide) ?_
  refine m_putfield dX0_fill_2 fl_X0_20 (by first | assumption | rfl) (fun _ => rfl) (fun _ => rfl) ?_
  try rw [va_uu]
  rw [oChain_2]
  rw [show va_up (hpC hp LL DG m) 45 (Sum.inr (0, oChain 0)) = hpC hp LL DG 0 from hpC_upS]
  refine m_aload_n dX0_fill_5 rfl ?_
  refine m_invSN_I dX0_fill_6 lk_X0_24 ar_X7_degreeOf (t_X7_degreeOf (by first | assumption | rfl)) rfl (Nat.le_of_ble_eq_true rfl) (by decide) (by decide) (by decide) (by decide) rfl rfl ?_
  try rw [va_uu]
  refine m_ci (v := dgZ z) (deg5_Z hZ hb) ?_
  refine m_istore_n dX0_fill_9 (by decide) ?_
  show mW _ _ _ _ _ _ 10 [_, _, _, _] _
  refine m_iload_n dX0_fill_10 rfl ?_
  refine m_iconst (v := -1) dX0_fill_11 (by decide) ?_
  refine m_icmp_ne (t := 16) dX0_fill_12 (by decide) (fun c12 => ?_) (fun c12 => ?_)
  rotate_left
  · exact m_return hF dX0_fill_15 rfl rfl rfl ⟨rfl, LL, DG, by unfold szZ; rw [if_pos c12], fun j hj => by unfold szZ at hj; rw [if_pos c12] at hj; exact absurd hj (by omega)⟩
  have hd := dgZ_N c12
  have hdl := dN_le z
  have htop := half_top c12
  have hr1 : ∀ j, rowZ z 1 j = halfZ z (1 - dN z % 2) j := fun _ => rfl
  have hr0 : rowZ z 0 = halfZ z (dN z % 2) := rfl
  have hr1' : rowZ z 1 = halfZ z (1 - dN z % 2) := rfl
  rcases lt5 (Nat.lt_succ_of_le hdl) with e | e | e | e | e
  · rw [e] at hd htop hr1' hr0 hr1
    rw [hd]
    refine m_aload_n dX0_fill_16 rfl ?_
    refine m_aload_n dX0_fill_17 rfl ?_
    refine m_iload_n dX0_fill_18 rfl ?_
    refine m_iconst (v := 2) dX0_fill_19 (by decide) ?_
    refine m_irem dX0_fill_20 (by decide) ?_
    refine m_ci (v := 0) (by decide) ?_
    refine m_invV dX0_fill_21 lk_X0_28 ar_X0_addHalf (ci := 0) rfl rfl (by first | assumption | rfl) (t_X0_addHalf0 (z := z) (LL := LL) (DG := DG) (m := 0) h46 (by decide) hh ho hZ hb) rfl (Nat.le_of_ble_eq_true rfl) (by decide) (by decide) (by decide) (by decide) (fun v hp' q => ?_)
    obtain ⟨rfl, L0, rfl, hL0⟩ := q
    rw [show dgZ (halfZ z 0) = 0 from htop.trans hd]
    show mW K _ 0 0 n (hpC hp (va_up LL 0 L0) (va_up DG 0 0) 1) 24 [.ref 45, .ref h, .int (nI 0), .retAddr 0] []
    refine m_aload_n dX0_fill_24 rfl ?_
    refine m_aload_n dX0_fill_25 rfl ?_
    refine m_iconst (v := 1) dX0_fill_26 (by decide) ?_
    refine m_iload_n dX0_fill_27 rfl ?_
    refine m_iconst (v := 2) dX0_fill_28 (by decide) ?_
    refine m_irem dX0_fill_29 (by decide) ?_
    refine m_ci (v := 0) (by decide) ?_
    refine m_isub dX0_fill_30 ?_
    refine m_ci (v := 1) (by decide) ?_
    refine m_invV dX0_fill_31 lk_X0_28 ar_X0_addHalf (ci := 0) rfl rfl (by first | assumption | rfl) (t_X0_addHalf1 (z := z) (m := 1) h46 (by decide) hh ho hZ hb) rfl (Nat.le_of_ble_eq_true rfl) (by decide) (by decide) (by decide) (by decide) (fun v hp' q => ?_)
    obtain ⟨rfl, L1, rfl, hL1⟩ := q
    show mW K _ 0 0 n _ 34 [.ref 45, .ref h, .int (nI 0), .retAddr 0] []
    refine m_iconst (v := 2) dX0_fill_34 (by decide) ?_
    refine m_istore_n dX0_fill_35 (by decide) ?_
    show mW _ _ _ _ _ _ 36 [_, _, _, _] _
    have f0 : dgZ (rowZ z 0) = 0 := by rw [hr0]; exact htop.trans hd
    have f1 : rowZ z 1 = halfZ z 1 := hr1'
    have n0 : dgZ (rowZ z 0) ≠ -1 := by rw [f0]; decide
    rw [← f1]
    refine l_X0_fill (h := h) (dg := nI 0) h46 c12 hc hF 3 2 _ _ _ rfl (by decide) ?_ ?_
    · intro j hj
      have hj2 : j = 0 ∨ j = 1 := by
        have : j < 2 := by split at hj <;> omega
        omega
      rcases hj2 with rfl | rfl
      · rw [va_up_ne _ _ (by decide : (0 : Nat) ≠ 1), va_up_ne _ _ (by decide : (0 : Nat) ≠ 1), va_up_self, va_up_self, f0]
        exact ⟨fun k hk => by rw [hr0]; exact hL0 k hk, rfl⟩
      · rw [va_up_self, va_up_self]
        exact ⟨fun k hk => by rw [f1]; exact hL1 k hk, rfl⟩
    · by_cases e1 : dgZ (rowZ z 1) = -1
      · rw [if_pos e1]
        exact Or.inr ⟨by decide, (szZ_at (by decide) c12 (by decide) (fun j hj => by rw [show j = 0 by omega]; exact n0) e1).symm⟩
      · rw [if_neg e1]
        refine Or.inl ⟨rfl, fun j hj => ?_⟩
        rcases (show j = 0 ∨ j = 1 by omega) with rfl | rfl
        · exact n0
        · exact e1
  · rw [e] at hd htop hr1' hr0 hr1
    rw [hd]
    refine m_aload_n dX0_fill_16 rfl ?_
    refine m_aload_n dX0_fill_17 rfl ?_
    refine m_iload_n dX0_fill_18 rfl ?_
    refine m_iconst (v := 2) dX0_fill_19 (by decide) ?_
    refine m_irem dX0_fill_20 (by decide) ?_
    refine m_ci (v := 1) (by decide) ?_
    refine m_invV dX0_fill_21 lk_X0_28 ar_X0_addHalf (ci := 0) rfl rfl (by first | assumption | rfl) (t_X0_addHalf1 (z := z) (LL := LL) (DG := DG) (m := 0) h46 (by decide) hh ho hZ hb) rfl (Nat.le_of_ble_eq_true rfl) (by decide) (by decide) (by decide) (by decide) (fun v hp' q => ?_)
    obtain ⟨rfl, L0, rfl, hL0⟩ := q
    rw [show dgZ (halfZ z 1) = 1 from htop.trans hd]
    show mW K _ 0 0 n (hpC hp (va_up LL 0 L0) (va_up DG 0 1) 1) 24 [.ref 45, .ref h, .int (nI 1), .retAddr 0] []
    refine m_aload_n dX0_fill_24 rfl ?_
    refine m_aload_n dX0_fill_25 rfl ?_
    refine m_iconst (v := 1) dX0_fill_26 (by decide) ?_
    refine m_iload_n dX0_fill_27 rfl ?_
    refine m_iconst (v := 2) dX0_fill_28 (by decide) ?_
    refine m_irem dX0_fill_29 (by decide) ?_
    refine m_ci (v := 1) (by decide) ?_
    refine m_isub dX0_fill_30 ?_
    refine m_ci (v := 0) (by decide) ?_
    refine m_invV dX0_fill_31 lk_X0_28 ar_X0_addHalf (ci := 0) rfl rfl (by first | assumption | rfl) (t_X0_addHalf0 (z := z) (m := 1) h46 (by decide) hh ho hZ hb) rfl (Nat.le_of_ble_eq_true rfl) (by decide) (by decide) (by decide) (by decide) (fun v hp' q => ?_)
    obtain ⟨rfl, L1, rfl, hL1⟩ := q
    show mW K _ 0 0 n _ 34 [.ref 45, .ref h, .int (nI 1), .retAddr 0] []
    refine m_iconst (v := 2) dX0_fill_34 (by decide) ?_
    refine m_istore_n dX0_fill_35 (by decide) ?_
    show mW _ _ _ _ _ _ 36 [_, _, _, _] _
    have f0 : dgZ (rowZ z 0) = 1 := by rw [hr0]; exact htop.trans hd
    have f1 : rowZ z 1 = halfZ z 0 := hr1'
    have n0 : dgZ (rowZ z 0) ≠ -1 := by rw [f0]; decide
    rw [← f1]
    refine l_X0_fill (h := h) (dg := nI 1) h46 c12 hc hF 3 2 _ _ _ rfl (by decide) ?_ ?_
    · intro j hj
      have hj2 : j = 0 ∨ j = 1 := by
        have : j < 2 := by split at hj <;> omega
        omega
      rcases hj2 with rfl | rfl
      · rw [va_up_ne _ _ (by decide : (0 : Nat) ≠ 1), va_up_ne _ _ (by decide : (0 : Nat) ≠ 1), va_up_self, va_up_self, f0]
        exact ⟨fun k hk => by rw [hr0]; exact hL0 k hk, rfl⟩
      · rw [va_up_self, va_up_self]
        exact ⟨fun k hk => by rw [f1]; exact hL1 k hk, rfl⟩
    · by_cases e1 : dgZ (rowZ z 1) = -1
      · rw [if_pos e1]
        exact Or.inr ⟨by decide, (szZ_at (by decide) c12 (by decide) (fun j hj => by rw [show j = 0 by omega]; exact n0) e1).symm⟩
      · rw [if_neg e1]
        refine Or.inl ⟨rfl, fun j hj => ?_⟩
        rcases (show j = 0 ∨ j = 1 by omega) with rfl | rfl
        · exact n0
        · exact e1
  · rw [e] at hd htop hr1' hr0 hr1
    rw [hd]
    refine m_aload_n dX0_fill_16 rfl ?_
    refine m_aload_n dX0_fill_17 rfl ?_
    refine m_iload_n dX0_fill_18 rfl ?_
    refine m_iconst (v := 2) dX0_fill_19 (by decide) ?_
    refine m_irem dX0_fill_20 (by decide) ?_
    refine m_ci (v := 0) (by decide) ?_
    refine m_invV dX0_fill_21 lk_X0_28 ar_X0_addHalf (ci := 0) rfl rfl (by first | assumption | rfl) (t_X0_addHalf0 (z := z) (LL := LL) (DG := DG) (m := 0) h46 (by decide) hh ho hZ hb) rfl (Nat.le_of_ble_eq_true rfl) (by decide) (by decide) (by decide) (by decide) (fun v hp' q => ?_)
    obtain ⟨rfl, L0, rfl, hL0⟩ := q
    rw [show dgZ (halfZ z 0) = 2 from htop.trans hd]
    show mW K _ 0 0 n (hpC hp (va_up LL 0 L0) (va_up DG 0 2) 1) 24 [.ref 45, .ref h, .int (nI 2), .retAddr 0] []
    refine m_aload_n dX0_fill_24 rfl ?_
    refine m_aload_n dX0_fill_25 rfl ?_
    refine m_iconst (v := 1) dX0_fill_26 (by decide) ?_
    refine m_iload_n dX0_fill_27 rfl ?_
    refine m_iconst (v := 2) dX0_fill_28 (by decide) ?_
    refine m_irem dX0_fill_29 (by decide) ?_
    refine m_ci (v := 0) (by decide) ?_
    refine m_isub dX0_fill_30 ?_
    refine m_ci (v := 1) (by decide) ?_
    refine m_invV dX0_fill_31 lk_X0_28 ar_X0_addHalf (ci := 0) rfl rfl (by first | assumption | rfl) (t_X0_addHalf1 (z := z) (m := 1) h46 (by decide) hh ho hZ hb) rfl (Nat.le_of_ble_eq_true rfl) (by decide) (by decide) (by decide) (by decide) (fun v hp' q => ?_)
    obtain ⟨rfl, L1, rfl, hL1⟩ := q
    show mW K _ 0 0 n _ 34 [.ref 45, .ref h, .int (nI 2), .retAddr 0] []
    refine m_iconst (v := 2) dX0_fill_34 (by decide) ?_
    refine m_istore_n dX0_fill_35 (by decide) ?_
    show mW _ _ _ _ _ _ 36 [_, _, _, _] _
    have f0 : dgZ (rowZ z 0) = 2 := by rw [hr0]; exact htop.trans hd
    have f1 : rowZ z 1 = halfZ z 1 := hr1'
    have n0 : dgZ (rowZ z 0) ≠ -1 := by rw [f0]; decide
    rw [← f1]
    refine l_X0_fill (h := h) (dg := nI 2) h46 c12 hc hF 3 2 _ _ _ rfl (by decide) ?_ ?_
    · intro j hj
      have hj2 : j = 0 ∨ j = 1 := by
        have : j < 2 := by split at hj <;> omega
        omega
      rcases hj2 with rfl | rfl
      · rw [va_up_ne _ _ (by decide : (0 : Nat) ≠ 1), va_up_ne _ _ (by decide : (0 : Nat) ≠ 1), va_up_self, va_up_self, f0]
        exact ⟨fun k hk => by rw [hr0]; exact hL0 k hk, rfl⟩
      · rw [va_up_self, va_up_self]
        exact ⟨fun k hk => by rw [f1]; exact hL1 k hk, rfl⟩
    · by_cases e1 : dgZ (rowZ z 1) = -1
      · rw [if_pos e1]
        exact Or.inr ⟨by decide, (szZ_at (by decide) c12 (by decide) (fun j hj => by rw [show j = 0 by omega]; exact n0) e1).symm⟩
      · rw [if_neg e1]
        refine Or.inl ⟨rfl, fun j hj => ?_⟩
        rcases (show j = 0 ∨ j = 1 by omega) with rfl | rfl
        · exact n0
        · exact e1
  · rw [e] at hd htop hr1' hr0 hr1
    rw [hd]
    refine m_aload_n dX0_fill_16 rfl ?_
    refine m_aload_n dX0_fill_17 rfl ?_
    refine m_iload_n dX0_fill_18 rfl ?_
    refine m_iconst (v := 2) dX0_fill_19 (by decide) ?_
    refine m_irem dX0_fill_20 (by decide) ?_
    refine m_ci (v := 1) (by decide) ?_
    refine m_invV dX0_fill_21 lk_X0_28 ar_X0_addHalf (ci := 0) rfl rfl (by first | assumption | rfl) (t_X0_addHalf1 (z := z) (LL := LL) (DG := DG) (m := 0) h46 (by decide) hh ho hZ hb) rfl (Nat.le_of_ble_eq_true rfl) (by decide) (by decide) (by decide) (by decide) (fun v hp' q => ?_)
    obtain ⟨rfl, L0, rfl, hL0⟩ := q
    rw [show dgZ (halfZ z 1) = 3 from htop.trans hd]
    show mW K _ 0 0 n (hpC hp (va_up LL 0 L0) (va_up DG 0 3) 1) 24 [.ref 45, .ref h, .int (nI 3), .retAddr 0] []
    refine m_aload_n dX0_fill_24 rfl ?_
    refine m_aload_n dX0_fill_25 rfl ?_
    refine m_iconst (v := 1) dX0_fill_26 (by decide) ?_
    refine m_iload_n dX0_fill_27 rfl ?_
    refine m_iconst (v := 2) dX0_fill_28 (by decide) ?_
    refine m_irem dX0_fill_29 (by decide) ?_
    refine m_ci (v := 1) (by decide) ?_
    refine m_isub dX0_fill_30 ?_
    refine m_ci (v := 0) (by decide) ?_
    refine m_invV dX0_fill_31 lk_X0_28 ar_X0_addHalf (ci := 0) rfl rfl (by first | assumption | rfl) (t_X0_addHalf0 (z := z) (m := 1) h46 (by decide) hh ho hZ hb) rfl (Nat.le_of_ble_eq_true rfl) (by decide) (by decide) (by decide) (by decide) (fun v hp' q => ?_)
    obtain ⟨rfl, L1, rfl, hL1⟩ := q
    show mW K _ 0 0 n _ 34 [.ref 45, .ref h, .int (nI 3), .retAddr 0] []
    refine m_iconst (v := 2) dX0_fill_34 (by decide) ?_
    refine m_istore_n dX0_fill_35 (by decide) ?_
    show mW _ _ _ _ _ _ 36 [_, _, _, _] _
    have f0 : dgZ (rowZ z 0) = 3 := by rw [hr0]; exact htop.trans hd
    have f1 : rowZ z 1 = halfZ z 0 := hr1'
    have n0 : dgZ (rowZ z 0) ≠ -1 := by rw [f0]; decide
    rw [← f1]
    refine l_X0_fill (h := h) (dg := nI 3) h46 c12 hc hF 3 2 _ _ _ rfl (by decide) ?_ ?_
    · intro j hj
      have hj2 : j = 0 ∨ j = 1 := by
        have : j < 2 := by split at hj <;> omega
        omega
      rcases hj2 with rfl | rfl
      · rw [va_up_ne _ _ (by decide : (0 : Nat) ≠ 1), va_up_ne _ _ (by decide : (0 : Nat) ≠ 1), va_up_self, va_up_self, f0]
        exact ⟨fun k hk => by rw [hr0]; exact hL0 k hk, rfl⟩
      · rw [va_up_self, va_up_self]
        exact ⟨fun k hk => by rw [f1]; exact hL1 k hk, rfl⟩
    · by_cases e1 : dgZ (rowZ z 1) = -1
      · rw [if_pos e1]
        exact Or.inr ⟨by decide, (szZ_at (by decide) c12 (by decide) (fun j hj => by rw [show j = 0 by omega]; exact n0) e1).symm⟩
      · rw [if_neg e1]
        refine Or.inl ⟨rfl, fun j hj => ?_⟩
        rcases (show j = 0 ∨ j = 1 by omega) with rfl | rfl
        · exact n0
        · exact e1
  · rw [e] at hd htop hr1' hr0 hr1
    rw [hd]
    refine m_aload_n dX0_fill_16 rfl ?_
    refine m_aload_n dX0_fill_17 rfl ?_
    refine m_iload_n dX0_fill_18 rfl ?_
    refine m_iconst (v := 2) dX0_fill_19 (by decide) ?_
    refine m_irem dX0_fill_20 (by decide) ?_
    refine m_ci (v := 0) (by decide) ?_
    refine m_invV dX0_fill_21 lk_X0_28 ar_X0_addHalf (ci := 0) rfl rfl (by first | assumption | rfl) (t_X0_addHalf0 (z := z) (LL := LL) (DG := DG) (m := 0) h46 (by decide) hh ho hZ hb) rfl (Nat.le_of_ble_eq_true rfl) (by decide) (by decide) (by decide) (by decide) (fun v hp' q => ?_)
    obtain ⟨rfl, L0, rfl, hL0⟩ := q
    rw [show dgZ (halfZ z 0) = 4 from htop.trans hd]
    show mW K _ 0 0 n (hpC hp (va_up LL 0 L0) (va_up DG 0 4) 1) 24 [.ref 45, .ref h, .int (nI 4), .retAddr 0] []
    refine m_aload_n dX0_fill_24 rfl ?_
    refine m_aload_n dX0_fill_25 rfl ?_
    refine m_iconst (v := 1) dX0_fill_26 (by decide) ?_
    refine m_iload_n dX0_fill_27 rfl ?_
    refine m_iconst (v := 2) dX0_fill_28 (by decide) ?_
    refine m_irem dX0_fill_29 (by decide) ?_
    refine m_ci (v := 0) (by decide) ?_
    refine m_isub dX0_fill_30 ?_
    refine m_ci (v := 1) (by decide) ?_
    refine m_invV dX0_fill_31 lk_X0_28 ar_X0_addHalf (ci := 0) rfl rfl (by first | assumption | rfl) (t_X0_addHalf1 (z := z) (m := 1) h46 (by decide) hh ho hZ hb) rfl (Nat.le_of_ble_eq_true rfl) (by decide) (by decide) (by decide) (by decide) (fun v hp' q => ?_)
    obtain ⟨rfl, L1, rfl, hL1⟩ := q
    show mW K _ 0 0 n _ 34 [.ref 45, .ref h, .int (nI 4), .retAddr 0] []
    refine m_iconst (v := 2) dX0_fill_34 (by decide) ?_
    refine m_istore_n dX0_fill_35 (by decide) ?_
    show mW _ _ _ _ _ _ 36 [_, _, _, _] _
    have f0 : dgZ (rowZ z 0) = 4 := by rw [hr0]; exact htop.trans hd
    have f1 : rowZ z 1 = halfZ z 1 := hr1'
    have n0 : dgZ (rowZ z 0) ≠ -1 := by rw [f0]; decide
    rw [← f1]
    refine l_X0_fill (h := h) (dg := nI 4) h46 c12 hc hF 3 2 _ _ _ rfl (by decide) ?_ ?_
    · intro j hj
      have hj2 : j = 0 ∨ j = 1 := by
        have : j < 2 := by split at hj <;> omega
        omega
      rcases hj2 with rfl | rfl
      · rw [va_up_ne _ _ (by decide : (0 : Nat) ≠ 1), va_up_ne _ _ (by decide : (0 : Nat) ≠ 1), va_up_self, va_up_self, f0]
        exact ⟨fun k hk => by rw [hr0]; exact hL0 k hk, rfl⟩
      · rw [va_up_self, va_up_self]
        exact ⟨fun k hk => by rw [f1]; exact hL1 k hk, rfl⟩
    · by_cases e1 : dgZ (rowZ z 1) = -1
      · rw [if_pos e1]
        exact Or.inr ⟨by decide, (szZ_at (by decide) c12 (by decide) (fun j hj => by rw [show j = 0 by omega]; exact n0) e1).symm⟩
      · rw [if_neg e1]
        refine Or.inl ⟨rfl, fun j hj => ?_⟩
        rcases (show j = 0 ∨ j = 1 by omega) with rfl | rfl
        · exact n0
        · exact e1
