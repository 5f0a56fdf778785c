/-! ===== Judge.countRootsOf ===== -/
def ZL (z : Nat → Int) (j k : Nat) : Int64 := lZ (rowZ z j k)
def ddZ (z : Nat → Int) (j : Nat) : Nat := dN (rowZ z j)
theorem szZ_le (z : Nat → Int) : szZ z ≤ 5 := by
  unfold szZ
  repeat' split
  all_goals decide
theorem szZ_alive {z : Nat → Int} {j : Nat} (h : j < szZ z) : dgZ (rowZ z j) ≠ -1 := by
  unfold szZ at h
  by_cases h0 : dgZ z = -1
  · rw [if_pos h0] at h
    omega
  · have r0 := row0_dg h0
    rw [if_neg h0] at h
    by_cases h1 : dgZ (rowZ z 1) = -1
    · rw [if_pos h1] at h
      rw [show j = 0 by omega]
      exact r0
    · rw [if_neg h1] at h
      by_cases h2 : dgZ (rowZ z 2) = -1
      · rw [if_pos h2] at h
        rcases (show j = 0 ∨ j = 1 by omega) with rfl | rfl <;> assumption
      · rw [if_neg h2] at h
        by_cases h3 : dgZ (rowZ z 3) = -1
        · rw [if_pos h3] at h
          rcases (show j = 0 ∨ j = 1 ∨ j = 2 by omega) with rfl | rfl | rfl <;> assumption
        · rw [if_neg h3] at h
          by_cases h4 : dgZ (rowZ z 4) = -1
          · rw [if_pos h4] at h
            rcases (show j = 0 ∨ j = 1 ∨ j = 2 ∨ j = 3 by omega) with rfl | rfl | rfl | rfl <;> assumption
          · rw [if_neg h4] at h
            rcases (show j = 0 ∨ j = 1 ∨ j = 2 ∨ j = 3 ∨ j = 4 by omega) with rfl | rfl | rfl | rfl | rfl <;> assumption
theorem raxF_congr {Z V : Nat → Int64} (h : ∀ k, k < 5 → Z k = V k) {d z : Nat} (hd : d < 5) (hz : z < 5) : raxF Z d z = raxF V d z := by
  unfold raxF
  rw [h d hd, h z hz, h 4 (by decide), h 2 (by decide), h 0 (by decide)]
theorem raxL_congr {Z V : Nat → Int64} (h : ∀ k, k < 5 → Z k = V k) {d : Nat} (hd : d < 5) : ∀ (f z : Nat), z + f < 5 → raxL Z d f z = raxL V d f z
  | 0, z, hz => raxF_congr h hd hz
  | f + 1, z, hz => by
    unfold raxL
    rw [h z (by omega), raxL_congr h hd f (z + 1) (by omega), raxF_congr h hd (show z < 5 by omega)]
theorem sgT_congr {LL VV : Nat → Nat → Int64} {dd : Nat → Nat} {m : Nat} (h : ∀ j, j < m → LL j (dd j) = VV j (dd j)) : ∀ (r i : Nat) (t d2 d1 m1 : Int32), i + r ≤ m → sgT LL dd r i t d2 d1 m1 = sgT VV dd r i t d2 d1 m1
  | 0, _, _, _, _, _, _ => rfl
  | r + 1, i, t, d2, d1, m1, hi => by
    unfold sgT
    rw [h i (by omega)]
    exact sgT_congr h r (i + 1) _ _ _ _ (by omega)
theorem cnt_congr {LL VV : Nat → Nat → Int64} {dd : Nat → Nat} {m : Nat} (hd : ∀ j, j < m → dd j < 5) (h : ∀ j, j < m → ∀ k, k < 5 → LL j k = VV j k) : cntR LL dd m = cntR VV dd m ∧ cntE LL dd m = cntE VV dd m ∧ cntL LL dd m = cntL VV dd m := by
  by_cases hm : m = 0
  · unfold cntR cntL cntE
    simp only [if_pos hm, and_self]
  · have e1 : sgTA LL dd m = sgTA VV dd m := by
      unfold sgTA
      rw [h 0 (by omega) _ (hd 0 (by omega))]
      exact sgT_congr (fun j hj => h j hj _ (hd j hj)) _ _ _ _ _ _ (by omega)
    have e2 : cntE LL dd m = cntE VV dd m := by
      unfold cntE
      rw [if_neg hm, if_neg hm]
      exact raxL_congr (h (m - 1) (by omega)) (hd _ (by omega)) _ _ (by have := hd (m - 1) (by omega); omega)
    refine ⟨?_, e2, ?_⟩
    · unfold cntR
      rw [if_neg hm, if_neg hm, e1, e2]
    · unfold cntL
      rw [if_neg hm, if_neg hm, e1, e2]
/-- the counts by the axis -/
def cAR (z : Nat → Int) : Int32 := cntR (ZL z) (ddZ z) (szZ z)
def cAE (z : Nat → Int) : Int32 := cntE (ZL z) (ddZ z) (szZ z)
def cAL (z : Nat → Int) : Int32 := cntL (ZL z) (ddZ z) (szZ z)
theorem chAt_dd {LL : Nat → Nat → Int64} {DG : Nat → Int32} {z : Nat → Int} (h : chAt LL DG z (szZ z)) : ∀ j, j < szZ z → DG j = nI (ddZ z j) ∧ ddZ z j < 5 := fun j hj => ⟨(h j hj).2.trans (dgZ_N (szZ_alive hj)), Nat.lt_succ_of_le (dN_le _)⟩
theorem chAt_cnt {LL : Nat → Nat → Int64} {DG : Nat → Int32} {z : Nat → Int} (h : chAt LL DG z (szZ z)) : cntR LL (ddZ z) (szZ z) = cAR z ∧ cntE LL (ddZ z) (szZ z) = cAE z ∧ cntL LL (ddZ z) (szZ z) = cAL z := cnt_congr (fun j _ => Nat.lt_succ_of_le (dN_le _)) (fun j hj => (h j hj).1)
/-- the change of variable over whole numbers -/
def tBZ (z : Nat → Int) (l k : Nat) : Int := if k < l then 0 else z (k - l)
def turnZ (z : Nat → Int) (l : Nat) : Nat → Int := fun j => match j with
  | 0 => tBZ z l 0 + tBZ z l 1 + tBZ z l 2 + tBZ z l 3 + tBZ z l 4
  | 1 => 4 * (tBZ z l 4 - tBZ z l 0) + 2 * (tBZ z l 3 - tBZ z l 1)
  | 2 => 6 * (tBZ z l 4 + tBZ z l 0) - 2 * tBZ z l 2
  | 3 => 4 * (tBZ z l 4 - tBZ z l 0) - 2 * (tBZ z l 3 - tBZ z l 1)
  | 4 => tBZ z l 0 - tBZ z l 1 + tBZ z l 2 - tBZ z l 3 + tBZ z l 4
  | _ => 0
theorem tB_Z {Z : Nat → Int64} {z : Nat → Int} (h : ∀ j, j < 5 → Z j = lZ (z j)) {l k : Nat} (hk : k < 5) : tB Z l k = lZ (tBZ z l k) := by
  unfold tB tBZ
  split
  · rfl
  · exact h _ (by omega)
theorem turn_Z {Z : Nat → Int64} {z : Nat → Int} (h : ∀ j, j < 5 → Z j = lZ (z j)) {l j : Nat} (hj : j < 5) : turnV Z l j = lZ (turnZ z l j) := by
  have e4 : (4 : Int64) = lZ 4 := rfl
  have e2 : (2 : Int64) = lZ 2 := rfl
  have e6 : (6 : Int64) = lZ 6 := rfl
  rcases lt5 hj with rfl | rfl | rfl | rfl | rfl <;> simp only [turnV, turnZ, tB_Z h (show 0 < 5 by decide), tB_Z h (show 1 < 5 by decide), tB_Z h (show 2 < 5 by decide), tB_Z h (show 3 < 5 by decide), tB_Z h (show 4 < 5 by decide), e4, e2, e6, lZ_add, lZ_sub, lZ_mul]
def lackZ (z : Nat → Int) : Nat := 4 - dN z
theorem lack_Z {Z : Nat → Int64} {z : Nat → Int} (h : ∀ j, j < 5 → Z j = lZ (z j)) (hb : ∀ j, j < 5 → bdZ (z j)) : lackN Z = lackZ z := by
  unfold lackN lackZ dN
  simp only [h 1 (by decide), h 2 (by decide), h 3 (by decide), h 4 (by decide), lZ_0 (hb 1 (by decide)), lZ_0 (hb 2 (by decide)), lZ_0 (hb 3 (by decide)), lZ_0 (hb 4 (by decide))]
  repeat' split
  all_goals rfl
/-- the polynomial by the circle -/
def tnZ (z : Nat → Int) : Nat → Int := turnZ z (lackZ z)
set_option maxHeartbeats 4000000 in
set_option maxRecDepth 100000 in
theorem t_X1_countRootsOf0 {n : Nat} {hp : mHp} {LL : Nat → Nat → Int64} {DG : Nat → Int32} {m h : Nat} {Z T : Nat → Int64} {z : Nat → Int} {ri ev le : Int32} (h44 : hp 44 = eO 1 (oJudge ri ev le)) (h46 : hp 46 = eR tyJJ 5 rLines) (h53 : hp 53 = eL 5 T) (hh : hp h = eL 5 Z) (ho : 53 < h) (hZ : ∀ j, j < 5 → Z j = lZ (z j)) (hb : ∀ j, j < 5 → bdZ (z j)) (hc : chOk z) : mC D_X1_countRootsOf [.ref 44, .int 0, .ref h] n (hpC hp LL DG m) (fun v hp' => v = none ∧ ∃ (LL' : Nat → Nat → Int64) (DG' : Nat → Int32), hp' = hpC (va_up hp 44 (eO 1 (oJudge (cAR z) (cAE z) (cAL z)))) LL' DG' (szZ z)) := by
  refine m_enter rfl rfl (Nat.le_of_ble_eq_true rfl) (fun K hF => ?_)
  show mW K _ 0 0 _ _ 0 [.ref 44, .int 0, .ref h] []
  have a44 : hpC hp LL DG m 44 = eO 1 (oJudge ri ev le) := h44
  have a45 : ∀ (hp : mHp) (LL : Nat → Nat → Int64) (DG : Nat → Int32) (m : Nat), hpC hp LL DG m 45 = eO 0 (oChain (nI m)) := fun _ _ _ _ => rfl
  refine m_iload_n dX1_countRootsOf_0 rfl ?_
  refine m_if_ne (t := 17) dX1_countRootsOf_1 (by decide) (fun q => absurd rfl q) (fun _ => ?_)
  refine m_aload_n dX1_countRootsOf_4 rfl ?_
  refine m_getfield dX1_countRootsOf_5 fl_X1_12 (by first | assumption | rfl) (by first | assumption | rfl) ?_
  show mW _ _ _ _ _ _ _ _ (.ref _ :: _)
  refine m_aload_n dX1_countRootsOf_8 rfl ?_
  refine m_invV dX1_countRootsOf_9 lk_X1_32 ar_X0_fill (ci := 0) rfl rfl (by first | assumption | rfl) (t_X0_fill h46 hh (by omega) hZ hb hc) rfl (Nat.le_of_ble_eq_true rfl) (by decide) (by decide) (by decide) (by decide) (fun v hp' q => ?_)
  obtain ⟨rfl, LL', DG', rfl, hch⟩ := q
  obtain ⟨q1, q2, q3⟩ := chAt_cnt hch
  show mW K _ 0 0 n _ 12 [.ref 44, .int 0, .ref h] []
  refine m_aload_n dX1_countRootsOf_12 rfl ?_
  refine m_invV_V dX1_countRootsOf_13 lk_X1_36 ar_X1_countByChain (ci := 1) rfl rfl (by first | assumption | rfl) (t_X1_countByChain (dd := ddZ z) h44 h46 (szZ_le z) (chAt_dd hch)) rfl (Nat.le_of_ble_eq_true rfl) (by decide) (by decide) (by decide) (by decide) rfl rfl ?_
  try rw [va_uu]
  exact m_return hF dX1_countRootsOf_16 rfl rfl rfl ⟨rfl, LL', DG', by rw [q1, q2, q3]⟩
theorem hpC_u53 {hp : mHp} {LL : Nat → Nat → Int64} {DG : Nat → Int32} {m q : Nat} {c : mE} (h : 52 < q) : va_up (hpC hp LL DG m) q c = hpC (va_up hp q c) LL DG m := by
  funext x
  by_cases e : x = q
  · subst e
    rw [va_up_self, hpC_out (Or.inr (Or.inr h)), va_up_self]
  · rw [va_up_ne _ _ e]
    unfold hpC
    rw [va_up_ne _ _ e]
set_option maxHeartbeats 4000000 in
set_option maxRecDepth 100000 in
theorem t_X1_countRootsOf1 {n : Nat} {hp : mHp} {LL : Nat → Nat → Int64} {DG : Nat → Int32} {m h : Nat} {Z T : Nat → Int64} {z : Nat → Int} {ri ev le : Int32} (h44 : hp 44 = eO 1 (oJudge ri ev le)) (h46 : hp 46 = eR tyJJ 5 rLines) (h53 : hp 53 = eL 5 T) (hh : hp h = eL 5 Z) (ho : 53 < h) (hZ : ∀ j, j < 5 → Z j = lZ (z j)) (hb : ∀ j, j < 5 → bdZ (z j)) (hd : dgZ z ≠ -1) (hbt : ∀ j, j < 5 → bdZ (tnZ z j)) (hc : chOk (tnZ z)) : mC D_X1_countRootsOf [.ref 44, .int 1, .ref h] n (hpC hp LL DG m) (fun v hp' => v = none ∧ ∃ (LL' : Nat → Nat → Int64) (DG' : Nat → Int32) (T' : Nat → Int64), hp' = hpC (va_up (va_up hp 53 (eL 5 T')) 44 (eO 1 (oJudge (cAR (tnZ z)) (cAE (tnZ z) + (4 - dgZ (tnZ z))) (cAL (tnZ z) - (4 - dgZ z))))) LL' DG' (szZ (tnZ z))) := by
  refine m_enter rfl rfl (Nat.le_of_ble_eq_true rfl) (fun K hF => ?_)
  show mW K _ 0 0 _ _ 0 [.ref 44, .int 1, .ref h] []
  have hd0 : deg5 Z ≠ -1 := by rw [deg5_Z hZ hb]; exact hd
  have a44 : hpC hp LL DG m 44 = eO 1 (oJudge ri ev le) := h44
  have hT : ∀ j, j < 5 → fill5 (turnV Z (lackN Z)) T j = lZ (tnZ z j) := fun j hj => by rw [fill5_at hj, turn_Z hZ hj, lack_Z hZ hb]; rfl
  refine m_iload_n dX1_countRootsOf_0 rfl ?_
  refine m_if_ne (t := 17) dX1_countRootsOf_1 (by decide) (fun _ => ?_) (fun q => absurd q (by decide))
  refine m_aload_n dX1_countRootsOf_17 rfl ?_
  refine m_aload_n dX1_countRootsOf_18 rfl ?_
  refine m_invV_V dX1_countRootsOf_19 lk_X1_39 ar_X1_turn (ci := 1) rfl rfl (by first | assumption | rfl | exact hz2) (t_X1_turn (hp := hpC hp LL DG m) h44 h53 ((hpC_out (Or.inr (Or.inr (by omega)))).trans hh) (by omega) hd0) rfl (Nat.le_of_ble_eq_true rfl) (by decide) (by decide) (by decide) (by decide) rfl rfl ?_
  try rw [va_uu]
  rw [hpC_u53 (by decide)]
  refine m_aload_n dX1_countRootsOf_22 rfl ?_
  refine m_getfield dX1_countRootsOf_23 fl_X1_12 (by first | assumption | rfl | exact hz2) (by first | assumption | rfl | exact hz2) ?_
  show mW _ _ _ _ _ _ _ _ (.ref _ :: _)
  refine m_aload_n dX1_countRootsOf_26 rfl ?_
  refine m_getfield dX1_countRootsOf_27 fl_X1_18 (by first | assumption | rfl | exact hz2) (by first | assumption | rfl | exact hz2) ?_
  show mW _ _ _ _ _ _ _ _ (.ref _ :: _)
  refine m_invV dX1_countRootsOf_30 lk_X1_32 ar_X0_fill (ci := 0) rfl rfl (by first | assumption | rfl | exact hz2) (t_X0_fill (hp := va_up hp 53 (eL 5 (fill5 (turnV Z (lackN Z)) T))) (z := tnZ z) h46 rfl (by decide) hT hbt hc) rfl (Nat.le_of_ble_eq_true rfl) (by decide) (by decide) (by decide) (by decide) (fun v hp' q => ?_)
  obtain ⟨rfl, LL', DG', rfl, hch⟩ := q
  obtain ⟨q1, q2, q3⟩ := chAt_cnt hch
  show mW K _ 0 0 n _ 33 [.ref 44, .int 1, .ref h] []
  refine m_aload_n dX1_countRootsOf_33 rfl ?_
  refine m_invV_V dX1_countRootsOf_34 lk_X1_36 ar_X1_countByChain (ci := 1) rfl rfl (by first | assumption | rfl | exact hz2) (t_X1_countByChain (hp := va_up hp 53 (eL 5 (fill5 (turnV Z (lackN Z)) T))) (dd := ddZ (tnZ z)) h44 h46 (szZ_le _) (chAt_dd hch)) rfl (Nat.le_of_ble_eq_true rfl) (by decide) (by decide) (by decide) (by decide) rfl rfl ?_
  try rw [va_uu]
  rw [q1, q2, q3]
  have hz2 : ∀ c : mE, hpC (va_up (va_up hp 53 (eL 5 (fill5 (turnV Z (lackN Z)) T))) 44 c) LL' DG' (szZ (tnZ z)) h = eL 5 Z := fun c => by rw [hpC_out (Or.inr (Or.inr (by omega))), va_up_ne _ _ (by omega), va_up_ne _ _ (by omega)]; exact hh
  refine m_aload_n dX1_countRootsOf_37 rfl ?_
  refine m_dup dX1_countRootsOf_38 rfl ?_
  refine m_getfield dX1_countRootsOf_39 fl_X1_26 (by first | assumption | rfl | exact hz2) (by first | assumption | rfl | exact hz2) ?_
  show mW _ _ _ _ _ _ _ _ (.int _ :: _)
  refine m_iconst (v := 4) dX1_countRootsOf_42 (by decide) ?_
  refine m_aload_n dX1_countRootsOf_43 rfl ?_
  refine m_getfield dX1_countRootsOf_44 fl_X1_18 (by first | assumption | rfl | exact hz2) (by first | assumption | rfl | exact hz2) ?_
  show mW _ _ _ _ _ _ _ _ (.ref _ :: _)
  refine m_invSN_I dX1_countRootsOf_47 lk_X1_42 ar_X7_degreeOf (t_X7_degreeOf (p := fill5 (turnV Z (lackN Z)) T) rfl) rfl (Nat.le_of_ble_eq_true rfl) (by decide) (by decide) (by decide) (by decide) rfl rfl ?_
  try rw [va_uu]
  refine m_ci (v := dgZ (tnZ z)) (deg5_Z hT hbt) ?_
  refine m_isub dX1_countRootsOf_50 ?_
  refine m_iadd dX1_countRootsOf_51 ?_
  refine m_putfield dX1_countRootsOf_52 fl_X1_26 (by first | assumption | rfl | exact hz2) (fun _ => rfl) (fun _ => rfl) ?_
  try rw [va_uu]
  rw [oJudge_3]
  rw [hpC_u44, va_uu]
  have hz2 := hz2 (eO 1 (oJudge (cAR (tnZ z)) (cAE (tnZ z) + (4 - dgZ (tnZ z))) (cAL (tnZ z))))
  refine m_aload_n dX1_countRootsOf_55 rfl ?_
  refine m_dup dX1_countRootsOf_56 rfl ?_
  refine m_getfield dX1_countRootsOf_57 fl_X1_29 (by first | assumption | rfl | exact hz2) (by first | assumption | rfl | exact hz2) ?_
  show mW _ _ _ _ _ _ _ _ (.int _ :: _)
  refine m_iconst (v := 4) dX1_countRootsOf_60 (by decide) ?_
  refine m_aload_n dX1_countRootsOf_61 rfl ?_
  refine m_invSN_I dX1_countRootsOf_62 lk_X1_42 ar_X7_degreeOf (t_X7_degreeOf (p := Z) hz2) rfl (Nat.le_of_ble_eq_true rfl) (by decide) (by decide) (by decide) (by decide) rfl rfl ?_
  try rw [va_uu]
  refine m_ci (v := dgZ z) (deg5_Z hZ hb) ?_
  refine m_isub dX1_countRootsOf_65 ?_
  refine m_isub dX1_countRootsOf_66 ?_
  refine m_putfield dX1_countRootsOf_67 fl_X1_29 (by first | assumption | rfl | exact hz2) (fun _ => rfl) (fun _ => rfl) ?_
  try rw [va_uu]
  rw [oJudge_4]
  rw [hpC_u44, va_uu]
  exact m_return hF dX1_countRootsOf_70 rfl rfl rfl ⟨rfl, LL', DG', _, rfl⟩
