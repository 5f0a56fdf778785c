/-! ===== Chain: its cells 45 .. 52 over a heap ===== -/
def oChain (sz : Int32) : Nat → Value := fun k => match k with
  | 0 => .ref 46
  | 1 => .ref 52
  | 2 => .int sz
  | _ => .null
theorem oChain_2 (sz : Int32) (x9 : Int32) : va_up (oChain sz) 2 (.int x9) = oChain x9 := by
  funext k
  match k with
  | 0 => rfl
  | 1 => rfl
  | 2 => rfl
  | k + 3 => simp [va_up, oChain]
theorem nI_subN {a b : Nat} (h : b ≤ a) : nI a - nI b = nI (a - b) := by
  have e : nI a = nI (a - b) + nI b := by rw [nI_add]; congr 1; omega
  rw [e, Int32.add_sub_cancel]
def rLines : Nat → Option Nat := fun i => if i < 5 then some (47 + i) else none
theorem rLines_at {i : Nat} (h : i < 5) : va_rf (rLines i) = .ref (47 + i) := by simp [rLines, h, va_rf]
def hpC (hp : mHp) (LL : Nat → Nat → Int64) (DG : Nat → Int32) (m : Nat) : mHp := fun q => if q = 45 then eO 0 (oChain (nI m)) else if q = 52 then eI 5 DG else if 47 ≤ q ∧ q < 52 then eL 5 (LL (q - 47)) else hp q
theorem hpC_row {hp : mHp} {LL : Nat → Nat → Int64} {DG : Nat → Int32} {m i : Nat} (h : i < 5) : hpC hp LL DG m (47 + i) = eL 5 (LL i) := by
  unfold hpC
  rw [if_neg (by omega), if_neg (by omega), if_pos (by omega)]
  congr 3
  omega
theorem hpC_out {hp : mHp} {LL : Nat → Nat → Int64} {DG : Nat → Int32} {m q : Nat} (h : q < 45 ∨ q = 46 ∨ 52 < q) : hpC hp LL DG m q = hp q := by
  unfold hpC
  rw [if_neg (by omega), if_neg (by omega), if_neg (by omega)]
theorem hpC_upR {hp : mHp} {LL : Nat → Nat → Int64} {DG : Nat → Int32} {m i : Nat} {L : Nat → Int64} (h : i < 5) : va_up (hpC hp LL DG m) (47 + i) (eL 5 L) = hpC hp (va_up LL i L) DG m := by
  funext q
  by_cases e : q = 47 + i
  · subst e
    rw [va_up_self, hpC_row h, va_up_self]
  · rw [va_up_ne _ _ e]
    unfold hpC
    split
    · rfl
    · split
      · rfl
      · split
        · rw [va_up_ne _ _ (by omega)]
        · rfl
theorem hpC_upD {hp : mHp} {LL : Nat → Nat → Int64} {DG D' : Nat → Int32} {m : Nat} : va_up (hpC hp LL DG m) 52 (eI 5 D') = hpC hp LL D' m := by
  funext q
  by_cases e : q = 52
  · subst e
    rfl
  · rw [va_up_ne _ _ e]
    unfold hpC
    simp only [if_neg e]
theorem hpC_upS {hp : mHp} {LL : Nat → Nat → Int64} {DG : Nat → Int32} {m m' : Nat} : va_up (hpC hp LL DG m) 45 (eO 0 (oChain (nI m'))) = hpC hp LL DG m' := by
  funext q
  by_cases e : q = 45
  · subst e
    rfl
  · rw [va_up_ne _ _ e]
    unfold hpC
    simp only [if_neg e]
/-- the degree of whole numbers; -1: all are 0 -/
def dgZ (z : Nat → Int) : Int32 := if z 4 = 0 then if z 3 = 0 then if z 2 = 0 then if z 1 = 0 then if z 0 = 0 then -1 else 0 else 1 else 2 else 3 else 4
theorem deg5_Z {L : Nat → Int64} {z : Nat → Int} (h : ∀ j, j < 5 → L j = lZ (z j)) (hb : ∀ j, j < 5 → bdZ (z j)) : deg5 L = dgZ z := by
  unfold deg5 dgZ
  simp only [h 0 (by decide), h 1 (by decide), h 2 (by decide), h 3 (by decide), h 4 (by decide), lZ_0 (hb 0 (by decide)), lZ_0 (hb 1 (by decide)), lZ_0 (hb 2 (by decide)), lZ_0 (hb 3 (by decide)), lZ_0 (hb 4 (by decide))]
def halfZ (z : Nat → Int) (o : Nat) (k : Nat) : Int := if k % 2 = o then z k else 0
theorem halfZ_bd {z : Nat → Int} {o j : Nat} (h : bdZ (z j)) : bdZ (halfZ z o j) := by
  unfold halfZ
  split
  · exact h
  · exact bd0
theorem t_X0_addUnlessZero {n : Nat} {hp : mHp} {LL : Nat → Nat → Int64} {DG : Nat → Int32} {m : Nat} {z : Nat → Int} (h46 : hp 46 = eR tyJJ 5 rLines) (hm : m < 5) (hL : ∀ j, j < 5 → LL m j = lZ (z j)) (hb : ∀ j, j < 5 → bdZ (z j)) : mC D_X0_addUnlessZero [.ref 45] n (hpC hp LL DG m) (rV (hpC hp LL (va_up DG m (dgZ z)) (if dgZ z = -1 then m else m + 1))) := by
  refine m_enter rfl rfl (Nat.le_of_ble_eq_true rfl) (fun K hF => ?_)
  show mW K _ 0 0 _ _ 0 [.ref 45] []
  have a45 : hpC hp LL DG m 45 = eO 0 (oChain (nI m)) := rfl
  have a46 : hpC hp LL DG m 46 = eR tyJJ 5 rLines := h46
  have a47 : hpC hp LL DG m (47 + m) = eL 5 (LL m) := hpC_row hm
  have a52 : hpC hp LL DG m 52 = eI 5 DG := rfl
  refine m_aload_n dX0_addUnlessZero_0 rfl ?_
  refine m_getfield dX0_addUnlessZero_1 fl_X0_16 (by first | assumption | rfl) (by first | assumption | rfl) ?_
  show mW _ _ _ _ _ _ _ _ (.ref _ :: _)
  refine m_aload_n dX0_addUnlessZero_4 rfl ?_
  refine m_getfield dX0_addUnlessZero_5 fl_X0_20 (by first | assumption | rfl) (by first | assumption | rfl) ?_
  show mW _ _ _ _ _ _ _ _ (.int _ :: _)
  refine m_aload_n dX0_addUnlessZero_8 rfl ?_
  refine m_getfield dX0_addUnlessZero_9 fl_X0_11 (by first | assumption | rfl) (by first | assumption | rfl) ?_
  show mW _ _ _ _ _ _ _ _ (.ref _ :: _)
  refine m_aload_n dX0_addUnlessZero_12 rfl ?_
  refine m_getfield dX0_addUnlessZero_13 fl_X0_20 (by first | assumption | rfl) (by first | assumption | rfl) ?_
  show mW _ _ _ _ _ _ _ _ (.int _ :: _)
  refine m_aaloadJ dX0_addUnlessZero_16 (by first | assumption | rfl) (mIx_lit hm (by decide)) (rLines_at hm) ?_
  refine m_invSN_I dX0_addUnlessZero_17 lk_X0_24 ar_X7_degreeOf (t_X7_degreeOf (by first | assumption | rfl)) rfl (Nat.le_of_ble_eq_true rfl) (by decide) (by decide) (by decide) (by decide) rfl rfl ?_
  try rw [va_uu]
  refine m_ci (v := dgZ z) (deg5_Z hL hb) ?_
  refine m_iastore dX0_addUnlessZero_20 (by first | assumption | rfl) (mIx_lit hm (by decide)) ?_
  try rw [va_uu]
  rw [hpC_upD]
  refine m_aload_n dX0_addUnlessZero_21 rfl ?_
  refine m_getfield dX0_addUnlessZero_22 fl_X0_16 (by first | assumption | rfl) (by first | assumption | rfl) ?_
  show mW _ _ _ _ _ _ _ _ (.ref _ :: _)
  refine m_aload_n dX0_addUnlessZero_25 rfl ?_
  refine m_getfield dX0_addUnlessZero_26 fl_X0_20 (by first | assumption | rfl) (by first | assumption | rfl) ?_
  show mW _ _ _ _ _ _ _ _ (.int _ :: _)
  refine m_iaload dX0_addUnlessZero_29 (by first | assumption | rfl) (mIx_lit hm (by decide)) ?_
  refine m_ci (v := dgZ z) (va_up_self _ _ _) ?_
  refine m_iconst (v := -1) dX0_addUnlessZero_30 (by decide) ?_
  refine m_icmp_eq (t := 44) dX0_addUnlessZero_31 (by decide) (fun c31 => ?_) (fun c31 => ?_)
  · exact m_return hF dX0_addUnlessZero_44 rfl rfl rfl ⟨rfl, by simp only [if_pos c31]⟩
  refine m_aload_n dX0_addUnlessZero_34 rfl ?_
  refine m_dup dX0_addUnlessZero_35 rfl ?_
  refine m_getfield dX0_addUnlessZero_36 fl_X0_20 (by first | assumption | rfl) (by first | assumption | rfl) ?_
  show mW _ _ _ _ _ _ _ _ (.int _ :: _)
  refine m_iconst (v := 1) dX0_addUnlessZero_39 (by decide) ?_
  refine m_iadd dX0_addUnlessZero_40 ?_
  refine m_ci (v := nI (m + 1)) (nI_1 m) ?_
  refine m_putfield dX0_addUnlessZero_41 fl_X0_20 (by first | assumption | rfl) (fun _ => rfl) (fun _ => rfl) ?_
  try rw [va_uu]
  rw [oChain_2]
  exact m_return hF dX0_addUnlessZero_44 rfl rfl rfl ⟨rfl, by simp only [if_neg c31, hpC_upS]⟩
set_option maxHeartbeats 4000000 in
set_option maxRecDepth 100000 in
theorem t_X0_addHalf0 {n : Nat} {hp : mHp} {LL : Nat → Nat → Int64} {DG : Nat → Int32} {m h : Nat} {Z : Nat → Int64} {z : Nat → Int} (h46 : hp 46 = eR tyJJ 5 rLines) (hm : m < 5) (hh : hp h = eL 5 Z) (ho : 52 < h) (hZ : ∀ j, j < 5 → Z j = lZ (z j)) (hb : ∀ j, j < 5 → bdZ (z j)) : mC D_X0_addHalf [.ref 45, .ref h, .int 0] n (hpC hp LL DG m) (fun v hp' => v = none ∧ ∃ L : Nat → Int64, hp' = hpC hp (va_up LL m L) (va_up DG m (dgZ (halfZ z 0))) (if dgZ (halfZ z 0) = -1 then m else m + 1) ∧ ∀ j, j < 5 → L j = lZ (halfZ z 0 j)) := by
  refine m_enter rfl rfl (Nat.le_of_ble_eq_true rfl) (fun K hF => ?_)
  show mW K _ 0 0 _ _ 0 [.ref 45, .ref h, .int 0, .retAddr 0, .retAddr 0] []
  have a45 : hpC hp LL DG m 45 = eO 0 (oChain (nI m)) := rfl
  have a46 : hpC hp LL DG m 46 = eR tyJJ 5 rLines := h46
  refine m_aload_n dX0_addHalf_0 rfl ?_
  refine m_getfield dX0_addHalf_1 fl_X0_11 (by first | exact hpC_row hm | exact (hpC_out (Or.inr (Or.inr ho))).trans hh | assumption | rfl) (by first | exact hpC_row hm | exact (hpC_out (Or.inr (Or.inr ho))).trans hh | assumption | rfl) ?_
  show mW _ _ _ _ _ _ _ _ (.ref _ :: _)
  refine m_aload_n dX0_addHalf_4 rfl ?_
  refine m_getfield dX0_addHalf_5 fl_X0_20 (by first | exact hpC_row hm | exact (hpC_out (Or.inr (Or.inr ho))).trans hh | assumption | rfl) (by first | exact hpC_row hm | exact (hpC_out (Or.inr (Or.inr ho))).trans hh | assumption | rfl) ?_
  show mW _ _ _ _ _ _ _ _ (.int _ :: _)
  refine m_aaloadJ dX0_addHalf_8 (by first | exact hpC_row hm | exact (hpC_out (Or.inr (Or.inr ho))).trans hh | assumption | rfl) (mIx_lit hm (by decide)) (rLines_at hm) ?_
  refine m_astore_n dX0_addHalf_9 (by decide) ?_
  show mW _ _ _ _ _ _ 10 [_, _, _, _, _] _
  refine m_iconst (v := 0) dX0_addHalf_10 (by decide) ?_
  refine m_istore dX0_addHalf_11 (by decide) ?_
  show mW _ _ _ _ _ _ 13 [_, _, _, _, _] _
  refine m_iload dX0_addHalf_13 rfl ?_
  refine m_iconst (v := 5) dX0_addHalf_15 (by decide) ?_
  refine m_icmp_ge (t := 45) dX0_addHalf_16 (by decide) (fun q => absurd q (by decide)) (fun _ => ?_)
  refine m_aload_n dX0_addHalf_19 rfl ?_
  refine m_iload dX0_addHalf_20 rfl ?_
  refine m_iload dX0_addHalf_22 rfl ?_
  refine m_iconst (v := 2) dX0_addHalf_24 (by decide) ?_
  refine m_irem dX0_addHalf_25 (by decide) ?_
  refine m_ci (v := 0) (by decide) ?_
  refine m_iload_n dX0_addHalf_26 rfl ?_
  refine m_icmp_ne (t := 37) dX0_addHalf_27 (by decide) (fun q => absurd rfl q) (fun _ => ?_)
  refine m_aload_n dX0_addHalf_30 rfl ?_
  refine m_iload dX0_addHalf_31 rfl ?_
  refine m_laload (k := 0) dX0_addHalf_33 (by first | exact hpC_row hm | exact (hpC_out (Or.inr (Or.inr ho))).trans hh | assumption | rfl) ⟨by decide, by decide⟩ ?_
  refine m_goto (t := 38) dX0_addHalf_34 (by decide) ?_
  refine m_cl (v := lZ (halfZ z 0 0)) (by unfold halfZ; first | exact hZ 0 (by decide) | rfl) ?_
  refine m_lastore (k := 0) dX0_addHalf_38 (by first | exact hpC_row hm | exact (hpC_out (Or.inr (Or.inr ho))).trans hh | assumption | rfl) ⟨by decide, by decide⟩ ?_
  try rw [va_uu]
  rw [hpC_upR hm]
  refine m_iinc (v := 1) dX0_addHalf_39 rfl (by decide) (by decide) ?_
  show mW _ _ _ _ _ _ 42 [_, _, _, _, _] _
  refine m_goto (t := 13) dX0_addHalf_42 (by decide) ?_
  refine m_iload dX0_addHalf_13 rfl ?_
  refine m_iconst (v := 5) dX0_addHalf_15 (by decide) ?_
  refine m_icmp_ge (t := 45) dX0_addHalf_16 (by decide) (fun q => absurd q (by decide)) (fun _ => ?_)
  refine m_aload_n dX0_addHalf_19 rfl ?_
  refine m_iload dX0_addHalf_20 rfl ?_
  refine m_iload dX0_addHalf_22 rfl ?_
  refine m_iconst (v := 2) dX0_addHalf_24 (by decide) ?_
  refine m_irem dX0_addHalf_25 (by decide) ?_
  refine m_ci (v := 1) (by decide) ?_
  refine m_iload_n dX0_addHalf_26 rfl ?_
  refine m_icmp_ne (t := 37) dX0_addHalf_27 (by decide) (fun _ => ?_) (fun q => absurd q (by decide))
  refine m_lconst (v := 0) dX0_addHalf_37 (by decide) ?_
  refine m_cl (v := lZ (halfZ z 0 1)) (by unfold halfZ; first | exact hZ 1 (by decide) | rfl) ?_
  refine m_lastore (k := 1) dX0_addHalf_38 (by first | exact hpC_row hm | exact (hpC_out (Or.inr (Or.inr ho))).trans hh | assumption | rfl) ⟨by decide, by decide⟩ ?_
  try rw [va_uu]
  rw [hpC_upR hm]
  refine m_iinc (v := 2) dX0_addHalf_39 rfl (by decide) (by decide) ?_
  show mW _ _ _ _ _ _ 42 [_, _, _, _, _] _
  refine m_goto (t := 13) dX0_addHalf_42 (by decide) ?_
  refine m_iload dX0_addHalf_13 rfl ?_
  refine m_iconst (v := 5) dX0_addHalf_15 (by decide) ?_
  refine m_icmp_ge (t := 45) dX0_addHalf_16 (by decide) (fun q => absurd q (by decide)) (fun _ => ?_)
  refine m_aload_n dX0_addHalf_19 rfl ?_
  refine m_iload dX0_addHalf_20 rfl ?_
  refine m_iload dX0_addHalf_22 rfl ?_
  refine m_iconst (v := 2) dX0_addHalf_24 (by decide) ?_
  refine m_irem dX0_addHalf_25 (by decide) ?_
  refine m_ci (v := 0) (by decide) ?_
  refine m_iload_n dX0_addHalf_26 rfl ?_
  refine m_icmp_ne (t := 37) dX0_addHalf_27 (by decide) (fun q => absurd rfl q) (fun _ => ?_)
  refine m_aload_n dX0_addHalf_30 rfl ?_
  refine m_iload dX0_addHalf_31 rfl ?_
  refine m_laload (k := 2) dX0_addHalf_33 (by first | exact hpC_row hm | exact (hpC_out (Or.inr (Or.inr ho))).trans hh | assumption | rfl) ⟨by decide, by decide⟩ ?_
  refine m_goto (t := 38) dX0_addHalf_34 (by decide) ?_
  refine m_cl (v := lZ (halfZ z 0 2)) (by unfold halfZ; first | exact hZ 2 (by decide) | rfl) ?_
  refine m_lastore (k := 2) dX0_addHalf_38 (by first | exact hpC_row hm | exact (hpC_out (Or.inr (Or.inr ho))).trans hh | assumption | rfl) ⟨by decide, by decide⟩ ?_
  try rw [va_uu]
  rw [hpC_upR hm]
  refine m_iinc (v := 3) dX0_addHalf_39 rfl (by decide) (by decide) ?_
  show mW _ _ _ _ _ _ 42 [_, _, _, _, _] _
  refine m_goto (t := 13) dX0_addHalf_42 (by decide) ?_
  refine m_iload dX0_addHalf_13 rfl ?_
  refine m_iconst (v := 5) dX0_addHalf_15 (by decide) ?_
  refine m_icmp_ge (t := 45) dX0_addHalf_16 (by decide) (fun q => absurd q (by decide)) (fun _ => ?_)
  refine m_aload_n dX0_addHalf_19 rfl ?_
  refine m_iload dX0_addHalf_20 rfl ?_
  refine m_iload dX0_addHalf_22 rfl ?_
  refine m_iconst (v := 2) dX0_addHalf_24 (by decide) ?_
  refine m_irem dX0_addHalf_25 (by decide) ?_
  refine m_ci (v := 1) (by decide) ?_
  refine m_iload_n dX0_addHalf_26 rfl ?_
  refine m_icmp_ne (t := 37) dX0_addHalf_27 (by decide) (fun _ => ?_) (fun q => absurd q (by decide))
  refine m_lconst (v := 0) dX0_addHalf_37 (by decide) ?_
  refine m_cl (v := lZ (halfZ z 0 3)) (by unfold halfZ; first | exact hZ 3 (by decide) | rfl) ?_
  refine m_lastore (k := 3) dX0_addHalf_38 (by first | exact hpC_row hm | exact (hpC_out (Or.inr (Or.inr ho))).trans hh | assumption | rfl) ⟨by decide, by decide⟩ ?_
  try rw [va_uu]
  rw [hpC_upR hm]
  refine m_iinc (v := 4) dX0_addHalf_39 rfl (by decide) (by decide) ?_
  show mW _ _ _ _ _ _ 42 [_, _, _, _, _] _
  refine m_goto (t := 13) dX0_addHalf_42 (by decide) ?_
  refine m_iload dX0_addHalf_13 rfl ?_
  refine m_iconst (v := 5) dX0_addHalf_15 (by decide) ?_
  refine m_icmp_ge (t := 45) dX0_addHalf_16 (by decide) (fun q => absurd q (by decide)) (fun _ => ?_)
  refine m_aload_n dX0_addHalf_19 rfl ?_
  refine m_iload dX0_addHalf_20 rfl ?_
  refine m_iload dX0_addHalf_22 rfl ?_
  refine m_iconst (v := 2) dX0_addHalf_24 (by decide) ?_
  refine m_irem dX0_addHalf_25 (by decide) ?_
  refine m_ci (v := 0) (by decide) ?_
  refine m_iload_n dX0_addHalf_26 rfl ?_
  refine m_icmp_ne (t := 37) dX0_addHalf_27 (by decide) (fun q => absurd rfl q) (fun _ => ?_)
  refine m_aload_n dX0_addHalf_30 rfl ?_
  refine m_iload dX0_addHalf_31 rfl ?_
  refine m_laload (k := 4) dX0_addHalf_33 (by first | exact hpC_row hm | exact (hpC_out (Or.inr (Or.inr ho))).trans hh | assumption | rfl) ⟨by decide, by decide⟩ ?_
  refine m_goto (t := 38) dX0_addHalf_34 (by decide) ?_
  refine m_cl (v := lZ (halfZ z 0 4)) (by unfold halfZ; first | exact hZ 4 (by decide) | rfl) ?_
  refine m_lastore (k := 4) dX0_addHalf_38 (by first | exact hpC_row hm | exact (hpC_out (Or.inr (Or.inr ho))).trans hh | assumption | rfl) ⟨by decide, by decide⟩ ?_
  try rw [va_uu]
  rw [hpC_upR hm]
  refine m_iinc (v := 5) dX0_addHalf_39 rfl (by decide) (by decide) ?_
  show mW _ _ _ _ _ _ 42 [_, _, _, _, _] _
  refine m_goto (t := 13) dX0_addHalf_42 (by decide) ?_
  refine m_iload dX0_addHalf_13 rfl ?_
  refine m_iconst (v := 5) dX0_addHalf_15 (by decide) ?_
  refine m_icmp_ge (t := 45) dX0_addHalf_16 (by decide) (fun _ => ?_) (fun q => absurd (by decide) q)
  refine m_aload_n dX0_addHalf_45 rfl ?_
  simp only [va_uu]
  refine m_invV_V dX0_addHalf_46 lk_X0_36 ar_X0_addUnlessZero (ci := 0) rfl rfl (by first | exact hpC_row hm | exact (hpC_out (Or.inr (Or.inr ho))).trans hh | assumption | rfl) (t_X0_addUnlessZero (z := halfZ z 0) h46 hm (by intro j hj; rcases lt5 hj with rfl | rfl | rfl | rfl | rfl <;> simp [va_up]) (fun j hj => halfZ_bd (hb j hj))) rfl (Nat.le_of_ble_eq_true rfl) (by decide) (by decide) (by decide) (by decide) rfl rfl ?_
  try rw [va_uu]
  exact m_return hF dX0_addHalf_49 rfl rfl rfl ⟨rfl, _, rfl, by intro j hj; rcases lt5 hj with rfl | rfl | rfl | rfl | rfl <;> simp [va_up]⟩
set_option maxHeartbeats 4000000 in
set_option maxRecDepth 100000 in
theorem t_X0_addHalf1 {n : Nat} {hp : mHp} {LL : Nat → Nat → Int64} {DG : Nat → Int32} {m h : Nat} {Z : Nat → Int64} {z : Nat → Int} (h46 : hp 46 = eR tyJJ 5 rLines) (hm : m < 5) (hh : hp h = eL 5 Z) (ho : 52 < h) (hZ : ∀ j, j < 5 → Z j = lZ (z j)) (hb : ∀ j, j < 5 → bdZ (z j)) : mC D_X0_addHalf [.ref 45, .ref h, .int 1] n (hpC hp LL DG m) (fun v hp' => v = none ∧ ∃ L : Nat → Int64, hp' = hpC hp (va_up LL m L) (va_up DG m (dgZ (halfZ z 1))) (if dgZ (halfZ z 1) = -1 then m else m + 1) ∧ ∀ j, j < 5 → L j = lZ (halfZ z 1 j)) := by
  refine m_enter rfl rfl (Nat.le_of_ble_eq_true rfl) (fun K hF => ?_)
  show mW K _ 0 0 _ _ 0 [.ref 45, .ref h, .int 1, .retAddr 0, .retAddr 0] []
  have a45 : hpC hp LL DG m 45 = eO 0 (oChain (nI m)) := rfl
  have a46 : hpC hp LL DG m 46 = eR tyJJ 5 rLines := h46
  refine m_aload_n dX0_addHalf_0 rfl ?_
  refine m_getfield dX0_addHalf_1 fl_X0_11 (by first | exact hpC_row hm | exact (hpC_out (Or.inr (Or.inr ho))).trans hh | assumption | rfl) (by first | exact hpC_row hm | exact (hpC_out (Or.inr (Or.inr ho))).trans hh | assumption | rfl) ?_
  show mW _ _ _ _ _ _ _ _ (.ref _ :: _)
  refine m_aload_n dX0_addHalf_4 rfl ?_
  refine m_getfield dX0_addHalf_5 fl_X0_20 (by first | exact hpC_row hm | exact (hpC_out (Or.inr (Or.inr ho))).trans hh | assumption | rfl) (by first | exact hpC_row hm | exact (hpC_out (Or.inr (Or.inr ho))).trans hh | assumption | rfl) ?_
  show mW _ _ _ _ _ _ _ _ (.int _ :: _)
  refine m_aaloadJ dX0_addHalf_8 (by first | exact hpC_row hm | exact (hpC_out (Or.inr (Or.inr ho))).trans hh | assumption | rfl) (mIx_lit hm (by decide)) (rLines_at hm) ?_
  refine m_astore_n dX0_addHalf_9 (by decide) ?_
  show mW _ _ _ _ _ _ 10 [_, _, _, _, _] _
  refine m_iconst (v := 0) dX0_addHalf_10 (by decide) ?_
  refine m_istore dX0_addHalf_11 (by decide) ?_
  show mW _ _ _ _ _ _ 13 [_, _, _, _, _] _
  refine m_iload dX0_addHalf_13 rfl ?_
  refine m_iconst (v := 5) dX0_addHalf_15 (by decide) ?_
  refine m_icmp_ge (t := 45) dX0_addHalf_16 (by decide) (fun q => absurd q (by decide)) (fun _ => ?_)
  refine m_aload_n dX0_addHalf_19 rfl ?_
  refine m_iload dX0_addHalf_20 rfl ?_
  refine m_iload dX0_addHalf_22 rfl ?_
  refine m_iconst (v := 2) dX0_addHalf_24 (by decide) ?_
  refine m_irem dX0_addHalf_25 (by decide) ?_
  refine m_ci (v := 0) (by decide) ?_
  refine m_iload_n dX0_addHalf_26 rfl ?_
  refine m_icmp_ne (t := 37) dX0_addHalf_27 (by decide) (fun _ => ?_) (fun q => absurd q (by decide))
  refine m_lconst (v := 0) dX0_addHalf_37 (by decide) ?_
  refine m_cl (v := lZ (halfZ z 1 0)) (by unfold halfZ; first | exact hZ 0 (by decide) | rfl) ?_
  refine m_lastore (k := 0) dX0_addHalf_38 (by first | exact hpC_row hm | exact (hpC_out (Or.inr (Or.inr ho))).trans hh | assumption | rfl) ⟨by decide, by decide⟩ ?_
  try rw [va_uu]
  rw [hpC_upR hm]
  refine m_iinc (v := 1) dX0_addHalf_39 rfl (by decide) (by decide) ?_
  show mW _ _ _ _ _ _ 42 [_, _, _, _, _] _
  refine m_goto (t := 13) dX0_addHalf_42 (by decide) ?_
  refine m_iload dX0_addHalf_13 rfl ?_
  refine m_iconst (v := 5) dX0_addHalf_15 (by decide) ?_
  refine m_icmp_ge (t := 45) dX0_addHalf_16 (by decide) (fun q => absurd q (by decide)) (fun _ => ?_)
  refine m_aload_n dX0_addHalf_19 rfl ?_
  refine m_iload dX0_addHalf_20 rfl ?_
  refine m_iload dX0_addHalf_22 rfl ?_
  refine m_iconst (v := 2) dX0_addHalf_24 (by decide) ?_
  refine m_irem dX0_addHalf_25 (by decide) ?_
  refine m_ci (v := 1) (by decide) ?_
  refine m_iload_n dX0_addHalf_26 rfl ?_
  refine m_icmp_ne (t := 37) dX0_addHalf_27 (by decide) (fun q => absurd rfl q) (fun _ => ?_)
  refine m_aload_n dX0_addHalf_30 rfl ?_
  refine m_iload dX0_addHalf_31 rfl ?_
  refine m_laload (k := 1) dX0_addHalf_33 (by first | exact hpC_row hm | exact (hpC_out (Or.inr (Or.inr ho))).trans hh | assumption | rfl) ⟨by decide, by decide⟩ ?_
  refine m_goto (t := 38) dX0_addHalf_34 (by decide) ?_
  refine m_cl (v := lZ (halfZ z 1 1)) (by unfold halfZ; first | exact hZ 1 (by decide) | rfl) ?_
  refine m_lastore (k := 1) dX0_addHalf_38 (by first | exact hpC_row hm | exact (hpC_out (Or.inr (Or.inr ho))).trans hh | assumption | rfl) ⟨by decide, by decide⟩ ?_
  try rw [va_uu]
  rw [hpC_upR hm]
  refine m_iinc (v := 2) dX0_addHalf_39 rfl (by decide) (by decide) ?_
  show mW _ _ _ _ _ _ 42 [_, _, _, _, _] _
  refine m_goto (t := 13) dX0_addHalf_42 (by decide) ?_
  refine m_iload dX0_addHalf_13 rfl ?_
  refine m_iconst (v := 5) dX0_addHalf_15 (by decide) ?_
  refine m_icmp_ge (t := 45) dX0_addHalf_16 (by decide) (fun q => absurd q (by decide)) (fun _ => ?_)
  refine m_aload_n dX0_addHalf_19 rfl ?_
  refine m_iload dX0_addHalf_20 rfl ?_
  refine m_iload dX0_addHalf_22 rfl ?_
  refine m_iconst (v := 2) dX0_addHalf_24 (by decide) ?_
  refine m_irem dX0_addHalf_25 (by decide) ?_
  refine m_ci (v := 0) (by decide) ?_
  refine m_iload_n dX0_addHalf_26 rfl ?_
  refine m_icmp_ne (t := 37) dX0_addHalf_27 (by decide) (fun _ => ?_) (fun q => absurd q (by decide))
  refine m_lconst (v := 0) dX0_addHalf_37 (by decide) ?_
  refine m_cl (v := lZ (halfZ z 1 2)) (by unfold halfZ; first | exact hZ 2 (by decide) | rfl) ?_
  refine m_lastore (k := 2) dX0_addHalf_38 (by first | exact hpC_row hm | exact (hpC_out (Or.inr (Or.inr ho))).trans hh | assumption | rfl) ⟨by decide, by decide⟩ ?_
  try rw [va_uu]
  rw [hpC_upR hm]
  refine m_iinc (v := 3) dX0_addHalf_39 rfl (by decide) (by decide) ?_
  show mW _ _ _ _ _ _ 42 [_, _, _, _, _] _
  refine m_goto (t := 13) dX0_addHalf_42 (by decide) ?_
  refine m_iload dX0_addHalf_13 rfl ?_
  refine m_iconst (v := 5) dX0_addHalf_15 (by decide) ?_
  refine m_icmp_ge (t := 45) dX0_addHalf_16 (by decide) (fun q => absurd q (by decide)) (fun _ => ?_)
  refine m_aload_n dX0_addHalf_19 rfl ?_
  refine m_iload dX0_addHalf_20 rfl ?_
  refine m_iload dX0_addHalf_22 rfl ?_
  refine m_iconst (v := 2) dX0_addHalf_24 (by decide) ?_
  refine m_irem dX0_addHalf_25 (by decide) ?_
  refine m_ci (v := 1) (by decide) ?_
  refine m_iload_n dX0_addHalf_26 rfl ?_
  refine m_icmp_ne (t := 37) dX0_addHalf_27 (by decide) (fun q => absurd rfl q) (fun _ => ?_)
  refine m_aload_n dX0_addHalf_30 rfl ?_
  refine m_iload dX0_addHalf_31 rfl ?_
  refine m_laload (k := 3) dX0_addHalf_33 (by first | exact hpC_row hm | exact (hpC_out (Or.inr (Or.inr ho))).trans hh | assumption | rfl) ⟨by decide, by decide⟩ ?_
  refine m_goto (t := 38) dX0_addHalf_34 (by decide) ?_
  refine m_cl (v := lZ (halfZ z 1 3)) (by unfold halfZ; first | exact hZ 3 (by decide) | rfl) ?_
  refine m_lastore (k := 3) dX0_addHalf_38 (by first | exact hpC_row hm | exact (hpC_out (Or.inr (Or.inr ho))).trans hh | assumption | rfl) ⟨by decide, by decide⟩ ?_
  try rw [va_uu]
  rw [hpC_upR hm]
  refine m_iinc (v := 4) dX0_addHalf_39 rfl (by decide) (by decide) ?_
  show mW _ _ _ _ _ _ 42 [_, _, _, _, _] _
  refine m_goto (t := 13) dX0_addHalf_42 (by decide) ?_
  refine m_iload dX0_addHalf_13 rfl ?_
  refine m_iconst (v := 5) dX0_addHalf_15 (by decide) ?_
  refine m_icmp_ge (t := 45) dX0_addHalf_16 (by decide) (fun q => absurd q (by decide)) (fun _ => ?_)
  refine m_aload_n dX0_addHalf_19 rfl ?_
  refine m_iload dX0_addHalf_20 rfl ?_
  refine m_iload dX0_addHalf_22 rfl ?_
  refine m_iconst (v := 2) dX0_addHalf_24 (by decide) ?_
  refine m_irem dX0_addHalf_25 (by decide) ?_
  refine m_ci (v := 0) (by decide) ?_
  refine m_iload_n dX0_addHalf_26 rfl ?_
  refine m_icmp_ne (t := 37) dX0_addHalf_27 (by decide) (fun _ => ?_) (fun q => absurd q (by decide))
  refine m_lconst (v := 0) dX0_addHalf_37 (by decide) ?_
  refine m_cl (v := lZ (halfZ z 1 4)) (by unfold halfZ; first | exact hZ 4 (by decide) | rfl) ?_
  refine m_lastore (k := 4) dX0_addHalf_38 (by first | exact hpC_row hm | exact (hpC_out (Or.inr (Or.inr ho))).trans hh | assumption | rfl) ⟨by decide, by decide⟩ ?_
  try rw [va_uu]
  rw [hpC_upR hm]
  refine m_iinc (v := 5) dX0_addHalf_39 rfl (by decide) (by decide) ?_
  show mW _ _ _ _ _ _ 42 [_, _, _, _, _] _
  refine m_goto (t := 13) dX0_addHalf_42 (by decide) ?_
  refine m_iload dX0_addHalf_13 rfl ?_
  refine m_iconst (v := 5) dX0_addHalf_15 (by decide) ?_
  refine m_icmp_ge (t := 45) dX0_addHalf_16 (by decide) (fun _ => ?_) (fun q => absurd (by decide) q)
  refine m_aload_n dX0_addHalf_45 rfl ?_
  simp only [va_uu]
  refine m_invV_V dX0_addHalf_46 lk_X0_36 ar_X0_addUnlessZero (ci := 0) rfl rfl (by first | exact hpC_row hm | exact (hpC_out (Or.inr (Or.inr ho))).trans hh | assumption | rfl) (t_X0_addUnlessZero (z := halfZ z 1) h46 hm (by intro j hj; rcases lt5 hj with rfl | rfl | rfl | rfl | rfl <;> simp [va_up]) (fun j hj => halfZ_bd (hb j hj))) rfl (Nat.le_of_ble_eq_true rfl) (by decide) (by decide) (by decide) (by decide) rfl rfl ?_
  try rw [va_uu]
  exact m_return hF dX0_addHalf_49 rfl rfl rfl ⟨rfl, _, rfl, by intro j hj; rcases lt5 hj with rfl | rfl | rfl | rfl | rfl <;> simp [va_up]⟩
/-- what remains of a row by the one behind it, in lowest terms -/
def remZ (A B : Nat → Int) (dA dB : Nat) : Nat → Int := if dA = dB + 3 then low5 (strikeZ (low5 (strikeZ A dA B dB)) (dA - 2) B dB) else low5 (strikeZ A dA B dB)
/-- its numbers fit -/
def remOk (A B : Nat → Int) (dA dB : Nat) : Prop := bdZ (B dB) ∧ bdZ (A dA) ∧ (∀ j, j < 5 → bdZ (strikeZ A dA B dB j)) ∧ (dA = dB + 3 → ∀ j, j < 5 → bdZ (strikeZ (low5 (strikeZ A dA B dB)) (dA - 2) B dB j))
theorem low5_bd {z : Nat → Int} (h : ∀ j, j < 5 → bdZ (z j)) : ∀ j, j < 5 → bdZ (low5 z j) := fun j hj => tdiv_bd (h j hj)
theorem va_cpy5 {α : Type} (f g : Nat → α) (j : Nat) (h : j < 5) : va_cpy f g 0 0 5 j = f j := by
  rw [pk_cpy_in (Nat.zero_le _) (by omega)]
  congr 1
  omega
set_option maxHeartbeats 4000000 in
set_option maxRecDepth 100000 in
theorem t_X0_addRemainder_1_0 {n : Nat} {hp : mHp} {LL : Nat → Nat → Int64} {DG : Nat → Int32} {i : Nat} {A B : Nat → Int} (h46 : hp 46 = eR tyJJ 5 rLines) (hi : i < 5) (h2i : 2 ≤ i) (hA : ∀ j, j < 5 → LL (i - 2) j = lZ (A j)) (hB : ∀ j, j < 5 → LL (i - 1) j = lZ (B j)) (hd1 : DG (i - 1) = 0) (hd2 : DG (i - 2) = 1) (hok : remOk A B 1 0) : mC D_X0_addRemainder [.ref 45, .int (nI i)] n (hpC hp LL DG i) (fun v hp' => v = none ∧ ∃ L : Nat → Int64, hp' = hpC hp (va_up LL i L) (va_up DG i (dgZ (remZ A B 1 0))) (if dgZ (remZ A B 1 0) = -1 then i else i + 1) ∧ ∀ j, j < 5 → L j = lZ (remZ A B 1 0 j)) := by
  refine m_enter rfl rfl (Nat.le_of_ble_eq_true rfl) (fun K hF => ?_)
  show mW K _ 0 0 _ _ 0 [.ref 45, .int (nI i), .retAddr 0, .retAddr 0, .retAddr 0] []
  have hi1 : i - 1 < 5 := by omega
  have hi2 : i - 2 < 5 := by omega
  have a45 : hpC hp LL DG i 45 = eO 0 (oChain (nI i)) := rfl
  have a46 : hpC hp LL DG i 46 = eR tyJJ 5 rLines := h46
  refine m_aload_n dX0_addRemainder_0 rfl ?_
  refine m_getfield dX0_addRemainder_1 fl_X0_11 (by first | exact hpC_row hi | exact hpC_row hi1 | exact hpC_row hi2 | assumption | rfl) (by first | exact hpC_row hi | exact hpC_row hi1 | exact hpC_row hi2 | assumption | rfl) ?_
  show mW _ _ _ _ _ _ _ _ (.ref _ :: _)
  refine m_iload_n dX0_addRemainder_4 rfl ?_
  refine m_aaloadJ dX0_addRemainder_5 (by first | exact hpC_row hi | exact hpC_row hi1 | exact hpC_row hi2 | assumption | rfl) (mIx_lit hi (by decide)) (rLines_at hi) ?_
  refine m_astore_n dX0_addRemainder_6 (by decide) ?_
  show mW _ _ _ _ _ _ 7 [_, _, _, _, _] _
  refine m_aload_n dX0_addRemainder_7 rfl ?_
  refine m_getfield dX0_addRemainder_8 fl_X0_11 (by first | exact hpC_row hi | exact hpC_row hi1 | exact hpC_row hi2 | assumption | rfl) (by first | exact hpC_row hi | exact hpC_row hi1 | exact hpC_row hi2 | assumption | rfl) ?_
  show mW _ _ _ _ _ _ _ _ (.ref _ :: _)
  refine m_iload_n dX0_addRemainder_11 rfl ?_
  refine m_iconst (v := 2) dX0_addRemainder_12 (by decide) ?_
  refine m_isub dX0_addRemainder_13 ?_
  refine m_ci (v := nI (i - 2)) (nI_subN h2i) ?_
  refine m_aaloadJ dX0_addRemainder_14 (by first | exact hpC_row hi | exact hpC_row hi1 | exact hpC_row hi2 | assumption | rfl) (mIx_lit hi2 (by decide)) (rLines_at hi2) ?_
  refine m_iconst (v := 0) dX0_addRemainder_15 (by decide) ?_
  refine m_aload_n dX0_addRemainder_16 rfl ?_
  refine m_iconst (v := 0) dX0_addRemainder_17 (by decide) ?_
  refine m_iconst (v := 5) dX0_addRemainder_18 (by decide) ?_
  refine m_copyL (s0 := 0) (d0 := 0) (k := 5) dX0_addRemainder_19 lk_X0_39 (hpC_row hi2) (hpC_row hi) (by decide) (by decide) (by decide) (by decide) (by decide) (Nat.le_of_ble_eq_true rfl) (by decide) ?_
  rw [hpC_upR hi]
  refine m_aload_n dX0_addRemainder_22 rfl ?_
  refine m_getfield dX0_addRemainder_23 fl_X0_16 (by first | exact hpC_row hi | exact hpC_row hi1 | exact hpC_row hi2 | assumption | rfl) (by first | exact hpC_row hi | exact hpC_row hi1 | exact hpC_row hi2 | assumption | rfl) ?_
  show mW _ _ _ _ _ _ _ _ (.ref _ :: _)
  refine m_iload_n dX0_addRemainder_26 rfl ?_
  refine m_iconst (v := 1) dX0_addRemainder_27 (by decide) ?_
  refine m_isub dX0_addRemainder_28 ?_
  refine m_ci (v := nI (i - 1)) (nI_subN (show 1 ≤ i by omega)) ?_
  refine m_iaload dX0_addRemainder_29 (by first | exact hpC_row hi | exact hpC_row hi1 | exact hpC_row hi2 | assumption | rfl) (mIx_lit hi1 (by decide)) ?_
  refine m_ci (v := 0) hd1 ?_
  refine m_istore_n dX0_addRemainder_30 (by decide) ?_
  show mW _ _ _ _ _ _ 31 [_, _, _, _, _] _
  refine m_aload_n dX0_addRemainder_31 rfl ?_
  refine m_getfield dX0_addRemainder_32 fl_X0_16 (by first | exact hpC_row hi | exact hpC_row hi1 | exact hpC_row hi2 | assumption | rfl) (by first | exact hpC_row hi | exact hpC_row hi1 | exact hpC_row hi2 | assumption | rfl) ?_
  show mW _ _ _ _ _ _ _ _ (.ref _ :: _)
  refine m_iload_n dX0_addRemainder_35 rfl ?_
  refine m_iconst (v := 2) dX0_addRemainder_36 (by decide) ?_
  refine m_isub dX0_addRemainder_37 ?_
  refine m_ci (v := nI (i - 2)) (nI_subN h2i) ?_
  refine m_iaload dX0_addRemainder_38 (by first | exact hpC_row hi | exact hpC_row hi1 | exact hpC_row hi2 | assumption | rfl) (mIx_lit hi2 (by decide)) ?_
  refine m_ci (v := 1) hd2 ?_
  refine m_istore dX0_addRemainder_39 (by decide) ?_
  show mW _ _ _ _ _ _ 41 [_, _, _, _, _] _
  have hA0 : ∀ j, j < 5 → va_up LL i (va_cpy (LL (i - 2)) (LL i) 0 0 5) i j = lZ (A j) := fun j hj => by rw [va_up_self, va_cpy5 _ _ j hj]; exact hA j hj
  have hB0 : ∀ j, j < 5 → va_up LL i (va_cpy (LL (i - 2)) (LL i) 0 0 5) (i - 1) j = lZ (B j) := fun j hj => by rw [va_up_ne _ _ (by omega)]; exact hB j hj
  refine m_iload dX0_addRemainder_41 rfl ?_
  refine m_iload_n dX0_addRemainder_43 rfl ?_
  refine m_icmp_le (t := 72) dX0_addRemainder_44 (by decide) (fun q => absurd q (by decide)) (fun _ => ?_)
  refine m_aload_n dX0_addRemainder_47 rfl ?_
  refine m_iload dX0_addRemainder_48 rfl ?_
  refine m_aload_n dX0_addRemainder_50 rfl ?_
  refine m_getfield dX0_addRemainder_51 fl_X0_11 (by first | exact hpC_row hi | exact hpC_row hi1 | exact hpC_row hi2 | assumption | rfl) (by first | exact hpC_row hi | exact hpC_row hi1 | exact hpC_row hi2 | assumption | rfl) ?_
  show mW _ _ _ _ _ _ _ _ (.ref _ :: _)
  refine m_iload_n dX0_addRemainder_54 rfl ?_
  refine m_iconst (v := 1) dX0_addRemainder_55 (by decide) ?_
  refine m_isub dX0_addRemainder_56 ?_
  refine m_ci (v := nI (i - 1)) (nI_subN (show 1 ≤ i by omega)) ?_
  refine m_aaloadJ dX0_addRemainder_57 (by first | exact hpC_row hi | exact hpC_row hi1 | exact hpC_row hi2 | assumption | rfl) (mIx_lit hi1 (by decide)) (rLines_at hi1) ?_
  refine m_iload_n dX0_addRemainder_58 rfl ?_
  refine m_invS dX0_addRemainder_59 lk_X0_45 ar_X0_strike (t_X0_strike_1_0 (r := A) (s := B) (hpC_row hi) (hpC_row hi1) (by omega) hA0 hB0 hok.1 hok.2.1) rfl (Nat.le_of_ble_eq_true rfl) (by decide) (by decide) (by decide) (by decide) (fun v hp' q => ?_)
  obtain ⟨rfl, R1_0, rfl, hR1_0⟩ := q
  rw [hpC_upR hi, va_uu]
  show mW K _ 0 0 n _ 62 [.ref 45, .int (nI i), .ref (47 + i), .int 0, .int 1] []
  have hB0 : ∀ j, j < 5 → va_up LL i R1_0 (i - 1) j = lZ (B j) := fun j hj => by rw [va_up_ne _ _ (by omega)]; exact hB j hj
  refine m_aload_n dX0_addRemainder_62 rfl ?_
  refine m_invS dX0_addRemainder_63 lk_X0_49 ar_X0_takeLowestTerms (t_X0_takeLowestTerms (z := strikeZ A 1 B 0) (hpC_row hi) (fun j hj => by rw [va_up_self]; exact hR1_0 j hj) hok.2.2.1) rfl (Nat.le_of_ble_eq_true rfl) (by decide) (by decide) (by decide) (by decide) (fun v hp' q => ?_)
  obtain ⟨rfl, R2_0, rfl, hR2_00⟩ := q
  rw [hpC_upR hi, va_uu]
  have hR2_0 : ∀ j, j < 5 → va_up LL i R2_0 i j = lZ (low5 (strikeZ A 1 B 0) j) := fun j hj => by rw [va_up_self]; exact hR2_00 j hj
  have hB0 : ∀ j, j < 5 → va_up LL i R2_0 (i - 1) j = lZ (B j) := fun j hj => by rw [va_up_ne _ _ (by omega)]; exact hB j hj
  show mW K _ 0 0 n _ 66 [.ref 45, .int (nI i), .ref (47 + i), .int 0, .int 1] []
  refine m_iinc (v := -1) dX0_addRemainder_66 rfl (by decide) (by decide) ?_
  show mW _ _ _ _ _ _ 69 [_, _, _, _, _] _
  refine m_goto (t := 41) dX0_addRemainder_69 (by decide) ?_
  skip
  refine m_iload dX0_addRemainder_41 rfl ?_
  refine m_iload_n dX0_addRemainder_43 rfl ?_
  refine m_icmp_le (t := 72) dX0_addRemainder_44 (by decide) (fun _ => ?_) (fun q => absurd (by decide) q)
  refine m_aload_n dX0_addRemainder_72 rfl ?_
  refine m_invV_V dX0_addRemainder_73 lk_X0_36 ar_X0_addUnlessZero (ci := 0) rfl rfl (by first | exact hpC_row hi | exact hpC_row hi1 | exact hpC_row hi2 | assumption | rfl) (t_X0_addUnlessZero (z := low5 (strikeZ A 1 B 0)) h46 hi hR2_0 (low5_bd hok.2.2.1)) rfl (Nat.le_of_ble_eq_true rfl) (by decide) (by decide) (by decide) (by decide) rfl rfl ?_
  try rw [va_uu]
  exact m_return hF dX0_addRemainder_76 rfl rfl rfl ⟨rfl, R2_0, rfl, hR2_00⟩
set_option maxHeartbeats 4000000 in
set_option maxRecDepth 100000 in
theorem t_X0_addRemainder_2_1 {n : Nat} {hp : mHp} {LL : Nat → Nat → Int64} {DG : Nat → Int32} {i : Nat} {A B : Nat → Int} (h46 : hp 46 = eR tyJJ 5 rLines) (hi : i < 5) (h2i : 2 ≤ i) (hA : ∀ j, j < 5 → LL (i - 2) j = lZ (A j)) (hB : ∀ j, j < 5 → LL (i - 1) j = lZ (B j)) (hd1 : DG (i - 1) = 1) (hd2 : DG (i - 2) = 2) (hok : remOk A B 2 1) : mC D_X0_addRemainder [.ref 45, .int (nI i)] n (hpC hp LL DG i) (fun v hp' => v = none ∧ ∃ L : Nat → Int64, hp' = hpC hp (va_up LL i L) (va_up DG i (dgZ (remZ A B 2 1))) (if dgZ (remZ A B 2 1) = -1 then i else i + 1) ∧ ∀ j, j < 5 → L j = lZ (remZ A B 2 1 j)) := by
  refine m_enter rfl rfl (Nat.le_of_ble_eq_true rfl) (fun K hF => ?_)
  show mW K _ 0 0 _ _ 0 [.ref 45, .int (nI i), .retAddr 0, .retAddr 0, .retAddr 0] []
  have hi1 : i - 1 < 5 := by omega
  have hi2 : i - 2 < 5 := by omega
  have a45 : hpC hp LL DG i 45 = eO 0 (oChain (nI i)) := rfl
  have a46 : hpC hp LL DG i 46 = eR tyJJ 5 rLines := h46
  refine m_aload_n dX0_addRemainder_0 rfl ?_
  refine m_getfield dX0_addRemainder_1 fl_X0_11 (by first | exact hpC_row hi | exact hpC_row hi1 | exact hpC_row hi2 | assumption | rfl) (by first | exact hpC_row hi | exact hpC_row hi1 | exact hpC_row hi2 | assumption | rfl) ?_
  show mW _ _ _ _ _ _ _ _ (.ref _ :: _)
  refine m_iload_n dX0_addRemainder_4 rfl ?_
  refine m_aaloadJ dX0_addRemainder_5 (by first | exact hpC_row hi | exact hpC_row hi1 | exact hpC_row hi2 | assumption | rfl) (mIx_lit hi (by decide)) (rLines_at hi) ?_
  refine m_astore_n dX0_addRemainder_6 (by decide) ?_
  show mW _ _ _ _ _ _ 7 [_, _, _, _, _] _
  refine m_aload_n dX0_addRemainder_7 rfl ?_
  refine m_getfield dX0_addRemainder_8 fl_X0_11 (by first | exact hpC_row hi | exact hpC_row hi1 | exact hpC_row hi2 | assumption | rfl) (by first | exact hpC_row hi | exact hpC_row hi1 | exact hpC_row hi2 | assumption | rfl) ?_
  show mW _ _ _ _ _ _ _ _ (.ref _ :: _)
  refine m_iload_n dX0_addRemainder_11 rfl ?_
  refine m_iconst (v := 2) dX0_addRemainder_12 (by decide) ?_
  refine m_isub dX0_addRemainder_13 ?_
  refine m_ci (v := nI (i - 2)) (nI_subN h2i) ?_
  refine m_aaloadJ dX0_addRemainder_14 (by first | exact hpC_row hi | exact hpC_row hi1 | exact hpC_row hi2 | assumption | rfl) (mIx_lit hi2 (by decide)) (rLines_at hi2) ?_
  refine m_iconst (v := 0) dX0_addRemainder_15 (by decide) ?_
  refine m_aload_n dX0_addRemainder_16 rfl ?_
  refine m_iconst (v := 0) dX0_addRemainder_17 (by decide) ?_
  refine m_iconst (v := 5) dX0_addRemainder_18 (by decide) ?_
  refine m_copyL (s0 := 0) (d0 := 0) (k := 5) dX0_addRemainder_19 lk_X0_39 (hpC_row hi2) (hpC_row hi) (by decide) (by decide) (by decide) (by decide) (by decide) (Nat.le_of_ble_eq_true rfl) (by decide) ?_
  rw [hpC_upR hi]
  refine m_aload_n dX0_addRemainder_22 rfl ?_
  refine m_getfield dX0_addRemainder_23 fl_X0_16 (by first | exact hpC_row hi | exact hpC_row hi1 | exact hpC_row hi2 | assumption | rfl) (by first | exact hpC_row hi | exact hpC_row hi1 | exact hpC_row hi2 | assumption | rfl) ?_
  show mW _ _ _ _ _ _ _ _ (.ref _ :: _)
  refine m_iload_n dX0_addRemainder_26 rfl ?_
  refine m_iconst (v := 1) dX0_addRemainder_27 (by decide) ?_
  refine m_isub dX0_addRemainder_28 ?_
  refine m_ci (v := nI (i - 1)) (nI_subN (show 1 ≤ i by omega)) ?_
  refine m_iaload dX0_addRemainder_29 (by first | exact hpC_row hi | exact hpC_row hi1 | exact hpC_row hi2 | assumption | rfl) (mIx_lit hi1 (by decide)) ?_
  refine m_ci (v := 1) hd1 ?_
  refine m_istore_n dX0_addRemainder_30 (by decide) ?_
  show mW _ _ _ _ _ _ 31 [_, _, _, _, _] _
  refine m_aload_n dX0_addRemainder_31 rfl ?_
  refine m_getfield dX0_addRemainder_32 fl_X0_16 (by first | exact hpC_row hi | exact hpC_row hi1 | exact hpC_row hi2 | assumption | rfl) (by first | exact hpC_row hi | exact hpC_row hi1 | exact hpC_row hi2 | assumption | rfl) ?_
  show mW _ _ _ _ _ _ _ _ (.ref _ :: _)
  refine m_iload_n dX0_addRemainder_35 rfl ?_
  refine m_iconst (v := 2) dX0_addRemainder_36 (by decide) ?_
  refine m_isub dX0_addRemainder_37 ?_
  refine m_ci (v := nI (i - 2)) (nI_subN h2i) ?_
  refine m_iaload dX0_addRemainder_38 (by first | exact hpC_row hi | exact hpC_row hi1 | exact hpC_row hi2 | assumption | rfl) (mIx_lit hi2 (by decide)) ?_
  refine m_ci (v := 2) hd2 ?_
  refine m_istore dX0_addRemainder_39 (by decide) ?_
  show mW _ _ _ _ _ _ 41 [_, _, _, _, _] _
  have hA0 : ∀ j, j < 5 → va_up LL i (va_cpy (LL (i - 2)) (LL i) 0 0 5) i j = lZ (A j) := fun j hj => by rw [va_up_self, va_cpy5 _ _ j hj]; exact hA j hj
  have hB0 : ∀ j, j < 5 → va_up LL i (va_cpy (LL (i - 2)) (LL i) 0 0 5) (i - 1) j = lZ (B j) := fun j hj => by rw [va_up_ne _ _ (by omega)]; exact hB j hj
  refine m_iload dX0_addRemainder_41 rfl ?_
  refine m_iload_n dX0_addRemainder_43 rfl ?_
  refine m_icmp_le (t := 72) dX0_addRemainder_44 (by decide) (fun q => absurd q (by decide)) (fun _ => ?_)
  refine m_aload_n dX0_addRemainder_47 rfl ?_
  refine m_iload dX0_addRemainder_48 rfl ?_
  refine m_aload_n dX0_addRemainder_50 rfl ?_
  refine m_getfield dX0_addRemainder_51 fl_X0_11 (by first | exact hpC_row hi | exact hpC_row hi1 | exact hpC_row hi2 | assumption | rfl) (by first | exact hpC_row hi | exact hpC_row hi1 | exact hpC_row hi2 | assumption | rfl) ?_
  show mW _ _ _ _ _ _ _ _ (.ref _ :: _)
  refine m_iload_n dX0_addRemainder_54 rfl ?_
  refine m_iconst (v := 1) dX0_addRemainder_55 (by decide) ?_
  refine m_isub dX0_addRemainder_56 ?_
  refine m_ci (v := nI (i - 1)) (nI_subN (show 1 ≤ i by omega)) ?_
  refine m_aaloadJ dX0_addRemainder_57 (by first | exact hpC_row hi | exact hpC_row hi1 | exact hpC_row hi2 | assumption | rfl) (mIx_lit hi1 (by decide)) (rLines_at hi1) ?_
  refine m_iload_n dX0_addRemainder_58 rfl ?_
  refine m_invS dX0_addRemainder_59 lk_X0_45 ar_X0_strike (t_X0_strike_2_1 (r := A) (s := B) (hpC_row hi) (hpC_row hi1) (by omega) hA0 hB0 hok.1 hok.2.1) rfl (Nat.le_of_ble_eq_true rfl) (by decide) (by decide) (by decide) (by decide) (fun v hp' q => ?_)
  obtain ⟨rfl, R1_0, rfl, hR1_0⟩ := q
  rw [hpC_upR hi, va_uu]
  show mW K _ 0 0 n _ 62 [.ref 45, .int (nI i), .ref (47 + i), .int 1, .int 2] []
  have hB0 : ∀ j, j < 5 → va_up LL i R1_0 (i - 1) j = lZ (B j) := fun j hj => by rw [va_up_ne _ _ (by omega)]; exact hB j hj
  refine m_aload_n dX0_addRemainder_62 rfl ?_
  refine m_invS dX0_addRemainder_63 lk_X0_49 ar_X0_takeLowestTerms (t_X0_takeLowestTerms (z := strikeZ A 2 B 1) (hpC_row hi) (fun j hj => by rw [va_up_self]; exact hR1_0 j hj) hok.2.2.1) rfl (Nat.le_of_ble_eq_true rfl) (by decide) (by decide) (by decide) (by decide) (fun v hp' q => ?_)
  obtain ⟨rfl, R2_0, rfl, hR2_00⟩ := q
  rw [hpC_upR hi, va_uu]
  have hR2_0 : ∀ j, j < 5 → va_up LL i R2_0 i j = lZ (low5 (strikeZ A 2 B 1) j) := fun j hj => by rw [va_up_self]; exact hR2_00 j hj
  have hB0 : ∀ j, j < 5 → va_up LL i R2_0 (i - 1) j = lZ (B j) := fun j hj => by rw [va_up_ne _ _ (by omega)]; exact hB j hj
  show mW K _ 0 0 n _ 66 [.ref 45, .int (nI i), .ref (47 + i), .int 1, .int 2] []
  refine m_iinc (v := 0) dX0_addRemainder_66 rfl (by decide) (by decide) ?_
  show mW _ _ _ _ _ _ 69 [_, _, _, _, _] _
  refine m_goto (t := 41) dX0_addRemainder_69 (by decide) ?_
  skip
  refine m_iload dX0_addRemainder_41 rfl ?_
  refine m_iload_n dX0_addRemainder_43 rfl ?_
  refine m_icmp_le (t := 72) dX0_addRemainder_44 (by decide) (fun _ => ?_) (fun q => absurd (by decide) q)
  refine m_aload_n dX0_addRemainder_72 rfl ?_
  refine m_invV_V dX0_addRemainder_73 lk_X0_36 ar_X0_addUnlessZero (ci := 0) rfl rfl (by first | exact hpC_row hi | exact hpC_row hi1 | exact hpC_row hi2 | assumption | rfl) (t_X0_addUnlessZero (z := low5 (strikeZ A 2 B 1)) h46 hi hR2_0 (low5_bd hok.2.2.1)) rfl (Nat.le_of_ble_eq_true rfl) (by decide) (by decide) (by decide) (by decide) rfl rfl ?_
  try rw [va_uu]
  exact m_return hF dX0_addRemainder_76 rfl rfl rfl ⟨rfl, R2_0, rfl, hR2_00⟩
set_option maxHeartbeats 4000000 in
set_option maxRecDepth 100000 in
theorem t_X0_addRemainder_3_2 {n : Nat} {hp : mHp} {LL : Nat → Nat → Int64} {DG : Nat → Int32} {i : Nat} {A B : Nat → Int} (h46 : hp 46 = eR tyJJ 5 rLines) (hi : i < 5) (h2i : 2 ≤ i) (hA : ∀ j, j < 5 → LL (i - 2) j = lZ (A j)) (hB : ∀ j, j < 5 → LL (i - 1) j = lZ (B j)) (hd1 : DG (i - 1) = 2) (hd2 : DG (i - 2) = 3) (hok : remOk A B 3 2) : mC D_X0_addRemainder [.ref 45, .int (nI i)] n (hpC hp LL DG i) (fun v hp' => v = none ∧ ∃ L : Nat → Int64, hp' = hpC hp (va_up LL i L) (va_up DG i (dgZ (remZ A B 3 2))) (if dgZ (remZ A B 3 2) = -1 then i else i + 1) ∧ ∀ j, j < 5 → L j = lZ (remZ A B 3 2 j)) := by
  refine m_enter rfl rfl (Nat.le_of_ble_eq_true rfl) (fun K hF => ?_)
  show mW K _ 0 0 _ _ 0 [.ref 45, .int (nI i), .retAddr 0, .retAddr 0, .retAddr 0] []
  have hi1 : i - 1 < 5 := by omega
  have hi2 : i - 2 < 5 := by omega
  have a45 : hpC hp LL DG i 45 = eO 0 (oChain (nI i)) := rfl
  have a46 : hpC hp LL DG i 46 = eR tyJJ 5 rLines := h46
  refine m_aload_n dX0_addRemainder_0 rfl ?_
  refine m_getfield dX0_addRemainder_1 fl_X0_11 (by first | exact hpC_row hi | exact hpC_row hi1 | exact hpC_row hi2 | assumption | rfl) (by first | exact hpC_row hi | exact hpC_row hi1 | exact hpC_row hi2 | assumption | rfl) ?_
  show mW _ _ _ _ _ _ _ _ (.ref _ :: _)
  refine m_iload_n dX0_addRemainder_4 rfl ?_
  refine m_aaloadJ dX0_addRemainder_5 (by first | exact hpC_row hi | exact hpC_row hi1 | exact hpC_row hi2 | assumption | rfl) (mIx_lit hi (by decide)) (rLines_at hi) ?_
  refine m_astore_n dX0_addRemainder_6 (by decide) ?_
  show mW _ _ _ _ _ _ 7 [_, _, _, _, _] _
  refine m_aload_n dX0_addRemainder_7 rfl ?_
  refine m_getfield dX0_addRemainder_8 fl_X0_11 (by first | exact hpC_row hi | exact hpC_row hi1 | exact hpC_row hi2 | assumption | rfl) (by first | exact hpC_row hi | exact hpC_row hi1 | exact hpC_row hi2 | assumption | rfl) ?_
  show mW _ _ _ _ _ _ _ _ (.ref _ :: _)
  refine m_iload_n dX0_addRemainder_11 rfl ?_
  refine m_iconst (v := 2) dX0_addRemainder_12 (by decide) ?_
  refine m_isub dX0_addRemainder_13 ?_
  refine m_ci (v := nI (i - 2)) (nI_subN h2i) ?_
  refine m_aaloadJ dX0_addRemainder_14 (by first | exact hpC_row hi | exact hpC_row hi1 | exact hpC_row hi2 | assumption | rfl) (mIx_lit hi2 (by decide)) (rLines_at hi2) ?_
  refine m_iconst (v := 0) dX0_addRemainder_15 (by decide) ?_
  refine m_aload_n dX0_addRemainder_16 rfl ?_
  refine m_iconst (v := 0) dX0_addRemainder_17 (by decide) ?_
  refine m_iconst (v := 5) dX0_addRemainder_18 (by decide) ?_
  refine m_copyL (s0 := 0) (d0 := 0) (k := 5) dX0_addRemainder_19 lk_X0_39 (hpC_row hi2) (hpC_row hi) (by decide) (by decide) (by decide) (by decide) (by decide) (Nat.le_of_ble_eq_true rfl) (by decide) ?_
  rw [hpC_upR hi]
  refine m_aload_n dX0_addRemainder_22 rfl ?_
  refine m_getfield dX0_addRemainder_23 fl_X0_16 (by first | exact hpC_row hi | exact hpC_row hi1 | exact hpC_row hi2 | assumption | rfl) (by first | exact hpC_row hi | exact hpC_row hi1 | exact hpC_row hi2 | assumption | rfl) ?_
  show mW _ _ _ _ _ _ _ _ (.ref _ :: _)
  refine m_iload_n dX0_addRemainder_26 rfl ?_
  refine m_iconst (v := 1) dX0_addRemainder_27 (by decide) ?_
  refine m_isub dX0_addRemainder_28 ?_
  refine m_ci (v := nI (i - 1)) (nI_subN (show 1 ≤ i by omega)) ?_
  refine m_iaload dX0_addRemainder_29 (by first | exact hpC_row hi | exact hpC_row hi1 | exact hpC_row hi2 | assumption | rfl) (mIx_lit hi1 (by decide)) ?_
  refine m_ci (v := 2) hd1 ?_
  refine m_istore_n dX0_addRemainder_30 (by decide) ?_
  show mW _ _ _ _ _ _ 31 [_, _, _, _, _] _
  refine m_aload_n dX0_addRemainder_31 rfl ?_
  refine m_getfield dX0_addRemainder_32 fl_X0_16 (by first | exact hpC_row hi | exact hpC_row hi1 | exact hpC_row hi2 | assumption | rfl) (by first | exact hpC_row hi | exact hpC_row hi1 | exact hpC_row hi2 | assumption | rfl) ?_
  show mW _ _ _ _ _ _ _ _ (.ref _ :: _)
  refine m_iload_n dX0_addRemainder_35 rfl ?_
  refine m_iconst (v := 2) dX0_addRemainder_36 (by decide) ?_
  refine m_isub dX0_addRemainder_37 ?_
  refine m_ci (v := nI (i - 2)) (nI_subN h2i) ?_
  refine m_iaload dX0_addRemainder_38 (by first | exact hpC_row hi | exact hpC_row hi1 | exact hpC_row hi2 | assumption | rfl) (mIx_lit hi2 (by decide)) ?_
  refine m_ci (v := 3) hd2 ?_
  refine m_istore dX0_addRemainder_39 (by decide) ?_
  show mW _ _ _ _ _ _ 41 [_, _, _, _, _] _
  have hA0 : ∀ j, j < 5 → va_up LL i (va_cpy (LL (i - 2)) (LL i) 0 0 5) i j = lZ (A j) := fun j hj => by rw [va_up_self, va_cpy5 _ _ j hj]; exact hA j hj
  have hB0 : ∀ j, j < 5 → va_up LL i (va_cpy (LL (i - 2)) (LL i) 0 0 5) (i - 1) j = lZ (B j) := fun j hj => by rw [va_up_ne _ _ (by omega)]; exact hB j hj
  refine m_iload dX0_addRemainder_41 rfl ?_
  refine m_iload_n dX0_addRemainder_43 rfl ?_
  refine m_icmp_le (t := 72) dX0_addRemainder_44 (by decide) (fun q => absurd q (by decide)) (fun _ => ?_)
  refine m_aload_n dX0_addRemainder_47 rfl ?_
  refine m_iload dX0_addRemainder_48 rfl ?_
  refine m_aload_n dX0_addRemainder_50 rfl ?_
  refine m_getfield dX0_addRemainder_51 fl_X0_11 (by first | exact hpC_row hi | exact hpC_row hi1 | exact hpC_row hi2 | assumption | rfl) (by first | exact hpC_row hi | exact hpC_row hi1 | exact hpC_row hi2 | assumption | rfl) ?_
  show mW _ _ _ _ _ _ _ _ (.ref _ :: _)
  refine m_iload_n dX0_addRemainder_54 rfl ?_
  refine m_iconst (v := 1) dX0_addRemainder_55 (by decide) ?_
  refine m_isub dX0_addRemainder_56 ?_
  refine m_ci (v := nI (i - 1)) (nI_subN (show 1 ≤ i by omega)) ?_
  refine m_aaloadJ dX0_addRemainder_57 (by first | exact hpC_row hi | exact hpC_row hi1 | exact hpC_row hi2 | assumption | rfl) (mIx_lit hi1 (by decide)) (rLines_at hi1) ?_
  refine m_iload_n dX0_addRemainder_58 rfl ?_
  refine m_invS dX0_addRemainder_59 lk_X0_45 ar_X0_strike (t_X0_strike_3_2 (r := A) (s := B) (hpC_row hi) (hpC_row hi1) (by omega) hA0 hB0 hok.1 hok.2.1) rfl (Nat.le_of_ble_eq_true rfl) (by decide) (by decide) (by decide) (by decide) (fun v hp' q => ?_)
  obtain ⟨rfl, R1_0, rfl, hR1_0⟩ := q
  rw [hpC_upR hi, va_uu]
  show mW K _ 0 0 n _ 62 [.ref 45, .int (nI i), .ref (47 + i), .int 2, .int 3] []
  have hB0 : ∀ j, j < 5 → va_up LL i R1_0 (i - 1) j = lZ (B j) := fun j hj => by rw [va_up_ne _ _ (by omega)]; exact hB j hj
  refine m_aload_n dX0_addRemainder_62 rfl ?_
  refine m_invS dX0_addRemainder_63 lk_X0_49 ar_X0_takeLowestTerms (t_X0_takeLowestTerms (z := strikeZ A 3 B 2) (hpC_row hi) (fun j hj => by rw [va_up_self]; exact hR1_0 j hj) hok.2.2.1) rfl (Nat.le_of_ble_eq_true rfl) (by decide) (by decide) (by decide) (by decide) (fun v hp' q => ?_)
  obtain ⟨rfl, R2_0, rfl, hR2_00⟩ := q
  rw [hpC_upR hi, va_uu]
  have hR2_0 : ∀ j, j < 5 → va_up LL i R2_0 i j = lZ (low5 (strikeZ A 3 B 2) j) := fun j hj => by rw [va_up_self]; exact hR2_00 j hj
  have hB0 : ∀ j, j < 5 → va_up LL i R2_0 (i - 1) j = lZ (B j) := fun j hj => by rw [va_up_ne _ _ (by omega)]; exact hB j hj
  show mW K _ 0 0 n _ 66 [.ref 45, .int (nI i), .ref (47 + i), .int 2, .int 3] []
  refine m_iinc (v := 1) dX0_addRemainder_66 rfl (by decide) (by decide) ?_
  show mW _ _ _ _ _ _ 69 [_, _, _, _, _] _
  refine m_goto (t := 41) dX0_addRemainder_69 (by decide) ?_
  skip
  refine m_iload dX0_addRemainder_41 rfl ?_
  refine m_iload_n dX0_addRemainder_43 rfl ?_
  refine m_icmp_le (t := 72) dX0_addRemainder_44 (by decide) (fun _ => ?_) (fun q => absurd (by decide) q)
  refine m_aload_n dX0_addRemainder_72 rfl ?_
  refine m_invV_V dX0_addRemainder_73 lk_X0_36 ar_X0_addUnlessZero (ci := 0) rfl rfl (by first | exact hpC_row hi | exact hpC_row hi1 | exact hpC_row hi2 | assumption | rfl) (t_X0_addUnlessZero (z := low5 (strikeZ A 3 B 2)) h46 hi hR2_0 (low5_bd hok.2.2.1)) rfl (Nat.le_of_ble_eq_true rfl) (by decide) (by decide) (by decide) (by decide) rfl rfl ?_
  try rw [va_uu]
  exact m_return hF dX0_addRemainder_76 rfl rfl rfl ⟨rfl, R2_0, rfl, hR2_00⟩
set_option maxHeartbeats 4000000 in
set_option maxRecDepth 100000 in
theorem t_X0_addRemainder_4_3 {n : Nat} {hp : mHp} {LL : Nat → Nat → Int64} {DG : Nat → Int32} {i : Nat} {A B : Nat → Int} (h46 : hp 46 = eR tyJJ 5 rLines) (hi : i < 5) (h2i : 2 ≤ i) (hA : ∀ j, j < 5 → LL (i - 2) j = lZ (A j)) (hB : ∀ j, j < 5 → LL (i - 1) j = lZ (B j)) (hd1 : DG (i - 1) = 3) (hd2 : DG (i - 2) = 4) (hok : remOk A B 4 3) : mC D_X0_addRemainder [.ref 45, .int (nI i)] n (hpC hp LL DG i) (fun v hp' => v = none ∧ ∃ L : Nat → Int64, hp' = hpC hp (va_up LL i L) (va_up DG i (dgZ (remZ A B 4 3))) (if dgZ (remZ A B 4 3) = -1 then i else i + 1) ∧ ∀ j, j < 5 → L j = lZ (remZ A B 4 3 j)) := by
  refine m_enter rfl rfl (Nat.le_of_ble_eq_true rfl) (fun K hF => ?_)
  show mW K _ 0 0 _ _ 0 [.ref 45, .int (nI i), .retAddr 0, .retAddr 0, .retAddr 0] []
  have hi1 : i - 1 < 5 := by omega
  have hi2 : i - 2 < 5 := by omega
  have a45 : hpC hp LL DG i 45 = eO 0 (oChain (nI i)) := rfl
  have a46 : hpC hp LL DG i 46 = eR tyJJ 5 rLines := h46
  refine m_aload_n dX0_addRemainder_0 rfl ?_
  refine m_getfield dX0_addRemainder_1 fl_X0_11 (by first | exact hpC_row hi | exact hpC_row hi1 | exact hpC_row hi2 | assumption | rfl) (by first | exact hpC_row hi | exact hpC_row hi1 | exact hpC_row hi2 | assumption | rfl) ?_
  show mW _ _ _ _ _ _ _ _ (.ref _ :: _)
  refine m_iload_n dX0_addRemainder_4 rfl ?_
  refine m_aaloadJ dX0_addRemainder_5 (by first | exact hpC_row hi | exact hpC_row hi1 | exact hpC_row hi2 | assumption | rfl) (mIx_lit hi (by decide)) (rLines_at hi) ?_
  refine m_astore_n dX0_addRemainder_6 (by decide) ?_
  show mW _ _ _ _ _ _ 7 [_, _, _, _, _] _
  refine m_aload_n dX0_addRemainder_7 rfl ?_
  refine m_getfield dX0_addRemainder_8 fl_X0_11 (by first | exact hpC_row hi | exact hpC_row hi1 | exact hpC_row hi2 | assumption | rfl) (by first | exact hpC_row hi | exact hpC_row hi1 | exact hpC_row hi2 | assumption | rfl) ?_
  show mW _ _ _ _ _ _ _ _ (.ref _ :: _)
  refine m_iload_n dX0_addRemainder_11 rfl ?_
  refine m_iconst (v := 2) dX0_addRemainder_12 (by decide) ?_
  refine m_isub dX0_addRemainder_13 ?_
  refine m_ci (v := nI (i - 2)) (nI_subN h2i) ?_
  refine m_aaloadJ dX0_addRemainder_14 (by first | exact hpC_row hi | exact hpC_row hi1 | exact hpC_row hi2 | assumption | rfl) (mIx_lit hi2 (by decide)) (rLines_at hi2) ?_
  refine m_iconst (v := 0) dX0_addRemainder_15 (by decide) ?_
  refine m_aload_n dX0_addRemainder_16 rfl ?_
  refine m_iconst (v := 0) dX0_addRemainder_17 (by decide) ?_
  refine m_iconst (v := 5) dX0_addRemainder_18 (by decide) ?_
  refine m_copyL (s0 := 0) (d0 := 0) (k := 5) dX0_addRemainder_19 lk_X0_39 (hpC_row hi2) (hpC_row hi) (by decide) (by decide) (by decide) (by decide) (by decide) (Nat.le_of_ble_eq_true rfl) (by decide) ?_
  rw [hpC_upR hi]
  refine m_aload_n dX0_addRemainder_22 rfl ?_
  refine m_getfield dX0_addRemainder_23 fl_X0_16 (by first | exact hpC_row hi | exact hpC_row hi1 | exact hpC_row hi2 | assumption | rfl) (by first | exact hpC_row hi | exact hpC_row hi1 | exact hpC_row hi2 | assumption | rfl) ?_
  show mW _ _ _ _ _ _ _ _ (.ref _ :: _)
  refine m_iload_n dX0_addRemainder_26 rfl ?_
  refine m_iconst (v := 1) dX0_addRemainder_27 (by decide) ?_
  refine m_isub dX0_addRemainder_28 ?_
  refine m_ci (v := nI (i - 1)) (nI_subN (show 1 ≤ i by omega)) ?_
  refine m_iaload dX0_addRemainder_29 (by first | exact hpC_row hi | exact hpC_row hi1 | exact hpC_row hi2 | assumption | rfl) (mIx_lit hi1 (by decide)) ?_
  refine m_ci (v := 3) hd1 ?_
  refine m_istore_n dX0_addRemainder_30 (by decide) ?_
  show mW _ _ _ _ _ _ 31 [_, _, _, _, _] _
  refine m_aload_n dX0_addRemainder_31 rfl ?_
  refine m_getfield dX0_addRemainder_32 fl_X0_16 (by first | exact hpC_row hi | exact hpC_row hi1 | exact hpC_row hi2 | assumption | rfl) (by first | exact hpC_row hi | exact hpC_row hi1 | exact hpC_row hi2 | assumption | rfl) ?_
  show mW _ _ _ _ _ _ _ _ (.ref _ :: _)
  refine m_iload_n dX0_addRemainder_35 rfl ?_
  refine m_iconst (v := 2) dX0_addRemainder_36 (by decide) ?_
  refine m_isub dX0_addRemainder_37 ?_
  refine m_ci (v := nI (i - 2)) (nI_subN h2i) ?_
  refine m_iaload dX0_addRemainder_38 (by first | exact hpC_row hi | exact hpC_row hi1 | exact hpC_row hi2 | assumption | rfl) (mIx_lit hi2 (by decide)) ?_
  refine m_ci (v := 4) hd2 ?_
  refine m_istore dX0_addRemainder_39 (by decide) ?_
  show mW _ _ _ _ _ _ 41 [_, _, _, _, _] _
  have hA0 : ∀ j, j < 5 → va_up LL i (va_cpy (LL (i - 2)) (LL i) 0 0 5) i j = lZ (A j) := fun j hj => by rw [va_up_self, va_cpy5 _ _ j hj]; exact hA j hj
  have hB0 : ∀ j, j < 5 → va_up LL i (va_cpy (LL (i - 2)) (LL i) 0 0 5) (i - 1) j = lZ (B j) := fun j hj => by rw [va_up_ne _ _ (by omega)]; exact hB j hj
  refine m_iload dX0_addRemainder_41 rfl ?_
  refine m_iload_n dX0_addRemainder_43 rfl ?_
  refine m_icmp_le (t := 72) dX0_addRemainder_44 (by decide) (fun q => absurd q (by decide)) (fun _ => ?_)
  refine m_aload_n dX0_addRemainder_47 rfl ?_
  refine m_iload dX0_addRemainder_48 rfl ?_
  refine m_aload_n dX0_addRemainder_50 rfl ?_
  refine m_getfield dX0_addRemainder_51 fl_X0_11 (by first | exact hpC_row hi | exact hpC_row hi1 | exact hpC_row hi2 | assumption | rfl) (by first | exact hpC_row hi | exact hpC_row hi1 | exact hpC_row hi2 | assumption | rfl) ?_
  show mW _ _ _ _ _ _ _ _ (.ref _ :: _)
  refine m_iload_n dX0_addRemainder_54 rfl ?_
  refine m_iconst (v := 1) dX0_addRemainder_55 (by decide) ?_
  refine m_isub dX0_addRemainder_56 ?_
  refine m_ci (v := nI (i - 1)) (nI_subN (show 1 ≤ i by omega)) ?_
  refine m_aaloadJ dX0_addRemainder_57 (by first | exact hpC_row hi | exact hpC_row hi1 | exact hpC_row hi2 | assumption | rfl) (mIx_lit hi1 (by decide)) (rLines_at hi1) ?_
  refine m_iload_n dX0_addRemainder_58 rfl ?_
  refine m_invS dX0_addRemainder_59 lk_X0_45 ar_X0_strike (t_X0_strike_4_3 (r := A) (s := B) (hpC_row hi) (hpC_row hi1) (by omega) hA0 hB0 hok.1 hok.2.1) rfl (Nat.le_of_ble_eq_true rfl) (by decide) (by decide) (by decide) (by decide) (fun v hp' q => ?_)
  obtain ⟨rfl, R1_0, rfl, hR1_0⟩ := q
  rw [hpC_upR hi, va_uu]
  show mW K _ 0 0 n _ 62 [.ref 45, .int (nI i), .ref (47 + i), .int 3, .int 4] []
  have hB0 : ∀ j, j < 5 → va_up LL i R1_0 (i - 1) j = lZ (B j) := fun j hj => by rw [va_up_ne _ _ (by omega)]; exact hB j hj
  refine m_aload_n dX0_addRemainder_62 rfl ?_
  refine m_invS dX0_addRemainder_63 lk_X0_49 ar_X0_takeLowestTerms (t_X0_takeLowestTerms (z := strikeZ A 4 B 3) (hpC_row hi) (fun j hj => by rw [va_up_self]; exact hR1_0 j hj) hok.2.2.1) rfl (Nat.le_of_ble_eq_true rfl) (by decide) (by decide) (by decide) (by decide) (fun v hp' q => ?_)
  obtain ⟨rfl, R2_0, rfl, hR2_00⟩ := q
  rw [hpC_upR hi, va_uu]
  have hR2_0 : ∀ j, j < 5 → va_up LL i R2_0 i j = lZ (low5 (strikeZ A 4 B 3) j) := fun j hj => by rw [va_up_self]; exact hR2_00 j hj
  have hB0 : ∀ j, j < 5 → va_up LL i R2_0 (i - 1) j = lZ (B j) := fun j hj => by rw [va_up_ne _ _ (by omega)]; exact hB j hj
  show mW K _ 0 0 n _ 66 [.ref 45, .int (nI i), .ref (47 + i), .int 3, .int 4] []
  refine m_iinc (v := 2) dX0_addRemainder_66 rfl (by decide) (by decide) ?_
  show mW _ _ _ _ _ _ 69 [_, _, _, _, _] _
  refine m_goto (t := 41) dX0_addRemainder_69 (by decide) ?_
  skip
  refine m_iload dX0_addRemainder_41 rfl ?_
  refine m_iload_n dX0_addRemainder_43 rfl ?_
  refine m_icmp_le (t := 72) dX0_addRemainder_44 (by decide) (fun _ => ?_) (fun q => absurd (by decide) q)
  refine m_aload_n dX0_addRemainder_72 rfl ?_
  refine m_invV_V dX0_addRemainder_73 lk_X0_36 ar_X0_addUnlessZero (ci := 0) rfl rfl (by first | exact hpC_row hi | exact hpC_row hi1 | exact hpC_row hi2 | assumption | rfl) (t_X0_addUnlessZero (z := low5 (strikeZ A 4 B 3)) h46 hi hR2_0 (low5_bd hok.2.2.1)) rfl (Nat.le_of_ble_eq_true rfl) (by decide) (by decide) (by decide) (by decide) rfl rfl ?_
  try rw [va_uu]
  exact m_return hF dX0_addRemainder_76 rfl rfl rfl ⟨rfl, R2_0, rfl, hR2_00⟩
set_option maxHeartbeats 4000000 in
set_option maxRecDepth 100000 in
theorem t_X0_addRemainder_3_0 {n : Nat} {hp : mHp} {LL : Nat → Nat → Int64} {DG : Nat → Int32} {i : Nat} {A B : Nat → Int} (h46 : hp 46 = eR tyJJ 5 rLines) (hi : i < 5) (h2i : 2 ≤ i) (hA : ∀ j, j < 5 → LL (i - 2) j = lZ (A j)) (hB : ∀ j, j < 5 → LL (i - 1) j = lZ (B j)) (hd1 : DG (i - 1) = 0) (hd2 : DG (i - 2) = 3) (hok : remOk A B 3 0) : mC D_X0_addRemainder [.ref 45, .int (nI i)] n (hpC hp LL DG i) (fun v hp' => v = none ∧ ∃ L : Nat → Int64, hp' = hpC hp (va_up LL i L) (va_up DG i (dgZ (remZ A B 3 0))) (if dgZ (remZ A B 3 0) = -1 then i else i + 1) ∧ ∀ j, j < 5 → L j = lZ (remZ A B 3 0 j)) := by
  refine m_enter rfl rfl (Nat.le_of_ble_eq_true rfl) (fun K hF => ?_)
  show mW K _ 0 0 _ _ 0 [.ref 45, .int (nI i), .retAddr 0, .retAddr 0, .retAddr 0] []
  have hi1 : i - 1 < 5 := by omega
  have hi2 : i - 2 < 5 := by omega
  have a45 : hpC hp LL DG i 45 = eO 0 (oChain (nI i)) := rfl
  have a46 : hpC hp LL DG i 46 = eR tyJJ 5 rLines := h46
  refine m_aload_n dX0_addRemainder_0 rfl ?_
  refine m_getfield dX0_addRemainder_1 fl_X0_11 (by first | exact hpC_row hi | exact hpC_row hi1 | exact hpC_row hi2 | assumption | rfl) (by first | exact hpC_row hi | exact hpC_row hi1 | exact hpC_row hi2 | assumption | rfl) ?_
  show mW _ _ _ _ _ _ _ _ (.ref _ :: _)
  refine m_iload_n dX0_addRemainder_4 rfl ?_
  refine m_aaloadJ dX0_addRemainder_5 (by first | exact hpC_row hi | exact hpC_row hi1 | exact hpC_row hi2 | assumption | rfl) (mIx_lit hi (by decide)) (rLines_at hi) ?_
  refine m_astore_n dX0_addRemainder_6 (by decide) ?_
  show mW _ _ _ _ _ _ 7 [_, _, _, _, _] _
  refine m_aload_n dX0_addRemainder_7 rfl ?_
  refine m_getfield dX0_addRemainder_8 fl_X0_11 (by first | exact hpC_row hi | exact hpC_row hi1 | exact hpC_row hi2 | assumption | rfl) (by first | exact hpC_row hi | exact hpC_row hi1 | exact hpC_row hi2 | assumption | rfl) ?_
  show mW _ _ _ _ _ _ _ _ (.ref _ :: _)
  refine m_iload_n dX0_addRemainder_11 rfl ?_
  refine m_iconst (v := 2) dX0_addRemainder_12 (by decide) ?_
  refine m_isub dX0_addRemainder_13 ?_
  refine m_ci (v := nI (i - 2)) (nI_subN h2i) ?_
  refine m_aaloadJ dX0_addRemainder_14 (by first | exact hpC_row hi | exact hpC_row hi1 | exact hpC_row hi2 | assumption | rfl) (mIx_lit hi2 (by decide)) (rLines_at hi2) ?_
  refine m_iconst (v := 0) dX0_addRemainder_15 (by decide) ?_
  refine m_aload_n dX0_addRemainder_16 rfl ?_
  refine m_iconst (v := 0) dX0_addRemainder_17 (by decide) ?_
  refine m_iconst (v := 5) dX0_addRemainder_18 (by decide) ?_
  refine m_copyL (s0 := 0) (d0 := 0) (k := 5) dX0_addRemainder_19 lk_X0_39 (hpC_row hi2) (hpC_row hi) (by decide) (by decide) (by decide) (by decide) (by decide) (Nat.le_of_ble_eq_true rfl) (by decide) ?_
  rw [hpC_upR hi]
  refine m_aload_n dX0_addRemainder_22 rfl ?_
  refine m_getfield dX0_addRemainder_23 fl_X0_16 (by first | exact hpC_row hi | exact hpC_row hi1 | exact hpC_row hi2 | assumption | rfl) (by first | exact hpC_row hi | exact hpC_row hi1 | exact hpC_row hi2 | assumption | rfl) ?_
  show mW _ _ _ _ _ _ _ _ (.ref _ :: _)
  refine m_iload_n dX0_addRemainder_26 rfl ?_
  refine m_iconst (v := 1) dX0_addRemainder_27 (by decide) ?_
  refine m_isub dX0_addRemainder_28 ?_
  refine m_ci (v := nI (i - 1)) (nI_subN (show 1 ≤ i by omega)) ?_
  refine m_iaload dX0_addRemainder_29 (by first | exact hpC_row hi | exact hpC_row hi1 | exact hpC_row hi2 | assumption | rfl) (mIx_lit hi1 (by decide)) ?_
  refine m_ci (v := 0) hd1 ?_
  refine m_istore_n dX0_addRemainder_30 (by decide) ?_
  show mW _ _ _ _ _ _ 31 [_, _, _, _, _] _
  refine m_aload_n dX0_addRemainder_31 rfl ?_
  refine m_getfield dX0_addRemainder_32 fl_X0_16 (by first | exact hpC_row hi | exact hpC_row hi1 | exact hpC_row hi2 | assumption | rfl) (by first | exact hpC_row hi | exact hpC_row hi1 | exact hpC_row hi2 | assumption | rfl) ?_
  show mW _ _ _ _ _ _ _ _ (.ref _ :: _)
  refine m_iload_n dX0_addRemainder_35 rfl ?_
  refine m_iconst (v := 2) dX0_addRemainder_36 (by decide) ?_
  refine m_isub dX0_addRemainder_37 ?_
  refine m_ci (v := nI (i - 2)) (nI_subN h2i) ?_
  refine m_iaload dX0_addRemainder_38 (by first | exact hpC_row hi | exact hpC_row hi1 | exact hpC_row hi2 | assumption | rfl) (mIx_lit hi2 (by decide)) ?_
  refine m_ci (v := 3) hd2 ?_
  refine m_istore dX0_addRemainder_39 (by decide) ?_
  show mW _ _ _ _ _ _ 41 [_, _, _, _, _] _
  have hA0 : ∀ j, j < 5 → va_up LL i (va_cpy (LL (i - 2)) (LL i) 0 0 5) i j = lZ (A j) := fun j hj => by rw [va_up_self, va_cpy5 _ _ j hj]; exact hA j hj
  have hB0 : ∀ j, j < 5 → va_up LL i (va_cpy (LL (i - 2)) (LL i) 0 0 5) (i - 1) j = lZ (B j) := fun j hj => by rw [va_up_ne _ _ (by omega)]; exact hB j hj
  refine m_iload dX0_addRemainder_41 rfl ?_
  refine m_iload_n dX0_addRemainder_43 rfl ?_
  refine m_icmp_le (t := 72) dX0_addRemainder_44 (by decide) (fun q => absurd q (by decide)) (fun _ => ?_)
  refine m_aload_n dX0_addRemainder_47 rfl ?_
  refine m_iload dX0_addRemainder_48 rfl ?_
  refine m_aload_n dX0_addRemainder_50 rfl ?_
  refine m_getfield dX0_addRemainder_51 fl_X0_11 (by first | exact hpC_row hi | exact hpC_row hi1 | exact hpC_row hi2 | assumption | rfl) (by first | exact hpC_row hi | exact hpC_row hi1 | exact hpC_row hi2 | assumption | rfl) ?_
  show mW _ _ _ _ _ _ _ _ (.ref _ :: _)
  refine m_iload_n dX0_addRemainder_54 rfl ?_
  refine m_iconst (v := 1) dX0_addRemainder_55 (by decide) ?_
  refine m_isub dX0_addRemainder_56 ?_
  refine m_ci (v := nI (i - 1)) (nI_subN (show 1 ≤ i by omega)) ?_
  refine m_aaloadJ dX0_addRemainder_57 (by first | exact hpC_row hi | exact hpC_row hi1 | exact hpC_row hi2 | assumption | rfl) (mIx_lit hi1 (by decide)) (rLines_at hi1) ?_
  refine m_iload_n dX0_addRemainder_58 rfl ?_
  refine m_invS dX0_addRemainder_59 lk_X0_45 ar_X0_strike (t_X0_strike_3_0 (r := A) (s := B) (hpC_row hi) (hpC_row hi1) (by omega) hA0 hB0 hok.1 hok.2.1) rfl (Nat.le_of_ble_eq_true rfl) (by decide) (by decide) (by decide) (by decide) (fun v hp' q => ?_)
  obtain ⟨rfl, R1_0, rfl, hR1_0⟩ := q
  rw [hpC_upR hi, va_uu]
  show mW K _ 0 0 n _ 62 [.ref 45, .int (nI i), .ref (47 + i), .int 0, .int 3] []
  have hB0 : ∀ j, j < 5 → va_up LL i R1_0 (i - 1) j = lZ (B j) := fun j hj => by rw [va_up_ne _ _ (by omega)]; exact hB j hj
  refine m_aload_n dX0_addRemainder_62 rfl ?_
  refine m_invS dX0_addRemainder_63 lk_X0_49 ar_X0_takeLowestTerms (t_X0_takeLowestTerms (z := strikeZ A 3 B 0) (hpC_row hi) (fun j hj => by rw [va_up_self]; exact hR1_0 j hj) hok.2.2.1) rfl (Nat.le_of_ble_eq_true rfl) (by decide) (by decide) (by decide) (by decide) (fun v hp' q => ?_)
  obtain ⟨rfl, R2_0, rfl, hR2_00⟩ := q
  rw [hpC_upR hi, va_uu]
  have hR2_0 : ∀ j, j < 5 → va_up LL i R2_0 i j = lZ (low5 (strikeZ A 3 B 0) j) := fun j hj => by rw [va_up_self]; exact hR2_00 j hj
  have hB0 : ∀ j, j < 5 → va_up LL i R2_0 (i - 1) j = lZ (B j) := fun j hj => by rw [va_up_ne _ _ (by omega)]; exact hB j hj
  show mW K _ 0 0 n _ 66 [.ref 45, .int (nI i), .ref (47 + i), .int 0, .int 3] []
  refine m_iinc (v := 1) dX0_addRemainder_66 rfl (by decide) (by decide) ?_
  show mW _ _ _ _ _ _ 69 [_, _, _, _, _] _
  refine m_goto (t := 41) dX0_addRemainder_69 (by decide) ?_
  skip
  refine m_iload dX0_addRemainder_41 rfl ?_
  refine m_iload_n dX0_addRemainder_43 rfl ?_
  refine m_icmp_le (t := 72) dX0_addRemainder_44 (by decide) (fun q => absurd q (by decide)) (fun _ => ?_)
  refine m_aload_n dX0_addRemainder_47 rfl ?_
  refine m_iload dX0_addRemainder_48 rfl ?_
  refine m_aload_n dX0_addRemainder_50 rfl ?_
  refine m_getfield dX0_addRemainder_51 fl_X0_11 (by first | exact hpC_row hi | exact hpC_row hi1 | exact hpC_row hi2 | assumption | rfl) (by first | exact hpC_row hi | exact hpC_row hi1 | exact hpC_row hi2 | assumption | rfl) ?_
  show mW _ _ _ _ _ _ _ _ (.ref _ :: _)
  refine m_iload_n dX0_addRemainder_54 rfl ?_
  refine m_iconst (v := 1) dX0_addRemainder_55 (by decide) ?_
  refine m_isub dX0_addRemainder_56 ?_
  refine m_ci (v := nI (i - 1)) (nI_subN (show 1 ≤ i by omega)) ?_
  refine m_aaloadJ dX0_addRemainder_57 (by first | exact hpC_row hi | exact hpC_row hi1 | exact hpC_row hi2 | assumption | rfl) (mIx_lit hi1 (by decide)) (rLines_at hi1) ?_
  refine m_iload_n dX0_addRemainder_58 rfl ?_
  refine m_invS dX0_addRemainder_59 lk_X0_45 ar_X0_strike (t_X0_strike_1_0 (r := low5 (strikeZ A 3 B 0)) (s := B) (hpC_row hi) (hpC_row hi1) (by omega) hR2_0 hB0 hok.1 (low5_bd hok.2.2.1 1 (by decide))) rfl (Nat.le_of_ble_eq_true rfl) (by decide) (by decide) (by decide) (by decide) (fun v hp' q => ?_)
  obtain ⟨rfl, R1_1, rfl, hR1_1⟩ := q
  rw [hpC_upR hi, va_uu]
  show mW K _ 0 0 n _ 62 [.ref 45, .int (nI i), .ref (47 + i), .int 0, .int 1] []
  have hB0 : ∀ j, j < 5 → va_up LL i R1_1 (i - 1) j = lZ (B j) := fun j hj => by rw [va_up_ne _ _ (by omega)]; exact hB j hj
  refine m_aload_n dX0_addRemainder_62 rfl ?_
  refine m_invS dX0_addRemainder_63 lk_X0_49 ar_X0_takeLowestTerms (t_X0_takeLowestTerms (z := strikeZ (low5 (strikeZ A 3 B 0)) 1 B 0) (hpC_row hi) (fun j hj => by rw [va_up_self]; exact hR1_1 j hj) (hok.2.2.2 rfl)) rfl (Nat.le_of_ble_eq_true rfl) (by decide) (by decide) (by decide) (by decide) (fun v hp' q => ?_)
  obtain ⟨rfl, R2_1, rfl, hR2_10⟩ := q
  rw [hpC_upR hi, va_uu]
  have hR2_1 : ∀ j, j < 5 → va_up LL i R2_1 i j = lZ (low5 (strikeZ (low5 (strikeZ A 3 B 0)) 1 B 0) j) := fun j hj => by rw [va_up_self]; exact hR2_10 j hj
  have hB0 : ∀ j, j < 5 → va_up LL i R2_1 (i - 1) j = lZ (B j) := fun j hj => by rw [va_up_ne _ _ (by omega)]; exact hB j hj
  show mW K _ 0 0 n _ 66 [.ref 45, .int (nI i), .ref (47 + i), .int 0, .int 1] []
  refine m_iinc (v := -1) dX0_addRemainder_66 rfl (by decide) (by decide) ?_
  show mW _ _ _ _ _ _ 69 [_, _, _, _, _] _
  refine m_goto (t := 41) dX0_addRemainder_69 (by decide) ?_
  skip
  refine m_iload dX0_addRemainder_41 rfl ?_
  refine m_iload_n dX0_addRemainder_43 rfl ?_
  refine m_icmp_le (t := 72) dX0_addRemainder_44 (by decide) (fun _ => ?_) (fun q => absurd (by decide) q)
  refine m_aload_n dX0_addRemainder_72 rfl ?_
  refine m_invV_V dX0_addRemainder_73 lk_X0_36 ar_X0_addUnlessZero (ci := 0) rfl rfl (by first | exact hpC_row hi | exact hpC_row hi1 | exact hpC_row hi2 | assumption | rfl) (t_X0_addUnlessZero (z := low5 (strikeZ (low5 (strikeZ A 3 B 0)) 1 B 0)) h46 hi hR2_1 (low5_bd (hok.2.2.2 rfl))) rfl (Nat.le_of_ble_eq_true rfl) (by decide) (by decide) (by decide) (by decide) rfl rfl ?_
  try rw [va_uu]
  exact m_return hF dX0_addRemainder_76 rfl rfl rfl ⟨rfl, R2_1, rfl, hR2_10⟩
set_option maxHeartbeats 4000000 in
set_option maxRecDepth 100000 in
theorem t_X0_addRemainder_4_1 {n : Nat} {hp : mHp} {LL : Nat → Nat → Int64} {DG : Nat → Int32} {i : Nat} {A B : Nat → Int} (h46 : hp 46 = eR tyJJ 5 rLines) (hi : i < 5) (h2i : 2 ≤ i) (hA : ∀ j, j < 5 → LL (i - 2) j = lZ (A j)) (hB : ∀ j, j < 5 → LL (i - 1) j = lZ (B j)) (hd1 : DG (i - 1) = 1) (hd2 : DG (i - 2) = 4) (hok : remOk A B 4 1) : mC D_X0_addRemainder [.ref 45, .int (nI i)] n (hpC hp LL DG i) (fun v hp' => v = none ∧ ∃ L : Nat → Int64, hp' = hpC hp (va_up LL i L) (va_up DG i (dgZ (remZ A B 4 1))) (if dgZ (remZ A B 4 1) = -1 then i else i + 1) ∧ ∀ j, j < 5 → L j = lZ (remZ A B 4 1 j)) := by
  refine m_enter rfl rfl (Nat.le_of_ble_eq_true rfl) (fun K hF => ?_)
  show mW K _ 0 0 _ _ 0 [.ref 45, .int (nI i), .retAddr 0, .retAddr 0, .retAddr 0] []
  have hi1 : i - 1 < 5 := by omega
  have hi2 : i - 2 < 5 := by omega
  have a45 : hpC hp LL DG i 45 = eO 0 (oChain (nI i)) := rfl
  have a46 : hpC hp LL DG i 46 = eR tyJJ 5 rLines := h46
  refine m_aload_n dX0_addRemainder_0 rfl ?_
  refine m_getfield dX0_addRemainder_1 fl_X0_11 (by first | exact hpC_row hi | exact hpC_row hi1 | exact hpC_row hi2 | assumption | rfl) (by first | exact hpC_row hi | exact hpC_row hi1 | exact hpC_row hi2 | assumption | rfl) ?_
  show mW _ _ _ _ _ _ _ _ (.ref _ :: _)
  refine m_iload_n dX0_addRemainder_4 rfl ?_
  refine m_aaloadJ dX0_addRemainder_5 (by first | exact hpC_row hi | exact hpC_row hi1 | exact hpC_row hi2 | assumption | rfl) (mIx_lit hi (by decide)) (rLines_at hi) ?_
  refine m_astore_n dX0_addRemainder_6 (by decide) ?_
  show mW _ _ _ _ _ _ 7 [_, _, _, _, _] _
  refine m_aload_n dX0_addRemainder_7 rfl ?_
  refine m_getfield dX0_addRemainder_8 fl_X0_11 (by first | exact hpC_row hi | exact hpC_row hi1 | exact hpC_row hi2 | assumption | rfl) (by first | exact hpC_row hi | exact hpC_row hi1 | exact hpC_row hi2 | assumption | rfl) ?_
  show mW _ _ _ _ _ _ _ _ (.ref _ :: _)
  refine m_iload_n dX0_addRemainder_11 rfl ?_
  refine m_iconst (v := 2) dX0_addRemainder_12 (by decide) ?_
  refine m_isub dX0_addRemainder_13 ?_
  refine m_ci (v := nI (i - 2)) (nI_subN h2i) ?_
  refine m_aaloadJ dX0_addRemainder_14 (by first | exact hpC_row hi | exact hpC_row hi1 | exact hpC_row hi2 | assumption | rfl) (mIx_lit hi2 (by decide)) (rLines_at hi2) ?_
  refine m_iconst (v := 0) dX0_addRemainder_15 (by decide) ?_
  refine m_aload_n dX0_addRemainder_16 rfl ?_
  refine m_iconst (v := 0) dX0_addRemainder_17 (by decide) ?_
  refine m_iconst (v := 5) dX0_addRemainder_18 (by decide) ?_
  refine m_copyL (s0 := 0) (d0 := 0) (k := 5) dX0_addRemainder_19 lk_X0_39 (hpC_row hi2) (hpC_row hi) (by decide) (by decide) (by decide) (by decide) (by decide) (Nat.le_of_ble_eq_true rfl) (by decide) ?_
  rw [hpC_upR hi]
  refine m_aload_n dX0_addRemainder_22 rfl ?_
  refine m_getfield dX0_addRemainder_23 fl_X0_16 (by first | exact hpC_row hi | exact hpC_row hi1 | exact hpC_row hi2 | assumption | rfl) (by first | exact hpC_row hi | exact hpC_row hi1 | exact hpC_row hi2 | assumption | rfl) ?_
  show mW _ _ _ _ _ _ _ _ (.ref _ :: _)
  refine m_iload_n dX0_addRemainder_26 rfl ?_
  refine m_iconst (v := 1) dX0_addRemainder_27 (by decide) ?_
  refine m_isub dX0_addRemainder_28 ?_
  refine m_ci (v := nI (i - 1)) (nI_subN (show 1 ≤ i by omega)) ?_
  refine m_iaload dX0_addRemainder_29 (by first | exact hpC_row hi | exact hpC_row hi1 | exact hpC_row hi2 | assumption | rfl) (mIx_lit hi1 (by decide)) ?_
  refine m_ci (v := 1) hd1 ?_
  refine m_istore_n dX0_addRemainder_30 (by decide) ?_
  show mW _ _ _ _ _ _ 31 [_, _, _, _, _] _
  refine m_aload_n dX0_addRemainder_31 rfl ?_
  refine m_getfield dX0_addRemainder_32 fl_X0_16 (by first | exact hpC_row hi | exact hpC_row hi1 | exact hpC_row hi2 | assumption | rfl) (by first | exact hpC_row hi | exact hpC_row hi1 | exact hpC_row hi2 | assumption | rfl) ?_
  show mW _ _ _ _ _ _ _ _ (.ref _ :: _)
  refine m_iload_n dX0_addRemainder_35 rfl ?_
  refine m_iconst (v := 2) dX0_addRemainder_36 (by decide) ?_
  refine m_isub dX0_addRemainder_37 ?_
  refine m_ci (v := nI (i - 2)) (nI_subN h2i) ?_
  refine m_iaload dX0_addRemainder_38 (by first | exact hpC_row hi | exact hpC_row hi1 | exact hpC_row hi2 | assumption | rfl) (mIx_lit hi2 (by decide)) ?_
  refine m_ci (v := 4) hd2 ?_
  refine m_istore dX0_addRemainder_39 (by decide) ?_
  show mW _ _ _ _ _ _ 41 [_, _, _, _, _] _
  have hA0 : ∀ j, j < 5 → va_up LL i (va_cpy (LL (i - 2)) (LL i) 0 0 5) i j = lZ (A j) := fun j hj => by rw [va_up_self, va_cpy5 _ _ j hj]; exact hA j hj
  have hB0 : ∀ j, j < 5 → va_up LL i (va_cpy (LL (i - 2)) (LL i) 0 0 5) (i - 1) j = lZ (B j) := fun j hj => by rw [va_up_ne _ _ (by omega)]; exact hB j hj
  refine m_iload dX0_addRemainder_41 rfl ?_
  refine m_iload_n dX0_addRemainder_43 rfl ?_
  refine m_icmp_le (t := 72) dX0_addRemainder_44 (by decide) (fun q => absurd q (by decide)) (fun _ => ?_)
  refine m_aload_n dX0_addRemainder_47 rfl ?_
  refine m_iload dX0_addRemainder_48 rfl ?_
  refine m_aload_n dX0_addRemainder_50 rfl ?_
  refine m_getfield dX0_addRemainder_51 fl_X0_11 (by first | exact hpC_row hi | exact hpC_row hi1 | exact hpC_row hi2 | assumption | rfl) (by first | exact hpC_row hi | exact hpC_row hi1 | exact hpC_row hi2 | assumption | rfl) ?_
  show mW _ _ _ _ _ _ _ _ (.ref _ :: _)
  refine m_iload_n dX0_addRemainder_54 rfl ?_
  refine m_iconst (v := 1) dX0_addRemainder_55 (by decide) ?_
  refine m_isub dX0_addRemainder_56 ?_
  refine m_ci (v := nI (i - 1)) (nI_subN (show 1 ≤ i by omega)) ?_
  refine m_aaloadJ dX0_addRemainder_57 (by first | exact hpC_row hi | exact hpC_row hi1 | exact hpC_row hi2 | assumption | rfl) (mIx_lit hi1 (by decide)) (rLines_at hi1) ?_
  refine m_iload_n dX0_addRemainder_58 rfl ?_
  refine m_invS dX0_addRemainder_59 lk_X0_45 ar_X0_strike (t_X0_strike_4_1 (r := A) (s := B) (hpC_row hi) (hpC_row hi1) (by omega) hA0 hB0 hok.1 hok.2.1) rfl (Nat.le_of_ble_eq_true rfl) (by decide) (by decide) (by decide) (by decide) (fun v hp' q => ?_)
  obtain ⟨rfl, R1_0, rfl, hR1_0⟩ := q
  rw [hpC_upR hi, va_uu]
  show mW K _ 0 0 n _ 62 [.ref 45, .int (nI i), .ref (47 + i), .int 1, .int 4] []
  have hB0 : ∀ j, j < 5 → va_up LL i R1_0 (i - 1) j = lZ (B j) := fun j hj => by rw [va_up_ne _ _ (by omega)]; exact hB j hj
  refine m_aload_n dX0_addRemainder_62 rfl ?_
  refine m_invS dX0_addRemainder_63 lk_X0_49 ar_X0_takeLowestTerms (t_X0_takeLowestTerms (z := strikeZ A 4 B 1) (hpC_row hi) (fun j hj => by rw [va_up_self]; exact hR1_0 j hj) hok.2.2.1) rfl (Nat.le_of_ble_eq_true rfl) (by decide) (by decide) (by decide) (by decide) (fun v hp' q => ?_)
  obtain ⟨rfl, R2_0, rfl, hR2_00⟩ := q
  rw [hpC_upR hi, va_uu]
  have hR2_0 : ∀ j, j < 5 → va_up LL i R2_0 i j = lZ (low5 (strikeZ A 4 B 1) j) := fun j hj => by rw [va_up_self]; exact hR2_00 j hj
  have hB0 : ∀ j, j < 5 → va_up LL i R2_0 (i - 1) j = lZ (B j) := fun j hj => by rw [va_up_ne _ _ (by omega)]; exact hB j hj
  show mW K _ 0 0 n _ 66 [.ref 45, .int (nI i), .ref (47 + i), .int 1, .int 4] []
  refine m_iinc (v := 2) dX0_addRemainder_66 rfl (by decide) (by decide) ?_
  show mW _ _ _ _ _ _ 69 [_, _, _, _, _] _
  refine m_goto (t := 41) dX0_addRemainder_69 (by decide) ?_
  skip
  refine m_iload dX0_addRemainder_41 rfl ?_
  refine m_iload_n dX0_addRemainder_43 rfl ?_
  refine m_icmp_le (t := 72) dX0_addRemainder_44 (by decide) (fun q => absurd q (by decide)) (fun _ => ?_)
  refine m_aload_n dX0_addRemainder_47 rfl ?_
  refine m_iload dX0_addRemainder_48 rfl ?_
  refine m_aload_n dX0_addRemainder_50 rfl ?_
  refine m_getfield dX0_addRemainder_51 fl_X0_11 (by first | exact hpC_row hi | exact hpC_row hi1 | exact hpC_row hi2 | assumption | rfl) (by first | exact hpC_row hi | exact hpC_row hi1 | exact hpC_row hi2 | assumption | rfl) ?_
  show mW _ _ _ _ _ _ _ _ (.ref _ :: _)
  refine m_iload_n dX0_addRemainder_54 rfl ?_
  refine m_iconst (v := 1) dX0_addRemainder_55 (by decide) ?_
  refine m_isub dX0_addRemainder_56 ?_
  refine m_ci (v := nI (i - 1)) (nI_subN (show 1 ≤ i by omega)) ?_
  refine m_aaloadJ dX0_addRemainder_57 (by first | exact hpC_row hi | exact hpC_row hi1 | exact hpC_row hi2 | assumption | rfl) (mIx_lit hi1 (by decide)) (rLines_at hi1) ?_
  refine m_iload_n dX0_addRemainder_58 rfl ?_
  refine m_invS dX0_addRemainder_59 lk_X0_45 ar_X0_strike (t_X0_strike_2_1 (r := low5 (strikeZ A 4 B 1)) (s := B) (hpC_row hi) (hpC_row hi1) (by omega) hR2_0 hB0 hok.1 (low5_bd hok.2.2.1 2 (by decide))) rfl (Nat.le_of_ble_eq_true rfl) (by decide) (by decide) (by decide) (by decide) (fun v hp' q => ?_)
  obtain ⟨rfl, R1_1, rfl, hR1_1⟩ := q
  rw [hpC_upR hi, va_uu]
  show mW K _ 0 0 n _ 62 [.ref 45, .int (nI i), .ref (47 + i), .int 1, .int 2] []
  have hB0 : ∀ j, j < 5 → va_up LL i R1_1 (i - 1) j = lZ (B j) := fun j hj => by rw [va_up_ne _ _ (by omega)]; exact hB j hj
  refine m_aload_n dX0_addRemainder_62 rfl ?_
  refine m_invS dX0_addRemainder_63 lk_X0_49 ar_X0_takeLowestTerms (t_X0_takeLowestTerms (z := strikeZ (low5 (strikeZ A 4 B 1)) 2 B 1) (hpC_row hi) (fun j hj => by rw [va_up_self]; exact hR1_1 j hj) (hok.2.2.2 rfl)) rfl (Nat.le_of_ble_eq_true rfl) (by decide) (by decide) (by decide) (by decide) (fun v hp' q => ?_)
  obtain ⟨rfl, R2_1, rfl, hR2_10⟩ := q
  rw [hpC_upR hi, va_uu]
  have hR2_1 : ∀ j, j < 5 → va_up LL i R2_1 i j = lZ (low5 (strikeZ (low5 (strikeZ A 4 B 1)) 2 B 1) j) := fun j hj => by rw [va_up_self]; exact hR2_10 j hj
  have hB0 : ∀ j, j < 5 → va_up LL i R2_1 (i - 1) j = lZ (B j) := fun j hj => by rw [va_up_ne _ _ (by omega)]; exact hB j hj
  show mW K _ 0 0 n _ 66 [.ref 45, .int (nI i), .ref (47 + i), .int 1, .int 2] []
  refine m_iinc (v := 0) dX0_addRemainder_66 rfl (by decide) (by decide) ?_
  show mW _ _ _ _ _ _ 69 [_, _, _, _, _] _
  refine m_goto (t := 41) dX0_addRemainder_69 (by decide) ?_
  skip
  refine m_iload dX0_addRemainder_41 rfl ?_
  refine m_iload_n dX0_addRemainder_43 rfl ?_
  refine m_icmp_le (t := 72) dX0_addRemainder_44 (by decide) (fun _ => ?_) (fun q => absurd (by decide) q)
  refine m_aload_n dX0_addRemainder_72 rfl ?_
  refine m_invV_V dX0_addRemainder_73 lk_X0_36 ar_X0_addUnlessZero (ci := 0) rfl rfl (by first | exact hpC_row hi | exact hpC_row hi1 | exact hpC_row hi2 | assumption | rfl) (t_X0_addUnlessZero (z := low5 (strikeZ (low5 (strikeZ A 4 B 1)) 2 B 1)) h46 hi hR2_1 (low5_bd (hok.2.2.2 rfl))) rfl (Nat.le_of_ble_eq_true rfl) (by decide) (by decide) (by decide) (by decide) rfl rfl ?_
  try rw [va_uu]
  exact m_return hF dX0_addRemainder_76 rfl rfl rfl ⟨rfl, R2_1, rfl, hR2_10⟩
