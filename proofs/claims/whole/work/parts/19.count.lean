/-! ===== Judge: counting by a chain ===== -/
theorem t_X1_rootsOnAxis {n : Nat} {hp : mHp} {h d : Nat} {Z : Nat → Int64} (h1 : hp h = eL 5 Z) (hd : d < 5) : mC D_X1_rootsOnAxis [.ref h, .int (nI d)] n hp (rI (raxL Z d d 0) hp) := by
  rcases lt5 hd with rfl | rfl | rfl | rfl | rfl
  · exact t_X1_rootsOnAxis0 h1
  · exact t_X1_rootsOnAxis1 h1
  · exact t_X1_rootsOnAxis2 h1
  · exact t_X1_rootsOnAxis3 h1
  · exact t_X1_rootsOnAxis4 h1
def sgF (d2 d : Int32) : Int32 := if d2 - d - (d2 - d) / 4 * 4 = 0 then 1 else 0
def sgM (fl : Int32) (x : Int64) : Int32 := if fl = sgB x then 0 else 1
def sgT (LL : Nat → Nat → Int64) (dd : Nat → Nat) : Nat → Nat → Int32 → Int32 → Int32 → Int32 → Int32
  | 0, _, t, _, _, _ => t
  | r + 1, i, t, d2, d1, m1 => sgT LL dd r (i + 1) (t + (if sgM (sgF d2 (nI (dd i))) (LL i (dd i)) = m1 then 1 else -1)) d1 (nI (dd i)) (sgM (sgF d2 (nI (dd i))) (LL i (dd i)))
set_option maxHeartbeats 4000000 in
set_option maxRecDepth 100000 in
theorem l_X1_signTurns {n : Nat} {hp : mHp} {LL : Nat → Nat → Int64} {DG : Nat → Int32} {dd : Nat → Nat} {m : Nat} {ri ev le : Int32} (h44 : hp 44 = eO 1 (oJudge ri ev le)) (h46 : hp 46 = eR tyJJ 5 rLines) (hm : 1 ≤ m) (hm5 : m ≤ 5) (hdd : ∀ j, j < m → DG j = nI (dd j) ∧ dd j < 5) {R : Int32} {K : mK} (hF : mFin K D_X1_signTurns n (rI R (hpC hp LL DG m))) : ∀ (r i : Nat) (t d2 d1 m1 : Int32) (v6 v7 v8 : Value), i + r = m → sgT LL dd r i t d2 d1 m1 = R → mW K D_X1_signTurns 0 0 n (hpC hp LL DG m) 50 [.ref 44, .int t, .int d2, .int d1, .int m1, .int (nI i), v6, v7, v8] [] := by
  have a44 : hpC hp LL DG m 44 = eO 1 (oJudge ri ev le) := h44
  have a45 : hpC hp LL DG m 45 = eO 0 (oChain (nI m)) := rfl
  have a46 : hpC hp LL DG m 46 = eR tyJJ 5 rLines := h46
  have a52 : hpC hp LL DG m 52 = eI 5 DG := rfl
  intro r
  induction r using Nat.strongRecOn with
  | ind r ih =>
    intro i t d2 d1 m1 v6 v7 v8 hir hv
    refine m_iload dX1_signTurns_50 rfl ?_
    refine m_aload_n dX1_signTurns_52 rfl ?_
    refine m_getfield dX1_signTurns_53 fl_X1_12 (by first | assumption | rfl | exact hpC_row hi5) (by first | assumption | rfl | exact hpC_row hi5) ?_
    show mW _ _ _ _ _ _ _ _ (.ref _ :: _)
    refine m_getfield dX1_signTurns_56 fl_X1_60 (by first | assumption | rfl | exact hpC_row hi5) (by first | assumption | rfl | exact hpC_row hi5) ?_
    show mW _ _ _ _ _ _ _ _ (.int _ :: _)
    refine m_icmp_ge (t := 155) dX1_signTurns_59 (by decide) (fun c59 => ?_) (fun c59 => ?_)
    · have hr : r = 0 := by have := nI_cmp' (by omega) (by omega) c59; omega
      subst hr
      refine m_iload_n dX1_signTurns_155 rfl ?_
      exact m_ireturn hF dX1_signTurns_156 rfl rfl rfl ⟨by rw [← hv]; rfl, rfl⟩
    obtain ⟨r, rfl⟩ : ∃ r', r = r' + 1 := ⟨r - 1, by have := nI_cmp (by omega) (by omega) c59; omega⟩
    have him : i < m := by omega
    have hi5 : i < 5 := by omega
    obtain ⟨e1, e2⟩ := hdd i him
    refine m_aload_n dX1_signTurns_62 rfl ?_
    refine m_getfield dX1_signTurns_63 fl_X1_12 (by first | assumption | rfl | exact hpC_row hi5) (by first | assumption | rfl | exact hpC_row hi5) ?_
    show mW _ _ _ _ _ _ _ _ (.ref _ :: _)
    refine m_getfield dX1_signTurns_66 fl_X1_63 (by first | assumption | rfl | exact hpC_row hi5) (by first | assumption | rfl | exact hpC_row hi5) ?_
    show mW _ _ _ _ _ _ _ _ (.ref _ :: _)
    refine m_iload dX1_signTurns_69 rfl ?_
    refine m_iaload dX1_signTurns_71 (by first | assumption | rfl | exact hpC_row hi5) (mIx_lit hi5 (by decide)) ?_
    refine m_ci (v := nI (dd i)) e1 ?_
    refine m_istore dX1_signTurns_72 (by decide) ?_
    show mW _ _ _ _ _ _ 74 [_, _, _, _, _, _, _, _, _] _
    refine m_iload_n dX1_signTurns_74 rfl ?_
    refine m_iload dX1_signTurns_75 rfl ?_
    refine m_isub dX1_signTurns_77 ?_
    refine m_iconst (v := 4) dX1_signTurns_78 (by decide) ?_
    refine m_irem dX1_signTurns_79 (by decide) ?_
    refine m_ternN_I (J := 88) (x := 0) (y := 1) (m_if_ne (t := 87) dX1_signTurns_80 (by decide)) (fun k9 => ?_) (fun k9 => ?_) ?_
    · refine m_iconst (v := 0) dX1_signTurns_87 (by decide) ?_
      exact k9
    · refine m_iconst (v := 1) dX1_signTurns_83 (by decide) ?_
      refine m_goto (t := 88) dX1_signTurns_84 (by decide) ?_
      exact k9
    refine m_ci (v := sgF d2 (nI (dd i))) rfl ?_
    refine m_istore dX1_signTurns_88 (by decide) ?_
    show mW _ _ _ _ _ _ 90 [_, _, _, _, _, _, _, _, _] _
    refine m_iload dX1_signTurns_90 rfl ?_
    refine m_aload_n dX1_signTurns_92 rfl ?_
    refine m_getfield dX1_signTurns_93 fl_X1_12 (by first | assumption | rfl | exact hpC_row hi5) (by first | assumption | rfl | exact hpC_row hi5) ?_
    show mW _ _ _ _ _ _ _ _ (.ref _ :: _)
    refine m_getfield dX1_signTurns_96 fl_X1_71 (by first | assumption | rfl | exact hpC_row hi5) (by first | assumption | rfl | exact hpC_row hi5) ?_
    show mW _ _ _ _ _ _ _ _ (.ref _ :: _)
    refine m_iload dX1_signTurns_99 rfl ?_
    refine m_aaloadJ dX1_signTurns_101 (by first | assumption | rfl | exact hpC_row hi5) (mIx_lit hi5 (by decide)) (rLines_at hi5) ?_
    refine m_iload dX1_signTurns_102 rfl ?_
    refine m_laload dX1_signTurns_104 (by first | assumption | rfl | exact hpC_row hi5) (mIx_lit e2 (by decide)) ?_
    refine m_lconst (v := 0) dX1_signTurns_105 (by decide) ?_
    refine m_tern_I (J := 115) (x := 0) (y := 1) (m_lc_ge (t := 114) dX1_signTurns_106 dX1_signTurns_107 (by decide)) (fun k9 => ?_) (fun k9 => ?_) ?_
    · refine m_iconst (v := 0) dX1_signTurns_114 (by decide) ?_
      exact k9
    · refine m_iconst (v := 1) dX1_signTurns_110 (by decide) ?_
      refine m_goto (t := 115) dX1_signTurns_111 (by decide) ?_
      exact k9
    refine m_tern_I (J := 123) (x := 0) (y := 1) (m_icmp_eq (t := 122) dX1_signTurns_115 (by decide)) (fun k9 => ?_) (fun k9 => ?_) ?_
    · refine m_iconst (v := 0) dX1_signTurns_122 (by decide) ?_
      exact k9
    · refine m_iconst (v := 1) dX1_signTurns_118 (by decide) ?_
      refine m_goto (t := 123) dX1_signTurns_119 (by decide) ?_
      exact k9
    refine m_ci (v := sgM (sgF d2 (nI (dd i))) (LL i (dd i))) rfl ?_
    refine m_istore dX1_signTurns_123 (by decide) ?_
    show mW _ _ _ _ _ _ 125 [_, _, _, _, _, _, _, _, _] _
    refine m_iload_n dX1_signTurns_125 rfl ?_
    refine m_iload dX1_signTurns_126 rfl ?_
    refine m_iload dX1_signTurns_128 rfl ?_
    refine m_ternN_I (J := 138) (x := -1) (y := 1) (m_icmp_ne (t := 137) dX1_signTurns_130 (by decide)) (fun k9 => ?_) (fun k9 => ?_) ?_
    · refine m_iconst (v := -1) dX1_signTurns_137 (by decide) ?_
      exact k9
    · refine m_iconst (v := 1) dX1_signTurns_133 (by decide) ?_
      refine m_goto (t := 138) dX1_signTurns_134 (by decide) ?_
      exact k9
    refine m_iadd dX1_signTurns_138 ?_
    refine m_istore_n dX1_signTurns_139 (by decide) ?_
    show mW _ _ _ _ _ _ 140 [_, _, _, _, _, _, _, _, _] _
    refine m_iload_n dX1_signTurns_140 rfl ?_
    refine m_istore_n dX1_signTurns_141 (by decide) ?_
    show mW _ _ _ _ _ _ 142 [_, _, _, _, _, _, _, _, _] _
    refine m_iload dX1_signTurns_142 rfl ?_
    refine m_istore_n dX1_signTurns_144 (by decide) ?_
    show mW _ _ _ _ _ _ 145 [_, _, _, _, _, _, _, _, _] _
    refine m_iload dX1_signTurns_145 rfl ?_
    refine m_istore dX1_signTurns_147 (by decide) ?_
    show mW _ _ _ _ _ _ 149 [_, _, _, _, _, _, _, _, _] _
    refine m_iinc (v := nI (i + 1)) dX1_signTurns_149 rfl (nI_1 i) (by decide) ?_
    show mW _ _ _ _ _ _ 152 [_, _, _, _, _, _, _, _, _] _
    refine m_goto (t := 50) dX1_signTurns_152 (by decide) ?_
    exact ih r (by omega) (i + 1) _ _ _ _ _ _ _ (by omega) hv

def sgTA (LL : Nat → Nat → Int64) (dd : Nat → Nat) (m : Nat) : Int32 := sgT LL dd (m - 1) 1 0 (nI (dd 0) + 1) (nI (dd 0)) (sgB (LL 0 (dd 0)))
set_option maxHeartbeats 4000000 in
set_option maxRecDepth 100000 in
theorem t_X1_signTurns {n : Nat} {hp : mHp} {LL : Nat → Nat → Int64} {DG : Nat → Int32} {dd : Nat → Nat} {m : Nat} {ri ev le : Int32} (h44 : hp 44 = eO 1 (oJudge ri ev le)) (h46 : hp 46 = eR tyJJ 5 rLines) (hm : 1 ≤ m) (hm5 : m ≤ 5) (hdd : ∀ j, j < m → DG j = nI (dd j) ∧ dd j < 5) : mC D_X1_signTurns [.ref 44] n (hpC hp LL DG m) (rI (sgTA LL dd m) (hpC hp LL DG m)) := by
  refine m_enter rfl rfl (Nat.le_of_ble_eq_true rfl) (fun K hF => ?_)
  show mW K _ 0 0 _ _ 0 [.ref 44, .retAddr 0, .retAddr 0, .retAddr 0, .retAddr 0, .retAddr 0, .retAddr 0, .retAddr 0, .retAddr 0] []
  have a44 : hpC hp LL DG m 44 = eO 1 (oJudge ri ev le) := h44
  have a45 : hpC hp LL DG m 45 = eO 0 (oChain (nI m)) := rfl
  have a46 : hpC hp LL DG m 46 = eR tyJJ 5 rLines := h46
  have a52 : hpC hp LL DG m 52 = eI 5 DG := rfl
  obtain ⟨e1, e2⟩ := hdd 0 (by omega)
  refine m_iconst (v := 0) dX1_signTurns_0 (by decide) ?_
  refine m_istore_n dX1_signTurns_1 (by decide) ?_
  show mW _ _ _ _ _ _ 2 [_, _, _, _, _, _, _, _, _] _
  refine m_aload_n dX1_signTurns_2 rfl ?_
  refine m_getfield dX1_signTurns_3 fl_X1_12 (by first | assumption | rfl | exact hpC_row (i := 0) (by decide)) (by first | assumption | rfl | exact hpC_row (i := 0) (by decide)) ?_
  show mW _ _ _ _ _ _ _ _ (.ref _ :: _)
  refine m_getfield dX1_signTurns_6 fl_X1_63 (by first | assumption | rfl | exact hpC_row (i := 0) (by decide)) (by first | assumption | rfl | exact hpC_row (i := 0) (by decide)) ?_
  show mW _ _ _ _ _ _ _ _ (.ref _ :: _)
  refine m_iconst (v := 0) dX1_signTurns_9 (by decide) ?_
  refine m_iaload (k := 0) dX1_signTurns_10 (by first | assumption | rfl | exact hpC_row (i := 0) (by decide)) ⟨by decide, by decide⟩ ?_
  refine m_ci (v := nI (dd 0)) e1 ?_
  refine m_iconst (v := 1) dX1_signTurns_11 (by decide) ?_
  refine m_iadd dX1_signTurns_12 ?_
  refine m_istore_n dX1_signTurns_13 (by decide) ?_
  show mW _ _ _ _ _ _ 14 [_, _, _, _, _, _, _, _, _] _
  refine m_aload_n dX1_signTurns_14 rfl ?_
  refine m_getfield dX1_signTurns_15 fl_X1_12 (by first | assumption | rfl | exact hpC_row (i := 0) (by decide)) (by first | assumption | rfl | exact hpC_row (i := 0) (by decide)) ?_
  show mW _ _ _ _ _ _ _ _ (.ref _ :: _)
  refine m_getfield dX1_signTurns_18 fl_X1_63 (by first | assumption | rfl | exact hpC_row (i := 0) (by decide)) (by first | assumption | rfl | exact hpC_row (i := 0) (by decide)) ?_
  show mW _ _ _ _ _ _ _ _ (.ref _ :: _)
  refine m_iconst (v := 0) dX1_signTurns_21 (by decide) ?_
  refine m_iaload (k := 0) dX1_signTurns_22 (by first | assumption | rfl | exact hpC_row (i := 0) (by decide)) ⟨by decide, by decide⟩ ?_
  refine m_ci (v := nI (dd 0)) e1 ?_
  refine m_istore_n dX1_signTurns_23 (by decide) ?_
  show mW _ _ _ _ _ _ 24 [_, _, _, _, _, _, _, _, _] _
  refine m_aload_n dX1_signTurns_24 rfl ?_
  refine m_getfield dX1_signTurns_25 fl_X1_12 (by first | assumption | rfl | exact hpC_row (i := 0) (by decide)) (by first | assumption | rfl | exact hpC_row (i := 0) (by decide)) ?_
  show mW _ _ _ _ _ _ _ _ (.ref _ :: _)
  refine m_getfield dX1_signTurns_28 fl_X1_71 (by first | assumption | rfl | exact hpC_row (i := 0) (by decide)) (by first | assumption | rfl | exact hpC_row (i := 0) (by decide)) ?_
  show mW _ _ _ _ _ _ _ _ (.ref _ :: _)
  refine m_iconst (v := 0) dX1_signTurns_31 (by decide) ?_
  refine m_aaloadJ (k := 0) dX1_signTurns_32 (by first | assumption | rfl | exact hpC_row (i := 0) (by decide)) ⟨by decide, by decide⟩ rfl ?_
  refine m_iload_n dX1_signTurns_33 rfl ?_
  refine m_laload dX1_signTurns_34 (by first | assumption | rfl | exact hpC_row (i := 0) (by decide)) (mIx_lit e2 (by decide)) ?_
  refine m_lconst (v := 0) dX1_signTurns_35 (by decide) ?_
  refine m_tern_I (J := 45) (x := 0) (y := 1) (m_lc_ge (t := 44) dX1_signTurns_36 dX1_signTurns_37 (by decide)) (fun k9 => ?_) (fun k9 => ?_) ?_
  · refine m_iconst (v := 0) dX1_signTurns_44 (by decide) ?_
    exact k9
  · refine m_iconst (v := 1) dX1_signTurns_40 (by decide) ?_
    refine m_goto (t := 45) dX1_signTurns_41 (by decide) ?_
    exact k9
  refine m_istore dX1_signTurns_45 (by decide) ?_
  show mW _ _ _ _ _ _ 47 [_, _, _, _, _, _, _, _, _] _
  refine m_iconst (v := 1) dX1_signTurns_47 (by decide) ?_
  refine m_istore dX1_signTurns_48 (by decide) ?_
  show mW _ _ _ _ _ _ 50 [_, _, _, _, _, _, _, _, _] _
  exact l_X1_signTurns h44 h46 hm hm5 hdd hF (m - 1) 1 _ _ _ _ _ _ _ (by omega) rfl
/-- what a chain's rows count: right, even, left -/
def cntE (LL : Nat → Nat → Int64) (dd : Nat → Nat) (m : Nat) : Int32 := if m = 0 then 0 else raxL (LL (m - 1)) (dd (m - 1)) (dd (m - 1)) 0
def cntR (LL : Nat → Nat → Int64) (dd : Nat → Nat) (m : Nat) : Int32 := if m = 0 then 0 else (nI (dd 0) - nI (dd (m - 1)) - sgTA LL dd m + nI (dd (m - 1)) - cntE LL dd m) / 2
def cntL (LL : Nat → Nat → Int64) (dd : Nat → Nat) (m : Nat) : Int32 := if m = 0 then 0 else (nI (dd 0) - nI (dd (m - 1)) + sgTA LL dd m + nI (dd (m - 1)) - cntE LL dd m) / 2
theorem hpC_u44 {hp : mHp} {LL : Nat → Nat → Int64} {DG : Nat → Int32} {m : Nat} {c : mE} : va_up (hpC hp LL DG m) 44 c = hpC (va_up hp 44 c) LL DG m := by
  funext q
  by_cases e : q = 44
  · subst e
    rfl
  · rw [va_up_ne _ _ e]
    unfold hpC
    rw [va_up_ne _ _ e]
set_option maxHeartbeats 4000000 in
set_option maxRecDepth 100000 in
theorem t_X1_countByChain {n : Nat} {hp : mHp} {LL : Nat → Nat → Int64} {DG : Nat → Int32} {dd : Nat → Nat} {m : Nat} {ri ev le : Int32} (h44 : hp 44 = eO 1 (oJudge ri ev le)) (h46 : hp 46 = eR tyJJ 5 rLines) (hm5 : m ≤ 5) (hdd : ∀ j, j < m → DG j = nI (dd j) ∧ dd j < 5) : mC D_X1_countByChain [.ref 44] n (hpC hp LL DG m) (rV (hpC (va_up hp 44 (eO 1 (oJudge (cntR LL dd m) (cntE LL dd m) (cntL LL dd m)))) LL DG m)) := by
  refine m_enter rfl rfl (Nat.le_of_ble_eq_true rfl) (fun K hF => ?_)
  show mW K _ 0 0 _ _ 0 [.ref 44, .retAddr 0, .retAddr 0, .retAddr 0] []
  have a44 : hpC hp LL DG m 44 = eO 1 (oJudge ri ev le) := h44
  refine m_aload_n dX1_countByChain_0 rfl ?_
  refine m_iconst (v := 0) dX1_countByChain_1 (by decide) ?_
  refine m_putfield dX1_countByChain_2 fl_X1_22 (by first | assumption | rfl | exact h46 | exact hpC_row hm2) (fun _ => rfl) (fun _ => rfl) ?_
  try rw [va_uu]
  rw [oJudge_2]
  rw [hpC_u44]
  refine m_aload_n dX1_countByChain_5 rfl ?_
  refine m_iconst (v := 0) dX1_countByChain_6 (by decide) ?_
  refine m_putfield dX1_countByChain_7 fl_X1_26 (by first | assumption | rfl | exact h46 | exact hpC_row hm2) (fun _ => rfl) (fun _ => rfl) ?_
  try rw [va_uu]
  rw [oJudge_3]
  rw [hpC_u44, va_uu]
  refine m_aload_n dX1_countByChain_10 rfl ?_
  refine m_iconst (v := 0) dX1_countByChain_11 (by decide) ?_
  refine m_putfield dX1_countByChain_12 fl_X1_29 (by first | assumption | rfl | exact h46 | exact hpC_row hm2) (fun _ => rfl) (fun _ => rfl) ?_
  try rw [va_uu]
  rw [oJudge_4]
  rw [hpC_u44, va_uu]
  refine m_aload_n dX1_countByChain_15 rfl ?_
  refine m_getfield dX1_countByChain_16 fl_X1_12 (by first | assumption | rfl | exact h46 | exact hpC_row hm2) (by first | assumption | rfl | exact h46 | exact hpC_row hm2) ?_
  show mW _ _ _ _ _ _ _ _ (.ref _ :: _)
  refine m_getfield dX1_countByChain_19 fl_X1_60 (by first | assumption | rfl | exact h46 | exact hpC_row hm2) (by first | assumption | rfl | exact h46 | exact hpC_row hm2) ?_
  show mW _ _ _ _ _ _ _ _ (.int _ :: _)
  refine m_if_ne (t := 26) dX1_countByChain_22 (by decide) (fun c22 => ?_) (fun c22 => ?_)
  rotate_left
  · have hm0 : m = 0 := (nI_eq (b := 0) (by omega) (by decide)).mp c22
    subst hm0
    exact m_return hF dX1_countByChain_25 rfl rfl rfl ⟨rfl, by rfl⟩
  have hm : 1 ≤ m := by
    rcases Nat.eq_zero_or_pos m with q | q
    · subst q
      exact absurd rfl c22
    · exact q
  have hm1 : m - 1 < m := by omega
  have hm2 : m - 1 < 5 := by omega
  obtain ⟨e1, e2⟩ := hdd (m - 1) hm1
  obtain ⟨g1, g2⟩ := hdd 0 (by omega)
  have eE : cntE LL dd m = raxL (LL (m - 1)) (dd (m - 1)) (dd (m - 1)) 0 := by unfold cntE; rw [if_neg (by omega)]
  refine m_aload_n dX1_countByChain_26 rfl ?_
  refine m_getfield dX1_countByChain_27 fl_X1_12 (by first | assumption | rfl | exact h46 | exact hpC_row hm2) (by first | assumption | rfl | exact h46 | exact hpC_row hm2) ?_
  show mW _ _ _ _ _ _ _ _ (.ref _ :: _)
  refine m_getfield dX1_countByChain_30 fl_X1_63 (by first | assumption | rfl | exact h46 | exact hpC_row hm2) (by first | assumption | rfl | exact h46 | exact hpC_row hm2) ?_
  show mW _ _ _ _ _ _ _ _ (.ref _ :: _)
  refine m_aload_n dX1_countByChain_33 rfl ?_
  refine m_getfield dX1_countByChain_34 fl_X1_12 (by first | assumption | rfl | exact h46 | exact hpC_row hm2) (by first | assumption | rfl | exact h46 | exact hpC_row hm2) ?_
  show mW _ _ _ _ _ _ _ _ (.ref _ :: _)
  refine m_getfield dX1_countByChain_37 fl_X1_60 (by first | assumption | rfl | exact h46 | exact hpC_row hm2) (by first | assumption | rfl | exact h46 | exact hpC_row hm2) ?_
  show mW _ _ _ _ _ _ _ _ (.int _ :: _)
  refine m_iconst (v := 1) dX1_countByChain_40 (by decide) ?_
  refine m_isub dX1_countByChain_41 ?_
  refine m_ci (v := nI (m - 1)) (nI_subN (b := 1) hm) ?_
  refine m_iaload dX1_countByChain_42 (by first | assumption | rfl | exact h46 | exact hpC_row hm2) (mIx_lit hm2 (by decide)) ?_
  refine m_ci (v := nI (dd (m - 1))) e1 ?_
  refine m_istore_n dX1_countByChain_43 (by decide) ?_
  show mW _ _ _ _ _ _ 44 [_, _, _, _] _
  refine m_aload_n dX1_countByChain_44 rfl ?_
  refine m_getfield dX1_countByChain_45 fl_X1_12 (by first | assumption | rfl | exact h46 | exact hpC_row hm2) (by first | assumption | rfl | exact h46 | exact hpC_row hm2) ?_
  show mW _ _ _ _ _ _ _ _ (.ref _ :: _)
  refine m_getfield dX1_countByChain_48 fl_X1_63 (by first | assumption | rfl | exact h46 | exact hpC_row hm2) (by first | assumption | rfl | exact h46 | exact hpC_row hm2) ?_
  show mW _ _ _ _ _ _ _ _ (.ref _ :: _)
  refine m_iconst (v := 0) dX1_countByChain_51 (by decide) ?_
  refine m_iaload (k := 0) dX1_countByChain_52 (by first | assumption | rfl | exact h46 | exact hpC_row hm2) ⟨by decide, by decide⟩ ?_
  refine m_ci (v := nI (dd 0)) g1 ?_
  refine m_iload_n dX1_countByChain_53 rfl ?_
  refine m_isub dX1_countByChain_54 ?_
  refine m_istore_n dX1_countByChain_55 (by decide) ?_
  show mW _ _ _ _ _ _ 56 [_, _, _, _] _
  refine m_aload_n dX1_countByChain_56 rfl ?_
  refine m_invV_I dX1_countByChain_57 lk_X1_67 ar_X1_signTurns (ci := 1) rfl rfl (by first | assumption | rfl | exact h46 | exact hpC_row hm2) (t_X1_signTurns (ri := 0) (ev := 0) (le := 0) rfl h46 hm hm5 hdd) rfl (Nat.le_of_ble_eq_true rfl) (by decide) (by decide) (by decide) (by decide) rfl rfl ?_
  try rw [va_uu]
  refine m_istore_n dX1_countByChain_60 (by decide) ?_
  show mW _ _ _ _ _ _ 61 [_, _, _, _] _
  refine m_aload_n dX1_countByChain_61 rfl ?_
  refine m_aload_n dX1_countByChain_62 rfl ?_
  refine m_getfield dX1_countByChain_63 fl_X1_12 (by first | assumption | rfl | exact h46 | exact hpC_row hm2) (by first | assumption | rfl | exact h46 | exact hpC_row hm2) ?_
  show mW _ _ _ _ _ _ _ _ (.ref _ :: _)
  refine m_getfield dX1_countByChain_66 fl_X1_71 (by first | assumption | rfl | exact h46 | exact hpC_row hm2) (by first | assumption | rfl | exact h46 | exact hpC_row hm2) ?_
  show mW _ _ _ _ _ _ _ _ (.ref _ :: _)
  refine m_aload_n dX1_countByChain_69 rfl ?_
  refine m_getfield dX1_countByChain_70 fl_X1_12 (by first | assumption | rfl | exact h46 | exact hpC_row hm2) (by first | assumption | rfl | exact h46 | exact hpC_row hm2) ?_
  show mW _ _ _ _ _ _ _ _ (.ref _ :: _)
  refine m_getfield dX1_countByChain_73 fl_X1_60 (by first | assumption | rfl | exact h46 | exact hpC_row hm2) (by first | assumption | rfl | exact h46 | exact hpC_row hm2) ?_
  show mW _ _ _ _ _ _ _ _ (.int _ :: _)
  refine m_iconst (v := 1) dX1_countByChain_76 (by decide) ?_
  refine m_isub dX1_countByChain_77 ?_
  refine m_ci (v := nI (m - 1)) (nI_subN (b := 1) hm) ?_
  refine m_aaloadJ dX1_countByChain_78 (by first | assumption | rfl | exact h46 | exact hpC_row hm2) (mIx_lit hm2 (by decide)) (rLines_at hm2) ?_
  refine m_iload_n dX1_countByChain_79 rfl ?_
  refine m_invS_I dX1_countByChain_80 lk_X1_75 ar_X1_rootsOnAxis (t_X1_rootsOnAxis (hpC_row hm2) e2) rfl (Nat.le_of_ble_eq_true rfl) (by decide) (by decide) (by decide) (by decide) rfl rfl ?_
  try rw [va_uu]
  refine m_ci (v := cntE LL dd m) eE.symm ?_
  refine m_putfield dX1_countByChain_83 fl_X1_26 (by first | assumption | rfl | exact h46 | exact hpC_row hm2) (fun _ => rfl) (fun _ => rfl) ?_
  try rw [va_uu]
  rw [oJudge_3]
  rw [hpC_u44, va_uu]
  refine m_aload_n dX1_countByChain_86 rfl ?_
  refine m_iload_n dX1_countByChain_87 rfl ?_
  refine m_iload_n dX1_countByChain_88 rfl ?_
  refine m_isub dX1_countByChain_89 ?_
  refine m_iload_n dX1_countByChain_90 rfl ?_
  refine m_iadd dX1_countByChain_91 ?_
  refine m_aload_n dX1_countByChain_92 rfl ?_
  refine m_getfield dX1_countByChain_93 fl_X1_26 (by first | assumption | rfl | exact h46 | exact hpC_row hm2) (by first | assumption | rfl | exact h46 | exact hpC_row hm2) ?_
  show mW _ _ _ _ _ _ _ _ (.int _ :: _)
  refine m_isub dX1_countByChain_96 ?_
  refine m_iconst (v := 2) dX1_countByChain_97 (by decide) ?_
  refine m_idiv dX1_countByChain_98 (by decide) ?_
  refine m_putfield dX1_countByChain_99 fl_X1_22 (by first | assumption | rfl | exact h46 | exact hpC_row hm2) (fun _ => rfl) (fun _ => rfl) ?_
  try rw [va_uu]
  rw [oJudge_2]
  rw [hpC_u44, va_uu]
  refine m_aload_n dX1_countByChain_102 rfl ?_
  refine m_iload_n dX1_countByChain_103 rfl ?_
  refine m_iload_n dX1_countByChain_104 rfl ?_
  refine m_iadd dX1_countByChain_105 ?_
  refine m_iload_n dX1_countByChain_106 rfl ?_
  refine m_iadd dX1_countByChain_107 ?_
  refine m_aload_n dX1_countByChain_108 rfl ?_
  refine m_getfield dX1_countByChain_109 fl_X1_26 (by first | assumption | rfl | exact h46 | exact hpC_row hm2) (by first | assumption | rfl | exact h46 | exact hpC_row hm2) ?_
  show mW _ _ _ _ _ _ _ _ (.int _ :: _)
  refine m_isub dX1_countByChain_112 ?_
  refine m_iconst (v := 2) dX1_countByChain_113 (by decide) ?_
  refine m_idiv dX1_countByChain_114 (by decide) ?_
  refine m_putfield dX1_countByChain_115 fl_X1_29 (by first | assumption | rfl | exact h46 | exact hpC_row hm2) (fun _ => rfl) (fun _ => rfl) ?_
  try rw [va_uu]
  rw [oJudge_4]
  rw [hpC_u44, va_uu]
  exact m_return hF dX1_countByChain_118 rfl rfl rfl ⟨rfl, by unfold cntR cntL; rw [if_neg (by omega), if_neg (by omega)]⟩
