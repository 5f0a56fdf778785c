/-! ===== the reference: all rows ===== -/
def rwsOk (R : Nat → Int64) (z : Nat → Int) (m : Nat) : Prop := ∀ i, i < m → ∀ j, j < 5 → R (5 * i + j) = lZ (rowZ z i j)
theorem rws_ad {R U : Nat → Int64} {z : Nat → Int} {m : Nat} (h : rwsOk R z m) (hU : ∀ j, j < 5 → U j = lZ (rowZ z m j)) : rwsOk (adR R m U) z (m + 1) := fun i hi j hj => by
  by_cases e : i = m
  · rw [e, adR_at hj]
    exact hU j hj
  · rw [adR_lt (by omega)]
    exact h i (by omega) j hj
theorem rowZ_low {z : Nat → Int} {i : Nat} (j : Nat) (hj : j < 5) : low5 (rowZ z (i + 2)) j = rowZ z (i + 2) j := by
  rw [rowZ_2]
  exact remZ_low j hj
set_option maxHeartbeats 400000 in
set_option maxRecDepth 100000 in
theorem l_X8_layB {n : Nat} {hp0 : mHp} {ac ia tm ri ev le ch ls sm ra fa : Int32} {z : Nat → Int} {d1 : Int32} (h0 : dgZ z ≠ -1) (hrw : rwOk z) {Q : mQ} {K : mK} (hF : mFin K D_X8_laysRows n Q) (hq9 : ∀ (hp' : mHp) (R' U' : Nat → Int64), hp' 67 = eO 8 (oMod ac ia tm ri ev le ch ls (nI (szZ z)) sm ra fa) → hp' 80 = eL 40 R' → hp' 81 = eL 5 U' → rwsOk R' z (szZ z) → (∀ x, x ≠ 67 → x ≠ 80 → x ≠ 81 → hp' x = hp0 x) → Q none hp') : ∀ (r i : Nat) (hp : mHp) (R U : Nat → Int64) (v3 : Value), i + r = 3 → hp 67 = eO 8 (oMod ac ia tm ri ev le ch ls (nI (i + 2)) sm ra fa) → hp 80 = eL 40 R → hp 81 = eL 5 U → rwsOk R z (i + 2) → (∀ j, j < i + 2 → dgZ (rowZ z j) ≠ -1) → (∀ x, x ≠ 67 → x ≠ 80 → x ≠ 81 → hp x = hp0 x) → mW K D_X8_laysRows 0 0 n hp 114 [.ref 67, .int d1, .int 1, v3] [] := by
  intro r
  induction r using Nat.strongRecOn with
  | ind r ih =>
    intro i hp R U v3 hir h1 h3 h4 hRw hg ho
    have y1 : ∀ f : mE, va_up hp 81 f 67 = _ := fun f => (va_up_ne _ _ (by decide)).trans h1
    have y3 : ∀ f : mE, va_up hp 81 f 80 = eL 40 R := fun f => (va_up_ne _ _ (by decide)).trans h3
    refine m_iload_n dX8_laysRows_114 rfl ?_
    refine m_if_eq (t := 199) dX8_laysRows_115 (by decide) (fun q => absurd q (by decide)) (fun _ => ?_)
    refine m_iconst (v := 0) dX8_laysRows_118 (by decide) ?_
    refine m_istore_n dX8_laysRows_119 (by decide) ?_
    show mW _ _ _ _ _ _ 120 [_, _, _, _] _
    refine m_iload_n dX8_laysRows_120 rfl ?_
    refine m_iconst (v := 5) dX8_laysRows_121 (by decide) ?_
    refine m_icmp_ge (t := 153) dX8_laysRows_122 (by decide) (fun q => absurd q (by decide)) (fun _ => ?_)
    refine m_aload_n dX8_laysRows_125 rfl ?_
    refine m_getfield dX8_laysRows_126 fl_X8_54 (by first | assumption | rfl | exact y1 _ | exact y3 _ | exact va_up_self _ _ _) (by first | assumption | rfl | exact y1 _ | exact y3 _ | exact va_up_self _ _ _) ?_
    show mW _ _ _ _ _ _ _ _ (.ref _ :: _)
    refine m_iload_n dX8_laysRows_129 rfl ?_
    refine m_aload_n dX8_laysRows_130 rfl ?_
    refine m_getfield dX8_laysRows_131 fl_X8_51 (by first | assumption | rfl | exact y1 _ | exact y3 _ | exact va_up_self _ _ _) (by first | assumption | rfl | exact y1 _ | exact y3 _ | exact va_up_self _ _ _) ?_
    show mW _ _ _ _ _ _ _ _ (.ref _ :: _)
    refine m_iconst (v := 5) dX8_laysRows_134 (by decide) ?_
    refine m_aload_n dX8_laysRows_135 rfl ?_
    refine m_getfield dX8_laysRows_136 fl_X8_183 (by first | assumption | rfl | exact y1 _ | exact y3 _ | exact va_up_self _ _ _) (by first | assumption | rfl | exact y1 _ | exact y3 _ | exact va_up_self _ _ _) ?_
    show mW _ _ _ _ _ _ _ _ (.int _ :: _)
    refine m_imul dX8_laysRows_139 ?_
    refine m_ci (v := nI (5 * (i + 2))) (nI_mulN 5 (i + 2)) ?_
    refine m_bipush (v := 10) dX8_laysRows_140 (by decide) ?_
    refine m_isub dX8_laysRows_142 ?_
    refine m_ci (v := nI (5 * i)) (sub10 i) ?_
    refine m_iload_n dX8_laysRows_143 rfl ?_
    refine m_iadd dX8_laysRows_144 ?_
    refine m_ci (v := nI (5 * i + 0)) (by exact nI_add (5 * i) 0) ?_
    refine m_laload dX8_laysRows_145 (by first | assumption | rfl | exact y1 _ | exact y3 _ | exact va_up_self _ _ _) (mIx_lit (show 5 * i + 0 < 40 by omega) (by decide)) ?_
    refine m_cl (v := lZ (rowZ z i 0)) (hRw i (by omega) 0 (by decide)) ?_
    refine m_lastore (k := 0) dX8_laysRows_146 (by first | assumption | rfl | exact y1 _ | exact y3 _ | exact va_up_self _ _ _) ⟨by decide, by decide⟩ ?_
    try rw [va_uu]
    refine m_iinc (v := 1) dX8_laysRows_147 rfl (by decide) (by decide) ?_
    show mW _ _ _ _ _ _ 150 [_, _, _, _] _
    refine m_goto (t := 120) dX8_laysRows_150 (by decide) ?_
    refine m_iload_n dX8_laysRows_120 rfl ?_
    refine m_iconst (v := 5) dX8_laysRows_121 (by decide) ?_
    refine m_icmp_ge (t := 153) dX8_laysRows_122 (by decide) (fun q => absurd q (by decide)) (fun _ => ?_)
    refine m_aload_n dX8_laysRows_125 rfl ?_
    refine m_getfield dX8_laysRows_126 fl_X8_54 (by first | assumption | rfl | exact y1 _ | exact y3 _ | exact va_up_self _ _ _) (by first | assumption | rfl | exact y1 _ | exact y3 _ | exact va_up_self _ _ _) ?_
    show mW _ _ _ _ _ _ _ _ (.ref _ :: _)
    refine m_iload_n dX8_laysRows_129 rfl ?_
    refine m_aload_n dX8_laysRows_130 rfl ?_
    refine m_getfield dX8_laysRows_131 fl_X8_51 (by first | assumption | rfl | exact y1 _ | exact y3 _ | exact va_up_self _ _ _) (by first | assumption | rfl | exact y1 _ | exact y3 _ | exact va_up_self _ _ _) ?_
    show mW _ _ _ _ _ _ _ _ (.ref _ :: _)
    refine m_iconst (v := 5) dX8_laysRows_134 (by decide) ?_
    refine m_aload_n dX8_laysRows_135 rfl ?_
    refine m_getfield dX8_laysRows_136 fl_X8_183 (by first | assumption | rfl | exact y1 _ | exact y3 _ | exact va_up_self _ _ _) (by first | assumption | rfl | exact y1 _ | exact y3 _ | exact va_up_self _ _ _) ?_
    show mW _ _ _ _ _ _ _ _ (.int _ :: _)
    refine m_imul dX8_laysRows_139 ?_
    refine m_ci (v := nI (5 * (i + 2))) (nI_mulN 5 (i + 2)) ?_
    refine m_bipush (v := 10) dX8_laysRows_140 (by decide) ?_
    refine m_isub dX8_laysRows_142 ?_
    refine m_ci (v := nI (5 * i)) (sub10 i) ?_
    refine m_iload_n dX8_laysRows_143 rfl ?_
    refine m_iadd dX8_laysRows_144 ?_
    refine m_ci (v := nI (5 * i + 1)) (by exact nI_add (5 * i) 1) ?_
    refine m_laload dX8_laysRows_145 (by first | assumption | rfl | exact y1 _ | exact y3 _ | exact va_up_self _ _ _) (mIx_lit (show 5 * i + 1 < 40 by omega) (by decide)) ?_
    refine m_cl (v := lZ (rowZ z i 1)) (hRw i (by omega) 1 (by decide)) ?_
    refine m_lastore (k := 1) dX8_laysRows_146 (by first | assumption | rfl | exact y1 _ | exact y3 _ | exact va_up_self _ _ _) ⟨by decide, by decide⟩ ?_
    try rw [va_uu]
    refine m_iinc (v := 2) dX8_laysRows_147 rfl (by decide) (by decide) ?_
    show mW _ _ _ _ _ _ 150 [_, _, _, _] _
    refine m_goto (t := 120) dX8_laysRows_150 (by decide) ?_
    refine m_iload_n dX8_laysRows_120 rfl ?_
    refine m_iconst (v := 5) dX8_laysRows_121 (by decide) ?_
    refine m_icmp_ge (t := 153) dX8_laysRows_122 (by decide) (fun q => absurd q (by decide)) (fun _ => ?_)
    refine m_aload_n dX8_laysRows_125 rfl ?_
    refine m_getfield dX8_laysRows_126 fl_X8_54 (by first | assumption | rfl | exact y1 _ | exact y3 _ | exact va_up_self _ _ _) (by first | assumption | rfl | exact y1 _ | exact y3 _ | exact va_up_self _ _ _) ?_
    show mW _ _ _ _ _ _ _ _ (.ref _ :: _)
    refine m_iload_n dX8_laysRows_129 rfl ?_
    refine m_aload_n dX8_laysRows_130 rfl ?_
    refine m_getfield dX8_laysRows_131 fl_X8_51 (by first | assumption | rfl | exact y1 _ | exact y3 _ | exact va_up_self _ _ _) (by first | assumption | rfl | exact y1 _ | exact y3 _ | exact va_up_self _ _ _) ?_
    show mW _ _ _ _ _ _ _ _ (.ref _ :: _)
    refine m_iconst (v := 5) dX8_laysRows_134 (by decide) ?_
    refine m_aload_n dX8_laysRows_135 rfl ?_
    refine m_getfield dX8_laysRows_136 fl_X8_183 (by first | assumption | rfl | exact y1 _ | exact y3 _ | exact va_up_self _ _ _) (by first | assumption | rfl | exact y1 _ | exact y3 _ | exact va_up_self _ _ _) ?_
    show mW _ _ _ _ _ _ _ _ (.int _ :: _)
    refine m_imul dX8_laysRows_139 ?_
    refine m_ci (v := nI (5 * (i + 2))) (nI_mulN 5 (i + 2)) ?_
    refine m_bipush (v := 10) dX8_laysRows_140 (by decide) ?_
    refine m_isub dX8_laysRows_142 ?_
    refine m_ci (v := nI (5 * i)) (sub10 i) ?_
    refine m_iload_n dX8_laysRows_143 rfl ?_
    refine m_iadd dX8_laysRows_144 ?_
    refine m_ci (v := nI (5 * i + 2)) (by exact nI_add (5 * i) 2) ?_
    refine m_laload dX8_laysRows_145 (by first | assumption | rfl | exact y1 _ | exact y3 _ | exact va_up_self _ _ _) (mIx_lit (show 5 * i + 2 < 40 by omega) (by decide)) ?_
    refine m_cl (v := lZ (rowZ z i 2)) (hRw i (by omega) 2 (by decide)) ?_
    refine m_lastore (k := 2) dX8_laysRows_146 (by first | assumption | rfl | exact y1 _ | exact y3 _ | exact va_up_self _ _ _) ⟨by decide, by decide⟩ ?_
    try rw [va_uu]
    refine m_iinc (v := 3) dX8_laysRows_147 rfl (by decide) (by decide) ?_
    show mW _ _ _ _ _ _ 150 [_, _, _, _] _
    refine m_goto (t := 120) dX8_laysRows_150 (by decide) ?_
    refine m_iload_n dX8_laysRows_120 rfl ?_
    refine m_iconst (v := 5) dX8_laysRows_121 (by decide) ?_
    refine m_icmp_ge (t := 153) dX8_laysRows_122 (by decide) (fun q => absurd q (by decide)) (fun _ => ?_)
    refine m_aload_n dX8_laysRows_125 rfl ?_
    refine m_getfield dX8_laysRows_126 fl_X8_54 (by first | assumption | rfl | exact y1 _ | exact y3 _ | exact va_up_self _ _ _) (by first | assumption | rfl | exact y1 _ | exact y3 _ | exact va_up_self _ _ _) ?_
    show mW _ _ _ _ _ _ _ _ (.ref _ :: _)
    refine m_iload_n dX8_laysRows_129 rfl ?_
    refine m_aload_n dX8_laysRows_130 rfl ?_
    refine m_getfield dX8_laysRows_131 fl_X8_51 (by first | assumption | rfl | exact y1 _ | exact y3 _ | exact va_up_self _ _ _) (by first | assumption | rfl | exact y1 _ | exact y3 _ | exact va_up_self _ _ _) ?_
    show mW _ _ _ _ _ _ _ _ (.ref _ :: _)
    refine m_iconst (v := 5) dX8_laysRows_134 (by decide) ?_
    refine m_aload_n dX8_laysRows_135 rfl ?_
    refine m_getfield dX8_laysRows_136 fl_X8_183 (by first | assumption | rfl | exact y1 _ | exact y3 _ | exact va_up_self _ _ _) (by first | assumption | rfl | exact y1 _ | exact y3 _ | exact va_up_self _ _ _) ?_
    show mW _ _ _ _ _ _ _ _ (.int _ :: _)
    refine m_imul dX8_laysRows_139 ?_
    refine m_ci (v := nI (5 * (i + 2))) (nI_mulN 5 (i + 2)) ?_
    refine m_bipush (v := 10) dX8_laysRows_140 (by decide) ?_
    refine m_isub dX8_laysRows_142 ?_
    refine m_ci (v := nI (5 * i)) (sub10 i) ?_
    refine m_iload_n dX8_laysRows_143 rfl ?_
    refine m_iadd dX8_laysRows_144 ?_
    refine m_ci (v := nI (5 * i + 3)) (by exact nI_add (5 * i) 3) ?_
    refine m_laload dX8_laysRows_145 (by first | assumption | rfl | exact y1 _ | exact y3 _ | exact va_up_self _ _ _) (mIx_lit (show 5 * i + 3 < 40 by omega) (by decide)) ?_
    refine m_cl (v := lZ (rowZ z i 3)) (hRw i (by omega) 3 (by decide)) ?_
    refine m_lastore (k := 3) dX8_laysRows_146 (by first | assumption | rfl | exact y1 _ | exact y3 _ | exact va_up_self _ _ _) ⟨by decide, by decide⟩ ?_
    try rw [va_uu]
    refine m_iinc (v := 4) dX8_laysRows_147 rfl (by decide) (by decide) ?_
    show mW _ _ _ _ _ _ 150 [_, _, _, _] _
    refine m_goto (t := 120) dX8_laysRows_150 (by decide) ?_
    refine m_iload_n dX8_laysRows_120 rfl ?_
    refine m_iconst (v := 5) dX8_laysRows_121 (by decide) ?_
    refine m_icmp_ge (t := 153) dX8_laysRows_122 (by decide) (fun q => absurd q (by decide)) (fun _ => ?_)
    refine m_aload_n dX8_laysRows_125 rfl ?_
    refine m_getfield dX8_laysRows_126 fl_X8_54 (by first | assumption | rfl | exact y1 _ | exact y3 _ | exact va_up_self _ _ _) (by first | assumption | rfl | exact y1 _ | exact y3 _ | exact va_up_self _ _ _) ?_
    show mW _ _ _ _ _ _ _ _ (.ref _ :: _)
    refine m_iload_n dX8_laysRows_129 rfl ?_
    refine m_aload_n dX8_laysRows_130 rfl ?_
    refine m_getfield dX8_laysRows_131 fl_X8_51 (by first | assumption | rfl | exact y1 _ | exact y3 _ | exact va_up_self _ _ _) (by first | assumption | rfl | exact y1 _ | exact y3 _ | exact va_up_self _ _ _) ?_
    show mW _ _ _ _ _ _ _ _ (.ref _ :: _)
    refine m_iconst (v := 5) dX8_laysRows_134 (by decide) ?_
    refine m_aload_n dX8_laysRows_135 rfl ?_
    refine m_getfield dX8_laysRows_136 fl_X8_183 (by first | assumption | rfl | exact y1 _ | exact y3 _ | exact va_up_self _ _ _) (by first | assumption | rfl | exact y1 _ | exact y3 _ | exact va_up_self _ _ _) ?_
    show mW _ _ _ _ _ _ _ _ (.int _ :: _)
    refine m_imul dX8_laysRows_139 ?_
    refine m_ci (v := nI (5 * (i + 2))) (nI_mulN 5 (i + 2)) ?_
    refine m_bipush (v := 10) dX8_laysRows_140 (by decide) ?_
    refine m_isub dX8_laysRows_142 ?_
    refine m_ci (v := nI (5 * i)) (sub10 i) ?_
    refine m_iload_n dX8_laysRows_143 rfl ?_
    refine m_iadd dX8_laysRows_144 ?_
    refine m_ci (v := nI (5 * i + 4)) (by exact nI_add (5 * i) 4) ?_
    refine m_laload dX8_laysRows_145 (by first | assumption | rfl | exact y1 _ | exact y3 _ | exact va_up_self _ _ _) (mIx_lit (show 5 * i + 4 < 40 by omega) (by decide)) ?_
    refine m_cl (v := lZ (rowZ z i 4)) (hRw i (by omega) 4 (by decide)) ?_
    refine m_lastore (k := 4) dX8_laysRows_146 (by first | assumption | rfl | exact y1 _ | exact y3 _ | exact va_up_self _ _ _) ⟨by decide, by decide⟩ ?_
    try rw [va_uu]
    refine m_iinc (v := 5) dX8_laysRows_147 rfl (by decide) (by decide) ?_
    show mW _ _ _ _ _ _ 150 [_, _, _, _] _
    refine m_goto (t := 120) dX8_laysRows_150 (by decide) ?_
    refine m_iload_n dX8_laysRows_120 rfl ?_
    refine m_iconst (v := 5) dX8_laysRows_121 (by decide) ?_
    refine m_icmp_ge (t := 153) dX8_laysRows_122 (by decide) (fun _ => ?_) (fun q => absurd (by decide) q)
    have hU : ∀ j, j < 5 → (va_up (va_up (va_up (va_up (va_up U 0 (lZ (rowZ z i 0))) 1 (lZ (rowZ z i 1))) 2 (lZ (rowZ z i 2))) 3 (lZ (rowZ z i 3))) 4 (lZ (rowZ z i 4))) j = lZ (rowZ z i j) := fun j hj => (by rcases lt5 hj with rfl | rfl | rfl | rfl | rfl <;> rfl)
    have hst := hrw i (by omega) hg
    refine m_aload_n dX8_laysRows_153 rfl ?_
    refine m_iconst (v := 5) dX8_laysRows_154 (by decide) ?_
    refine m_aload_n dX8_laysRows_155 rfl ?_
    refine m_getfield dX8_laysRows_156 fl_X8_183 (by first | assumption | rfl | exact y1 _ | exact y3 _ | exact va_up_self _ _ _) (by first | assumption | rfl | exact y1 _ | exact y3 _ | exact va_up_self _ _ _) ?_
    show mW _ _ _ _ _ _ _ _ (.int _ :: _)
    refine m_imul dX8_laysRows_159 ?_
    refine m_ci (v := nI (5 * (i + 2))) (nI_mulN 5 (i + 2)) ?_
    refine m_iconst (v := 5) dX8_laysRows_160 (by decide) ?_
    refine m_isub dX8_laysRows_161 ?_
    refine m_ci (v := nI (5 * (i + 1))) (sub5 i) ?_
    refine m_invV dX8_laysRows_162 lk_X8_189 ar_X8_divides (ci := 8) rfl rfl (by first | assumption | rfl | exact y1 _ | exact y3 _ | exact va_up_self _ _ _) (t_X8_divides (q := i + 1) (y1 _) (va_up_self _ _ _) (y3 _) (by omega) hU (fun j hj => hRw (i + 1) (by omega) j hj) (hg i (by omega)) (hg (i + 1) (by omega)) hst.1) rfl (Nat.le_of_ble_eq_true rfl) (by decide) (by decide) (by decide) (by decide) (fun v hp' q9 => ?_)
    obtain ⟨rfl, U', rfl, hU'⟩ := q9
    rw [va_uu]
    have hU' : ∀ j, j < 5 → U' j = lZ (rowZ z (i + 2) j) := hU'
    have hbd := stepOk_bd hst.1
    rw [← rowZ_2] at hbd
    show mW K _ 0 0 n _ 165 [_, _, _, _] []
    refine m_aload_n dX8_laysRows_165 rfl ?_
    refine m_getfield dX8_laysRows_166 fl_X8_54 (by first | assumption | rfl | exact y1 _ | exact y3 _ | exact va_up_self _ _ _) (by first | assumption | rfl | exact y1 _ | exact y3 _ | exact va_up_self _ _ _) ?_
    show mW _ _ _ _ _ _ _ _ (.ref _ :: _)
    refine m_iconst (v := 0) dX8_laysRows_169 (by decide) ?_
    refine m_invS_I dX8_laysRows_170 lk_X8_118 ar_X8_degree (t_X8_degree (at_ := 0) (va_up_self _ _ _) (by decide) (by decide)) rfl (Nat.le_of_ble_eq_true rfl) (by decide) (by decide) (by decide) (by decide) rfl rfl ?_
    try rw [va_uu]
    refine m_ci (v := orN (dgZ (rowZ z (i + 2)))) (by rw [deg5_Z (z := rowZ z (i + 2)) (fun j hj => by rw [Nat.zero_add]; exact hU' j hj) hbd]) ?_
    refine m_bipush (v := -4) dX8_laysRows_173 (by decide) ?_
    refine m_icmp_eq (t := 182) dX8_laysRows_175 (by decide) (fun c175 => ?_) (fun c175 => ?_)
    · have hz0 : dgZ (rowZ z (i + 2)) = -1 := orN_4.mp c175
      have hsz : szZ z = i + 2 := (by
        by_cases e5 : i + 2 < 5
        · exact szZ_at e5 h0 (by omega) hg hz0
        · rw [show i + 2 = 5 by omega]
          exact szZ_5 h0 (fun j hj => hg j (by omega)))
      refine m_iconst (v := 0) dX8_laysRows_182 (by decide) ?_
      refine m_istore_n dX8_laysRows_183 (by decide) ?_
      show mW _ _ _ _ _ _ 184 [_, _, _, _] _
      refine m_iload_n dX8_laysRows_184 rfl ?_
      refine m_if_eq (t := 114) dX8_laysRows_185 (by decide) (fun _ => ?_) (fun q => absurd (by decide) q)
      refine m_iload_n dX8_laysRows_114 rfl ?_
      refine m_if_eq (t := 199) dX8_laysRows_115 (by decide) (fun _ => ?_) (fun q => absurd (by decide) q)
      exact m_return hF dX8_laysRows_199 rfl rfl rfl (hq9 _ _ _ (by rw [hsz]; exact y1 _) (y3 _) (va_up_self _ _ _) (by rw [hsz]; exact hRw) (fun x a b c => by rw [va_up_ne _ _ c]; exact ho x a b c))
    have hz1 : dgZ (rowZ z (i + 2)) ≠ -1 := fun y => c175 (orN_4.mpr y)
    have hi3 : i < 3 := (by
      rcases Nat.lt_or_ge i 3 with y | y
      · exact y
      · have e : i = 3 := by omega
        subst e
        exact absurd (hst.2 rfl) hz1)
    refine m_iconst (v := 1) dX8_laysRows_178 (by decide) ?_
    refine m_goto (t := 183) dX8_laysRows_179 (by decide) ?_
    refine m_istore_n dX8_laysRows_183 (by decide) ?_
    show mW _ _ _ _ _ _ 184 [_, _, _, _] _
    refine m_iload_n dX8_laysRows_184 rfl ?_
    refine m_if_eq (t := 114) dX8_laysRows_185 (by decide) (fun q => absurd q (by decide)) (fun _ => ?_)
    refine m_aload_n dX8_laysRows_188 rfl ?_
    refine m_invV dX8_laysRows_189 lk_X8_180 ar_X8_shortens (ci := 8) rfl rfl (by first | assumption | rfl | exact y1 _ | exact y3 _ | exact va_up_self _ _ _) (t_X8_shortens (y1 _) (va_up_self _ _ _) hU' hbd) rfl (Nat.le_of_ble_eq_true rfl) (by decide) (by decide) (by decide) (by decide) (fun v hp' q9 => ?_)
    obtain ⟨rfl, U2, rfl, hU2⟩ := q9
    rw [va_uu]
    show mW K _ 0 0 n _ 192 [_, _, _, _] []
    refine m_aload_n dX8_laysRows_192 rfl ?_
    refine m_invV_V dX8_laysRows_193 lk_X8_186 ar_X8_addsRow (ci := 8) rfl rfl (by first | assumption | rfl | exact y1 _ | exact y3 _ | exact va_up_self _ _ _) (t_X8_addsRow (q := i + 2) (y1 _) (y3 _) (va_up_self _ _ _) (by omega)) rfl (Nat.le_of_ble_eq_true rfl) (by decide) (by decide) (by decide) (by decide) rfl rfl ?_
    try rw [va_uu]
    refine m_goto (t := 114) dX8_laysRows_196 (by decide) ?_
    exact ih (r - 1) (by omega) (i + 1) _ _ _ _ (by omega) (va_up_self _ _ _) ((va_up_ne _ _ (by decide)).trans (va_up_self _ _ _)) ((va_up_ne _ _ (by decide)).trans ((va_up_ne _ _ (by decide)).trans (va_up_self _ _ _))) (rws_ad hRw (fun j hj => by rw [hU2 j hj, rowZ_low j hj])) (fun j hj => by
      by_cases e : j = i + 2
      · rw [e]
        exact hz1
      · exact hg j (by omega)) (fun x a b c => by rw [va_up_ne _ _ a, va_up_ne _ _ b, va_up_ne _ _ c]; exact ho x a b c)

def mRw (hp : mHp) : Prop := ∃ R U : Nat → Int64, hp 80 = eL 40 R ∧ hp 81 = eL 5 U
def offB (hp hp' : mHp) : Prop := ∀ q, (q < 67 ∨ 69 < q ∧ q < 76 ∨ 79 < q ∧ q < 80 ∨ 81 < q) → hp' q = hp q
theorem offB.rf {hp : mHp} : offB hp hp := fun _ _ => rfl
def rwQ (hp0 : mHp) (S : TS) (ia tm : Int32) (z : Nat → Int) (hp' : mHp) : Prop := ∃ (ri ev le ch ls sm ra fa : Int32) (C PA : Nat → Int32) (R U : Nat → Int64), hp' 67 = eO 8 (oMod (nI S.2.1) ia tm ri ev le ch ls (nI (szZ z)) sm ra fa) ∧ hp' 68 = eI 12 C ∧ hp' 69 = eI 72 PA ∧ S.2.1 ≤ 6 ∧ eq12 C S.1 ∧ mHist PA S.2.1 S.2.2 ∧ mScX hp' ∧ hp' 80 = eL 40 R ∧ hp' 81 = eL 5 U ∧ rwsOk R z (szZ z) ∧ offB hp0 hp'
theorem szZ_0 {z : Nat → Int} (h : dgZ z = -1) : szZ z = 0 := if_pos h
theorem bnd7_bd {z : Nat → Int} (h : bnd7 z) : ∀ j, j < 5 → bdZ (z j) := fun j hj => by
  have := h j hj
  unfold bdZ
  omega
set_option maxHeartbeats 400000 in
set_option maxRecDepth 100000 in
theorem t_X8_laysRows {n : Nat} {hp : mHp} {S : TS} {ia tm : Int32} (h : mRep hp S ia tm) (hX : mScX hp) (hY : mRw hp) (hC : okC S.1) (hRW : RWK) {z : Nat → Int} (hz : ∀ _ : Unit, loopZ S.1 (S.1 10) = z) : mC D_X8_laysRows [.ref 67] n hp (fun r hp' => r = none ∧ rwQ hp S ia tm z hp') := by
  refine m_enter rfl rfl (Nat.le_of_ble_eq_true rfl) (fun K hF => ?_)
  show mW K _ 0 0 _ _ 0 [.ref 67, .retAddr 0, .retAddr 0, .retAddr 0] []
  have hR := h
  obtain ⟨ri, ev, le, ch, ls, rm, sm, ra, fa, C, PA, h1, h2, h3, h4, h5, h6⟩ := h
  obtain ⟨Z0, A0, T0, Pr, s1, s2, s3, s4⟩ := hX
  obtain ⟨R0, U0, r1, r2⟩ := hY
  refine m_aload_n dX8_laysRows_0 rfl ?_
  refine m_aload_n dX8_laysRows_1 rfl ?_
  refine m_getfield dX8_laysRows_2 fl_X8_7 (by first | assumption | rfl | exact y76 _ | exact va_up_self _ _ _) (by first | assumption | rfl | exact y76 _ | exact va_up_self _ _ _) ?_
  show mW _ _ _ _ _ _ _ _ (.ref _ :: _)
  refine m_bipush (v := 10) dX8_laysRows_5 (by decide) ?_
  refine m_iaload (k := 10) dX8_laysRows_7 (by first | assumption | rfl | exact y76 _ | exact va_up_self _ _ _) ⟨by decide, by decide⟩ ?_
  rw [h5 10 (by decide)]
  refine m_invV_V dX8_laysRows_8 lk_X8_167 ar_X8_loops (ci := 8) rfl rfl (by first | assumption | rfl | exact y76 _ | exact va_up_self _ _ _) (t_X8_loops h1 h2 s1) rfl (Nat.le_of_ble_eq_true rfl) (by decide) (by decide) (by decide) (by decide) rfl rfl ?_
  try rw [va_uu]
  have hbn : bnd7 z := (by rw [← hz ()]; exact loopL_b hC.1 hC.2)
  have eP : ∀ t, t < 5 → fill5 (loopL C (S.1 10)) Z0 t = lZ (z t) := fun t ht => (fill5_at ht).trans ((loopL_eq h5 ht).trans (loopL_Z.trans (by rw [← hz ()])))
  have hbz := bnd7_bd hbn
  have yL : va_up hp 76 (eL 5 (fill5 (loopL C (S.1 10)) Z0)) 67 = eO 8 (oMod (nI S.2.1) ia tm ri ev le ch ls rm sm ra fa) := (va_up_ne _ _ (by decide)).trans h1
  have y76 : ∀ f : mE, va_up (va_up hp 76 (eL 5 (fill5 (loopL C (S.1 10)) Z0))) 67 f 76 = eL 5 (fill5 (loopL C (S.1 10)) Z0) := fun f => (va_up_ne _ _ (by decide)).trans (va_up_self _ _ _)
  have y80 : ∀ f : mE, va_up (va_up hp 76 (eL 5 (fill5 (loopL C (S.1 10)) Z0))) 67 f 80 = eL 40 R0 := fun f => (va_up_ne _ _ (by decide)).trans ((va_up_ne _ _ (by decide)).trans r1)
  have y81 : ∀ f : mE, va_up (va_up hp 76 (eL 5 (fill5 (loopL C (S.1 10)) Z0))) 67 f 81 = eL 5 U0 := fun f => (va_up_ne _ _ (by decide)).trans ((va_up_ne _ _ (by decide)).trans r2)
  have z7 : ∀ (x : Nat) (_ : x ≠ 67) (_ : x ≠ 76) {f : mE}, va_up (va_up hp 76 (eL 5 (fill5 (loopL C (S.1 10)) Z0))) 67 f x = hp x := fun x a b {f} => (va_up_ne _ _ a).trans (va_up_ne _ _ b)
  refine m_aload_n dX8_laysRows_11 rfl ?_
  refine m_iconst (v := 0) dX8_laysRows_12 (by decide) ?_
  refine m_putfield dX8_laysRows_13 fl_X8_183 (by first | assumption | rfl | exact y76 _ | exact va_up_self _ _ _) (fun _ => rfl) (fun _ => rfl) ?_
  try rw [va_uu]
  rw [oMod_21]
  refine m_aload_n dX8_laysRows_16 rfl ?_
  refine m_getfield dX8_laysRows_17 fl_X8_39 (by first | assumption | rfl | exact y76 _ | exact va_up_self _ _ _) (by first | assumption | rfl | exact y76 _ | exact va_up_self _ _ _) ?_
  show mW _ _ _ _ _ _ _ _ (.ref _ :: _)
  refine m_iconst (v := 0) dX8_laysRows_20 (by decide) ?_
  refine m_invS_I dX8_laysRows_21 lk_X8_118 ar_X8_degree (t_X8_degree (at_ := 0) (y76 _) (by decide) (by decide)) rfl (Nat.le_of_ble_eq_true rfl) (by decide) (by decide) (by decide) (by decide) rfl rfl ?_
  try rw [va_uu]
  refine m_ci (v := orN (dgZ z)) (by rw [deg5_Z (z := z) (fun j hj => by rw [Nat.zero_add]; exact eP j hj) hbz]) ?_
  by_cases h0 : dgZ z = -1
  · rw [h0]
    show mW _ _ _ _ _ _ 24 _ [.int (-4)]
    refine m_istore_n dX8_laysRows_24 (by decide) ?_
    show mW _ _ _ _ _ _ 25 [_, _, _, _] _
    refine m_iconst (v := 0) dX8_laysRows_25 (by decide) ?_
    refine m_istore_n dX8_laysRows_26 (by decide) ?_
    show mW _ _ _ _ _ _ 27 [_, _, _, _] _
    refine m_iload_n dX8_laysRows_27 rfl ?_
    refine m_iconst (v := 2) dX8_laysRows_28 (by decide) ?_
    refine m_icmp_ge (t := 100) dX8_laysRows_29 (by decide) (fun q => absurd q (by decide)) (fun _ => ?_)
    refine m_iload_n dX8_laysRows_32 rfl ?_
    refine m_bipush (v := -4) dX8_laysRows_33 (by decide) ?_
    refine m_icmp_eq (t := 100) dX8_laysRows_35 (by decide) (fun _ => ?_) (fun q => absurd (by decide) q)
    skip
    refine m_aload_n dX8_laysRows_100 rfl ?_
    refine m_getfield dX8_laysRows_101 fl_X8_183 (by first | assumption | rfl | exact y76 _ | exact va_up_self _ _ _) (by first | assumption | rfl | exact y76 _ | exact va_up_self _ _ _) ?_
    show mW _ _ _ _ _ _ _ _ (.int _ :: _)
    show mW _ _ _ _ _ _ 104 _ (.int 0 :: _)
    refine m_iconst (v := 2) dX8_laysRows_104 (by decide) ?_
    refine m_icmp_ne (t := 112) dX8_laysRows_105 (by decide) (fun _ => ?_) (fun q => absurd q (by decide))
    refine m_iconst (v := 0) dX8_laysRows_112 (by decide) ?_
    refine m_istore_n dX8_laysRows_113 (by decide) ?_
    show mW _ _ _ _ _ _ 114 [_, _, _, _] _
    skip
    refine m_iload_n dX8_laysRows_114 rfl ?_
    refine m_if_eq (t := 199) dX8_laysRows_115 (by decide) (fun _ => ?_) (fun q => absurd (by decide) q)
    exact m_return hF dX8_laysRows_199 rfl rfl rfl ⟨rfl, ri, ev, le, ch, ls, sm, ra, fa, C, PA, R0, U0, by rw [szZ_0 h0]; exact va_up_self _ _ _, (va_up_ne _ _ (by decide)).trans ((va_up_ne _ _ (by decide)).trans h2), (va_up_ne _ _ (by decide)).trans ((va_up_ne _ _ (by decide)).trans h3), h4, h5, h6, ⟨_, A0, T0, Pr, y76 _, (z7 77 (by decide) (by decide)).trans s2, (z7 78 (by decide) (by decide)).trans s3, (z7 79 (by decide) (by decide)).trans s4⟩, y80 _, y81 _, fun i hi => absurd (by rw [szZ_0 h0] at hi; exact hi) (Nat.not_lt_zero _), fun q hq => z7 q (by omega) (by omega)⟩
  rw [dgZ_N h0, orN_N (dN_le z)]
  refine m_istore_n dX8_laysRows_24 (by decide) ?_
  show mW _ _ _ _ _ _ 25 [_, _, _, _] _
  refine m_iconst (v := 0) dX8_laysRows_25 (by decide) ?_
  refine m_istore_n dX8_laysRows_26 (by decide) ?_
  show mW _ _ _ _ _ _ 27 [_, _, _, _] _
  refine m_iload_n dX8_laysRows_27 rfl ?_
  refine m_iconst (v := 2) dX8_laysRows_28 (by decide) ?_
  refine m_icmp_ge (t := 100) dX8_laysRows_29 (by decide) (fun q => absurd q (by decide)) (fun _ => ?_)
  refine m_iload_n dX8_laysRows_32 rfl ?_
  refine m_bipush (v := -4) dX8_laysRows_33 (by decide) ?_
  refine m_icmp_eq (t := 100) dX8_laysRows_35 (by decide) (fun c35 => ?_) (fun c35 => ?_)
  · exact absurd c35 (nI_n4 (dN_le z))
  refine l_X8_lay0 (q := 0) (d := dN z) (va_up_self _ _ _) (y76 _) (y80 _) (y81 _) (by decide) (dN_le z) eP hbz (fun hp1 R1 U1 q1 a1 a2 a3 a4 a5 => ?_)
  obtain ⟨-, rfl, a6, -⟩ := a5.resolve_left (fun y => absurd ((half_top h0).symm.trans y.1) h0)
  have b76 : hp1 76 = _ := (a4 76 (by decide) (by decide) (by decide)).trans (y76 _)
  refine m_iload_n dX8_laysRows_27 rfl ?_
  refine m_iconst (v := 2) dX8_laysRows_28 (by decide) ?_
  refine m_icmp_ge (t := 100) dX8_laysRows_29 (by decide) (fun q => absurd q (by decide)) (fun _ => ?_)
  refine m_iload_n dX8_laysRows_32 rfl ?_
  refine m_bipush (v := -4) dX8_laysRows_33 (by decide) ?_
  refine m_icmp_eq (t := 100) dX8_laysRows_35 (by decide) (fun c35 => ?_) (fun c35 => ?_)
  · exact absurd c35 (nI_n4 (dN_le z))
  refine l_X8_lay1 (q := 0 + 1) (d := dN z) a1 b76 a2 a3 (by decide) (dN_le z) eP hbz (fun hp2 R2 U2 q2 c1 c2 c3 c4 c5 => ?_)
  have c68 : hp2 68 = eI 12 C := (c4 68 (by decide) (by decide) (by decide)).trans ((a4 68 (by decide) (by decide) (by decide)).trans ((va_up_ne _ _ (by decide)).trans ((va_up_ne _ _ (by decide)).trans h2)))
  have c69 : hp2 69 = eI 72 PA := (c4 69 (by decide) (by decide) (by decide)).trans ((a4 69 (by decide) (by decide) (by decide)).trans ((va_up_ne _ _ (by decide)).trans ((va_up_ne _ _ (by decide)).trans h3)))
  have cX : mScX hp2 := ⟨_, A0, T0, Pr, (c4 76 (by decide) (by decide) (by decide)).trans b76, (c4 77 (by decide) (by decide) (by decide)).trans ((a4 77 (by decide) (by decide) (by decide)).trans (z7 77 (by decide) (by decide))|>.trans s2), (c4 78 (by decide) (by decide) (by decide)).trans ((a4 78 (by decide) (by decide) (by decide)).trans (z7 78 (by decide) (by decide))|>.trans s3), (c4 79 (by decide) (by decide) (by decide)).trans ((a4 79 (by decide) (by decide) (by decide)).trans (z7 79 (by decide) (by decide))|>.trans s4)⟩
  have cO : ∀ x, x ≠ 67 → x ≠ 76 → x ≠ 80 → x ≠ 81 → hp2 x = hp x := fun x e1 e2 e3 e4 => (c4 x e1 e3 e4).trans ((a4 x e1 e3 e4).trans (z7 x e1 e2))
  rcases c5 with ⟨d1, rfl, rfl⟩ | ⟨d1, rfl, d2, d3⟩
  · have hsz : szZ z = 1 := szZ_at (i := 1) (by decide) h0 (by decide) (fun j hj => by rw [show j = 0 by omega]; exact row0_dg h0) d1
    have hrr : rwsOk R2 z 1 := fun i hi j hj => (by rw [show i = 0 by omega]; exact a6 j hj)
    refine m_iload_n dX8_laysRows_27 rfl ?_
    refine m_iconst (v := 2) dX8_laysRows_28 (by decide) ?_
    refine m_icmp_ge (t := 100) dX8_laysRows_29 (by decide) (fun _ => ?_) (fun q => absurd (by decide) q)
    skip
    refine m_aload_n dX8_laysRows_100 rfl ?_
    refine m_getfield dX8_laysRows_101 fl_X8_183 (by first | assumption | rfl | exact y76 _ | exact va_up_self _ _ _) (by first | assumption | rfl | exact y76 _ | exact va_up_self _ _ _) ?_
    show mW _ _ _ _ _ _ _ _ (.int _ :: _)
    show mW _ _ _ _ _ _ 104 _ (.int 1 :: _)
    refine m_iconst (v := 2) dX8_laysRows_104 (by decide) ?_
    refine m_icmp_ne (t := 112) dX8_laysRows_105 (by decide) (fun _ => ?_) (fun q => absurd q (by decide))
    refine m_iconst (v := 0) dX8_laysRows_112 (by decide) ?_
    refine m_istore_n dX8_laysRows_113 (by decide) ?_
    show mW _ _ _ _ _ _ 114 [_, _, _, _] _
    skip
    refine m_iload_n dX8_laysRows_114 rfl ?_
    refine m_if_eq (t := 199) dX8_laysRows_115 (by decide) (fun _ => ?_) (fun q => absurd (by decide) q)
    exact m_return hF dX8_laysRows_199 rfl rfl rfl ⟨rfl, ri, ev, le, ch, ls, sm, ra, fa, C, PA, R2, U2, by rw [hsz]; exact c1, c68, c69, h4, h5, h6, cX, c2, c3, by rw [hsz]; exact hrr, fun q hq => cO q (by omega) (by omega) (by omega) (by omega)⟩
  · have hrr : rwsOk R2 z (0 + 2) := fun i hi j hj => (by
      rcases (by omega : i = 0 ∨ i = 1) with rfl | rfl
      · rw [d3 _ (by omega)]
        exact a6 j hj
      · exact d2 j hj)
    have hgg : ∀ j, j < 0 + 2 → dgZ (rowZ z j) ≠ -1 := fun j hj => (by
      rcases (by omega : j = 0 ∨ j = 1) with rfl | rfl
      · exact row0_dg h0
      · exact d1)
    refine m_iload_n dX8_laysRows_27 rfl ?_
    refine m_iconst (v := 2) dX8_laysRows_28 (by decide) ?_
    refine m_icmp_ge (t := 100) dX8_laysRows_29 (by decide) (fun _ => ?_) (fun q => absurd (by decide) q)
    skip
    refine m_aload_n dX8_laysRows_100 rfl ?_
    refine m_getfield dX8_laysRows_101 fl_X8_183 (by first | assumption | rfl | exact y76 _ | exact va_up_self _ _ _) (by first | assumption | rfl | exact y76 _ | exact va_up_self _ _ _) ?_
    show mW _ _ _ _ _ _ _ _ (.int _ :: _)
    show mW _ _ _ _ _ _ 104 _ (.int 2 :: _)
    refine m_iconst (v := 2) dX8_laysRows_104 (by decide) ?_
    refine m_icmp_ne (t := 112) dX8_laysRows_105 (by decide) (fun q => absurd rfl q) (fun _ => ?_)
    refine m_iconst (v := 1) dX8_laysRows_108 (by decide) ?_
    refine m_goto (t := 113) dX8_laysRows_109 (by decide) ?_
    refine m_istore_n dX8_laysRows_113 (by decide) ?_
    show mW _ _ _ _ _ _ 114 [_, _, _, _] _
    refine l_X8_layB (hp0 := hp2) h0 (hRW z hbn) hF (fun hp' R' U' e1 e2 e3 e4 e5 => ⟨rfl, ri, ev, le, ch, ls, sm, ra, fa, C, PA, R', U', e1, (e5 68 (by decide) (by decide) (by decide)).trans c68, (e5 69 (by decide) (by decide) (by decide)).trans c69, h4, h5, h6, mScX_of cX (fun q a b => e5 q (by omega) (by omega) (by omega)), e2, e3, e4, fun q hq => (e5 q (by omega) (by omega) (by omega)).trans (cO q (by omega) (by omega) (by omega) (by omega))⟩) 3 0 hp2 R2 U2 _ rfl c1 c2 c3 hrr hgg (fun x _ _ _ => rfl)

