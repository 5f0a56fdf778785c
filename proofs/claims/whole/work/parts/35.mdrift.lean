/-! ===== the reference: count, drift ===== -/
theorem loopL_Z {C : Nat → Int32} {v : Int32} {j : Nat} : loopL C v j = lZ (loopZ C v j) := by
  unfold loopL loopZ
  rw [lZ_i, lZ_i, lZ_i, show (8 : Int64) = lZ 8 by decide, lZ_mul, lZ_mul, lZ_add]
theorem loopL_eq {C c : Nat → Int32} {v : Int32} (h : eq12 C c) {j : Nat} (hj : j < 5) : loopL C v j = loopL c v j := by
  unfold loopL
  rw [h j (by omega), h (5 + j) (by omega)]
theorem loopL_I {c : Nat → Int32} {v : Int32} {j : Nat} (h : ∀ t, t < 10 → in9 (c t)) (hv : inG v) (hj : j < 5) : loopL c v j = loopI c v j := by
  rw [loopL_Z, loopI_Z h hv hj]
def mPol (hp : mHp) : Prop := ∃ L, hp 76 = eL 5 L
set_option maxHeartbeats 400000 in
set_option maxRecDepth 100000 in
theorem t_X8_count {n : Nat} {hp : mHp} {S : TS} {ia tm : Int32} (h : mRep hp S ia tm) (hC : okC S.1) (hP : mPol hp) {x : Int32} : mC D_X8_count [.ref 67, .int x] n hp (fun r hp' => r = some (.int (sCount S x)) ∧ mRep hp' S ia tm ∧ mPol hp' ∧ ∀ q, q ≠ 76 → hp' q = hp q) := by
  refine m_enter rfl rfl (Nat.le_of_ble_eq_true rfl) (fun K hF => ?_)
  show mW K _ 0 0 _ _ 0 [.ref 67, .int x] []
  have hR := h
  obtain ⟨ri, ev, le, ch, ls, rm, sm, ra, fa, C, PA, h1, h2, h3, h4, h5, h6⟩ := h
  obtain ⟨L, hL⟩ := hP
  refine m_iload_n dX8_count_0 rfl ?_
  refine m_tabCase (v := 0) (t := 36) dX8_count_1 (by decide) (by decide) rfl (by decide) (fun w1_0 => ?_) (fun w1_0 => ?_)
  · refine m_aload_n dX8_count_36 rfl ?_
    refine m_getfield dX8_count_37 fl_X8_7 (by first | assumption | rfl | exact (va_up_ne _ _ (by decide)).trans h1 | exact va_up_self _ _ _) (by first | assumption | rfl | exact (va_up_ne _ _ (by decide)).trans h1 | exact va_up_self _ _ _) ?_
    show mW _ _ _ _ _ _ _ _ (.ref _ :: _)
    refine m_bipush (v := 10) dX8_count_40 (by decide) ?_
    refine m_iaload (k := 10) dX8_count_42 (by first | assumption | rfl | exact (va_up_ne _ _ (by decide)).trans h1 | exact va_up_self _ _ _) ⟨by decide, by decide⟩ ?_
    refine m_sipush (v := 800) dX8_count_43 (by decide) ?_
    refine m_iadd dX8_count_46 ?_
    exact m_ireturn hF dX8_count_47 rfl rfl rfl ⟨by unfold sCount; rw [if_pos w1_0, ← h5 10 (by decide)], hR, ⟨L, hL⟩, fun _ _ => rfl⟩
  refine m_tabCase (v := 1) (t := 48) dX8_count_1 (by decide) (by decide) rfl (by decide) (fun w1_1 => ?_) (fun w1_1 => ?_)
  · refine m_aload_n dX8_count_48 rfl ?_
    refine m_iload_n dX8_count_49 rfl ?_
    refine m_iconst (v := 1) dX8_count_50 (by decide) ?_
    refine m_isub dX8_count_51 ?_
    refine m_ci (v := nI 0) (by rw [w1_1]; rfl) ?_
    refine m_invV_I dX8_count_52 lk_X8_164 ar_X8_degreeOf (ci := 8) rfl rfl (by first | assumption | rfl | exact (va_up_ne _ _ (by decide)).trans h1 | exact va_up_self _ _ _) (t_X8_degreeOf h1 h2 (by decide)) rfl (Nat.le_of_ble_eq_true rfl) (by decide) (by decide) (by decide) (by decide) rfl rfl ?_
    try rw [va_uu]
    exact m_ireturn hF dX8_count_55 rfl rfl rfl ⟨by unfold sCount; rw [if_neg w1_0, if_pos w1_1, ← degI_eq (fun t ht => h5 t (by omega)) (by decide)], hR, ⟨L, hL⟩, fun _ _ => rfl⟩
  refine m_tabCase (v := 2) (t := 48) dX8_count_1 (by decide) (by decide) rfl (by decide) (fun w1_2 => ?_) (fun w1_2 => ?_)
  · refine m_aload_n dX8_count_48 rfl ?_
    refine m_iload_n dX8_count_49 rfl ?_
    refine m_iconst (v := 1) dX8_count_50 (by decide) ?_
    refine m_isub dX8_count_51 ?_
    refine m_ci (v := nI 1) (by rw [w1_2]; rfl) ?_
    refine m_invV_I dX8_count_52 lk_X8_164 ar_X8_degreeOf (ci := 8) rfl rfl (by first | assumption | rfl | exact (va_up_ne _ _ (by decide)).trans h1 | exact va_up_self _ _ _) (t_X8_degreeOf h1 h2 (by decide)) rfl (Nat.le_of_ble_eq_true rfl) (by decide) (by decide) (by decide) (by decide) rfl rfl ?_
    try rw [va_uu]
    exact m_ireturn hF dX8_count_55 rfl rfl rfl ⟨by unfold sCount; rw [if_neg w1_0, if_neg w1_1, if_pos w1_2, ← degI_eq (fun t ht => h5 t (by omega)) (by decide)], hR, ⟨L, hL⟩, fun _ _ => rfl⟩
  refine m_tabCase (v := 3) (t := 56) dX8_count_1 (by decide) (by decide) rfl (by decide) (fun w1_3 => ?_) (fun w1_3 => ?_)
  · refine m_aload_n dX8_count_56 rfl ?_
    refine m_aload_n dX8_count_57 rfl ?_
    refine m_getfield dX8_count_58 fl_X8_7 (by first | assumption | rfl | exact (va_up_ne _ _ (by decide)).trans h1 | exact va_up_self _ _ _) (by first | assumption | rfl | exact (va_up_ne _ _ (by decide)).trans h1 | exact va_up_self _ _ _) ?_
    show mW _ _ _ _ _ _ _ _ (.ref _ :: _)
    refine m_bipush (v := 10) dX8_count_61 (by decide) ?_
    refine m_iaload (k := 10) dX8_count_63 (by first | assumption | rfl | exact (va_up_ne _ _ (by decide)).trans h1 | exact va_up_self _ _ _) ⟨by decide, by decide⟩ ?_
    refine m_invV_V dX8_count_64 lk_X8_167 ar_X8_loops (ci := 8) rfl rfl (by first | assumption | rfl | exact (va_up_ne _ _ (by decide)).trans h1 | exact va_up_self _ _ _) (t_X8_loops h1 h2 hL) rfl (Nat.le_of_ble_eq_true rfl) (by decide) (by decide) (by decide) (by decide) rfl rfl ?_
    try rw [va_uu]
    refine m_aload_n dX8_count_67 rfl ?_
    refine m_getfield dX8_count_68 fl_X8_39 (by first | assumption | rfl | exact (va_up_ne _ _ (by decide)).trans h1 | exact va_up_self _ _ _) (by first | assumption | rfl | exact (va_up_ne _ _ (by decide)).trans h1 | exact va_up_self _ _ _) ?_
    show mW _ _ _ _ _ _ _ _ (.ref _ :: _)
    refine m_iconst (v := 0) dX8_count_71 (by decide) ?_
    refine m_invS_I dX8_count_72 lk_X8_118 ar_X8_degree (t_X8_degree (at_ := 0) (va_up_self _ _ _) (by decide) (by decide)) rfl (Nat.le_of_ble_eq_true rfl) (by decide) (by decide) (by decide) (by decide) rfl rfl ?_
    try rw [va_uu]
    exact m_ireturn hF dX8_count_75 rfl rfl rfl ⟨by unfold sCount; rw [if_neg w1_0, if_neg w1_1, if_neg w1_2, if_pos w1_3, deg5_eq (q := loopI S.1 (S.1 10)) (fun t ht => by show fill5 (loopL C (C 10)) L (0 + t) = _; rw [Nat.zero_add, fill5_at ht, h5 10 (by decide), loopL_eq h5 ht, loopL_I hC.1 hC.2 ht])], hR.of (fun q r1 r2 => va_up_ne _ _ (by omega)), ⟨_, va_up_self _ _ _⟩, fun q hq => va_up_ne _ _ hq⟩
  refine m_tabCase (v := 4) (t := 76) dX8_count_1 (by decide) (by decide) rfl (by decide) (fun w1_4 => ?_) (fun w1_4 => ?_)
  · refine m_aload_n dX8_count_76 rfl ?_
    refine m_getfield dX8_count_77 fl_X8_66 (by first | assumption | rfl | exact (va_up_ne _ _ (by decide)).trans h1 | exact va_up_self _ _ _) (by first | assumption | rfl | exact (va_up_ne _ _ (by decide)).trans h1 | exact va_up_self _ _ _) ?_
    show mW _ _ _ _ _ _ _ _ (.int _ :: _)
    exact m_ireturn hF dX8_count_80 rfl rfl rfl ⟨by unfold sCount; rw [if_neg w1_0, if_neg w1_1, if_neg w1_2, if_neg w1_3, if_pos w1_4], hR, ⟨L, hL⟩, fun _ _ => rfl⟩
  refine m_tabOut (t := 81) dX8_count_1 (by have q0 := tabNe (z := 0) (by decide) w1_0; have q1 := tabNe (z := 1) (by decide) w1_1; have q2 := tabNe (z := 2) (by decide) w1_2; have q3 := tabNe (z := 3) (by decide) w1_3; have q4 := tabNe (z := 4) (by decide) w1_4; omega) (by decide) ?_
  refine m_iconst (v := -1) dX8_count_81 (by decide) ?_
  exact m_ireturn hF dX8_count_82 rfl rfl rfl ⟨by unfold sCount; rw [if_neg w1_0, if_neg w1_1, if_neg w1_2, if_neg w1_3, if_neg w1_4], hR, ⟨L, hL⟩, fun _ _ => rfl⟩

theorem dr_1 (d : Nat) : lZ (d : Int) * 1103515245 + 12345 = lZ ((d * 1103515245 + 12345 : Nat) : Int) := by
  rw [show (1103515245 : Int64) = lZ 1103515245 by decide, show (12345 : Int64) = lZ 12345 by decide, lZ_mul, lZ_add]
  congr 1
theorem dr_3 {d : Nat} (h : d < 2 ^ 31) : (lZ (d : Int)).toInt32 = nI d := by
  apply Int32.toInt_inj.mp
  rw [nI_toInt h, Int64.toInt_toInt32, lZ_toInt (by unfold bdZ; omega)]
  exact Int.bmod_eq_of_le (by omega) (by omega)
theorem dr_2 {d : Nat} (h : d < 2 ^ 31) : lZ ((d * 1103515245 + 12345 : Nat) : Int) - lZ ((d * 1103515245 + 12345 : Nat) : Int) / 2147483648 * 2147483648 = lZ ((drawN d : Nat) : Int) := by
  have q := lZ_rem (a := d * 1103515245 + 12345) (b := 2147483648) (by unfold bdZ; omega) (by unfold bdZ; omega)
  rw [show (2147483648 : Int64) = lZ ((2147483648 : Nat) : Int) by decide]
  exact q
set_option maxHeartbeats 400000 in
set_option maxRecDepth 100000 in
theorem l_X8_drift {n N : Nat} {hp0 : mHp} {ia tm : Int32} {T : TS} (hN : N ≤ 40) {K : mK} (hF : mFin K D_X8_drift n (fun r hp' => r = some (.int (orN (degI T.1 0))) ∧ mRep hp' T ia tm ∧ off3 hp0 hp')) : ∀ (m i : Nat) (hp : mHp) (S : TS) (v3 v4 v5 : Value), i + m = N → mRep hp S ia tm → 0 ≤ (S.1 11).toInt → iterT m S = T → off3 hp0 hp → mW K D_X8_drift 0 0 n hp 16 [.ref 67, .int (nI N), .int (nI i), v3, v4, v5] [] := by
  intro m
  induction m using Nat.strongRecOn with
  | ind m ih9 =>
    intro i hp S v3 v4 v5 him h h11 hv ho
    have hR := h
    obtain ⟨ri, ev, le, ch, ls, rm, sm, ra, fa, C, PA, h1, h2, h3, h4, h5, h6⟩ := h
    obtain ⟨hdn, hlt⟩ := nI_of0 h11
    have hx31 : drwN S / 65536 < 2 ^ 31 := Nat.lt_of_le_of_lt (Nat.div_le_self _ _) (drawN_lt _)
    refine m_iload_n dX8_drift_16 rfl ?_
    refine m_iload_n dX8_drift_17 rfl ?_
    refine m_icmp_ge (t := 103) dX8_drift_18 (by decide) (fun cc => ?_) (fun cc => ?_)
    · have hm : m = 0 := by have := nI_cmp' (by omega) (by omega) cc; omega
      subst hm
      refine m_aload_n dX8_drift_103 rfl ?_
      refine m_iconst (v := 0) dX8_drift_104 (by decide) ?_
      refine m_invV_I dX8_drift_105 lk_X8_164 ar_X8_degreeOf (ci := 8) rfl rfl (by first | assumption | rfl | exact va_up_self _ _ _ | exact (va_up_ne _ _ (by decide)).trans g1) (t_X8_degreeOf (w := 0) h1 h2 (by decide)) rfl (Nat.le_of_ble_eq_true rfl) (by decide) (by decide) (by decide) (by decide) rfl rfl ?_
      try rw [va_uu]
      exact m_ireturn hF dX8_drift_108 rfl rfl rfl ⟨by rw [← hv, degI_eq (P := C) (c := S.1) (o := 5 * 0) (fun t ht => h5 t (by omega)) (by decide)]; rfl, by rw [← hv]; exact hR, ho⟩
    have hlt9 : i < N := nI_cmp (by omega) (by omega) cc
    obtain ⟨m, rfl⟩ : ∃ m', m = m' + 1 := ⟨m - 1, by omega⟩
    refine m_aload_n dX8_drift_21 rfl ?_
    refine m_invV dX8_drift_22 lk_X8_153 ar_X8_notes (ci := 8) rfl rfl (by first | assumption | rfl | exact va_up_self _ _ _ | exact (va_up_ne _ _ (by decide)).trans g1) (t_notes hR h2) rfl (Nat.le_of_ble_eq_true rfl) (by decide) (by decide) (by decide) (by decide) (fun v hp' q => ?_)
    obtain ⟨rfl, gR, g2, gO⟩ := q
    obtain ⟨ri2, ev2, le2, ch2, ls2, rm2, sm2, ra2, fa2, C2, PA2, g1, -⟩ := id gR
    show mW K _ 0 0 n hp' 25 [.ref 67, .int (nI N), .int (nI i), v3, v4, v5] []
    refine m_aload_n dX8_drift_25 rfl ?_
    refine m_getfield dX8_drift_26 fl_X8_7 (by first | assumption | rfl | exact va_up_self _ _ _ | exact (va_up_ne _ _ (by decide)).trans g1) (by first | assumption | rfl | exact va_up_self _ _ _ | exact (va_up_ne _ _ (by decide)).trans g1) ?_
    show mW _ _ _ _ _ _ _ _ (.ref _ :: _)
    refine m_bipush (v := 11) dX8_drift_29 (by decide) ?_
    refine m_iaload (k := 11) dX8_drift_31 (by first | assumption | rfl | exact va_up_self _ _ _ | exact (va_up_ne _ _ (by decide)).trans g1) ⟨by decide, by decide⟩ ?_
    refine m_ci (v := nI (S.1 11).toInt.toNat) ((h5 11 (by decide)).trans hdn) ?_
    refine m_i2l dX8_drift_32 ?_
    refine m_cl (v := lZ ((S.1 11).toInt.toNat : Nat)) (by rw [lZ_i, nI_toInt hlt]) ?_
    refine m_ldc2 dX8_drift_33 cl_X8_257 ?_
    refine m_lmul dX8_drift_36 ?_
    refine m_ldc2 dX8_drift_37 cl_X8_259 ?_
    refine m_ladd dX8_drift_40 ?_
    refine m_cl (v := lZ (((S.1 11).toInt.toNat * 1103515245 + 12345 : Nat) : Int)) (dr_1 _) ?_
    refine m_lstore_n dX8_drift_41 (by decide) ?_
    show mW _ _ _ _ _ _ 42 [_, _, _, _, _, _] _
    refine m_aload_n dX8_drift_42 rfl ?_
    refine m_getfield dX8_drift_43 fl_X8_7 (by first | assumption | rfl | exact va_up_self _ _ _ | exact (va_up_ne _ _ (by decide)).trans g1) (by first | assumption | rfl | exact va_up_self _ _ _ | exact (va_up_ne _ _ (by decide)).trans g1) ?_
    show mW _ _ _ _ _ _ _ _ (.ref _ :: _)
    refine m_bipush (v := 11) dX8_drift_46 (by decide) ?_
    refine m_lload_n dX8_drift_48 rfl ?_
    refine m_ldc2 dX8_drift_49 cl_X8_261 ?_
    refine m_lrem dX8_drift_52 (by decide) ?_
    refine m_cl (v := lZ ((drwN S : Nat) : Int)) (dr_2 hlt) ?_
    refine m_l2i dX8_drift_53 ?_
    refine m_ci (v := nI (drwN S)) (dr_3 (drawN_lt _)) ?_
    refine m_iastore (k := 11) dX8_drift_54 (by first | assumption | rfl | exact va_up_self _ _ _ | exact (va_up_ne _ _ (by decide)).trans g1) ⟨by decide, by decide⟩ ?_
    try rw [va_uu]
    refine m_aload_n dX8_drift_55 rfl ?_
    refine m_getfield dX8_drift_56 fl_X8_7 (by first | assumption | rfl | exact va_up_self _ _ _ | exact (va_up_ne _ _ (by decide)).trans g1) (by first | assumption | rfl | exact va_up_self _ _ _ | exact (va_up_ne _ _ (by decide)).trans g1) ?_
    show mW _ _ _ _ _ _ _ _ (.ref _ :: _)
    refine m_bipush (v := 11) dX8_drift_59 (by decide) ?_
    refine m_iaload (k := 11) dX8_drift_61 (by first | assumption | rfl | exact va_up_self _ _ _ | exact (va_up_ne _ _ (by decide)).trans g1) ⟨by decide, by decide⟩ ?_
    refine m_ci (v := nI (drwN S)) (va_up_self _ _ _) ?_
    refine m_ldcw dX8_drift_62 ct_X8_263 ?_
    refine m_idiv dX8_drift_65 (by decide) ?_
    refine m_ci (v := nI (drwN S / 65536)) (nI_div (b := 65536) (drawN_lt _) (by decide)) ?_
    refine m_istore dX8_drift_66 (by decide) ?_
    show mW _ _ _ _ _ _ 68 [_, _, _, _, _, _] _
    refine m_aload_n dX8_drift_68 rfl ?_
    refine m_getfield dX8_drift_69 fl_X8_7 (by first | assumption | rfl | exact va_up_self _ _ _ | exact (va_up_ne _ _ (by decide)).trans g1) (by first | assumption | rfl | exact va_up_self _ _ _ | exact (va_up_ne _ _ (by decide)).trans g1) ?_
    show mW _ _ _ _ _ _ _ _ (.ref _ :: _)
    refine m_iconst (v := 5) dX8_drift_72 (by decide) ?_
    refine m_iload dX8_drift_73 rfl ?_
    refine m_iconst (v := 2) dX8_drift_75 (by decide) ?_
    refine m_irem dX8_drift_76 (by decide) ?_
    refine m_ci (v := nI (drwN S / 65536 % 2)) (nI_rem (b := 2) hx31 (by decide)) ?_
    refine m_imul dX8_drift_77 ?_
    refine m_ci (v := nI (5 * (drwN S / 65536 % 2))) (nI_mulN 5 _) ?_
    refine m_iload dX8_drift_78 rfl ?_
    refine m_iconst (v := 2) dX8_drift_80 (by decide) ?_
    refine m_idiv dX8_drift_81 (by decide) ?_
    refine m_ci (v := nI (drwN S / 65536 / 2)) (nI_div (b := 2) hx31 (by decide)) ?_
    refine m_iconst (v := 5) dX8_drift_82 (by decide) ?_
    refine m_irem dX8_drift_83 (by decide) ?_
    refine m_ci (v := nI (drwN S / 65536 / 2 % 5)) (nI_rem (b := 5) (by omega) (by decide)) ?_
    refine m_iadd dX8_drift_84 ?_
    refine m_ci (v := nI (drawAt (drwN S))) (by rw [nI_add]; unfold drawAt; congr 1; omega) ?_
    refine m_iload dX8_drift_85 rfl ?_
    refine m_bipush (v := 16) dX8_drift_87 (by decide) ?_
    refine m_idiv dX8_drift_89 (by decide) ?_
    refine m_ci (v := nI (drwN S / 65536 / 16)) (nI_div (b := 16) hx31 (by decide)) ?_
    refine m_bipush (v := 19) dX8_drift_90 (by decide) ?_
    refine m_irem dX8_drift_92 (by decide) ?_
    refine m_ci (v := nI (drwN S / 65536 / 16 % 19)) (nI_rem (b := 19) (by omega) (by decide)) ?_
    refine m_bipush (v := 9) dX8_drift_93 (by decide) ?_
    refine m_isub dX8_drift_95 ?_
    refine m_ci (v := drawV (drwN S)) rfl ?_
    refine m_iastore dX8_drift_96 (by first | assumption | rfl | exact va_up_self _ _ _ | exact (va_up_ne _ _ (by decide)).trans g1) (mIx_lit (show drawAt (drwN S) < 12 by have := drawAt_lt (drwN S); omega) (by decide)) ?_
    try rw [va_uu]
    have hst : mRep (va_up hp' 68 (eI 12 (va_up (va_up C 11 (nI (drwN S))) (drawAt (drwN S)) (drawV (drwN S))))) (stepT S) ia tm := by
      have q9 := (gR.st (i := 11) (v := nI (drwN S)) g2).st (i := drawAt (drwN S)) (v := drawV (drwN S)) (va_up_self _ _ _)
      rw [va_uu] at q9
      exact q9
    refine m_iinc (v := nI (i + 1)) dX8_drift_97 rfl (nI_1 i) (by decide) ?_
    show mW _ _ _ _ _ _ 100 [_, _, _, _, _, _] _
    refine m_goto (t := 16) dX8_drift_100 (by decide) ?_
    exact ih9 m (by omega) (i + 1) _ (stepT S) _ _ _ (by omega) hst (stepT_ok S) hv (fun q hq => by rw [va_up_ne _ _ (by omega), gO q hq]; exact ho q hq)

set_option maxHeartbeats 400000 in
set_option maxRecDepth 100000 in
theorem t_X8_drift {n : Nat} {hp : mHp} {S : TS} {ia tm : Int32} (h : mRep hp S ia tm) (h11 : 0 ≤ (S.1 11).toInt) {x : Int32} : mC D_X8_drift [.ref 67, .int x] n hp (fun r hp' => r = some (.int (sDrift S x).1) ∧ mRep hp' (sDrift S x).2 ia tm ∧ off3 hp hp') := by
  refine m_enter rfl rfl (Nat.le_of_ble_eq_true rfl) (fun K hF => ?_)
  show mW K _ 0 0 _ _ 0 [.ref 67, .int x, .retAddr 0, .retAddr 0, .retAddr 0, .retAddr 0] []
  refine m_iload_n dX8_drift_0 rfl ?_
  refine m_i2l dX8_drift_1 ?_
  refine m_lconst (v := 1) dX8_drift_2 (by decide) ?_
  refine m_ldc2 dX8_drift_3 cl_X8_255 ?_
  refine m_invS_I dX8_drift_6 lk_X8_141 ar_X8_in (t_X8_in) rfl (Nat.le_of_ble_eq_true rfl) (by decide) (by decide) (by decide) (by decide) rfl rfl ?_
  try rw [va_uu]
  refine m_if_ne (t := 14) dX8_drift_9 (by decide) (fun c9 => ?_) (fun c9 => ?_)
  rotate_left
  · have hxx : ¬ (1 ≤ x.toInt ∧ x.toInt ≤ 40) := (inI_iff (by decide) (by decide)).mp c9
    have sd : sDrift S x = (-1, S) := by
      unfold sDrift
      by_cases e : x < 1
      · rw [if_pos e]
      · rw [if_neg e, if_neg (fun y => hxx ⟨by rw [Int32.lt_iff_toInt_lt, show (1 : Int32).toInt = 1 by decide] at e; omega, by rw [Int32.le_iff_toInt_le, show (40 : Int32).toInt = 40 by decide] at y; exact y⟩)]
    refine m_iconst (v := -1) dX8_drift_12 (by decide) ?_
    exact m_ireturn hF dX8_drift_13 rfl rfl rfl ⟨by rw [sd], by rw [sd]; exact h, off3.rf⟩
  refine m_iconst (v := 0) dX8_drift_14 (by decide) ?_
  refine m_istore_n dX8_drift_15 (by decide) ?_
  show mW _ _ _ _ _ _ 16 [_, _, _, _, _, _] _
  have hx : 1 ≤ x.toInt ∧ x.toInt ≤ 40 := Classical.not_not.mp (fun z => c9 ((inI_iff (by decide) (by decide)).mpr z))
  obtain ⟨e1, -⟩ := nI_of0 (x := x) (by omega)
  have c2 : ¬ x < 1 := by
    rw [Int32.lt_iff_toInt_lt, show (1 : Int32).toInt = 1 by decide]
    omega
  have c8 : x ≤ 40 := by
    rw [Int32.le_iff_toInt_le, show (40 : Int32).toInt = 40 by decide]
    omega
  have hq := l_X8_drift (hp0 := hp) (ia := ia) (tm := tm) (T := iterT x.toInt.toNat S) (N := x.toInt.toNat) (by omega) (K := K) (n := n) (by
    unfold sDrift at hF
    rw [if_neg c2, if_pos c8] at hF
    exact hF) x.toInt.toNat 0 hp S (.retAddr 0) (.retAddr 0) (.retAddr 0) (by omega) h h11 rfl off3.rf
  rw [← e1] at hq
  exact hq

