/-! ===== the reference: roots, at ===== -/
def rtM (b : Int32) (Z A T0 Pr : Nat → Int64) : T3 := if b = 0 then ((cntM Z A).1, (cntM Z A).2.1 + (nI (dgN Z) - nI (dgN Z)), (cntM Z A).2.2) else ((cntM (tuZ Z T0 Pr) A).1, (cntM (tuZ Z T0 Pr) A).2.1 + (nI (dgN Z) - nI (dgN (tuZ Z T0 Pr))), (cntM (tuZ Z T0 Pr) A).2.2)
/-- the reference's counts are those of the chain -/
def RTK : Prop := ∀ (b : Int32) (z : Nat → Int) (Z A T0 Pr : Nat → Int64), inC b 2 → bnd7 z → (∀ t, t < 5 → Z t = lZ (z t)) → deg5 Z ≠ -1 → rtM b Z A T0 Pr = (rtR b z, rtE b z, rtL b z) ∧ (rtL b z = nI (dgN Z) ↔ rtR b z = 0 ∧ rtE b z = 0)
theorem t_cB {n : Nat} {hp : mHp} {ac ia tm ri ev le ch ls rm sm ra fa : Int32} (h1 : hp 67 = eO 8 (oMod ac ia tm ri ev le ch ls rm sm ra fa)) {Z : Nat → Int64} (hs : mScr hp Z) (hTU : TUK) (hB : bL Z) {b : Int32} (hb : inC b 2) (hne : deg5 Z ≠ -1) : mC D_X8_countsBy [.ref 67, .int b] n hp (fun v hp' => v = some (.int (nI (dgN Z))) ∧ ∃ (A T0 Pr : Nat → Int64) (ch' ls' : Int32), hp' 67 = eO 8 (oMod ac ia tm (rtM b Z A T0 Pr).1 (rtM b Z A T0 Pr).2.1 (rtM b Z A T0 Pr).2.2 ch' ls' rm sm ra fa) ∧ (∃ Z', mScr hp' Z') ∧ ∀ q, (q < 67 ∨ 67 < q ∧ q < 76 ∨ 79 < q) → hp' q = hp q) := by
  obtain ⟨A, T0, Pr, s1, s2, s3, s4⟩ := hs
  obtain ⟨w, hw, rfl, -⟩ := inC_N hb
  match w, hw with
  | 0, _ =>
    refine (t_X8_countsBy_0 h1 s1 s2 hne).mono ?_
    rintro v hp' ⟨rfl, ch', ls', A', rfl⟩
    refine ⟨rfl, A, T0, Pr, ch', ls', ?_, ⟨Z, A', T0, Pr, (va_up_ne _ _ (by decide)).trans ((va_up_ne _ _ (by decide)).trans  s1), (va_up_ne _ _ (by decide)).trans (va_up_self _ _ _), (va_up_ne _ _ (by decide)).trans ((va_up_ne _ _ (by decide)).trans  s3), (va_up_ne _ _ (by decide)).trans ((va_up_ne _ _ (by decide)).trans  s4)⟩, fun q hq => by rw [va_up_ne _ _ (by omega), va_up_ne _ _ (by omega)]⟩
    rw [show rtM (nI 0) Z A T0 Pr = _ from if_pos rfl]
    exact va_up_self _ _ _
  | 1, _ =>
    refine (t_X8_countsBy_1 h1 s1 s2 s3 s4 hne (hTU Z T0 Pr hB hne)).mono ?_
    rintro v hp' ⟨rfl, ch', ls', A', rfl⟩
    refine ⟨rfl, A, T0, Pr, ch', ls', ?_, ⟨tuZ Z T0 Pr, A', _, _, (va_up_ne _ _ (by decide)).trans ((va_up_ne _ _ (by decide)).trans  (va_up_self _ _ _)), (va_up_ne _ _ (by decide)).trans (va_up_self _ _ _), (va_up_ne _ _ (by decide)).trans ((va_up_ne _ _ (by decide)).trans  ((va_up_ne _ _ (by decide)).trans  ((va_up_ne _ _ (by decide)).trans  (va_up_self _ _ _)))), (va_up_ne _ _ (by decide)).trans ((va_up_ne _ _ (by decide)).trans  ((va_up_ne _ _ (by decide)).trans  (va_up_self _ _ _)))⟩, fun q hq => by rw [va_up_ne _ _ (by omega), va_up_ne _ _ (by omega), va_up_ne _ _ (by omega), va_up_ne _ _ (by omega), va_up_ne _ _ (by omega)]⟩
    rw [show rtM (nI 1) Z A T0 Pr = _ from if_neg (by decide)]
    exact va_up_self _ _ _
theorem loopL_b {c : Nat → Int32} {v : Int32} (h : ∀ t, t < 10 → in9 (c t)) (hv : inG v) : bnd7 (loopZ c v) := fun j hj => by
  have h1 := h j (by omega)
  have h2 := h (5 + j) (by omega)
  have h3 := mul_bd hv.1 hv.2 h2.1 h2.2
  unfold loopZ
  omega
theorem bL_of {z : Nat → Int} {Z : Nat → Int64} (h : bnd7 z) (e : ∀ t, t < 5 → Z t = lZ (z t)) : bL Z := fun t ht => by
  have := h t ht
  rw [e t ht, lZ_toInt (by unfold bdZ; omega)]
  exact this
theorem in3_iff {v : Int32} : inI v.toInt64 0 3 = 0 ↔ ¬ inC v 4 := in4_iff
theorem w3 {w : Int32} (h : inC w 4) (h0 : ¬ w = 0) (h1 : ¬ w = 1) (h2 : ¬ w = 2) : w = 3 := by
  obtain ⟨k, hk, rfl, -⟩ := inC_N h
  match k, hk with
  | 0, _ => exact absurd rfl h0
  | 1, _ => exact absurd rfl h1
  | 2, _ => exact absurd rfl h2
  | 3, _ => rfl
set_option maxHeartbeats 400000 in
set_option maxRecDepth 100000 in
theorem t_X8_at {n : Nat} {hp : mHp} {S : TS} {ia tm : Int32} (h : mRep hp S ia tm) (hX : mScX hp) (hC : okC S.1) (hTU : TUK) (hRT : RTK) {b v w : Int32} : mC D_X8_at [.ref 67, .int b, .int v, .int w] n hp (qM hp S ia tm (sRoots S b v w)) := by
  refine m_enter rfl rfl (Nat.le_of_ble_eq_true rfl) (fun K hF => ?_)
  show mW K _ 0 0 _ _ 0 [.ref 67, .int b, .int v, .int w, .retAddr 0] []
  have hR := h
  obtain ⟨ri, ev, le, ch, ls, rm, sm, ra, fa, C, PA, h1, h2, h3, h4, h5, h6⟩ := h
  obtain ⟨Z0, A0, T0, Pr, s1, s2, s3, s4⟩ := hX
  have y1 : ∀ f : mE, va_up hp 76 f 67 = _ := fun f => (va_up_ne _ _ (by decide)).trans h1
  refine m_iload_n dX8_at_0 rfl ?_
  refine m_i2l dX8_at_1 ?_
  refine m_lconst (v := 0) dX8_at_2 (by decide) ?_
  refine m_lconst (v := 1) dX8_at_3 (by decide) ?_
  refine m_invS_I dX8_at_4 lk_X8_141 ar_X8_in (t_X8_in) rfl (Nat.le_of_ble_eq_true rfl) (by decide) (by decide) (by decide) (by decide) rfl rfl ?_
  try rw [va_uu]
  refine m_if_eq (t := 29) dX8_at_7 (by decide) (fun c7 => ?_) (fun c7 => ?_)
  · refine m_iconst (v := -1) dX8_at_29 (by decide) ?_
    exact m_ireturn hF dX8_at_30 rfl rfl rfl ⟨by unfold sRoots; rw [if_neg (by rintro ⟨q1, q2, q3⟩; first | exact in2_iff.mp c7 q1 | exact inG_iff.mp c14 q2 | exact in3_iff.mp c26 q3)], hR, ⟨Z0, A0, T0, Pr, s1, s2, s3, s4⟩, offM.rf⟩
  refine m_iload_n dX8_at_10 rfl ?_
  refine m_invS_I dX8_at_11 lk_X8_160 ar_X8_isGain (t_X8_isGain) rfl (Nat.le_of_ble_eq_true rfl) (by decide) (by decide) (by decide) (by decide) rfl rfl ?_
  try rw [va_uu]
  refine m_if_eq (t := 29) dX8_at_14 (by decide) (fun c14 => ?_) (fun c14 => ?_)
  · refine m_iconst (v := -1) dX8_at_29 (by decide) ?_
    exact m_ireturn hF dX8_at_30 rfl rfl rfl ⟨by unfold sRoots; rw [if_neg (by rintro ⟨q1, q2, q3⟩; first | exact in2_iff.mp c7 q1 | exact inG_iff.mp c14 q2 | exact in3_iff.mp c26 q3)], hR, ⟨Z0, A0, T0, Pr, s1, s2, s3, s4⟩, offM.rf⟩
  refine m_iload_n dX8_at_17 rfl ?_
  refine m_i2l dX8_at_18 ?_
  refine m_lconst (v := 0) dX8_at_19 (by decide) ?_
  refine m_ldc2 dX8_at_20 cl_X8_174 ?_
  refine m_invS_I dX8_at_23 lk_X8_141 ar_X8_in (t_X8_in) rfl (Nat.le_of_ble_eq_true rfl) (by decide) (by decide) (by decide) (by decide) rfl rfl ?_
  try rw [va_uu]
  refine m_if_ne (t := 31) dX8_at_26 (by decide) (fun c26 => ?_) (fun c26 => ?_)
  rotate_left
  · refine m_iconst (v := -1) dX8_at_29 (by decide) ?_
    exact m_ireturn hF dX8_at_30 rfl rfl rfl ⟨by unfold sRoots; rw [if_neg (by rintro ⟨q1, q2, q3⟩; first | exact in2_iff.mp c7 q1 | exact inG_iff.mp c14 q2 | exact in3_iff.mp c26 q3)], hR, ⟨Z0, A0, T0, Pr, s1, s2, s3, s4⟩, offM.rf⟩
  have hb : inC b 2 := Classical.not_not.mp (fun y => c7 (in2_iff.mpr y))
  have hv : inG v := Classical.not_not.mp (fun y => c14 (inG_iff.mpr y))
  have hw : inC w 4 := Classical.not_not.mp (fun y => c26 (in3_iff.mpr y))
  refine m_aload_n dX8_at_31 rfl ?_
  refine m_iload_n dX8_at_32 rfl ?_
  refine m_invV_V dX8_at_33 lk_X8_167 ar_X8_loops (ci := 8) rfl rfl (by first | assumption | rfl | exact y1 _ | exact va_up_self _ _ _) (t_X8_loops h1 h2 s1) rfl (Nat.le_of_ble_eq_true rfl) (by decide) (by decide) (by decide) (by decide) rfl rfl ?_
  try rw [va_uu]
  have hok : inC b 2 ∧ inG v ∧ inC w 4 := ⟨hb, hv, hw⟩
  have eZ : ∀ t, t < 5 → fill5 (loopL C v) Z0 t = lZ (loopZ S.1 v t) := fun t ht => (fill5_at ht).trans ((loopL_eq h5 ht).trans loopL_Z)
  have hbd := loopL_b (v := v) hC.1 hv
  have hB := bL_of hbd eZ
  have eD : deg5 (fill5 (loopL C v) Z0) = deg5 (loopI S.1 v) := deg5_congr (fun t ht => (eZ t ht).trans (loopI_Z hC.1 hv ht).symm)
  by_cases hne : deg5 (fill5 (loopL C v) Z0) = -1
  · refine m_aload_n dX8_at_36 rfl ?_
    refine m_iload_n dX8_at_37 rfl ?_
    refine m_invV_I dX8_at_38 lk_X8_137 ar_X8_countsBy (ci := 8) rfl rfl (by first | assumption | rfl | exact y1 _ | exact va_up_self _ _ _) (t_X8_countsBy_n (y1 _) (va_up_self _ _ _) ((va_up_ne _ _ (by decide)).trans s2) hne) rfl (Nat.le_of_ble_eq_true rfl) (by decide) (by decide) (by decide) (by decide) rfl rfl ?_
    try rw [va_uu]
    refine m_istore dX8_at_41 (by decide) ?_
    show mW _ _ _ _ _ _ 43 [_, _, _, _, _] _
    skip
    refine m_iload dX8_at_43 rfl ?_
    refine m_bipush (v := -4) dX8_at_45 (by decide) ?_
    refine m_icmp_ne (t := 53) dX8_at_47 (by decide) (fun q => absurd rfl q) (fun _ => ?_)
    refine m_bipush (v := -4) dX8_at_50 (by decide) ?_
    exact m_ireturn hF dX8_at_52 rfl rfl rfl ⟨by unfold sRoots; rw [if_pos hok, ← eD, if_pos hne], hR.of (fun q r1 r2 => va_up_ne _ _ (by omega)), ⟨_, A0, T0, Pr, va_up_self _ _ _, (va_up_ne _ _ (by decide)).trans s2, (va_up_ne _ _ (by decide)).trans s3, (va_up_ne _ _ (by decide)).trans s4⟩, fun q hq => va_up_ne _ _ (by omega)⟩
  refine m_aload_n dX8_at_36 rfl ?_
  refine m_iload_n dX8_at_37 rfl ?_
  refine m_invV dX8_at_38 lk_X8_137 ar_X8_countsBy (ci := 8) rfl rfl (by first | assumption | rfl | exact y1 _ | exact va_up_self _ _ _) (t_cB (y1 _) ⟨A0, T0, Pr, va_up_self _ _ _, (va_up_ne _ _ (by decide)).trans s2, (va_up_ne _ _ (by decide)).trans s3, (va_up_ne _ _ (by decide)).trans s4⟩ hTU hB hb hne) rfl (Nat.le_of_ble_eq_true rfl) (by decide) (by decide) (by decide) (by decide) (fun v9 hp' q => ?_)
  obtain ⟨rfl, A, T0', Pr', ch', ls', g1, gX, gO⟩ := q
  obtain ⟨eR, eS⟩ := hRT b _ _ A T0' Pr' hb hbd eZ hne
  rw [eR] at g1
  have gR : mRep hp' S ia tm := ⟨_, _, _, ch', ls', rm, sm, ra, fa, C, PA, g1, (gO 68 (by decide)).trans ((va_up_ne _ _ (by decide)).trans h2), (gO 69 (by decide)).trans ((va_up_ne _ _ (by decide)).trans h3), h4, h5, h6⟩
  have gF : offM hp hp' := fun q hq => (by rw [gO q hq, va_up_ne _ _ (by omega)])
  show mW K _ 0 0 n hp' 41 [.ref 67, .int b, .int v, .int w, _] [.int (nI (dgN (fill5 (loopL C v) Z0)))]
  refine m_istore dX8_at_41 (by decide) ?_
  show mW _ _ _ _ _ _ 43 [_, _, _, _, _] _
  skip
  refine m_iload dX8_at_43 rfl ?_
  refine m_bipush (v := -4) dX8_at_45 (by decide) ?_
  refine m_icmp_ne (t := 53) dX8_at_47 (by decide) (fun c47 => ?_) (fun c47 => ?_)
  rotate_left
  · refine m_bipush (v := -4) dX8_at_50 (by decide) ?_
    exact m_ireturn hF dX8_at_52 rfl rfl rfl (absurd c47 (nI_n4 (dgN_le _)))
  refine m_iload_n dX8_at_53 rfl ?_
  refine m_if_ne (t := 64) dX8_at_54 (by decide) (fun c54 => ?_) (fun c54 => ?_)
  rotate_left
  · refine m_aload_n dX8_at_57 rfl ?_
    refine m_getfield dX8_at_58 fl_X8_75 (by first | assumption | rfl | exact y1 _ | exact va_up_self _ _ _) (by first | assumption | rfl | exact y1 _ | exact va_up_self _ _ _) ?_
    show mW _ _ _ _ _ _ _ _ (.int _ :: _)
    refine m_goto (t := 102) dX8_at_61 (by decide) ?_
    exact m_ireturn hF dX8_at_102 rfl rfl rfl ⟨by unfold sRoots; rw [if_pos hok, ← eD, if_neg hne]; unfold rtW; rw [if_pos c54], gR, gX, gF⟩
  refine m_iload_n dX8_at_64 rfl ?_
  refine m_iconst (v := 1) dX8_at_65 (by decide) ?_
  refine m_icmp_ne (t := 76) dX8_at_66 (by decide) (fun c66 => ?_) (fun c66 => ?_)
  rotate_left
  · refine m_aload_n dX8_at_69 rfl ?_
    refine m_getfield dX8_at_70 fl_X8_78 (by first | assumption | rfl | exact y1 _ | exact va_up_self _ _ _) (by first | assumption | rfl | exact y1 _ | exact va_up_self _ _ _) ?_
    show mW _ _ _ _ _ _ _ _ (.int _ :: _)
    refine m_goto (t := 102) dX8_at_73 (by decide) ?_
    exact m_ireturn hF dX8_at_102 rfl rfl rfl ⟨by unfold sRoots; rw [if_pos hok, ← eD, if_neg hne]; unfold rtW; rw [if_neg c54, if_pos c66], gR, gX, gF⟩
  refine m_iload_n dX8_at_76 rfl ?_
  refine m_iconst (v := 2) dX8_at_77 (by decide) ?_
  refine m_icmp_ne (t := 88) dX8_at_78 (by decide) (fun c78 => ?_) (fun c78 => ?_)
  rotate_left
  · refine m_aload_n dX8_at_81 rfl ?_
    refine m_getfield dX8_at_82 fl_X8_81 (by first | assumption | rfl | exact y1 _ | exact va_up_self _ _ _) (by first | assumption | rfl | exact y1 _ | exact va_up_self _ _ _) ?_
    show mW _ _ _ _ _ _ _ _ (.int _ :: _)
    refine m_goto (t := 102) dX8_at_85 (by decide) ?_
    exact m_ireturn hF dX8_at_102 rfl rfl rfl ⟨by unfold sRoots; rw [if_pos hok, ← eD, if_neg hne]; unfold rtW; rw [if_neg c54, if_neg c66, if_pos c78], gR, gX, gF⟩
  refine m_aload_n dX8_at_88 rfl ?_
  refine m_getfield dX8_at_89 fl_X8_81 (by first | assumption | rfl | exact y1 _ | exact va_up_self _ _ _) (by first | assumption | rfl | exact y1 _ | exact va_up_self _ _ _) ?_
  show mW _ _ _ _ _ _ _ _ (.int _ :: _)
  refine m_iload dX8_at_92 rfl ?_
  refine m_icmp_ne (t := 101) dX8_at_94 (by decide) (fun c94 => ?_) (fun c94 => ?_)
  · refine m_iconst (v := 0) dX8_at_101 (by decide) ?_
    exact m_ireturn hF dX8_at_102 rfl rfl rfl ⟨by unfold sRoots; rw [if_pos hok, ← eD, if_neg hne]; unfold rtW; rw [if_neg c54, if_neg c66, if_neg c78, if_pos (w3 hw c54 c66 c78)]; (by_cases z1 : rtR b (loopZ S.1 v) = 0; (rw [if_pos z1, if_neg (fun z2 => c94 (eS.mpr ⟨z1, z2⟩))]); (rw [if_neg z1])), gR, gX, gF⟩
  refine m_iconst (v := 1) dX8_at_97 (by decide) ?_
  refine m_goto (t := 102) dX8_at_98 (by decide) ?_
  exact m_ireturn hF dX8_at_102 rfl rfl rfl ⟨by unfold sRoots; rw [if_pos hok, ← eD, if_neg hne]; unfold rtW; rw [if_neg c54, if_neg c66, if_neg c78, if_pos (w3 hw c54 c66 c78)]; rw [if_pos (eS.mp c94).1, if_pos (eS.mp c94).2], gR, gX, gF⟩

set_option maxHeartbeats 400000 in
set_option maxRecDepth 100000 in
theorem t_X8_roots {n : Nat} {hp : mHp} {S : TS} {ia tm : Int32} (h : mRep hp S ia tm) (hX : mScX hp) (hC : okC S.1) (hTU : TUK) (hRT : RTK) {b w : Int32} : mC D_X8_roots [.ref 67, .int b, .int w] n hp (qM hp S ia tm (sRoots S b (S.1 10) w)) := by
  refine m_enter rfl rfl (Nat.le_of_ble_eq_true rfl) (fun K hF => ?_)
  show mW K _ 0 0 _ _ 0 [.ref 67, .int b, .int w] []
  have hR := h
  obtain ⟨ri, ev, le, ch, ls, rm, sm, ra, fa, C, PA, h1, h2, h3, h4, h5, h6⟩ := h
  refine m_aload_n dX8_roots_0 rfl ?_
  refine m_iload_n dX8_roots_1 rfl ?_
  refine m_aload_n dX8_roots_2 rfl ?_
  refine m_getfield dX8_roots_3 fl_X8_7 (by first | assumption | rfl) (by first | assumption | rfl) ?_
  show mW _ _ _ _ _ _ _ _ (.ref _ :: _)
  refine m_bipush (v := 10) dX8_roots_6 (by decide) ?_
  refine m_iaload (k := 10) dX8_roots_8 (by first | assumption | rfl) ⟨by decide, by decide⟩ ?_
  rw [h5 10 (by decide)]
  refine m_iload_n dX8_roots_9 rfl ?_
  refine m_invV dX8_roots_10 lk_X8_170 ar_X8_at (ci := 8) rfl rfl (by first | assumption | rfl) (t_X8_at hR hX hC hTU hRT) rfl (Nat.le_of_ble_eq_true rfl) (by decide) (by decide) (by decide) (by decide) (fun v9 hp' q => ?_)
  obtain ⟨rfl, gR, gX, gF⟩ := q
  show mW K _ 0 0 n hp' 13 [_, _, _] [.int _]
  exact m_ireturn hF dX8_roots_13 rfl rfl rfl ⟨rfl, gR, gX, gF⟩

