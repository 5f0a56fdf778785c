/-! ===== LoopJudge: the tape ===== -/
def cTape (hp : mHp) (z : Nat) (LT : Nat → Int32) : Prop := z ≤ 60 ∧ ∃ (tq pl fg : Int32) (pw : Nat) (P : Nat → Int32), hp 33 = eO 6 (oTape tq (nI z) pl fg (nI pw)) ∧ hp 34 = eB 60 LT ∧ hp 35 = eI 10 P
theorem cTape.of {hp hp' : mHp} {z : Nat} {LT : Nat → Int32} (h : cTape hp z LT) (e : ∀ q, 33 ≤ q → q ≤ 35 → hp' q = hp q) : cTape hp' z LT := by
  obtain ⟨hz, tq, pl, fg, pw, P, h1, h2, h3⟩ := h
  exact ⟨hz, tq, pl, fg, pw, P, (e 33 (by decide) (by decide)).trans h1, (e 34 (by decide) (by decide)).trans h2, (e 35 (by decide) (by decide)).trans h3⟩
abbrev byT (x : Int32) : Int32 := vp_nar .byte x.toInt8.toInt32
def sType (z : Nat) (LT : Nat → Int32) (x : Int32) : Int32 × Nat × (Nat → Int32) := if x < 32 then (-1, z, LT) else if x ≤ 126 then (if z < 60 then (nI (z + 1), z + 1, va_up LT z (byT x)) else (-3, z, LT)) else (-1, z, LT)
abbrev RdT : Type := Int32 × Int32 × (Nat → Int32) × Int32 × Nat × Nat
def rdN (R : RdT) : Nat := if R.2.1 = 0 then 5 else 10
def rdC (c : Nat → Int32) (R : RdT) : Nat → Int32 := fun t => if t < rdN R then R.2.2.1 t else c t
def sRead (S : TS) (R : RdT) : Int32 × TS := if R.1 = -1 then (orN (degI (rdC S.1 R) 0), rdC S.1 R, pushK S.2.1, pushH S.1 S.2.2) else (-20 - R.1, S)
theorem nI_60 {z : Nat} (h : z ≤ 60) : nI z < 60 ↔ z < 60 := by
  rw [Int32.lt_iff_toInt_lt, nI_toInt (by omega), show (60 : Int32).toInt = 60 by decide]
  omega
theorem eq12_cp {P Q : Nat → Int32} {g d : Int32} {c : Nat → Int32} {m : Nat} (h : eq12 (vec P g d) c) (hm : m ≤ 10) : eq12 (vec (va_cpy Q P 0 0 m) g d) (fun t => if t < m then Q t else c t) := by
  obtain ⟨v1, v2, v3⟩ := vec_set h
  refine vec_of (fun t ht => ?_) ?_ ?_
  · unfold va_cpy
    by_cases e : t < m
    · simp [e]
    · simp [e, v1 t ht]
  · show g = if 10 < m then Q 10 else c 10
    rw [if_neg (by omega)]
    exact v2
  · show d = if 11 < m then Q 11 else c 11
    rw [if_neg (by omega)]
    exact v3
set_option maxHeartbeats 4000000 in
set_option maxRecDepth 100000 in
theorem t_X7_type {n : Nat} {hp : mHp} {z : Nat} {LT : Nat → Int32} {kf : Int32} (h0 : cTop hp kf) (hT : cTape hp z LT) {x : Int32} : mC D_X7_type [.ref 0, .int x] n hp (fun r hp' => r = some (.int (sType z LT x).1) ∧ cTape hp' (sType z LT x).2.1 (sType z LT x).2.2 ∧ offR 33 35 hp hp') := by
  refine m_enter rfl rfl (Nat.le_of_ble_eq_true rfl) (fun K hF => ?_)
  show mW K _ 0 0 _ _ 0 [.ref 0, .int x] []
  have a0 : hp 0 = eO 7 (oTop kf) := h0
  have hT0 := hT
  obtain ⟨hz, tq, pl, fg, pw, P, p1, p2, p3⟩ := hT
  refine m_iload_n dX7_type_0 rfl ?_
  refine m_bipush (v := 32) dX7_type_1 (by decide) ?_
  refine m_icmp_lt (t := 12) dX7_type_3 (by decide) (fun c3 => ?_) (fun c3 => ?_)
  · refine m_iconst (v := -1) dX7_type_12 (by decide) ?_
    exact m_ireturn hF dX7_type_13 rfl rfl rfl ⟨by unfold sType; rw [if_pos c3], by unfold sType; rw [if_pos c3]; exact hT0, offR.rf⟩
  refine m_iload_n dX7_type_6 rfl ?_
  refine m_bipush (v := 126) dX7_type_7 (by decide) ?_
  refine m_icmp_le (t := 14) dX7_type_9 (by decide) (fun c9 => ?_) (fun c9 => ?_)
  rotate_left
  · refine m_iconst (v := -1) dX7_type_12 (by decide) ?_
    exact m_ireturn hF dX7_type_13 rfl rfl rfl ⟨by unfold sType; rw [if_neg c3, if_neg c9], by unfold sType; rw [if_neg c3, if_neg c9]; exact hT0, offR.rf⟩
  refine m_aload_n dX7_type_14 rfl ?_
  refine m_getfield dX7_type_15 fl_X7_39 (by first | assumption | rfl) (by first | assumption | rfl) ?_
  show mW _ _ _ _ _ _ _ _ (.ref _ :: _)
  refine m_iload_n dX7_type_18 rfl ?_
  refine m_invV_I dX7_type_19 lk_X7_185 ar_X6_append (ci := 6) rfl rfl (by first | assumption | rfl) (t_X6_append p1 p2 hz) rfl (Nat.le_of_ble_eq_true rfl) (by decide) (by decide) (by decide) (by decide) rfl rfl ?_
  try rw [va_uu]
  by_cases e : nI z < 60
  · rw [if_pos e, if_pos e]
    refine m_if_eq (t := 35) dX7_type_22 (by decide) (fun q => absurd q (by decide)) (fun _ => ?_)
    refine m_aload_n dX7_type_25 rfl ?_
    refine m_getfield dX7_type_26 fl_X7_39 (by first | assumption | rfl) (by first | assumption | rfl) ?_
    show mW _ _ _ _ _ _ _ _ (.ref _ :: _)
    refine m_getfield dX7_type_29 fl_X7_188 (by first | assumption | rfl) (by first | assumption | rfl) ?_
    show mW _ _ _ _ _ _ _ _ (.int _ :: _)
    refine m_goto (t := 37) dX7_type_32 (by decide) ?_
    exact m_ireturn hF dX7_type_37 rfl rfl rfl ⟨by unfold sType; rw [if_neg c3, if_pos c9, if_pos ((nI_60 hz).mp e)], by unfold sType; rw [if_neg c3, if_pos c9, if_pos ((nI_60 hz).mp e)]; exact ⟨by have := (nI_60 hz).mp e; show z + 1 ≤ 60; omega, tq, pl, fg, pw, P, rfl, rfl, p3⟩, fun q hq => by rw [va_up_ne _ _ (by omega), va_up_ne _ _ (by omega)]⟩
  · rw [if_neg e, if_neg e]
    refine m_if_eq (t := 35) dX7_type_22 (by decide) (fun _ => ?_) (fun q => absurd (by decide) q)
    refine m_bipush (v := -3) dX7_type_35 (by decide) ?_
    exact m_ireturn hF dX7_type_37 rfl rfl rfl ⟨by unfold sType; rw [if_neg c3, if_pos c9, if_neg (fun y => e ((nI_60 hz).mpr y))], by unfold sType; rw [if_neg c3, if_pos c9, if_neg (fun y => e ((nI_60 hz).mpr y))]; exact hT0, offR.rf⟩

set_option maxHeartbeats 4000000 in
set_option maxRecDepth 100000 in
theorem t_X7_read {n : Nat} {hp : mHp} {S : TS} {kf : Int32} (h0 : cTop hp kf) (hS : cTold hp S) {z : Nat} {LT : Nat → Int32} (hT : cTape hp z LT) : mC D_X7_read [.ref 0] n hp (fun r hp' => ∃ (fg : Int32) (pw : Nat) (P : Nat → Int32), r = some (.int (sRead S (cText LT z fg pw (fillTo P 0 10))).1) ∧ cTold hp' (sRead S (cText LT z fg pw (fillTo P 0 10))).2 ∧ cTape hp' 0 LT ∧ ∀ q, (q < 1 ∨ 16 < q ∧ q < 33 ∨ 35 < q) → hp' q = hp q) := by
  refine m_enter rfl rfl (Nat.le_of_ble_eq_true rfl) (fun K hF => ?_)
  show mW K _ 0 0 _ _ 0 [.ref 0, .retAddr 0] []
  have a0 : hp 0 = eO 7 (oTop kf) := h0
  obtain ⟨⟨P, g, d, p1, p2, p3⟩, hH⟩ := hS
  obtain ⟨v1, v2, v3⟩ := vec_set p3
  have hS1 : cSet hp 1 S.1 := ⟨P, g, d, p1, p2, p3⟩
  obtain ⟨w0, G0, D0, PP0, k1, k2, k3, -⟩ := id hH
  obtain ⟨hz, tq, pl, fg, pw, PT, t1, t2, t3⟩ := hT
  refine m_aload_n dX7_read_0 rfl ?_
  refine m_getfield dX7_read_1 fl_X7_39 (by first | assumption | rfl) (by first | assumption | rfl) ?_
  show mW _ _ _ _ _ _ _ _ (.ref _ :: _)
  refine m_invV_I dX7_read_4 lk_X7_189 ar_X6_readText (ci := 6) rfl rfl (by first | assumption | rfl) (t_X6_readText t1 t2 t3 hz) rfl (Nat.le_of_ble_eq_true rfl) (by decide) (by decide) (by decide) (by decide) rfl rfl ?_
  try rw [va_uu]
  show mW K _ 0 0 n _ 7 [_, _] [_]
  refine m_istore_n dX7_read_7 (by decide) ?_
  show mW _ _ _ _ _ _ 8 [_, _] _
  refine m_aload_n dX7_read_8 rfl ?_
  refine m_getfield dX7_read_9 fl_X7_39 (by first | assumption | rfl) (by first | assumption | rfl) ?_
  show mW _ _ _ _ _ _ _ _ (.ref _ :: _)
  refine m_iconst (v := 0) dX7_read_12 (by decide) ?_
  refine m_putfield dX7_read_13 fl_X7_188 (by first | assumption | rfl) (fun _ => rfl) (fun _ => rfl) ?_
  try rw [va_uu]
  rw [oTape_3]
  refine m_iload_n dX7_read_16 rfl ?_
  refine m_iconst (v := -1) dX7_read_17 (by decide) ?_
  refine m_icmp_eq (t := 26) dX7_read_18 (by decide) (fun c18 => ?_) (fun c18 => ?_)
  rotate_left
  · refine m_bipush (v := -20) dX7_read_21 (by decide) ?_
    refine m_iload_n dX7_read_23 rfl ?_
    refine m_isub dX7_read_24 ?_
    exact m_ireturn hF dX7_read_25 rfl rfl rfl ⟨fg, pw, PT, by unfold sRead; rw [if_neg c18], by unfold sRead; rw [if_neg c18]; exact ⟨hS1.of (fun q r1 r2 => by rw [va_up_ne _ _ (by omega), va_up_ne _ _ (by omega)]), hH.of (fun q r1 r2 => by rw [va_up_ne _ _ (by omega), va_up_ne _ _ (by omega)])⟩, ⟨by decide, _, _, _, _, _, va_up_self _ _ _, (va_up_ne _ _ (by decide)).trans ((va_up_ne _ _ (by decide)).trans t2), (va_up_ne _ _ (by decide)).trans (va_up_self _ _ _)⟩, fun q hq => by rw [va_up_ne _ _ (by omega), va_up_ne _ _ (by omega)]⟩
  refine m_aload_n dX7_read_26 rfl ?_
  refine m_getfield dX7_read_27 fl_X7_22 (by first | assumption | rfl) (by first | assumption | rfl) ?_
  show mW _ _ _ _ _ _ _ _ (.ref _ :: _)
  refine m_aload_n dX7_read_30 rfl ?_
  refine m_getfield dX7_read_31 fl_X7_12 (by first | assumption | rfl) (by first | assumption | rfl) ?_
  show mW _ _ _ _ _ _ _ _ (.ref _ :: _)
  refine m_invV dX7_read_34 lk_X7_85 ar_X2_keep (ci := 2) rfl rfl (by first | assumption | rfl) (t_keep (s := 1) (a := 3) (hH.of (fun q r1 r2 => by rw [va_up_ne _ _ (by omega), va_up_ne _ _ (by omega)])) (hS1.of (fun q r1 r2 => by rw [va_up_ne _ _ (by omega), va_up_ne _ _ (by omega)])) (by decide)) rfl (Nat.le_of_ble_eq_true rfl) (by decide) (by decide) (by decide) (by decide) (fun v hp' q => ?_)
  obtain ⟨rfl, gH, gO⟩ := q
  have g0 : hp' 0 = eO 7 (oTop kf) := (gO 0 (by decide)).trans ((va_up_ne _ _ (by decide)).trans ((va_up_ne _ _ (by decide)).trans a0))
  have g1 : hp' 1 = eO 3 (oSet 2 g d) := (gO 1 (by decide)).trans ((va_up_ne _ _ (by decide)).trans ((va_up_ne _ _ (by decide)).trans p1))
  have g2 : hp' 2 = eI 10 P := (gO 2 (by decide)).trans ((va_up_ne _ _ (by decide)).trans ((va_up_ne _ _ (by decide)).trans p2))
  have g3 : hp' 33 = _ := (gO 33 (by decide)).trans (va_up_self _ _ _)
  have g5 : hp' 35 = _ := (gO 35 (by decide)).trans ((va_up_ne _ _ (by decide)).trans (va_up_self _ _ _))
  have g4 : hp' 34 = eB 60 LT := (gO 34 (by decide)).trans ((va_up_ne _ _ (by decide)).trans ((va_up_ne _ _ (by decide)).trans t2))
  show mW K _ 0 0 n hp' 37 [.ref 0, .int (cText LT z fg pw (fillTo PT 0 10)).1] []
  refine m_aload_n dX7_read_37 rfl ?_
  refine m_getfield dX7_read_38 fl_X7_39 (by first | assumption | rfl) (by first | assumption | rfl) ?_
  show mW _ _ _ _ _ _ _ _ (.ref _ :: _)
  refine m_getfield dX7_read_41 fl_X7_193 (by first | assumption | rfl) (by first | assumption | rfl) ?_
  show mW _ _ _ _ _ _ _ _ (.ref _ :: _)
  refine m_iconst (v := 0) dX7_read_44 (by decide) ?_
  refine m_aload_n dX7_read_45 rfl ?_
  refine m_getfield dX7_read_46 fl_X7_12 (by first | assumption | rfl) (by first | assumption | rfl) ?_
  show mW _ _ _ _ _ _ _ _ (.ref _ :: _)
  refine m_getfield dX7_read_49 fl_X7_81 (by first | assumption | rfl) (by first | assumption | rfl) ?_
  show mW _ _ _ _ _ _ _ _ (.ref _ :: _)
  refine m_iconst (v := 0) dX7_read_52 (by decide) ?_
  refine m_aload_n dX7_read_53 rfl ?_
  refine m_getfield dX7_read_54 fl_X7_39 (by first | assumption | rfl) (by first | assumption | rfl) ?_
  show mW _ _ _ _ _ _ _ _ (.ref _ :: _)
  refine m_getfield dX7_read_57 fl_X7_194 (by first | assumption | rfl) (by first | assumption | rfl) ?_
  show mW _ _ _ _ _ _ _ _ (.int _ :: _)
  refine m_if_eq (t := 68) dX7_read_60 (by decide) (fun c60 => ?_) (fun c60 => ?_)
  · refine m_iconst (v := 5) dX7_read_68 (by decide) ?_
    refine m_copyI (s0 := 0) (d0 := 0) (k := 5) dX7_read_69 lk_X7_197 (by first | assumption | rfl) (by first | assumption | rfl) (by decide) (by decide) (by decide) (by decide) (by decide) (Nat.le_of_ble_eq_true rfl) (by decide) ?_
    refine m_aload_n dX7_read_72 rfl ?_
    refine m_getfield dX7_read_73 fl_X7_12 (by first | assumption | rfl) (by first | assumption | rfl) ?_
    show mW _ _ _ _ _ _ _ _ (.ref _ :: _)
    refine m_iconst (v := 0) dX7_read_76 (by decide) ?_
    refine m_invV_I dX7_read_77 lk_X7_97 ar_X3_degreeTold (ci := 3) rfl rfl (by first | assumption | rfl) (t_X3_degreeTold0 (q := 2) ((va_up_ne _ _ (by decide)).trans g1) (va_up_self _ _ _)) rfl (Nat.le_of_ble_eq_true rfl) (by decide) (by decide) (by decide) (by decide) rfl rfl ?_
    try rw [va_uu]
    refine m_invS_I dX7_read_80 lk_X7_101 ar_X7_orNone (t_X7_orNone) rfl (Nat.le_of_ble_eq_true rfl) (by decide) (by decide) (by decide) (by decide) rfl rfl ?_
    try rw [va_uu]
    exact m_ireturn hF dX7_read_83 rfl rfl rfl ⟨fg, pw, PT, by unfold sRead; rw [if_pos c18]; rw [degI_eq (c := rdC S.1 (cText LT z fg pw (fillTo PT 0 10))) (vec_set (P := va_cpy (cText LT z fg pw (fillTo PT 0 10)).2.2.1 P 0 0 5) (g := g) (d := d) (by have := eq12_cp (Q := (cText LT z fg pw (fillTo PT 0 10)).2.2.1) (m := 5) p3 (by decide); unfold rdC rdN; rw [if_pos c60]; exact this)).1 (by decide)], by unfold sRead; rw [if_pos c18]; exact ⟨⟨_, g, d, (va_up_ne _ _ (by decide)).trans g1, va_up_self _ _ _, by have := eq12_cp (Q := (cText LT z fg pw (fillTo PT 0 10)).2.2.1) (m := 5) p3 (by decide); unfold rdC rdN; rw [if_pos c60]; exact this⟩, gH.of (fun q r1 r2 => va_up_ne _ _ (by omega))⟩, ⟨by decide, _, _, _, _, _, (va_up_ne _ _ (by decide)).trans g3, (va_up_ne _ _ (by decide)).trans g4, (va_up_ne _ _ (by decide)).trans g5⟩, fun q hq => by rw [va_up_ne _ _ (by omega), gO q (by omega), va_up_ne _ _ (by omega), va_up_ne _ _ (by omega)]⟩
  refine m_bipush (v := 10) dX7_read_63 (by decide) ?_
  refine m_goto (t := 69) dX7_read_65 (by decide) ?_
  refine m_copyI (s0 := 0) (d0 := 0) (k := 10) dX7_read_69 lk_X7_197 (by first | assumption | rfl) (by first | assumption | rfl) (by decide) (by decide) (by decide) (by decide) (by decide) (Nat.le_of_ble_eq_true rfl) (by decide) ?_
  refine m_aload_n dX7_read_72 rfl ?_
  refine m_getfield dX7_read_73 fl_X7_12 (by first | assumption | rfl) (by first | assumption | rfl) ?_
  show mW _ _ _ _ _ _ _ _ (.ref _ :: _)
  refine m_iconst (v := 0) dX7_read_76 (by decide) ?_
  refine m_invV_I dX7_read_77 lk_X7_97 ar_X3_degreeTold (ci := 3) rfl rfl (by first | assumption | rfl) (t_X3_degreeTold0 (q := 2) ((va_up_ne _ _ (by decide)).trans g1) (va_up_self _ _ _)) rfl (Nat.le_of_ble_eq_true rfl) (by decide) (by decide) (by decide) (by decide) rfl rfl ?_
  try rw [va_uu]
  refine m_invS_I dX7_read_80 lk_X7_101 ar_X7_orNone (t_X7_orNone) rfl (Nat.le_of_ble_eq_true rfl) (by decide) (by decide) (by decide) (by decide) rfl rfl ?_
  try rw [va_uu]
  exact m_ireturn hF dX7_read_83 rfl rfl rfl ⟨fg, pw, PT, by unfold sRead; rw [if_pos c18]; rw [degI_eq (c := rdC S.1 (cText LT z fg pw (fillTo PT 0 10))) (vec_set (P := va_cpy (cText LT z fg pw (fillTo PT 0 10)).2.2.1 P 0 0 10) (g := g) (d := d) (by have := eq12_cp (Q := (cText LT z fg pw (fillTo PT 0 10)).2.2.1) (m := 10) p3 (by decide); unfold rdC rdN; rw [if_neg c60]; exact this)).1 (by decide)], by unfold sRead; rw [if_pos c18]; exact ⟨⟨_, g, d, (va_up_ne _ _ (by decide)).trans g1, va_up_self _ _ _, by have := eq12_cp (Q := (cText LT z fg pw (fillTo PT 0 10)).2.2.1) (m := 10) p3 (by decide); unfold rdC rdN; rw [if_neg c60]; exact this⟩, gH.of (fun q r1 r2 => va_up_ne _ _ (by omega))⟩, ⟨by decide, _, _, _, _, _, (va_up_ne _ _ (by decide)).trans g3, (va_up_ne _ _ (by decide)).trans g4, (va_up_ne _ _ (by decide)).trans g5⟩, fun q hq => by rw [va_up_ne _ _ (by omega), gO q (by omega), va_up_ne _ _ (by omega), va_up_ne _ _ (by omega)]⟩

