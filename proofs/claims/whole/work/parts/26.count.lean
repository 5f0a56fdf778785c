/-! ===== LoopJudge: count, drift ===== -/
theorem tabNe {x v : Int32} {z : Int} (hv : v.toInt = z) (h : ¬ x = v) : x.toInt ≠ z := fun e => h (Int32.toInt_inj.mp (e.trans hv.symm))
theorem m_tabCase {K : mK} {M : MD} {cs sl n : Nat} {hp : mHp} {pc : Nat} {lv st : List Value} {dflt lo hi : Int} {offs : Array Int} {len : Nat} {x : Int32} (v : Int32) {o : Int} {t : Nat} (hd : decode (dC M) pc = .ok (.tableswitch dflt lo hi offs, len)) (h1 : ¬ v.toInt < lo) (h2 : ¬ hi < v.toInt) (ho : offs[(v.toInt - lo).toNat]? = some o) (ht : (pc : Int) + o = (t : Int)) (kt : x = v → mW K M cs sl n hp t lv st) (kf : ¬ x = v → mW K M cs sl n hp pc lv (.int x :: st)) : mW K M cs sl n hp pc lv (.int x :: st) := by
  by_cases e : x = v
  · have := kt e
    subst e
    exact m_tabIn hd h1 h2 ho ht this
  · exact kf e
abbrev orN (d : Int32) : Int32 := if d = -1 then -4 else d
theorem deg5_eq {p q : Nat → Int64} (h : ∀ t, t < 5 → p t = q t) : deg5 p = deg5 q := by
  unfold deg5
  rw [h 0 (by decide), h 1 (by decide), h 2 (by decide), h 3 (by decide), h 4 (by decide)]
theorem degI_eq {P c : Nat → Int32} {o : Nat} (h : ∀ t, t < 10 → P t = c t) (ho : o ≤ 5) : degI P o = degI c o := by
  unfold degI
  simp only [h _ (show o + 4 < 10 by omega), h _ (show o + 3 < 10 by omega), h _ (show o + 2 < 10 by omega), h _ (show o + 1 < 10 by omega), h _ (show o + 0 < 10 by omega)]
theorem loopI_eq {P c : Nat → Int32} {v : Int32} {t : Nat} (h : ∀ t, t < 10 → P t = c t) (ht : t < 5) : loopI P v t = loopI c v t := by
  unfold loopI
  rw [h t (by omega), h (5 + t) (by omega)]
def sCount (S : TS) (x : Int32) : Int32 := if x = 0 then S.1 10 + 800 else if x = 1 then orN (degI S.1 0) else if x = 2 then orN (degI S.1 5) else if x = 3 then orN (deg5 (loopI S.1 (S.1 10))) else if x = 4 then nI S.2.1 else -1
def cPol (hp : mHp) : Prop := ∃ L, hp 66 = eL 5 L
set_option maxHeartbeats 4000000 in
set_option maxRecDepth 100000 in
theorem t_X7_count {n : Nat} {hp : mHp} {S : TS} {kf : Int32} (h0 : cTop hp kf) (hS : cTold hp S) (hP : cPol hp) {x : Int32} : mC D_X7_count [.ref 0, .int x] n hp (fun r hp' => r = some (.int (sCount S x)) ∧ offR 66 66 hp hp' ∧ cPol hp') := by
  refine m_enter rfl rfl (Nat.le_of_ble_eq_true rfl) (fun K hF => ?_)
  show mW K _ 0 0 _ _ 0 [.ref 0, .int x] []
  have a0 : hp 0 = eO 7 (oTop kf) := h0
  obtain ⟨⟨P, g, d, p1, p2, p3⟩, hH⟩ := hS
  obtain ⟨v1, v2, v3⟩ := vec_set p3
  have hS1 : cSet hp 1 S.1 := ⟨P, g, d, p1, p2, p3⟩
  obtain ⟨w0, G0, D0, PP0, k1, k2, k3, -⟩ := id hH
  obtain ⟨L, hL⟩ := hP
  refine m_iload_n dX7_count_0 rfl ?_
  refine m_tabCase (v := 0) (t := 36) dX7_count_1 (by decide) (by decide) rfl (by decide) (fun w1_0 => ?_) (fun w1_0 => ?_)
  · refine m_aload_n dX7_count_36 rfl ?_
    refine m_getfield dX7_count_37 fl_X7_12 (by first | assumption | rfl) (by first | assumption | rfl) ?_
    show mW _ _ _ _ _ _ _ _ (.ref _ :: _)
    refine m_getfield dX7_count_40 fl_X7_93 (by first | assumption | rfl) (by first | assumption | rfl) ?_
    show mW _ _ _ _ _ _ _ _ (.int _ :: _)
    refine m_sipush (v := 800) dX7_count_43 (by decide) ?_
    refine m_iadd dX7_count_46 ?_
    exact m_ireturn hF dX7_count_47 rfl rfl rfl ⟨by unfold sCount; rw [if_pos w1_0, ← v2], offR.rf, L, hL⟩
  refine m_tabCase (v := 1) (t := 48) dX7_count_1 (by decide) (by decide) rfl (by decide) (fun w1_1 => ?_) (fun w1_1 => ?_)
  · refine m_aload_n dX7_count_48 rfl ?_
    refine m_getfield dX7_count_49 fl_X7_12 (by first | assumption | rfl) (by first | assumption | rfl) ?_
    show mW _ _ _ _ _ _ _ _ (.ref _ :: _)
    refine m_iconst (v := 0) dX7_count_52 (by decide) ?_
    refine m_invV_I dX7_count_53 lk_X7_97 ar_X3_degreeTold (ci := 3) rfl rfl (by first | assumption | rfl) (t_X3_degreeTold0 p1 p2) rfl (Nat.le_of_ble_eq_true rfl) (by decide) (by decide) (by decide) (by decide) rfl rfl ?_
    try rw [va_uu]
    refine m_invS_I dX7_count_56 lk_X7_101 ar_X7_orNone (t_X7_orNone) rfl (Nat.le_of_ble_eq_true rfl) (by decide) (by decide) (by decide) (by decide) rfl rfl ?_
    try rw [va_uu]
    exact m_ireturn hF dX7_count_59 rfl rfl rfl ⟨by unfold sCount; rw [if_neg w1_0, if_pos w1_1, ← degI_eq v1 (by decide)], offR.rf, L, hL⟩
  refine m_tabCase (v := 2) (t := 60) dX7_count_1 (by decide) (by decide) rfl (by decide) (fun w1_2 => ?_) (fun w1_2 => ?_)
  · refine m_aload_n dX7_count_60 rfl ?_
    refine m_getfield dX7_count_61 fl_X7_12 (by first | assumption | rfl) (by first | assumption | rfl) ?_
    show mW _ _ _ _ _ _ _ _ (.ref _ :: _)
    refine m_iconst (v := 1) dX7_count_64 (by decide) ?_
    refine m_invV_I dX7_count_65 lk_X7_97 ar_X3_degreeTold (ci := 3) rfl rfl (by first | assumption | rfl) (t_X3_degreeTold1 p1 p2) rfl (Nat.le_of_ble_eq_true rfl) (by decide) (by decide) (by decide) (by decide) rfl rfl ?_
    try rw [va_uu]
    refine m_invS_I dX7_count_68 lk_X7_101 ar_X7_orNone (t_X7_orNone) rfl (Nat.le_of_ble_eq_true rfl) (by decide) (by decide) (by decide) (by decide) rfl rfl ?_
    try rw [va_uu]
    exact m_ireturn hF dX7_count_71 rfl rfl rfl ⟨by unfold sCount; rw [if_neg w1_0, if_neg w1_1, if_pos w1_2, ← degI_eq v1 (by decide)], offR.rf, L, hL⟩
  refine m_tabCase (v := 3) (t := 72) dX7_count_1 (by decide) (by decide) rfl (by decide) (fun w1_3 => ?_) (fun w1_3 => ?_)
  · refine m_aload_n dX7_count_72 rfl ?_
    refine m_getfield dX7_count_73 fl_X7_12 (by first | assumption | rfl) (by first | assumption | rfl) ?_
    show mW _ _ _ _ _ _ _ _ (.ref _ :: _)
    refine m_aload_n dX7_count_76 rfl ?_
    refine m_getfield dX7_count_77 fl_X7_69 (by first | assumption | rfl) (by first | assumption | rfl) ?_
    show mW _ _ _ _ _ _ _ _ (.ref _ :: _)
    refine m_aload_n dX7_count_80 rfl ?_
    refine m_getfield dX7_count_81 fl_X7_12 (by first | assumption | rfl) (by first | assumption | rfl) ?_
    show mW _ _ _ _ _ _ _ _ (.ref _ :: _)
    refine m_getfield dX7_count_84 fl_X7_93 (by first | assumption | rfl) (by first | assumption | rfl) ?_
    show mW _ _ _ _ _ _ _ _ (.int _ :: _)
    refine m_invV_V dX7_count_87 lk_X7_104 ar_X3_fillLoop (ci := 3) rfl rfl (by first | assumption | rfl) (t_X3_fillLoop p1 p2 hL) rfl (Nat.le_of_ble_eq_true rfl) (by decide) (by decide) (by decide) (by decide) rfl rfl ?_
    try rw [va_uu]
    refine m_aload_n dX7_count_90 rfl ?_
    refine m_getfield dX7_count_91 fl_X7_69 (by first | assumption | rfl) (by first | assumption | rfl) ?_
    show mW _ _ _ _ _ _ _ _ (.ref _ :: _)
    refine m_invS_I dX7_count_94 lk_X7_108 ar_X7_degreeOf (t_X7_degreeOf (va_up_self _ _ _)) rfl (Nat.le_of_ble_eq_true rfl) (by decide) (by decide) (by decide) (by decide) rfl rfl ?_
    try rw [va_uu]
    refine m_invS_I dX7_count_97 lk_X7_101 ar_X7_orNone (t_X7_orNone) rfl (Nat.le_of_ble_eq_true rfl) (by decide) (by decide) (by decide) (by decide) rfl rfl ?_
    try rw [va_uu]
    exact m_ireturn hF dX7_count_100 rfl rfl rfl ⟨by unfold sCount; rw [if_neg w1_0, if_neg w1_1, if_neg w1_2, if_pos w1_3, ← v2, deg5_eq (fun t ht => (fill5_at ht).trans (loopI_eq v1 ht))], fun q hq => va_up_ne _ _ (by omega), _, va_up_self _ _ _⟩
  refine m_tabCase (v := 4) (t := 101) dX7_count_1 (by decide) (by decide) rfl (by decide) (fun w1_4 => ?_) (fun w1_4 => ?_)
  · refine m_aload_n dX7_count_101 rfl ?_
    refine m_getfield dX7_count_102 fl_X7_22 (by first | assumption | rfl) (by first | assumption | rfl) ?_
    show mW _ _ _ _ _ _ _ _ (.ref _ :: _)
    refine m_getfield dX7_count_105 fl_X7_112 (by first | assumption | rfl) (by first | assumption | rfl) ?_
    show mW _ _ _ _ _ _ _ _ (.int _ :: _)
    exact m_ireturn hF dX7_count_108 rfl rfl rfl ⟨by unfold sCount; rw [if_neg w1_0, if_neg w1_1, if_neg w1_2, if_neg w1_3, if_pos w1_4], offR.rf, L, hL⟩
  refine m_tabOut (t := 109) dX7_count_1 (by have q0 := tabNe (z := 0) (by decide) w1_0; have q1 := tabNe (z := 1) (by decide) w1_1; have q2 := tabNe (z := 2) (by decide) w1_2; have q3 := tabNe (z := 3) (by decide) w1_3; have q4 := tabNe (z := 4) (by decide) w1_4; omega) (by decide) ?_
  refine m_iconst (v := -1) dX7_count_109 (by decide) ?_
  exact m_ireturn hF dX7_count_110 rfl rfl rfl ⟨by unfold sCount; rw [if_neg w1_0, if_neg w1_1, if_neg w1_2, if_neg w1_3, if_neg w1_4], offR.rf, L, hL⟩

def drwN (S : TS) : Nat := drawN (S.1 11).toInt.toNat
def stepT (S : TS) : TS := (va_up (va_up S.1 11 (nI (drwN S))) (drawAt (drwN S)) (drawV (drwN S)), pushK S.2.1, pushH S.1 S.2.2)
def iterT : Nat → TS → TS
  | 0, S => S
  | m + 1, S => iterT m (stepT S)
theorem nI_of0 {x : Int32} (h : 0 ≤ x.toInt) : x = nI x.toInt.toNat ∧ x.toInt.toNat < 2 ^ 31 := by
  have b := Int32.toInt_lt x
  refine ⟨?_, by omega⟩
  apply Int32.toInt_inj.mp
  rw [nI_toInt (by omega)]
  omega
theorem stepT_ok (S : TS) : 0 ≤ ((stepT S).1 11).toInt := by
  have h := drawAt_lt (drwN S)
  have e : (stepT S).1 11 = nI (drwN S) := (va_up_ne _ _ (by omega)).trans (va_up_self _ _ _)
  rw [e, nI_toInt (show drwN S < 2 ^ 31 from drawN_lt _)]
  omega
def sDrift (S : TS) (x : Int32) : Int32 × TS := if x < 1 then (-1, S) else if x ≤ 40 then (orN (degI (iterT x.toInt.toNat S).1 0), iterT x.toInt.toNat S) else (-1, S)
set_option maxHeartbeats 4000000 in
set_option maxRecDepth 100000 in
theorem l_X7_drift {n N : Nat} {hp0 : mHp} {kf : Int32} {T : TS} (hN : N ≤ 40) {K : mK} (hF : mFin K D_X7_drift n (fun r hp' => r = some (.int (orN (degI T.1 0))) ∧ cTold hp' T ∧ offR 1 16 hp0 hp')) : ∀ (m i : Nat) (hp : mHp) (S : TS), i + m = N → cTop hp kf → cTold hp S → 0 ≤ (S.1 11).toInt → iterT m S = T → offR 1 16 hp0 hp → mW K D_X7_drift 0 0 n hp 15 [.ref 0, .int (nI N), .int (nI i)] [] := by
  intro m
  induction m using Nat.strongRecOn with
  | ind m ih9 =>
    intro i hp S him h0 hS h11 hv ho
    have hS0 := hS
    have a0 : hp 0 = eO 7 (oTop kf) := h0
    obtain ⟨⟨P, g, d, p1, p2, p3⟩, hH⟩ := hS
    obtain ⟨v1, v2, v3⟩ := vec_set p3
    have hS1 : cSet hp 1 S.1 := ⟨P, g, d, p1, p2, p3⟩
    obtain ⟨w0, G0, D0, PP0, k1, k2, k3, -⟩ := id hH
    obtain ⟨hdn, hlt⟩ := nI_of0 h11
    refine m_iload_n dX7_drift_15 rfl ?_
    refine m_iload_n dX7_drift_16 rfl ?_
    refine m_icmp_ge (t := 44) dX7_drift_17 (by decide) (fun cc => ?_) (fun cc => ?_)
    · have hm : m = 0 := by have := nI_cmp' (by omega) (by omega) cc; omega
      subst hm
      refine m_aload_n dX7_drift_44 rfl ?_
      refine m_getfield dX7_drift_45 fl_X7_12 (by first | assumption | rfl) (by first | assumption | rfl) ?_
      show mW _ _ _ _ _ _ _ _ (.ref _ :: _)
      refine m_iconst (v := 0) dX7_drift_48 (by decide) ?_
      refine m_invV_I dX7_drift_49 lk_X7_97 ar_X3_degreeTold (ci := 3) rfl rfl (by first | assumption | rfl) (t_X3_degreeTold0 p1 p2) rfl (Nat.le_of_ble_eq_true rfl) (by decide) (by decide) (by decide) (by decide) rfl rfl ?_
      try rw [va_uu]
      refine m_invS_I dX7_drift_52 lk_X7_101 ar_X7_orNone (t_X7_orNone) rfl (Nat.le_of_ble_eq_true rfl) (by decide) (by decide) (by decide) (by decide) rfl rfl ?_
      try rw [va_uu]
      exact m_ireturn hF dX7_drift_55 rfl rfl rfl ⟨by rw [← hv, degI_eq v1 (by decide)]; rfl, by rw [← hv]; exact hS0, ho⟩
    obtain ⟨m, rfl⟩ : ∃ m', m = m' + 1 := ⟨m - 1, by have := nI_cmp (by omega) (by omega) cc; omega⟩
    refine m_aload_n dX7_drift_20 rfl ?_
    refine m_getfield dX7_drift_21 fl_X7_22 (by first | assumption | rfl) (by first | assumption | rfl) ?_
    show mW _ _ _ _ _ _ _ _ (.ref _ :: _)
    refine m_aload_n dX7_drift_24 rfl ?_
    refine m_getfield dX7_drift_25 fl_X7_12 (by first | assumption | rfl) (by first | assumption | rfl) ?_
    show mW _ _ _ _ _ _ _ _ (.ref _ :: _)
    refine m_invV dX7_drift_28 lk_X7_85 ar_X2_keep (ci := 2) rfl rfl (by first | assumption | rfl) (t_keep (s := 1) (a := 3) hH hS1 (by decide)) rfl (Nat.le_of_ble_eq_true rfl) (by decide) (by decide) (by decide) (by decide) (fun v hp' q => ?_)
    obtain ⟨rfl, gH, gO⟩ := q
    have g0 : hp' 0 = eO 7 (oTop kf) := (gO 0 (by decide)).trans a0
    have g1 : hp' 1 = eO 3 (oSet 2 g (nI (S.1 11).toInt.toNat)) := (gO 1 (by decide)).trans (p1.trans (by rw [← hdn, ← v3]))
    have g2 : hp' 2 = eI 10 P := (gO 2 (by decide)).trans p2
    show mW K _ 0 0 n hp' 31 [.ref 0, .int (nI N), .int (nI i)] []
    refine m_aload_n dX7_drift_31 rfl ?_
    refine m_getfield dX7_drift_32 fl_X7_12 (by first | assumption | rfl) (by first | assumption | rfl) ?_
    show mW _ _ _ _ _ _ _ _ (.ref _ :: _)
    refine m_invV_V dX7_drift_35 lk_X7_203 ar_X3_drawOnce (ci := 3) rfl rfl (by first | assumption | rfl) (t_X3_drawOnce g1 g2 hlt) rfl (Nat.le_of_ble_eq_true rfl) (by decide) (by decide) (by decide) (by decide) rfl rfl ?_
    try rw [va_uu]
    have hst : cTold (va_up (va_up hp' 1 (eO 3 (oSet 2 g (nI (drwN S))))) 2 (eI 10 (va_up P (drawAt (drwN S)) (drawV (drwN S))))) (stepT S) := ⟨⟨_, g, nI (drwN S), va_up_ne _ _ (by decide), va_up_self _ _ _, eq12_up (eq12_upD p3) (drawAt_lt _)⟩, gH.of (fun q r1 r2 => by rw [va_up_ne _ _ (by omega), va_up_ne _ _ (by omega)])⟩
    refine m_iinc (v := nI (i + 1)) dX7_drift_38 rfl (nI_1 i) (by decide) ?_
    show mW _ _ _ _ _ _ 41 [_, _, _] _
    refine m_goto (t := 15) dX7_drift_41 (by decide) ?_
    exact ih9 m (by omega) (i + 1) _ (stepT S) (by omega) g0 hst (stepT_ok S) hv (fun q hq => by rw [va_up_ne _ _ (by omega), va_up_ne _ _ (by omega), gO q (by omega)]; exact ho q hq)

set_option maxHeartbeats 4000000 in
set_option maxRecDepth 100000 in
theorem t_X7_drift {n : Nat} {hp : mHp} {S : TS} {kf : Int32} (h0 : cTop hp kf) (hS : cTold hp S) (h11 : 0 ≤ (S.1 11).toInt) {x : Int32} : mC D_X7_drift [.ref 0, .int x] n hp (fun r hp' => r = some (.int (sDrift S x).1) ∧ cTold hp' (sDrift S x).2 ∧ offR 1 16 hp hp') := by
  refine m_enter rfl rfl (Nat.le_of_ble_eq_true rfl) (fun K hF => ?_)
  show mW K _ 0 0 _ _ 0 [.ref 0, .int x, .retAddr 0] []
  refine m_iload_n dX7_drift_0 rfl ?_
  refine m_iconst (v := 1) dX7_drift_1 (by decide) ?_
  refine m_icmp_lt (t := 11) dX7_drift_2 (by decide) (fun c2 => ?_) (fun c2 => ?_)
  · refine m_iconst (v := -1) dX7_drift_11 (by decide) ?_
    exact m_ireturn hF dX7_drift_12 rfl rfl rfl ⟨by unfold sDrift; rw [if_pos c2], by unfold sDrift; rw [if_pos c2]; exact hS, offR.rf⟩
  refine m_iload_n dX7_drift_5 rfl ?_
  refine m_bipush (v := 40) dX7_drift_6 (by decide) ?_
  refine m_icmp_le (t := 13) dX7_drift_8 (by decide) (fun c8 => ?_) (fun c8 => ?_)
  rotate_left
  · refine m_iconst (v := -1) dX7_drift_11 (by decide) ?_
    exact m_ireturn hF dX7_drift_12 rfl rfl rfl ⟨by unfold sDrift; rw [if_neg c2, if_neg c8], by unfold sDrift; rw [if_neg c2, if_neg c8]; exact hS, offR.rf⟩
  refine m_iconst (v := 0) dX7_drift_13 (by decide) ?_
  refine m_istore_n dX7_drift_14 (by decide) ?_
  show mW _ _ _ _ _ _ 15 [_, _, _] _
  have hx : 1 ≤ x.toInt ∧ x.toInt ≤ 40 := by
    rw [Int32.lt_iff_toInt_lt, show (1 : Int32).toInt = 1 by decide] at c2
    rw [Int32.le_iff_toInt_le, show (40 : Int32).toInt = 40 by decide] at c8
    omega
  obtain ⟨e1, -⟩ := nI_of0 (x := x) (by omega)
  have hq := l_X7_drift (kf := kf) (hp0 := hp) (T := iterT x.toInt.toNat S) (N := x.toInt.toNat) (by omega) (K := K) (n := n) (by
    unfold sDrift at hF
    rw [if_neg c2, if_pos c8] at hF
    exact hF) x.toInt.toNat 0 hp S (by omega) h0 hS h11 rfl offR.rf
  rw [← e1] at hq
  exact hq

