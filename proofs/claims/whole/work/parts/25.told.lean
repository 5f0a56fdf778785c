/-! ===== LoopJudge: what is told and done ===== -/
/-- what a check of a choice answers -/
abbrev chI (v c : Int32) : Int32 := if v < 0 then 0 else if c ≤ v then 0 else 1
abbrev inC (v : Int32) (C : Nat) : Prop := 0 ≤ v.toInt ∧ v.toInt < C
theorem if01 {p q : Prop} [Decidable p] [Decidable q] : (if p then (0 : Int32) else if q then 0 else 1) = 0 ↔ p ∨ q := by
  by_cases a : p
  · rw [if_pos a]
    exact ⟨fun _ => Or.inl a, fun _ => rfl⟩
  · rw [if_neg a]
    by_cases b : q
    · rw [if_pos b]
      exact ⟨fun _ => Or.inr b, fun _ => rfl⟩
    · rw [if_neg b]
      exact ⟨fun z => absurd z (by decide), fun z => absurd z (by intro y; rcases y with y | y <;> contradiction)⟩
theorem chI_iff {v : Int32} {C : Nat} (hC : C < 2 ^ 31) : chI v (nI C) = 0 ↔ ¬ inC v C := by
  unfold chI inC
  rw [if01, Int32.lt_iff_toInt_lt, Int32.le_iff_toInt_le, nI_toInt hC, show (0 : Int32).toInt = 0 by decide]
  omega
theorem inC_N {v : Int32} {C : Nat} (h : inC v C) : ∃ w : Nat, w < C ∧ v = nI w ∧ v.toInt.toNat = w := by
  refine ⟨v.toInt.toNat, ?_, ?_, rfl⟩
  · have := h.1
    have := h.2
    omega
  · apply Int32.toInt_inj.mp
    have a := h.1
    have b := Int32.toInt_lt v
    rw [nI_toInt (by omega)]
    omega
abbrev ptI (v : Int64) : Int32 := if v < -9 then 0 else if 9 < v then 0 else 1
abbrev in9 (v : Int32) : Prop := -9 ≤ v.toInt ∧ v.toInt ≤ 9
theorem ptI_iff {v : Int32} : ptI v.toInt64 = 0 ↔ ¬ in9 v := by
  unfold ptI in9
  rw [if01, Int64.lt_iff_toInt_lt, Int64.lt_iff_toInt_lt, Int32.toInt_toInt64, show (-9 : Int64).toInt = -9 by decide, show (9 : Int64).toInt = 9 by decide]
  omega
abbrev gnI (v : Int32) : Int32 := if v < -800 then 0 else if 800 < v then 0 else 1
abbrev inG (v : Int32) : Prop := -800 ≤ v.toInt ∧ v.toInt ≤ 800
theorem gnI_iff {v : Int32} : gnI v = 0 ↔ ¬ inG v := by
  unfold gnI inG
  rw [if01, Int32.lt_iff_toInt_lt, Int32.lt_iff_toInt_lt, show (-800 : Int32).toInt = -800 by decide, show (800 : Int32).toInt = 800 by decide]
  omega
/-- the state of what is told: the twelve numbers, how many settings are known, which -/
abbrev TS : Type := (Nat → Int32) × Nat × (Nat → Nat → Int32)
def tIx (a k : Int32) : Nat := 5 * a.toInt.toNat + k.toInt.toNat
def sPart (S : TS) (a k v : Int32) : Int32 × TS := if inC a 2 ∧ inC k 5 ∧ in9 v then (if S.1 (tIx a k) = v then (-2, S) else (S.1 (tIx a k) + 9, va_up S.1 (tIx a k) v, pushK S.2.1, pushH S.1 S.2.2)) else (-1, S)
def sGain (S : TS) (v : Int32) : Int32 × TS := if inG v then (if S.1 10 = v then (-2, S) else (S.1 10 + 800, va_up S.1 10 v, pushK S.2.1, pushH S.1 S.2.2)) else (-1, S)
def sTold (S : TS) (a k : Int32) : Int32 := if inC a 2 ∧ inC k 5 then S.1 (tIx a k) + 9 else -1
def sSeed (S : TS) (v : Int32) : Int32 × TS := if 0 ≤ v then (S.1 11, va_up S.1 11 v, S.2) else (-1, S)
def sUndo (S : TS) : Int32 × TS := if S.2.1 = 0 then (-4, S) else (nI (S.2.1 - 1), S.2.2 0, S.2.1 - 1, fun j => S.2.2 (j + 1))
def cTold (hp : mHp) (S : TS) : Prop := cSet hp 1 S.1 ∧ cHist hp 3 S.2.1 S.2.2
theorem cTold.of {hp hp' : mHp} {S : TS} (h : cTold hp S) (e : ∀ q, 1 ≤ q → q ≤ 16 → hp' q = hp q) : cTold hp' S := ⟨h.1.of (fun q a b => e q a (by omega)), h.2.of (fun q a b => e q (by omega) b)⟩
theorem eq12_up {P : Nat → Int32} {g d x : Int32} {c : Nat → Int32} {i : Nat} (h : eq12 (vec P g d) c) (hi : i < 10) : eq12 (vec (va_up P i x) g d) (va_up c i x) := by
  obtain ⟨v1, v2, v3⟩ := vec_set h
  refine vec_of (fun t ht => ?_) ?_ ?_
  · by_cases e : t = i
    · rw [e, va_up_self, va_up_self]
    · rw [va_up_ne _ _ e, va_up_ne _ _ e]
      exact v1 t ht
  · rw [va_up_ne _ _ (by omega)]
    exact v2
  · rw [va_up_ne _ _ (by omega)]
    exact v3
theorem eq12_upG {P : Nat → Int32} {g d x : Int32} {c : Nat → Int32} (h : eq12 (vec P g d) c) : eq12 (vec P x d) (va_up c 10 x) := by
  obtain ⟨v1, v2, v3⟩ := vec_set h
  refine vec_of (fun t ht => ?_) (va_up_self _ _ _).symm ?_
  · rw [va_up_ne _ _ (by omega)]
    exact v1 t ht
  · rw [va_up_ne _ _ (by omega)]
    exact v3
theorem eq12_upD {P : Nat → Int32} {g d x : Int32} {c : Nat → Int32} (h : eq12 (vec P g d) c) : eq12 (vec P g x) (va_up c 11 x) := by
  obtain ⟨v1, v2, v3⟩ := vec_set h
  refine vec_of (fun t ht => ?_) ?_ (va_up_self _ _ _).symm
  · rw [va_up_ne _ _ (by omega)]
    exact v1 t ht
  · rw [va_up_ne _ _ (by omega)]
    exact v2
def cKept (hp : mHp) (S : TS) : Prop := cSet hp 17 S.1 ∧ cHist hp 19 S.2.1 S.2.2
theorem cKept.of {hp hp' : mHp} {S : TS} (h : cKept hp S) (e : ∀ q, 17 ≤ q → q ≤ 32 → hp' q = hp q) : cKept hp' S := ⟨h.1.of (fun q a b => e q a (by omega)), h.2.of (fun q a b => e q (by omega) b)⟩
/-- nothing but cells a .. b has changed -/
def offR (a b : Nat) (hp hp' : mHp) : Prop := ∀ q, (q < a ∨ b < q) → hp' q = hp q
theorem offR.rf {a b : Nat} {hp : mHp} : offR a b hp hp := fun _ _ => rfl
set_option maxHeartbeats 4000000 in
set_option maxRecDepth 100000 in
theorem t_X7_part {n : Nat} {hp : mHp} {S : TS} {kf : Int32} (h0 : cTop hp kf) (hS : cTold hp S) {a k x : Int32} : mC D_X7_part [.ref 0, .int a, .int k, .int x] n hp (fun r hp' => r = some (.int (sPart S a k x).1) ∧ cTold hp' (sPart S a k x).2 ∧ offR 1 16 hp hp') := by
  refine m_enter rfl rfl (Nat.le_of_ble_eq_true rfl) (fun K hF => ?_)
  show mW K _ 0 0 _ _ 0 [.ref 0, .int a, .int k, .int x, .retAddr 0, .retAddr 0] []
  have a0 : hp 0 = eO 7 (oTop kf) := h0
  obtain ⟨⟨P, g, d, p1, p2, p3⟩, hH⟩ := hS
  obtain ⟨v1, v2, v3⟩ := vec_set p3
  have hS1 : cSet hp 1 S.1 := ⟨P, g, d, p1, p2, p3⟩
  obtain ⟨w0, G0, D0, PP0, k1, k2, k3, -⟩ := id hH
  refine m_iload_n dX7_part_0 rfl ?_
  refine m_iconst (v := 2) dX7_part_1 (by decide) ?_
  refine m_invS_I dX7_part_2 lk_X7_73 ar_X7_isChoice (t_X7_isChoice) rfl (Nat.le_of_ble_eq_true rfl) (by decide) (by decide) (by decide) (by decide) rfl rfl ?_
  try rw [va_uu]
  refine m_if_eq (t := 24) dX7_part_5 (by decide) (fun c5 => ?_) (fun c5 => ?_)
  · refine m_iconst (v := -1) dX7_part_24 (by decide) ?_
    exact m_ireturn hF dX7_part_25 rfl rfl rfl ⟨by unfold sPart; rw [if_neg (by rintro ⟨y1, y2, y3⟩; first | exact (chI_iff (by decide)).mp (by assumption : chI a (nI 2) = 0) y1 | exact (chI_iff (by decide)).mp (by assumption : chI k (nI 5) = 0) y2 | exact ptI_iff.mp (by assumption : ptI x.toInt64 = 0) y3)], by unfold sPart; rw [if_neg (by rintro ⟨y1, y2, y3⟩; first | exact (chI_iff (by decide)).mp (by assumption : chI a (nI 2) = 0) y1 | exact (chI_iff (by decide)).mp (by assumption : chI k (nI 5) = 0) y2 | exact ptI_iff.mp (by assumption : ptI x.toInt64 = 0) y3)]; exact ⟨hS1, hH⟩, offR.rf⟩
  refine m_iload_n dX7_part_8 rfl ?_
  refine m_iconst (v := 5) dX7_part_9 (by decide) ?_
  refine m_invS_I dX7_part_10 lk_X7_73 ar_X7_isChoice (t_X7_isChoice) rfl (Nat.le_of_ble_eq_true rfl) (by decide) (by decide) (by decide) (by decide) rfl rfl ?_
  try rw [va_uu]
  refine m_if_eq (t := 24) dX7_part_13 (by decide) (fun c13 => ?_) (fun c13 => ?_)
  · refine m_iconst (v := -1) dX7_part_24 (by decide) ?_
    exact m_ireturn hF dX7_part_25 rfl rfl rfl ⟨by unfold sPart; rw [if_neg (by rintro ⟨y1, y2, y3⟩; first | exact (chI_iff (by decide)).mp (by assumption : chI a (nI 2) = 0) y1 | exact (chI_iff (by decide)).mp (by assumption : chI k (nI 5) = 0) y2 | exact ptI_iff.mp (by assumption : ptI x.toInt64 = 0) y3)], by unfold sPart; rw [if_neg (by rintro ⟨y1, y2, y3⟩; first | exact (chI_iff (by decide)).mp (by assumption : chI a (nI 2) = 0) y1 | exact (chI_iff (by decide)).mp (by assumption : chI k (nI 5) = 0) y2 | exact ptI_iff.mp (by assumption : ptI x.toInt64 = 0) y3)]; exact ⟨hS1, hH⟩, offR.rf⟩
  refine m_iload_n dX7_part_16 rfl ?_
  refine m_i2l dX7_part_17 ?_
  refine m_invS_I dX7_part_18 lk_X7_77 ar_X7_isPart (t_X7_isPart) rfl (Nat.le_of_ble_eq_true rfl) (by decide) (by decide) (by decide) (by decide) rfl rfl ?_
  try rw [va_uu]
  refine m_if_ne (t := 26) dX7_part_21 (by decide) (fun c21 => ?_) (fun c21 => ?_)
  rotate_left
  · refine m_iconst (v := -1) dX7_part_24 (by decide) ?_
    exact m_ireturn hF dX7_part_25 rfl rfl rfl ⟨by unfold sPart; rw [if_neg (by rintro ⟨y1, y2, y3⟩; first | exact (chI_iff (by decide)).mp (by assumption : chI a (nI 2) = 0) y1 | exact (chI_iff (by decide)).mp (by assumption : chI k (nI 5) = 0) y2 | exact ptI_iff.mp (by assumption : ptI x.toInt64 = 0) y3)], by unfold sPart; rw [if_neg (by rintro ⟨y1, y2, y3⟩; first | exact (chI_iff (by decide)).mp (by assumption : chI a (nI 2) = 0) y1 | exact (chI_iff (by decide)).mp (by assumption : chI k (nI 5) = 0) y2 | exact ptI_iff.mp (by assumption : ptI x.toInt64 = 0) y3)]; exact ⟨hS1, hH⟩, offR.rf⟩
  have hok : inC a 2 ∧ inC k 5 ∧ in9 x := ⟨Classical.not_not.mp (fun z => c5 ((chI_iff (by decide)).mpr z)), Classical.not_not.mp (fun z => c13 ((chI_iff (by decide)).mpr z)), Classical.not_not.mp (fun z => c21 (ptI_iff.mpr z))⟩
  obtain ⟨w, hw, rfl, ew⟩ := inC_N hok.1
  obtain ⟨j, hj, rfl, ej⟩ := inC_N hok.2.1
  have hix : tIx (nI w) (nI j) = 5 * w + j := by unfold tIx; rw [ew, ej]
  have h10 : 5 * w + j < 10 := by omega
  have hcv : P (5 * w + j) = S.1 (5 * w + j) := v1 _ h10
  refine m_iload_n dX7_part_26 rfl ?_
  refine m_iconst (v := 5) dX7_part_27 (by decide) ?_
  refine m_imul dX7_part_28 ?_
  refine m_ci (v := nI (5 * w)) (by rw [Nat.mul_comm]; exact nI_mulN w 5) ?_
  refine m_iload_n dX7_part_29 rfl ?_
  refine m_iadd dX7_part_30 ?_
  refine m_ci (v := nI (5 * w + j)) (nI_add _ _) ?_
  refine m_istore dX7_part_31 (by decide) ?_
  show mW _ _ _ _ _ _ 33 [_, _, _, _, _, _] _
  refine m_aload_n dX7_part_33 rfl ?_
  refine m_getfield dX7_part_34 fl_X7_12 (by first | assumption | rfl) (by first | assumption | rfl) ?_
  show mW _ _ _ _ _ _ _ _ (.ref _ :: _)
  refine m_getfield dX7_part_37 fl_X7_81 (by first | assumption | rfl) (by first | assumption | rfl) ?_
  show mW _ _ _ _ _ _ _ _ (.ref _ :: _)
  refine m_iload dX7_part_40 rfl ?_
  refine m_iaload dX7_part_42 (by first | assumption | rfl) (mIx_lit h10 (by decide)) ?_
  refine m_istore dX7_part_43 (by decide) ?_
  show mW _ _ _ _ _ _ 45 [_, _, _, _, _, _] _
  refine m_iload dX7_part_45 rfl ?_
  refine m_iload_n dX7_part_47 rfl ?_
  refine m_icmp_ne (t := 54) dX7_part_48 (by decide) (fun c48 => ?_) (fun c48 => ?_)
  rotate_left
  · refine m_bipush (v := -2) dX7_part_51 (by decide) ?_
    exact m_ireturn hF dX7_part_53 rfl rfl rfl ⟨by unfold sPart; rw [if_pos hok, hix, if_pos (hcv.symm.trans c48)], by unfold sPart; rw [if_pos hok, hix, if_pos (hcv.symm.trans c48)]; exact ⟨hS1, hH⟩, offR.rf⟩
  have hnv : ¬ S.1 (5 * w + j) = x := fun z => c48 (hcv.trans z)
  refine m_aload_n dX7_part_54 rfl ?_
  refine m_getfield dX7_part_55 fl_X7_22 (by first | assumption | rfl) (by first | assumption | rfl) ?_
  show mW _ _ _ _ _ _ _ _ (.ref _ :: _)
  refine m_aload_n dX7_part_58 rfl ?_
  refine m_getfield dX7_part_59 fl_X7_12 (by first | assumption | rfl) (by first | assumption | rfl) ?_
  show mW _ _ _ _ _ _ _ _ (.ref _ :: _)
  refine m_invV dX7_part_62 lk_X7_85 ar_X2_keep (ci := 2) rfl rfl (by first | assumption | rfl) (t_keep (s := 1) (a := 3) hH hS1 (by decide)) rfl (Nat.le_of_ble_eq_true rfl) (by decide) (by decide) (by decide) (by decide) (fun v hp' q => ?_)
  obtain ⟨rfl, gH, gO⟩ := q
  have g0 : hp' 0 = eO 7 (oTop kf) := (gO 0 (by decide)).trans a0
  have g1 : hp' 1 = eO 3 (oSet 2 g d) := (gO 1 (by decide)).trans p1
  have g2 : hp' 2 = eI 10 P := (gO 2 (by decide)).trans p2
  show mW K _ 0 0 n hp' 65 [.ref 0, .int (nI w), .int (nI j), .int x, .int (nI (5 * w + j)), .int (P (5 * w + j))] []
  refine m_aload_n dX7_part_65 rfl ?_
  refine m_getfield dX7_part_66 fl_X7_12 (by first | assumption | rfl) (by first | assumption | rfl) ?_
  show mW _ _ _ _ _ _ _ _ (.ref _ :: _)
  refine m_getfield dX7_part_69 fl_X7_81 (by first | assumption | rfl) (by first | assumption | rfl) ?_
  show mW _ _ _ _ _ _ _ _ (.ref _ :: _)
  refine m_iload dX7_part_72 rfl ?_
  refine m_iload_n dX7_part_74 rfl ?_
  refine m_iastore dX7_part_75 (by first | assumption | rfl) (mIx_lit h10 (by decide)) ?_
  try rw [va_uu]
  refine m_iload dX7_part_76 rfl ?_
  refine m_bipush (v := 9) dX7_part_78 (by decide) ?_
  refine m_iadd dX7_part_80 ?_
  exact m_ireturn hF dX7_part_81 rfl rfl rfl ⟨by unfold sPart; rw [if_pos hok, hix, if_neg hnv]; rw [← hcv], by unfold sPart; rw [if_pos hok, hix, if_neg hnv]; exact ⟨⟨va_up P (5 * w + j) x, g, d, g1, rfl, eq12_up p3 h10⟩, gH.of (fun q r1 r2 => va_up_ne _ _ (by omega))⟩, fun q hq => by rw [va_up_ne _ _ (by omega)]; exact gO q (by omega)⟩

set_option maxHeartbeats 4000000 in
set_option maxRecDepth 100000 in
theorem t_X7_gain {n : Nat} {hp : mHp} {S : TS} {kf : Int32} (h0 : cTop hp kf) (hS : cTold hp S) {x : Int32} : mC D_X7_gain [.ref 0, .int x] n hp (fun r hp' => r = some (.int (sGain S x).1) ∧ cTold hp' (sGain S x).2 ∧ offR 1 16 hp hp') := by
  refine m_enter rfl rfl (Nat.le_of_ble_eq_true rfl) (fun K hF => ?_)
  show mW K _ 0 0 _ _ 0 [.ref 0, .int x, .retAddr 0] []
  have a0 : hp 0 = eO 7 (oTop kf) := h0
  obtain ⟨⟨P, g, d, p1, p2, p3⟩, hH⟩ := hS
  obtain ⟨v1, v2, v3⟩ := vec_set p3
  have hS1 : cSet hp 1 S.1 := ⟨P, g, d, p1, p2, p3⟩
  obtain ⟨w0, G0, D0, PP0, k1, k2, k3, -⟩ := id hH
  refine m_iload_n dX7_gain_0 rfl ?_
  refine m_invS_I dX7_gain_1 lk_X7_89 ar_X7_isGain (t_X7_isGain) rfl (Nat.le_of_ble_eq_true rfl) (by decide) (by decide) (by decide) (by decide) rfl rfl ?_
  try rw [va_uu]
  refine m_if_ne (t := 9) dX7_gain_4 (by decide) (fun c4 => ?_) (fun c4 => ?_)
  rotate_left
  · refine m_iconst (v := -1) dX7_gain_7 (by decide) ?_
    exact m_ireturn hF dX7_gain_8 rfl rfl rfl ⟨by unfold sGain; rw [if_neg (by exact gnI_iff.mp c4)], by unfold sGain; rw [if_neg (by exact gnI_iff.mp c4)]; exact ⟨hS1, hH⟩, offR.rf⟩
  have hok : inG x := Classical.not_not.mp (fun z => c4 (gnI_iff.mpr z))
  refine m_aload_n dX7_gain_9 rfl ?_
  refine m_getfield dX7_gain_10 fl_X7_12 (by first | assumption | rfl) (by first | assumption | rfl) ?_
  show mW _ _ _ _ _ _ _ _ (.ref _ :: _)
  refine m_getfield dX7_gain_13 fl_X7_93 (by first | assumption | rfl) (by first | assumption | rfl) ?_
  show mW _ _ _ _ _ _ _ _ (.int _ :: _)
  refine m_istore_n dX7_gain_16 (by decide) ?_
  show mW _ _ _ _ _ _ 17 [_, _, _] _
  refine m_iload_n dX7_gain_17 rfl ?_
  refine m_iload_n dX7_gain_18 rfl ?_
  refine m_icmp_ne (t := 25) dX7_gain_19 (by decide) (fun c19 => ?_) (fun c19 => ?_)
  rotate_left
  · refine m_bipush (v := -2) dX7_gain_22 (by decide) ?_
    exact m_ireturn hF dX7_gain_24 rfl rfl rfl ⟨by unfold sGain; rw [if_pos hok, if_pos (v2.symm.trans c19)], by unfold sGain; rw [if_pos hok, if_pos (v2.symm.trans c19)]; exact ⟨hS1, hH⟩, offR.rf⟩
  have hnv : ¬ S.1 10 = x := fun z => c19 (v2.trans z)
  refine m_aload_n dX7_gain_25 rfl ?_
  refine m_getfield dX7_gain_26 fl_X7_22 (by first | assumption | rfl) (by first | assumption | rfl) ?_
  show mW _ _ _ _ _ _ _ _ (.ref _ :: _)
  refine m_aload_n dX7_gain_29 rfl ?_
  refine m_getfield dX7_gain_30 fl_X7_12 (by first | assumption | rfl) (by first | assumption | rfl) ?_
  show mW _ _ _ _ _ _ _ _ (.ref _ :: _)
  refine m_invV dX7_gain_33 lk_X7_85 ar_X2_keep (ci := 2) rfl rfl (by first | assumption | rfl) (t_keep (s := 1) (a := 3) hH hS1 (by decide)) rfl (Nat.le_of_ble_eq_true rfl) (by decide) (by decide) (by decide) (by decide) (fun v hp' q => ?_)
  obtain ⟨rfl, gH, gO⟩ := q
  have g0 : hp' 0 = eO 7 (oTop kf) := (gO 0 (by decide)).trans a0
  have g1 : hp' 1 = eO 3 (oSet 2 g d) := (gO 1 (by decide)).trans p1
  have g2 : hp' 2 = eI 10 P := (gO 2 (by decide)).trans p2
  show mW K _ 0 0 n hp' 36 [.ref 0, .int x, .int g] []
  refine m_aload_n dX7_gain_36 rfl ?_
  refine m_getfield dX7_gain_37 fl_X7_12 (by first | assumption | rfl) (by first | assumption | rfl) ?_
  show mW _ _ _ _ _ _ _ _ (.ref _ :: _)
  refine m_iload_n dX7_gain_40 rfl ?_
  refine m_putfield dX7_gain_41 fl_X7_93 (by first | assumption | rfl) (fun _ => rfl) (fun _ => rfl) ?_
  try rw [va_uu]
  rw [oSet_1]
  refine m_iload_n dX7_gain_44 rfl ?_
  refine m_sipush (v := 800) dX7_gain_45 (by decide) ?_
  refine m_iadd dX7_gain_48 ?_
  exact m_ireturn hF dX7_gain_49 rfl rfl rfl ⟨by unfold sGain; rw [if_pos hok, if_neg hnv, ← v2], by unfold sGain; rw [if_pos hok, if_neg hnv]; exact ⟨⟨P, x, d, rfl, g2, eq12_upG p3⟩, gH.of (fun q r1 r2 => va_up_ne _ _ (by omega))⟩, fun q hq => by rw [va_up_ne _ _ (by omega)]; exact gO q (by omega)⟩

set_option maxHeartbeats 4000000 in
set_option maxRecDepth 100000 in
theorem t_X7_told {n : Nat} {hp : mHp} {S : TS} {kf : Int32} (h0 : cTop hp kf) (hS : cTold hp S) {a k : Int32} : mC D_X7_told [.ref 0, .int a, .int k] n hp (rI (sTold S a k) hp) := by
  refine m_enter rfl rfl (Nat.le_of_ble_eq_true rfl) (fun K hF => ?_)
  show mW K _ 0 0 _ _ 0 [.ref 0, .int a, .int k] []
  have a0 : hp 0 = eO 7 (oTop kf) := h0
  obtain ⟨⟨P, g, d, p1, p2, p3⟩, hH⟩ := hS
  obtain ⟨v1, v2, v3⟩ := vec_set p3
  have hS1 : cSet hp 1 S.1 := ⟨P, g, d, p1, p2, p3⟩
  obtain ⟨w0, G0, D0, PP0, k1, k2, k3, -⟩ := id hH
  refine m_iload_n dX7_told_0 rfl ?_
  refine m_iconst (v := 2) dX7_told_1 (by decide) ?_
  refine m_invS_I dX7_told_2 lk_X7_73 ar_X7_isChoice (t_X7_isChoice) rfl (Nat.le_of_ble_eq_true rfl) (by decide) (by decide) (by decide) (by decide) rfl rfl ?_
  try rw [va_uu]
  refine m_if_eq (t := 16) dX7_told_5 (by decide) (fun c5 => ?_) (fun c5 => ?_)
  · refine m_iconst (v := -1) dX7_told_16 (by decide) ?_
    exact m_ireturn hF dX7_told_17 rfl rfl rfl ⟨by unfold sTold; rw [if_neg (by rintro ⟨y1, y2⟩; first | exact (chI_iff (by decide)).mp (by assumption : chI a (nI 2) = 0) y1 | exact (chI_iff (by decide)).mp (by assumption : chI k (nI 5) = 0) y2)], rfl⟩
  refine m_iload_n dX7_told_8 rfl ?_
  refine m_iconst (v := 5) dX7_told_9 (by decide) ?_
  refine m_invS_I dX7_told_10 lk_X7_73 ar_X7_isChoice (t_X7_isChoice) rfl (Nat.le_of_ble_eq_true rfl) (by decide) (by decide) (by decide) (by decide) rfl rfl ?_
  try rw [va_uu]
  refine m_if_ne (t := 18) dX7_told_13 (by decide) (fun c13 => ?_) (fun c13 => ?_)
  rotate_left
  · refine m_iconst (v := -1) dX7_told_16 (by decide) ?_
    exact m_ireturn hF dX7_told_17 rfl rfl rfl ⟨by unfold sTold; rw [if_neg (by rintro ⟨y1, y2⟩; first | exact (chI_iff (by decide)).mp (by assumption : chI a (nI 2) = 0) y1 | exact (chI_iff (by decide)).mp (by assumption : chI k (nI 5) = 0) y2)], rfl⟩
  have hok : inC a 2 ∧ inC k 5 := ⟨Classical.not_not.mp (fun z => c5 ((chI_iff (by decide)).mpr z)), Classical.not_not.mp (fun z => c13 ((chI_iff (by decide)).mpr z))⟩
  obtain ⟨w, hw, rfl, ew⟩ := inC_N hok.1
  obtain ⟨j, hj, rfl, ej⟩ := inC_N hok.2
  have hix : tIx (nI w) (nI j) = 5 * w + j := by unfold tIx; rw [ew, ej]
  have h10 : 5 * w + j < 10 := by omega
  have hcv : P (5 * w + j) = S.1 (5 * w + j) := v1 _ h10
  refine m_aload_n dX7_told_18 rfl ?_
  refine m_getfield dX7_told_19 fl_X7_12 (by first | assumption | rfl) (by first | assumption | rfl) ?_
  show mW _ _ _ _ _ _ _ _ (.ref _ :: _)
  refine m_getfield dX7_told_22 fl_X7_81 (by first | assumption | rfl) (by first | assumption | rfl) ?_
  show mW _ _ _ _ _ _ _ _ (.ref _ :: _)
  refine m_iload_n dX7_told_25 rfl ?_
  refine m_iconst (v := 5) dX7_told_26 (by decide) ?_
  refine m_imul dX7_told_27 ?_
  refine m_ci (v := nI (5 * w)) (by rw [Nat.mul_comm]; exact nI_mulN w 5) ?_
  refine m_iload_n dX7_told_28 rfl ?_
  refine m_iadd dX7_told_29 ?_
  refine m_ci (v := nI (5 * w + j)) (nI_add _ _) ?_
  refine m_iaload dX7_told_30 (by first | assumption | rfl) (mIx_lit h10 (by decide)) ?_
  refine m_bipush (v := 9) dX7_told_31 (by decide) ?_
  refine m_iadd dX7_told_33 ?_
  exact m_ireturn hF dX7_told_34 rfl rfl rfl ⟨by unfold sTold; rw [if_pos hok, hix, ← hcv], rfl⟩

set_option maxHeartbeats 4000000 in
set_option maxRecDepth 100000 in
theorem t_X7_seed {n : Nat} {hp : mHp} {S : TS} {kf : Int32} (h0 : cTop hp kf) (hS : cTold hp S) {x : Int32} : mC D_X7_seed [.ref 0, .int x] n hp (fun r hp' => r = some (.int (sSeed S x).1) ∧ cTold hp' (sSeed S x).2 ∧ offR 1 16 hp hp') := by
  refine m_enter rfl rfl (Nat.le_of_ble_eq_true rfl) (fun K hF => ?_)
  show mW K _ 0 0 _ _ 0 [.ref 0, .int x, .retAddr 0] []
  have a0 : hp 0 = eO 7 (oTop kf) := h0
  obtain ⟨⟨P, g, d, p1, p2, p3⟩, hH⟩ := hS
  obtain ⟨v1, v2, v3⟩ := vec_set p3
  have hS1 : cSet hp 1 S.1 := ⟨P, g, d, p1, p2, p3⟩
  obtain ⟨w0, G0, D0, PP0, k1, k2, k3, -⟩ := id hH
  refine m_iload_n dX7_seed_0 rfl ?_
  refine m_if_ge (t := 6) dX7_seed_1 (by decide) (fun c1 => ?_) (fun c1 => ?_)
  rotate_left
  · refine m_iconst (v := -1) dX7_seed_4 (by decide) ?_
    exact m_ireturn hF dX7_seed_5 rfl rfl rfl ⟨by unfold sSeed; rw [if_neg c1], by unfold sSeed; rw [if_neg c1]; exact ⟨hS1, hH⟩, offR.rf⟩
  refine m_aload_n dX7_seed_6 rfl ?_
  refine m_getfield dX7_seed_7 fl_X7_12 (by first | assumption | rfl) (by first | assumption | rfl) ?_
  show mW _ _ _ _ _ _ _ _ (.ref _ :: _)
  refine m_getfield dX7_seed_10 fl_X7_209 (by first | assumption | rfl) (by first | assumption | rfl) ?_
  show mW _ _ _ _ _ _ _ _ (.int _ :: _)
  refine m_istore_n dX7_seed_13 (by decide) ?_
  show mW _ _ _ _ _ _ 14 [_, _, _] _
  refine m_aload_n dX7_seed_14 rfl ?_
  refine m_getfield dX7_seed_15 fl_X7_12 (by first | assumption | rfl) (by first | assumption | rfl) ?_
  show mW _ _ _ _ _ _ _ _ (.ref _ :: _)
  refine m_iload_n dX7_seed_18 rfl ?_
  refine m_putfield dX7_seed_19 fl_X7_209 (by first | assumption | rfl) (fun _ => rfl) (fun _ => rfl) ?_
  try rw [va_uu]
  rw [oSet_2]
  refine m_iload_n dX7_seed_22 rfl ?_
  exact m_ireturn hF dX7_seed_23 rfl rfl rfl ⟨by unfold sSeed; rw [if_pos c1, ← v3], by unfold sSeed; rw [if_pos c1]; exact ⟨⟨P, g, x, rfl, (va_up_ne _ _ (by decide)).trans p2, eq12_upD p3⟩, hH.of (fun q r1 r2 => va_up_ne _ _ (by omega))⟩, fun q hq => va_up_ne _ _ (by omega)⟩

set_option maxHeartbeats 4000000 in
set_option maxRecDepth 100000 in
theorem t_X7_undo {n : Nat} {hp : mHp} {S : TS} {kf : Int32} (h0 : cTop hp kf) (hS : cTold hp S) : mC D_X7_undo [.ref 0] n hp (fun r hp' => r = some (.int (sUndo S).1) ∧ cTold hp' (sUndo S).2 ∧ offR 1 16 hp hp') := by
  refine m_enter rfl rfl (Nat.le_of_ble_eq_true rfl) (fun K hF => ?_)
  show mW K _ 0 0 _ _ 0 [.ref 0] []
  have a0 : hp 0 = eO 7 (oTop kf) := h0
  obtain ⟨⟨P, g, d, p1, p2, p3⟩, hH⟩ := hS
  obtain ⟨v1, v2, v3⟩ := vec_set p3
  have hS1 : cSet hp 1 S.1 := ⟨P, g, d, p1, p2, p3⟩
  obtain ⟨w0, G0, D0, PP0, k1, k2, k3, -⟩ := id hH
  refine m_aload_n dX7_undo_0 rfl ?_
  refine m_getfield dX7_undo_1 fl_X7_22 (by first | assumption | rfl) (by first | assumption | rfl) ?_
  show mW _ _ _ _ _ _ _ _ (.ref _ :: _)
  refine m_getfield dX7_undo_4 fl_X7_112 (by first | assumption | rfl) (by first | assumption | rfl) ?_
  show mW _ _ _ _ _ _ _ _ (.int _ :: _)
  refine m_if_ne (t := 13) dX7_undo_7 (by decide) (fun c7 => ?_) (fun c7 => ?_)
  rotate_left
  · have hz : S.2.1 = 0 := (nI_eq (by omega) (by decide)).mp c7
    refine m_bipush (v := -4) dX7_undo_10 (by decide) ?_
    exact m_ireturn hF dX7_undo_12 rfl rfl rfl ⟨by unfold sUndo; rw [if_pos hz], by unfold sUndo; rw [if_pos hz]; exact ⟨hS1, hH⟩, offR.rf⟩
  have hnz : ¬ S.2.1 = 0 := fun z => c7 (by rw [z]; rfl)
  obtain ⟨kk, hkk⟩ : ∃ kk, S.2.1 = kk + 1 := ⟨S.2.1 - 1, by omega⟩
  refine m_aload_n dX7_undo_13 rfl ?_
  refine m_getfield dX7_undo_14 fl_X7_22 (by first | assumption | rfl) (by first | assumption | rfl) ?_
  show mW _ _ _ _ _ _ _ _ (.ref _ :: _)
  refine m_aload_n dX7_undo_17 rfl ?_
  refine m_getfield dX7_undo_18 fl_X7_12 (by first | assumption | rfl) (by first | assumption | rfl) ?_
  show mW _ _ _ _ _ _ _ _ (.ref _ :: _)
  refine m_invV dX7_undo_21 lk_X7_206 ar_X2_giveBack (ci := 2) rfl rfl (by first | assumption | rfl) (t_giveBack (s := 1) (a := 3) (k := S.2.1 - 1) (by rw [show S.2.1 - 1 + 1 = S.2.1 by omega]; exact hH) hS1 (by decide)) rfl (Nat.le_of_ble_eq_true rfl) (by decide) (by decide) (by decide) (by decide) (fun v hp' q => ?_)
  obtain ⟨rfl, gS, gH, gO⟩ := q
  have g0 : hp' 0 = eO 7 (oTop kf) := (gO 0 (by decide) (by decide) (by decide)).trans a0
  obtain ⟨w5, G5, D5, PP5, k5, k6, k7, -⟩ := id gH
  show mW K _ 0 0 n hp' 24 [.ref 0] []
  refine m_aload_n dX7_undo_24 rfl ?_
  refine m_getfield dX7_undo_25 fl_X7_22 (by first | assumption | rfl) (by first | assumption | rfl) ?_
  show mW _ _ _ _ _ _ _ _ (.ref _ :: _)
  refine m_getfield dX7_undo_28 fl_X7_112 (by first | assumption | rfl) (by first | assumption | rfl) ?_
  show mW _ _ _ _ _ _ _ _ (.int _ :: _)
  exact m_ireturn hF dX7_undo_31 rfl rfl rfl ⟨by unfold sUndo; rw [if_neg hnz], by unfold sUndo; rw [if_neg hnz]; exact ⟨gS, gH⟩, fun q hq => gO q (by omega) (by omega) (by omega)⟩

set_option maxHeartbeats 4000000 in
set_option maxRecDepth 100000 in
theorem t_X7_image {n : Nat} {hp : mHp} {S T : TS} {kf : Int32} (h0 : cTop hp kf) (hS : cTold hp S) (hK : cKept hp T) : mC D_X7_image [.ref 0] n hp (fun r hp' => r = some (.int 1) ∧ cTop hp' 1 ∧ cTold hp' S ∧ cKept hp' S ∧ ∀ q, (0 < q ∧ q < 17 ∨ 32 < q) → hp' q = hp q) := by
  refine m_enter rfl rfl (Nat.le_of_ble_eq_true rfl) (fun K hF => ?_)
  show mW K _ 0 0 _ _ 0 [.ref 0] []
  have a0 : hp 0 = eO 7 (oTop kf) := h0
  have hS0 := hS
  have hK0 := hK
  obtain ⟨hS1, hH⟩ := hS
  obtain ⟨hK1, hK2⟩ := hK
  obtain ⟨P1, g1, d1, p1, p2, p3⟩ := id hS1
  obtain ⟨P2, g2, d2, p4, p5, p6⟩ := id hK1
  obtain ⟨w0, G0, D0, PP0, k1, k2, k3, -⟩ := id hH
  obtain ⟨w1, G1, D1, PP1, k4, k5, k6, -⟩ := id hK2
  refine m_aload_n dX7_image_0 rfl ?_
  refine m_getfield dX7_image_1 fl_X7_26 (by first | assumption | rfl) (by first | assumption | rfl) ?_
  show mW _ _ _ _ _ _ _ _ (.ref _ :: _)
  refine m_aload_n dX7_image_4 rfl ?_
  refine m_getfield dX7_image_5 fl_X7_12 (by first | assumption | rfl) (by first | assumption | rfl) ?_
  show mW _ _ _ _ _ _ _ _ (.ref _ :: _)
  refine m_invV dX7_image_8 lk_X7_212 ar_X3_become (ci := 3) rfl rfl (by first | assumption | rfl) (t_becomeS (a := 17) (b := 1) hK1 hS1 (by decide)) rfl (Nat.le_of_ble_eq_true rfl) (by decide) (by decide) (by decide) (by decide) (fun v hp' q => ?_)
  obtain ⟨rfl, gS, gO⟩ := q
  have e0 : hp' 0 = eO 7 (oTop kf) := (gO 0 (by decide) (by decide)).trans a0
  have e6 := (gO 19 (by decide) (by decide)).trans k6
  show mW K _ 0 0 n hp' 11 [.ref 0] []
  refine m_aload_n dX7_image_11 rfl ?_
  refine m_getfield dX7_image_12 fl_X7_29 (by first | assumption | rfl) (by first | assumption | rfl) ?_
  show mW _ _ _ _ _ _ _ _ (.ref _ :: _)
  refine m_aload_n dX7_image_15 rfl ?_
  refine m_getfield dX7_image_16 fl_X7_22 (by first | assumption | rfl) (by first | assumption | rfl) ?_
  show mW _ _ _ _ _ _ _ _ (.ref _ :: _)
  refine m_invV dX7_image_19 lk_X7_215 ar_X2_become (ci := 2) rfl rfl (by first | assumption | rfl) (t_becomeP (a := 19) (b := 3) (hK2.of (fun q r1 r2 => gO q (by omega) (by omega))) (hH.of (fun q r1 r2 => gO q (by omega) (by omega))) (by decide)) rfl (Nat.le_of_ble_eq_true rfl) (by decide) (by decide) (by decide) (by decide) (fun v hp2 q => ?_)
  obtain ⟨rfl, gH, gP⟩ := q
  have e1 : hp2 0 = eO 7 (oTop kf) := (gP 0 (by decide)).trans e0
  show mW K _ 0 0 n hp2 22 [.ref 0] []
  refine m_aload_n dX7_image_22 rfl ?_
  refine m_iconst (v := 1) dX7_image_23 (by decide) ?_
  refine m_putfield dX7_image_24 fl_X7_32 (by first | assumption | rfl) (fun _ => rfl) (fun _ => rfl) ?_
  try rw [va_uu]
  rw [oTop_4]
  refine m_iconst (v := 1) dX7_image_27 (by decide) ?_
  exact m_ireturn hF dX7_image_28 rfl rfl rfl ⟨rfl, va_up_self _ _ _, hS0.of (fun q r1 r2 => by rw [va_up_ne _ _ (by omega), gP q (by omega), gO q (by omega) (by omega)]), ⟨gS.of (fun q r1 r2 => by rw [va_up_ne _ _ (by omega), gP q (by omega)]), gH.of (fun q r1 r2 => va_up_ne _ _ (by omega))⟩, fun q hq => by rw [va_up_ne _ _ (by omega), gP q (by omega), gO q (by omega) (by omega)]⟩

set_option maxHeartbeats 4000000 in
set_option maxRecDepth 100000 in
theorem t_X7_restore {n : Nat} {hp : mHp} {S T : TS} {kf : Int32} (h0 : cTop hp kf) (hS : cTold hp S) (hK : cKept hp T) : mC D_X7_restore [.ref 0] n hp (fun r hp' => r = some (.int (if kf = 0 then -4 else 1)) ∧ cTold hp' (if kf = 0 then S else T) ∧ offR 1 16 hp hp') := by
  refine m_enter rfl rfl (Nat.le_of_ble_eq_true rfl) (fun K hF => ?_)
  show mW K _ 0 0 _ _ 0 [.ref 0] []
  have a0 : hp 0 = eO 7 (oTop kf) := h0
  have hS0 := hS
  have hK0 := hK
  obtain ⟨hS1, hH⟩ := hS
  obtain ⟨hK1, hK2⟩ := hK
  obtain ⟨P1, g1, d1, p1, p2, p3⟩ := id hS1
  obtain ⟨P2, g2, d2, p4, p5, p6⟩ := id hK1
  obtain ⟨w0, G0, D0, PP0, k1, k2, k3, -⟩ := id hH
  obtain ⟨w1, G1, D1, PP1, k4, k5, k6, -⟩ := id hK2
  refine m_aload_n dX7_restore_0 rfl ?_
  refine m_getfield dX7_restore_1 fl_X7_32 (by first | assumption | rfl) (by first | assumption | rfl) ?_
  show mW _ _ _ _ _ _ _ _ (.int _ :: _)
  refine m_if_ne (t := 10) dX7_restore_4 (by decide) (fun c4 => ?_) (fun c4 => ?_)
  rotate_left
  · refine m_bipush (v := -4) dX7_restore_7 (by decide) ?_
    exact m_ireturn hF dX7_restore_9 rfl rfl rfl ⟨by rw [if_pos c4], by rw [if_pos c4]; exact hS0, offR.rf⟩
  refine m_aload_n dX7_restore_10 rfl ?_
  refine m_getfield dX7_restore_11 fl_X7_12 (by first | assumption | rfl) (by first | assumption | rfl) ?_
  show mW _ _ _ _ _ _ _ _ (.ref _ :: _)
  refine m_aload_n dX7_restore_14 rfl ?_
  refine m_getfield dX7_restore_15 fl_X7_26 (by first | assumption | rfl) (by first | assumption | rfl) ?_
  show mW _ _ _ _ _ _ _ _ (.ref _ :: _)
  refine m_invV dX7_restore_18 lk_X7_212 ar_X3_become (ci := 3) rfl rfl (by first | assumption | rfl) (t_becomeS (a := 1) (b := 17) hS1 hK1 (by decide)) rfl (Nat.le_of_ble_eq_true rfl) (by decide) (by decide) (by decide) (by decide) (fun v hp' q => ?_)
  obtain ⟨rfl, gS, gO⟩ := q
  have e0 : hp' 0 = eO 7 (oTop kf) := (gO 0 (by decide) (by decide)).trans a0
  have e6 := (gO 3 (by decide) (by decide)).trans k3
  show mW K _ 0 0 n hp' 21 [.ref 0] []
  refine m_aload_n dX7_restore_21 rfl ?_
  refine m_getfield dX7_restore_22 fl_X7_22 (by first | assumption | rfl) (by first | assumption | rfl) ?_
  show mW _ _ _ _ _ _ _ _ (.ref _ :: _)
  refine m_aload_n dX7_restore_25 rfl ?_
  refine m_getfield dX7_restore_26 fl_X7_29 (by first | assumption | rfl) (by first | assumption | rfl) ?_
  show mW _ _ _ _ _ _ _ _ (.ref _ :: _)
  refine m_invV dX7_restore_29 lk_X7_215 ar_X2_become (ci := 2) rfl rfl (by first | assumption | rfl) (t_becomeP (a := 3) (b := 19) (hH.of (fun q r1 r2 => gO q (by omega) (by omega))) (hK2.of (fun q r1 r2 => gO q (by omega) (by omega))) (by decide)) rfl (Nat.le_of_ble_eq_true rfl) (by decide) (by decide) (by decide) (by decide) (fun v hp2 q => ?_)
  obtain ⟨rfl, gH, gP⟩ := q
  show mW K _ 0 0 n hp2 32 [.ref 0] []
  refine m_iconst (v := 1) dX7_restore_32 (by decide) ?_
  exact m_ireturn hF dX7_restore_33 rfl rfl rfl ⟨by rw [if_neg c4], by rw [if_neg c4]; exact ⟨gS.of (fun q r1 r2 => gP q (by omega)), gH⟩, fun q hq => by rw [gP q (by omega), gO q (by omega) (by omega)]⟩

