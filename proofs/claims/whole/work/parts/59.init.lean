/-! ===== constructors ===== -/
/-- rows of a new array of arrays of longs -/
def hpM (hp : mHp) (n N N2 : Nat) : mHp := fun q => if q = n then eR tyJJ N (fun i => if i < N then some (n + 1 + i) else none) else if n < q ∧ q ≤ n + N then eL N2 (fun _ => 0) else hp q
theorem m_mna {K : mK} {M : MD} {cs sl n : Nat} {hp : mHp} {pc : Nat} {lv st : List Value} {ix N N2 : Nat} {z1 z2 : Int32} (hd : decode (dC M) pc = .ok (.multianewarray ix 2, 4)) (hl : Cond.classLink (dOwn M) ix "[[J" ∈ TB) (hz1 : mIx z1 N 65536) (hz2 : mIx z2 N2 65536) (hn : n + N < mSC) (hc : cs + (1 + N) ≤ dMc M) (hs : sl + (N + N * N2) ≤ dMs M)
    (kk : mW K M (cs + 1 + N) (sl + N + N * N2) (n + 1 + N) (hpM hp n N N2) (pc + 4) lv (.ref n :: st)) : mW K M cs sl n hp pc lv (.int z2 :: .int z1 :: st) := by sorry
def iX0 : Nat → Value := fun k => match k with
  | 0 => .null
  | 1 => .null
  | 2 => .int 0
  | _ => .null
theorem iX0_ok : ∀ j, j < 3 → ∀ ad, defaultValue (tyX0 j) = mv ad (iX0 j) := fun j hj ad => by
  match j, hj with
  | 0, _ => rfl
  | 1, _ => rfl
  | 2, _ => rfl
  | j + 3, h => exact absurd h (by omega)
def iX1 : Nat → Value := fun k => match k with
  | 0 => .null
  | 1 => .null
  | 2 => .int 0
  | 3 => .int 0
  | 4 => .int 0
  | _ => .null
theorem iX1_ok : ∀ j, j < 5 → ∀ ad, defaultValue (tyX1 j) = mv ad (iX1 j) := fun j hj ad => by
  match j, hj with
  | 0, _ => rfl
  | 1, _ => rfl
  | 2, _ => rfl
  | 3, _ => rfl
  | 4, _ => rfl
  | j + 5, h => exact absurd h (by omega)
def iX2 : Nat → Value := fun k => match k with
  | 0 => .null
  | 1 => .int 0
  | 2 => .int 0
  | _ => .null
theorem iX2_ok : ∀ j, j < 3 → ∀ ad, defaultValue (tyX2 j) = mv ad (iX2 j) := fun j hj ad => by
  match j, hj with
  | 0, _ => rfl
  | 1, _ => rfl
  | 2, _ => rfl
  | j + 3, h => exact absurd h (by omega)
def iX3 : Nat → Value := fun k => match k with
  | 0 => .null
  | 1 => .int 0
  | 2 => .int 0
  | _ => .null
theorem iX3_ok : ∀ j, j < 3 → ∀ ad, defaultValue (tyX3 j) = mv ad (iX3 j) := fun j hj ad => by
  match j, hj with
  | 0, _ => rfl
  | 1, _ => rfl
  | 2, _ => rfl
  | j + 3, h => exact absurd h (by omega)
def iX4 : Nat → Value := fun k => match k with
  | 0 => .null
  | 1 => .null
  | 2 => .null
  | _ => .null
theorem iX4_ok : ∀ j, j < 3 → ∀ ad, defaultValue (tyX4 j) = mv ad (iX4 j) := fun j hj ad => by
  match j, hj with
  | 0, _ => rfl
  | 1, _ => rfl
  | 2, _ => rfl
  | j + 3, h => exact absurd h (by omega)
def iX5 : Nat → Value := fun k => match k with
  | 0 => .int 0
  | 1 => .null
  | 2 => .null
  | 3 => .null
  | 4 => .null
  | 5 => .null
  | 6 => .int 0
  | 7 => .int 0
  | 8 => .int 0
  | _ => .null
theorem iX5_ok : ∀ j, j < 9 → ∀ ad, defaultValue (tyX5 j) = mv ad (iX5 j) := fun j hj ad => by
  match j, hj with
  | 0, _ => rfl
  | 1, _ => rfl
  | 2, _ => rfl
  | 3, _ => rfl
  | 4, _ => rfl
  | 5, _ => rfl
  | 6, _ => rfl
  | 7, _ => rfl
  | 8, _ => rfl
  | j + 9, h => exact absurd h (by omega)
def iX6 : Nat → Value := fun k => match k with
  | 0 => .null
  | 1 => .null
  | 2 => .int 0
  | 3 => .int 0
  | 4 => .int 0
  | 5 => .int 0
  | 6 => .int 0
  | _ => .null
theorem iX6_ok : ∀ j, j < 7 → ∀ ad, defaultValue (tyX6 j) = mv ad (iX6 j) := fun j hj ad => by
  match j, hj with
  | 0, _ => rfl
  | 1, _ => rfl
  | 2, _ => rfl
  | 3, _ => rfl
  | 4, _ => rfl
  | 5, _ => rfl
  | 6, _ => rfl
  | j + 7, h => exact absurd h (by omega)
def iX7 : Nat → Value := fun k => match k with
  | 0 => .null
  | 1 => .null
  | 2 => .null
  | 3 => .null
  | 4 => .int 0
  | 5 => .null
  | 6 => .null
  | 7 => .null
  | 8 => .null
  | 9 => .null
  | 10 => .null
  | _ => .null
theorem iX7_ok : ∀ j, j < 11 → ∀ ad, defaultValue (tyX7 j) = mv ad (iX7 j) := fun j hj ad => by
  match j, hj with
  | 0, _ => rfl
  | 1, _ => rfl
  | 2, _ => rfl
  | 3, _ => rfl
  | 4, _ => rfl
  | 5, _ => rfl
  | 6, _ => rfl
  | 7, _ => rfl
  | 8, _ => rfl
  | 9, _ => rfl
  | 10, _ => rfl
  | j + 11, h => exact absurd h (by omega)
def iX8 : Nat → Value := fun k => match k with
  | 0 => .null
  | 1 => .null
  | 2 => .int 0
  | 3 => .null
  | 4 => .null
  | 5 => .int 0
  | 6 => .null
  | 7 => .int 0
  | 8 => .null
  | 9 => .null
  | 10 => .null
  | 11 => .null
  | 12 => .int 0
  | 13 => .int 0
  | 14 => .int 0
  | 15 => .null
  | 16 => .int 0
  | 17 => .int 0
  | 18 => .null
  | 19 => .null
  | 20 => .null
  | 21 => .int 0
  | 22 => .null
  | 23 => .null
  | 24 => .null
  | 25 => .int 0
  | 26 => .int 0
  | 27 => .int 0
  | 28 => .null
  | _ => .null
theorem iX8_ok : ∀ j, j < 29 → ∀ ad, defaultValue (tyX8 j) = mv ad (iX8 j) := fun j hj ad => by
  match j, hj with
  | 0, _ => rfl
  | 1, _ => rfl
  | 2, _ => rfl
  | 3, _ => rfl
  | 4, _ => rfl
  | 5, _ => rfl
  | 6, _ => rfl
  | 7, _ => rfl
  | 8, _ => rfl
  | 9, _ => rfl
  | 10, _ => rfl
  | 11, _ => rfl
  | 12, _ => rfl
  | 13, _ => rfl
  | 14, _ => rfl
  | 15, _ => rfl
  | 16, _ => rfl
  | 17, _ => rfl
  | 18, _ => rfl
  | 19, _ => rfl
  | 20, _ => rfl
  | 21, _ => rfl
  | 22, _ => rfl
  | 23, _ => rfl
  | 24, _ => rfl
  | 25, _ => rfl
  | 26, _ => rfl
  | 27, _ => rfl
  | 28, _ => rfl
  | j + 29, h => exact absurd h (by omega)
theorem iX3_fin (q : Nat) (a b : Int32) : va_up (va_up (va_up iX3 0 (.ref q)) 1 (.int a)) 2 (.int b) = oSet q a b := by
  funext k
  match k with
  | 0 => rfl
  | 1 => rfl
  | 2 => rfl
  | k + 3 => simp [va_up, oSet, iX3]
set_option maxHeartbeats 400000 in
set_option maxRecDepth 100000 in
theorem t_X3_init {n : Nat} {hp : mHp} {h : Nat} (h1 : hp h = eO 3 iX3) (hh : h < n) (hnn : n + 50 < mSC) : mC D_X3_init [.ref h] n hp (rV (va_up (va_up hp n (eI 10 (fun _ => 0))) h (eO 3 (oSet n 0 1)))) := by
  refine m_enter rfl rfl (Nat.le_of_ble_eq_true rfl) (fun K hF => ?_)
  have hin := hF.2.2.2.1
  show mW K _ 0 0 _ _ 0 [.ref h] []
  refine m_aload_n dX3_init_0 rfl ?_
  refine m_objInit dX3_init_1 lk_X3_3 (Nat.le_of_ble_eq_true rfl) (by decide) ?_
  refine m_aload_n dX3_init_4 rfl ?_
  refine m_bipush (v := 10) dX3_init_5 (by decide) ?_
  refine m_newarray (ty := .int) (a0 := (10, .inl (fun _ => 0))) (N := 10) dX3_init_7 rfl w_1_42 (fun _ _ => rfl) ⟨0, fun _ => rfl⟩ (fun _ q => by cases q) ⟨by decide, by decide⟩ (by decide) (by omega) (by decide) (by decide) ?_
  show mW _ _ _ _ (n + 1) _ _ _ (.ref n :: _)
  refine m_putfieldF dX3_init_9 fl_X3_9 ⟨RX3, TX3, 3, rfl, rfl⟩ (by first | exact va_up_self _ _ _ | rfl | assumption | exact (va_up_ne _ _ (by omega)).trans h1) hin (fun _ => rfl) (fun _ => rfl) ?_
  try rw [va_uu]
  refine m_aload_n dX3_init_12 rfl ?_
  refine m_iconst (v := 0) dX3_init_13 (by decide) ?_
  refine m_putfield dX3_init_14 fl_X3_15 (by first | exact va_up_self _ _ _ | rfl | assumption | exact (va_up_ne _ _ (by omega)).trans h1) (fun _ => rfl) (fun _ => rfl) ?_
  try rw [va_uu]
  refine m_aload_n dX3_init_17 rfl ?_
  refine m_iconst (v := 1) dX3_init_18 (by decide) ?_
  refine m_putfield dX3_init_19 fl_X3_19 (by first | exact va_up_self _ _ _ | rfl | assumption | exact (va_up_ne _ _ (by omega)).trans h1) (fun _ => rfl) (fun _ => rfl) ?_
  try rw [va_uu]
  exact m_return hF dX3_init_22 rfl rfl rfl ⟨rfl, by rw [iX3_fin]⟩

theorem iX2_fin (q : Nat) (a b : Int32) : va_up (va_up (va_up iX2 0 (.ref q)) 1 (.int a)) 2 (.int b) = oPast q a b := by
  funext k
  match k with
  | 0 => rfl
  | 1 => rfl
  | 2 => rfl
  | k + 3 => simp [va_up, oPast, iX2]
theorem rSet_up (b : Nat) : va_up (va_up (va_up (va_up (va_up (va_up (fun _ => none) 0 (some (b + 0))) 1 (some (b + 2))) 2 (some (b + 4))) 3 (some (b + 6))) 4 (some (b + 8))) 5 (some (b + 10)) = rSet b := by
  funext k
  match k with
  | 0 => rfl
  | 1 => rfl
  | 2 => rfl
  | 3 => rfl
  | 4 => rfl
  | 5 => rfl
  | k + 6 => simp [va_up, rSet]
set_option maxHeartbeats 400000 in
set_option maxRecDepth 100000 in
theorem t_X2_init_3 {hp : mHp} (h1 : hp 3 = eO 2 iX2) {H : Nat → Nat → Int32} : mC D_X2_init [.ref 3] 4 hp (fun v hp' => v = none ∧ cHist hp' 3 0 H ∧ ∀ q, (q < 3 ∨ 16 < q) → hp' q = hp q) := by
  refine m_enter rfl rfl (Nat.le_of_ble_eq_true rfl) (fun K hF => ?_)
  have hin := hF.2.2.2.1
  show mW K _ 0 0 _ _ 0 [.ref 3, .retAddr 0] []
  refine m_aload_n dX2_init_0 rfl ?_
  refine m_objInit dX2_init_1 lk_X2_1 (Nat.le_of_ble_eq_true rfl) (by decide) ?_
  refine m_aload_n dX2_init_4 rfl ?_
  refine m_bipush (v := 6) dX2_init_5 (by decide) ?_
  refine m_anewarray (N := 6) dX2_init_7 w_1_53 ⟨by decide, by decide⟩ (by decide) (by decide) (by decide) ?_
  show mW _ _ _ _ 5 _ _ _ (.ref 4 :: _)
  refine m_putfieldF dX2_init_10 fl_X2_11 ⟨RX2, TX2, 3, rfl, rfl⟩ (by first | exact va_up_self _ _ _ | rfl | exact h1) hin (fun _ => rfl) (fun _ => rfl) ?_
  try rw [va_uu]
  refine m_iconst (v := 0) dX2_init_13 (by decide) ?_
  refine m_istore_n dX2_init_14 (by decide) ?_
  show mW _ _ _ _ _ _ 15 [_, _] _
  refine m_iload_n dX2_init_15 rfl ?_
  refine m_bipush (v := 6) dX2_init_16 (by decide) ?_
  refine m_icmp_ge (t := 40) dX2_init_18 (by decide) (fun q => absurd q (by decide)) (fun _ => ?_)
  refine m_aload_n dX2_init_21 rfl ?_
  refine m_getfield dX2_init_22 fl_X2_11 (by first | exact va_up_self _ _ _ | rfl | exact h1) (by first | exact va_up_self _ _ _ | rfl | exact h1) ?_
  show mW _ _ _ _ _ _ _ _ (.ref _ :: _)
  refine m_iload_n dX2_init_25 rfl ?_
  refine m_new (ci := 3) (f := iX3) dX2_init_26 rfl inT3 tyX3_ok w_1_53 w_1_23 w_1_2 iX3_ok (by decide) (by decide) (by decide) ?_
  show mW _ _ _ _ 6 _ _ _ (.ref 5 :: _)
  refine m_dup dX2_init_29 rfl ?_
  refine m_invI dX2_init_30 lk_X2_15 ar_X3_init rfl (t_X3_init (h := 5) (va_up_self _ _ _) (by decide) (by decide)) rfl (Nat.le_of_ble_eq_true rfl) (by decide) (by decide) (by decide) (by decide) (fun v hp' q => ?_)
  obtain ⟨rfl, rfl⟩ := q
  show mW K _ _ _ 7 _ 33 _ (.ref 5 :: _)
  refine m_aastore (ci := 3) (k := 0) dX2_init_33 (by first | exact va_up_self _ _ _ | rfl | exact h1) ⟨by decide, by decide⟩ (by first | exact va_up_self _ _ _ | rfl | exact h1) ?_
  try rw [va_uu]
  refine m_iinc (v := 1) dX2_init_34 rfl (by decide) (by decide) ?_
  show mW _ _ _ _ _ _ 37 [_, _] _
  refine m_goto (t := 15) dX2_init_37 (by decide) ?_
  refine m_iload_n dX2_init_15 rfl ?_
  refine m_bipush (v := 6) dX2_init_16 (by decide) ?_
  refine m_icmp_ge (t := 40) dX2_init_18 (by decide) (fun q => absurd q (by decide)) (fun _ => ?_)
  refine m_aload_n dX2_init_21 rfl ?_
  refine m_getfield dX2_init_22 fl_X2_11 (by first | exact va_up_self _ _ _ | rfl | exact h1) (by first | exact va_up_self _ _ _ | rfl | exact h1) ?_
  show mW _ _ _ _ _ _ _ _ (.ref _ :: _)
  refine m_iload_n dX2_init_25 rfl ?_
  refine m_new (ci := 3) (f := iX3) dX2_init_26 rfl inT3 tyX3_ok w_1_53 w_1_23 w_1_2 iX3_ok (by decide) (by decide) (by decide) ?_
  show mW _ _ _ _ 8 _ _ _ (.ref 7 :: _)
  refine m_dup dX2_init_29 rfl ?_
  refine m_invI dX2_init_30 lk_X2_15 ar_X3_init rfl (t_X3_init (h := 7) (va_up_self _ _ _) (by decide) (by decide)) rfl (Nat.le_of_ble_eq_true rfl) (by decide) (by decide) (by decide) (by decide) (fun v hp' q => ?_)
  obtain ⟨rfl, rfl⟩ := q
  show mW K _ _ _ 9 _ 33 _ (.ref 7 :: _)
  refine m_aastore (ci := 3) (k := 1) dX2_init_33 (by first | exact va_up_self _ _ _ | rfl | exact h1) ⟨by decide, by decide⟩ (by first | exact va_up_self _ _ _ | rfl | exact h1) ?_
  try rw [va_uu]
  refine m_iinc (v := 2) dX2_init_34 rfl (by decide) (by decide) ?_
  show mW _ _ _ _ _ _ 37 [_, _] _
  refine m_goto (t := 15) dX2_init_37 (by decide) ?_
  refine m_iload_n dX2_init_15 rfl ?_
  refine m_bipush (v := 6) dX2_init_16 (by decide) ?_
  refine m_icmp_ge (t := 40) dX2_init_18 (by decide) (fun q => absurd q (by decide)) (fun _ => ?_)
  refine m_aload_n dX2_init_21 rfl ?_
  refine m_getfield dX2_init_22 fl_X2_11 (by first | exact va_up_self _ _ _ | rfl | exact h1) (by first | exact va_up_self _ _ _ | rfl | exact h1) ?_
  show mW _ _ _ _ _ _ _ _ (.ref _ :: _)
  refine m_iload_n dX2_init_25 rfl ?_
  refine m_new (ci := 3) (f := iX3) dX2_init_26 rfl inT3 tyX3_ok w_1_53 w_1_23 w_1_2 iX3_ok (by decide) (by decide) (by decide) ?_
  show mW _ _ _ _ 10 _ _ _ (.ref 9 :: _)
  refine m_dup dX2_init_29 rfl ?_
  refine m_invI dX2_init_30 lk_X2_15 ar_X3_init rfl (t_X3_init (h := 9) (va_up_self _ _ _) (by decide) (by decide)) rfl (Nat.le_of_ble_eq_true rfl) (by decide) (by decide) (by decide) (by decide) (fun v hp' q => ?_)
  obtain ⟨rfl, rfl⟩ := q
  show mW K _ _ _ 11 _ 33 _ (.ref 9 :: _)
  refine m_aastore (ci := 3) (k := 2) dX2_init_33 (by first | exact va_up_self _ _ _ | rfl | exact h1) ⟨by decide, by decide⟩ (by first | exact va_up_self _ _ _ | rfl | exact h1) ?_
  try rw [va_uu]
  refine m_iinc (v := 3) dX2_init_34 rfl (by decide) (by decide) ?_
  show mW _ _ _ _ _ _ 37 [_, _] _
  refine m_goto (t := 15) dX2_init_37 (by decide) ?_
  refine m_iload_n dX2_init_15 rfl ?_
  refine m_bipush (v := 6) dX2_init_16 (by decide) ?_
  refine m_icmp_ge (t := 40) dX2_init_18 (by decide) (fun q => absurd q (by decide)) (fun _ => ?_)
  refine m_aload_n dX2_init_21 rfl ?_
  refine m_getfield dX2_init_22 fl_X2_11 (by first | exact va_up_self _ _ _ | rfl | exact h1) (by first | exact va_up_self _ _ _ | rfl | exact h1) ?_
  show mW _ _ _ _ _ _ _ _ (.ref _ :: _)
  refine m_iload_n dX2_init_25 rfl ?_
  refine m_new (ci := 3) (f := iX3) dX2_init_26 rfl inT3 tyX3_ok w_1_53 w_1_23 w_1_2 iX3_ok (by decide) (by decide) (by decide) ?_
  show mW _ _ _ _ 12 _ _ _ (.ref 11 :: _)
  refine m_dup dX2_init_29 rfl ?_
  refine m_invI dX2_init_30 lk_X2_15 ar_X3_init rfl (t_X3_init (h := 11) (va_up_self _ _ _) (by decide) (by decide)) rfl (Nat.le_of_ble_eq_true rfl) (by decide) (by decide) (by decide) (by decide) (fun v hp' q => ?_)
  obtain ⟨rfl, rfl⟩ := q
  show mW K _ _ _ 13 _ 33 _ (.ref 11 :: _)
  refine m_aastore (ci := 3) (k := 3) dX2_init_33 (by first | exact va_up_self _ _ _ | rfl | exact h1) ⟨by decide, by decide⟩ (by first | exact va_up_self _ _ _ | rfl | exact h1) ?_
  try rw [va_uu]
  refine m_iinc (v := 4) dX2_init_34 rfl (by decide) (by decide) ?_
  show mW _ _ _ _ _ _ 37 [_, _] _
  refine m_goto (t := 15) dX2_init_37 (by decide) ?_
  refine m_iload_n dX2_init_15 rfl ?_
  refine m_bipush (v := 6) dX2_init_16 (by decide) ?_
  refine m_icmp_ge (t := 40) dX2_init_18 (by decide) (fun q => absurd q (by decide)) (fun _ => ?_)
  refine m_aload_n dX2_init_21 rfl ?_
  refine m_getfield dX2_init_22 fl_X2_11 (by first | exact va_up_self _ _ _ | rfl | exact h1) (by first | exact va_up_self _ _ _ | rfl | exact h1) ?_
  show mW _ _ _ _ _ _ _ _ (.ref _ :: _)
  refine m_iload_n dX2_init_25 rfl ?_
  refine m_new (ci := 3) (f := iX3) dX2_init_26 rfl inT3 tyX3_ok w_1_53 w_1_23 w_1_2 iX3_ok (by decide) (by decide) (by decide) ?_
  show mW _ _ _ _ 14 _ _ _ (.ref 13 :: _)
  refine m_dup dX2_init_29 rfl ?_
  refine m_invI dX2_init_30 lk_X2_15 ar_X3_init rfl (t_X3_init (h := 13) (va_up_self _ _ _) (by decide) (by decide)) rfl (Nat.le_of_ble_eq_true rfl) (by decide) (by decide) (by decide) (by decide) (fun v hp' q => ?_)
  obtain ⟨rfl, rfl⟩ := q
  show mW K _ _ _ 15 _ 33 _ (.ref 13 :: _)
  refine m_aastore (ci := 3) (k := 4) dX2_init_33 (by first | exact va_up_self _ _ _ | rfl | exact h1) ⟨by decide, by decide⟩ (by first | exact va_up_self _ _ _ | rfl | exact h1) ?_
  try rw [va_uu]
  refine m_iinc (v := 5) dX2_init_34 rfl (by decide) (by decide) ?_
  show mW _ _ _ _ _ _ 37 [_, _] _
  refine m_goto (t := 15) dX2_init_37 (by decide) ?_
  refine m_iload_n dX2_init_15 rfl ?_
  refine m_bipush (v := 6) dX2_init_16 (by decide) ?_
  refine m_icmp_ge (t := 40) dX2_init_18 (by decide) (fun q => absurd q (by decide)) (fun _ => ?_)
  refine m_aload_n dX2_init_21 rfl ?_
  refine m_getfield dX2_init_22 fl_X2_11 (by first | exact va_up_self _ _ _ | rfl | exact h1) (by first | exact va_up_self _ _ _ | rfl | exact h1) ?_
  show mW _ _ _ _ _ _ _ _ (.ref _ :: _)
  refine m_iload_n dX2_init_25 rfl ?_
  refine m_new (ci := 3) (f := iX3) dX2_init_26 rfl inT3 tyX3_ok w_1_53 w_1_23 w_1_2 iX3_ok (by decide) (by decide) (by decide) ?_
  show mW _ _ _ _ 16 _ _ _ (.ref 15 :: _)
  refine m_dup dX2_init_29 rfl ?_
  refine m_invI dX2_init_30 lk_X2_15 ar_X3_init rfl (t_X3_init (h := 15) (va_up_self _ _ _) (by decide) (by decide)) rfl (Nat.le_of_ble_eq_true rfl) (by decide) (by decide) (by decide) (by decide) (fun v hp' q => ?_)
  obtain ⟨rfl, rfl⟩ := q
  show mW K _ _ _ 17 _ 33 _ (.ref 15 :: _)
  refine m_aastore (ci := 3) (k := 5) dX2_init_33 (by first | exact va_up_self _ _ _ | rfl | exact h1) ⟨by decide, by decide⟩ (by first | exact va_up_self _ _ _ | rfl | exact h1) ?_
  try rw [va_uu]
  refine m_iinc (v := 6) dX2_init_34 rfl (by decide) (by decide) ?_
  show mW _ _ _ _ _ _ 37 [_, _] _
  refine m_goto (t := 15) dX2_init_37 (by decide) ?_
  refine m_iload_n dX2_init_15 rfl ?_
  refine m_bipush (v := 6) dX2_init_16 (by decide) ?_
  refine m_icmp_ge (t := 40) dX2_init_18 (by decide) (fun _ => ?_) (fun q => absurd (by decide) q)
  refine m_aload_n dX2_init_40 rfl ?_
  refine m_iconst (v := 0) dX2_init_41 (by decide) ?_
  refine m_putfield dX2_init_42 fl_X2_16 (by first | exact va_up_self _ _ _ | rfl | exact h1) (fun _ => rfl) (fun _ => rfl) ?_
  try rw [va_uu]
  refine m_aload_n dX2_init_45 rfl ?_
  refine m_iconst (v := 0) dX2_init_46 (by decide) ?_
  refine m_putfield dX2_init_47 fl_X2_20 (by first | exact va_up_self _ _ _ | rfl | exact h1) (fun _ => rfl) (fun _ => rfl) ?_
  try rw [va_uu]
  exact m_return hF dX2_init_50 rfl rfl rfl ⟨rfl, ⟨0, fun _ => 0, fun _ => 1, fun _ _ => 0, by decide, by decide, congrArg (eO 2) (iX2_fin 4 0 0), congrArg (eR tyS 6) (rSet_up 5), fun i hi => (by
    match i, hi with
    | 0, _ => exact ⟨rfl, rfl⟩
    | 1, _ => exact ⟨rfl, rfl⟩
    | 2, _ => exact ⟨rfl, rfl⟩
    | 3, _ => exact ⟨rfl, rfl⟩
    | 4, _ => exact ⟨rfl, rfl⟩
    | 5, _ => exact ⟨rfl, rfl⟩), fun j hj => absurd hj (Nat.not_lt_zero _)⟩, fun q hq => by repeat rw [va_up_ne _ _ (by omega)]⟩

set_option maxHeartbeats 400000 in
set_option maxRecDepth 100000 in
theorem t_X2_init_19 {hp : mHp} (h1 : hp 19 = eO 2 iX2) {H : Nat → Nat → Int32} : mC D_X2_init [.ref 19] 20 hp (fun v hp' => v = none ∧ cHist hp' 19 0 H ∧ ∀ q, (q < 19 ∨ 32 < q) → hp' q = hp q) := by
  refine m_enter rfl rfl (Nat.le_of_ble_eq_true rfl) (fun K hF => ?_)
  have hin := hF.2.2.2.1
  show mW K _ 0 0 _ _ 0 [.ref 19, .retAddr 0] []
  refine m_aload_n dX2_init_0 rfl ?_
  refine m_objInit dX2_init_1 lk_X2_1 (Nat.le_of_ble_eq_true rfl) (by decide) ?_
  refine m_aload_n dX2_init_4 rfl ?_
  refine m_bipush (v := 6) dX2_init_5 (by decide) ?_
  refine m_anewarray (N := 6) dX2_init_7 w_1_53 ⟨by decide, by decide⟩ (by decide) (by decide) (by decide) ?_
  show mW _ _ _ _ 21 _ _ _ (.ref 20 :: _)
  refine m_putfieldF dX2_init_10 fl_X2_11 ⟨RX2, TX2, 3, rfl, rfl⟩ (by first | exact va_up_self _ _ _ | rfl | exact h1) hin (fun _ => rfl) (fun _ => rfl) ?_
  try rw [va_uu]
  refine m_iconst (v := 0) dX2_init_13 (by decide) ?_
  refine m_istore_n dX2_init_14 (by decide) ?_
  show mW _ _ _ _ _ _ 15 [_, _] _
  refine m_iload_n dX2_init_15 rfl ?_
  refine m_bipush (v := 6) dX2_init_16 (by decide) ?_
  refine m_icmp_ge (t := 40) dX2_init_18 (by decide) (fun q => absurd q (by decide)) (fun _ => ?_)
  refine m_aload_n dX2_init_21 rfl ?_
  refine m_getfield dX2_init_22 fl_X2_11 (by first | exact va_up_self _ _ _ | rfl | exact h1) (by first | exact va_up_self _ _ _ | rfl | exact h1) ?_
  show mW _ _ _ _ _ _ _ _ (.ref _ :: _)
  refine m_iload_n dX2_init_25 rfl ?_
  refine m_new (ci := 3) (f := iX3) dX2_init_26 rfl inT3 tyX3_ok w_1_53 w_1_23 w_1_2 iX3_ok (by decide) (by decide) (by decide) ?_
  show mW _ _ _ _ 22 _ _ _ (.ref 21 :: _)
  refine m_dup dX2_init_29 rfl ?_
  refine m_invI dX2_init_30 lk_X2_15 ar_X3_init rfl (t_X3_init (h := 21) (va_up_self _ _ _) (by decide) (by decide)) rfl (Nat.le_of_ble_eq_true rfl) (by decide) (by decide) (by decide) (by decide) (fun v hp' q => ?_)
  obtain ⟨rfl, rfl⟩ := q
  show mW K _ _ _ 23 _ 33 _ (.ref 21 :: _)
  refine m_aastore (ci := 3) (k := 0) dX2_init_33 (by first | exact va_up_self _ _ _ | rfl | exact h1) ⟨by decide, by decide⟩ (by first | exact va_up_self _ _ _ | rfl | exact h1) ?_
  try rw [va_uu]
  refine m_iinc (v := 1) dX2_init_34 rfl (by decide) (by decide) ?_
  show mW _ _ _ _ _ _ 37 [_, _] _
  refine m_goto (t := 15) dX2_init_37 (by decide) ?_
  refine m_iload_n dX2_init_15 rfl ?_
  refine m_bipush (v := 6) dX2_init_16 (by decide) ?_
  refine m_icmp_ge (t := 40) dX2_init_18 (by decide) (fun q => absurd q (by decide)) (fun _ => ?_)
  refine m_aload_n dX2_init_21 rfl ?_
  refine m_getfield dX2_init_22 fl_X2_11 (by first | exact va_up_self _ _ _ | rfl | exact h1) (by first | exact va_up_self _ _ _ | rfl | exact h1) ?_
  show mW _ _ _ _ _ _ _ _ (.ref _ :: _)
  refine m_iload_n dX2_init_25 rfl ?_
  refine m_new (ci := 3) (f := iX3) dX2_init_26 rfl inT3 tyX3_ok w_1_53 w_1_23 w_1_2 iX3_ok (by decide) (by decide) (by decide) ?_
  show mW _ _ _ _ 24 _ _ _ (.ref 23 :: _)
  refine m_dup dX2_init_29 rfl ?_
  refine m_invI dX2_init_30 lk_X2_15 ar_X3_init rfl (t_X3_init (h := 23) (va_up_self _ _ _) (by decide) (by decide)) rfl (Nat.le_of_ble_eq_true rfl) (by decide) (by decide) (by decide) (by decide) (fun v hp' q => ?_)
  obtain ⟨rfl, rfl⟩ := q
  show mW K _ _ _ 25 _ 33 _ (.ref 23 :: _)
  refine m_aastore (ci := 3) (k := 1) dX2_init_33 (by first | exact va_up_self _ _ _ | rfl | exact h1) ⟨by decide, by decide⟩ (by first | exact va_up_self _ _ _ | rfl | exact h1) ?_
  try rw [va_uu]
  refine m_iinc (v := 2) dX2_init_34 rfl (by decide) (by decide) ?_
  show mW _ _ _ _ _ _ 37 [_, _] _
  refine m_goto (t := 15) dX2_init_37 (by decide) ?_
  refine m_iload_n dX2_init_15 rfl ?_
  refine m_bipush (v := 6) dX2_init_16 (by decide) ?_
  refine m_icmp_ge (t := 40) dX2_init_18 (by decide) (fun q => absurd q (by decide)) (fun _ => ?_)
  refine m_aload_n dX2_init_21 rfl ?_
  refine m_getfield dX2_init_22 fl_X2_11 (by first | exact va_up_self _ _ _ | rfl | exact h1) (by first | exact va_up_self _ _ _ | rfl | exact h1) ?_
  show mW _ _ _ _ _ _ _ _ (.ref _ :: _)
  refine m_iload_n dX2_init_25 rfl ?_
  refine m_new (ci := 3) (f := iX3) dX2_init_26 rfl inT3 tyX3_ok w_1_53 w_1_23 w_1_2 iX3_ok (by decide) (by decide) (by decide) ?_
  show mW _ _ _ _ 26 _ _ _ (.ref 25 :: _)
  refine m_dup dX2_init_29 rfl ?_
  refine m_invI dX2_init_30 lk_X2_15 ar_X3_init rfl (t_X3_init (h := 25) (va_up_self _ _ _) (by decide) (by decide)) rfl (Nat.le_of_ble_eq_true rfl) (by decide) (by decide) (by decide) (by decide) (fun v hp' q => ?_)
  obtain ⟨rfl, rfl⟩ := q
  show mW K _ _ _ 27 _ 33 _ (.ref 25 :: _)
  refine m_aastore (ci := 3) (k := 2) dX2_init_33 (by first | exact va_up_self _ _ _ | rfl | exact h1) ⟨by decide, by decide⟩ (by first | exact va_up_self _ _ _ | rfl | exact h1) ?_
  try rw [va_uu]
  refine m_iinc (v := 3) dX2_init_34 rfl (by decide) (by decide) ?_
  show mW _ _ _ _ _ _ 37 [_, _] _
  refine m_goto (t := 15) dX2_init_37 (by decide) ?_
  refine m_iload_n dX2_init_15 rfl ?_
  refine m_bipush (v := 6) dX2_init_16 (by decide) ?_
  refine m_icmp_ge (t := 40) dX2_init_18 (by decide) (fun q => absurd q (by decide)) (fun _ => ?_)
  refine m_aload_n dX2_init_21 rfl ?_
  refine m_getfield dX2_init_22 fl_X2_11 (by first | exact va_up_self _ _ _ | rfl | exact h1) (by first | exact va_up_self _ _ _ | rfl | exact h1) ?_
  show mW _ _ _ _ _ _ _ _ (.ref _ :: _)
  refine m_iload_n dX2_init_25 rfl ?_
  refine m_new (ci := 3) (f := iX3) dX2_init_26 rfl inT3 tyX3_ok w_1_53 w_1_23 w_1_2 iX3_ok (by decide) (by decide) (by decide) ?_
  show mW _ _ _ _ 28 _ _ _ (.ref 27 :: _)
  refine m_dup dX2_init_29 rfl ?_
  refine m_invI dX2_init_30 lk_X2_15 ar_X3_init rfl (t_X3_init (h := 27) (va_up_self _ _ _) (by decide) (by decide)) rfl (Nat.le_of_ble_eq_true rfl) (by decide) (by decide) (by decide) (by decide) (fun v hp' q => ?_)
  obtain ⟨rfl, rfl⟩ := q
  show mW K _ _ _ 29 _ 33 _ (.ref 27 :: _)
  refine m_aastore (ci := 3) (k := 3) dX2_init_33 (by first | exact va_up_self _ _ _ | rfl | exact h1) ⟨by decide, by decide⟩ (by first | exact va_up_self _ _ _ | rfl | exact h1) ?_
  try rw [va_uu]
  refine m_iinc (v := 4) dX2_init_34 rfl (by decide) (by decide) ?_
  show mW _ _ _ _ _ _ 37 [_, _] _
  refine m_goto (t := 15) dX2_init_37 (by decide) ?_
  refine m_iload_n dX2_init_15 rfl ?_
  refine m_bipush (v := 6) dX2_init_16 (by decide) ?_
  refine m_icmp_ge (t := 40) dX2_init_18 (by decide) (fun q => absurd q (by decide)) (fun _ => ?_)
  refine m_aload_n dX2_init_21 rfl ?_
  refine m_getfield dX2_init_22 fl_X2_11 (by first | exact va_up_self _ _ _ | rfl | exact h1) (by first | exact va_up_self _ _ _ | rfl | exact h1) ?_
  show mW _ _ _ _ _ _ _ _ (.ref _ :: _)
  refine m_iload_n dX2_init_25 rfl ?_
  refine m_new (ci := 3) (f := iX3) dX2_init_26 rfl inT3 tyX3_ok w_1_53 w_1_23 w_1_2 iX3_ok (by decide) (by decide) (by decide) ?_
  show mW _ _ _ _ 30 _ _ _ (.ref 29 :: _)
  refine m_dup dX2_init_29 rfl ?_
  refine m_invI dX2_init_30 lk_X2_15 ar_X3_init rfl (t_X3_init (h := 29) (va_up_self _ _ _) (by decide) (by decide)) rfl (Nat.le_of_ble_eq_true rfl) (by decide) (by decide) (by decide) (by decide) (fun v hp' q => ?_)
  obtain ⟨rfl, rfl⟩ := q
  show mW K _ _ _ 31 _ 33 _ (.ref 29 :: _)
  refine m_aastore (ci := 3) (k := 4) dX2_init_33 (by first | exact va_up_self _ _ _ | rfl | exact h1) ⟨by decide, by decide⟩ (by first | exact va_up_self _ _ _ | rfl | exact h1) ?_
  try rw [va_uu]
  refine m_iinc (v := 5) dX2_init_34 rfl (by decide) (by decide) ?_
  show mW _ _ _ _ _ _ 37 [_, _] _
  refine m_goto (t := 15) dX2_init_37 (by decide) ?_
  refine m_iload_n dX2_init_15 rfl ?_
  refine m_bipush (v := 6) dX2_init_16 (by decide) ?_
  refine m_icmp_ge (t := 40) dX2_init_18 (by decide) (fun q => absurd q (by decide)) (fun _ => ?_)
  refine m_aload_n dX2_init_21 rfl ?_
  refine m_getfield dX2_init_22 fl_X2_11 (by first | exact va_up_self _ _ _ | rfl | exact h1) (by first | exact va_up_self _ _ _ | rfl | exact h1) ?_
  show mW _ _ _ _ _ _ _ _ (.ref _ :: _)
  refine m_iload_n dX2_init_25 rfl ?_
  refine m_new (ci := 3) (f := iX3) dX2_init_26 rfl inT3 tyX3_ok w_1_53 w_1_23 w_1_2 iX3_ok (by decide) (by decide) (by decide) ?_
  show mW _ _ _ _ 32 _ _ _ (.ref 31 :: _)
  refine m_dup dX2_init_29 rfl ?_
  refine m_invI dX2_init_30 lk_X2_15 ar_X3_init rfl (t_X3_init (h := 31) (va_up_self _ _ _) (by decide) (by decide)) rfl (Nat.le_of_ble_eq_true rfl) (by decide) (by decide) (by decide) (by decide) (fun v hp' q => ?_)
  obtain ⟨rfl, rfl⟩ := q
  show mW K _ _ _ 33 _ 33 _ (.ref 31 :: _)
  refine m_aastore (ci := 3) (k := 5) dX2_init_33 (by first | exact va_up_self _ _ _ | rfl | exact h1) ⟨by decide, by decide⟩ (by first | exact va_up_self _ _ _ | rfl | exact h1) ?_
  try rw [va_uu]
  refine m_iinc (v := 6) dX2_init_34 rfl (by decide) (by decide) ?_
  show mW _ _ _ _ _ _ 37 [_, _] _
  refine m_goto (t := 15) dX2_init_37 (by decide) ?_
  refine m_iload_n dX2_init_15 rfl ?_
  refine m_bipush (v := 6) dX2_init_16 (by decide) ?_
  refine m_icmp_ge (t := 40) dX2_init_18 (by decide) (fun _ => ?_) (fun q => absurd (by decide) q)
  refine m_aload_n dX2_init_40 rfl ?_
  refine m_iconst (v := 0) dX2_init_41 (by decide) ?_
  refine m_putfield dX2_init_42 fl_X2_16 (by first | exact va_up_self _ _ _ | rfl | exact h1) (fun _ => rfl) (fun _ => rfl) ?_
  try rw [va_uu]
  refine m_aload_n dX2_init_45 rfl ?_
  refine m_iconst (v := 0) dX2_init_46 (by decide) ?_
  refine m_putfield dX2_init_47 fl_X2_20 (by first | exact va_up_self _ _ _ | rfl | exact h1) (fun _ => rfl) (fun _ => rfl) ?_
  try rw [va_uu]
  exact m_return hF dX2_init_50 rfl rfl rfl ⟨rfl, ⟨0, fun _ => 0, fun _ => 1, fun _ _ => 0, by decide, by decide, congrArg (eO 2) (iX2_fin 20 0 0), congrArg (eR tyS 6) (rSet_up 21), fun i hi => (by
    match i, hi with
    | 0, _ => exact ⟨rfl, rfl⟩
    | 1, _ => exact ⟨rfl, rfl⟩
    | 2, _ => exact ⟨rfl, rfl⟩
    | 3, _ => exact ⟨rfl, rfl⟩
    | 4, _ => exact ⟨rfl, rfl⟩
    | 5, _ => exact ⟨rfl, rfl⟩), fun j hj => absurd hj (Nat.not_lt_zero _)⟩, fun q hq => by repeat rw [va_up_ne _ _ (by omega)]⟩

theorem iX6_fin : va_up (va_up (va_up (va_up (va_up (va_up (va_up (iX6) 0 (.ref 34)) 1 (.ref 35)) 2 (.int 0)) 3 (.int 0)) 4 (.int 0)) 5 (.int 0)) 6 (.int 0) = oTape 0 0 0 0 0 := by
  funext k
  match k with
  | 0 => rfl
  | 1 => rfl
  | 2 => rfl
  | 3 => rfl
  | 4 => rfl
  | 5 => rfl
  | 6 => rfl
  | k + 7 => simp [va_up, oTape, iX6]
set_option maxHeartbeats 400000 in
set_option maxRecDepth 100000 in
theorem t_X6_init {hp : mHp} (h1 : hp 33 = eO 6 iX6) : mC D_X6_init [.ref 33] 34 hp (fun v hp' => v = none ∧ cTape hp' 0 (fun _ => 0) ∧ ∀ q, (q < 33 ∨ 35 < q) → hp' q = hp q) := by
  refine m_enter rfl rfl (Nat.le_of_ble_eq_true rfl) (fun K hF => ?_)
  have hin := hF.2.2.2.1
  show mW K _ 0 0 _ _ 0 [.ref 33] []
  refine m_aload_n dX6_init_0 rfl ?_
  refine m_objInit dX6_init_1 lk_X6_3 (Nat.le_of_ble_eq_true rfl) (by decide) ?_
  refine m_aload_n dX6_init_4 rfl ?_
  refine m_bipush (v := 60) dX6_init_5 (by decide) ?_
  refine m_newarray (ty := .byte) (a0 := (60, .inl (fun _ => 0))) (N := 60) dX6_init_7 rfl w_1_98 (fun _ _ => rfl) ⟨2, fun _ => rfl⟩ (fun _ q => by cases q) ⟨by decide, by decide⟩ (by decide) (by decide) (by decide) (by decide) ?_
  show mW _ _ _ _ 35 _ _ _ (.ref 34 :: _)
  refine m_putfieldF dX6_init_9 fl_X6_11 ⟨RX6, TX6, 7, rfl, rfl⟩ (by first | exact va_up_self _ _ _ | rfl | exact h1) hin (fun _ => rfl) (fun _ => rfl) ?_
  try rw [va_uu]
  refine m_aload_n dX6_init_12 rfl ?_
  refine m_bipush (v := 10) dX6_init_13 (by decide) ?_
  refine m_newarray (ty := .int) (a0 := (10, .inl (fun _ => 0))) (N := 10) dX6_init_15 rfl w_1_42 (fun _ _ => rfl) ⟨0, fun _ => rfl⟩ (fun _ q => by cases q) ⟨by decide, by decide⟩ (by decide) (by decide) (by decide) (by decide) ?_
  show mW _ _ _ _ 36 _ _ _ (.ref 35 :: _)
  refine m_putfieldF dX6_init_17 fl_X6_15 ⟨RX6, TX6, 7, rfl, rfl⟩ (by first | exact va_up_self _ _ _ | rfl | exact h1) hin (fun _ => rfl) (fun _ => rfl) ?_
  try rw [va_uu]
  refine m_aload_n dX6_init_20 rfl ?_
  refine m_iconst (v := 0) dX6_init_21 (by decide) ?_
  refine m_putfield dX6_init_22 fl_X6_19 (by first | exact va_up_self _ _ _ | rfl | exact h1) (fun _ => rfl) (fun _ => rfl) ?_
  try rw [va_uu]
  refine m_aload_n dX6_init_25 rfl ?_
  refine m_iconst (v := 0) dX6_init_26 (by decide) ?_
  refine m_putfield dX6_init_27 fl_X6_23 (by first | exact va_up_self _ _ _ | rfl | exact h1) (fun _ => rfl) (fun _ => rfl) ?_
  try rw [va_uu]
  refine m_aload_n dX6_init_30 rfl ?_
  refine m_iconst (v := 0) dX6_init_31 (by decide) ?_
  refine m_putfield dX6_init_32 fl_X6_27 (by first | exact va_up_self _ _ _ | rfl | exact h1) (fun _ => rfl) (fun _ => rfl) ?_
  try rw [va_uu]
  refine m_aload_n dX6_init_35 rfl ?_
  refine m_iconst (v := 0) dX6_init_36 (by decide) ?_
  refine m_putfield dX6_init_37 fl_X6_30 (by first | exact va_up_self _ _ _ | rfl | exact h1) (fun _ => rfl) (fun _ => rfl) ?_
  try rw [va_uu]
  refine m_aload_n dX6_init_40 rfl ?_
  refine m_iconst (v := 0) dX6_init_41 (by decide) ?_
  refine m_putfield dX6_init_42 fl_X6_33 (by first | exact va_up_self _ _ _ | rfl | exact h1) (fun _ => rfl) (fun _ => rfl) ?_
  try rw [va_uu]
  exact m_return hF dX6_init_45 rfl rfl rfl ⟨rfl, ⟨by decide, 0, 0, 0, 0, fun _ => 0, congrArg (eO 6) iX6_fin, rfl, rfl⟩, fun q hq => by repeat rw [va_up_ne _ _ (by omega)]⟩

theorem iX4_fin : va_up (va_up (va_up (iX4) 0 (.ref 37)) 1 (.ref 38)) 2 (.ref 39) = oShelf := by
  funext k
  match k with
  | 0 => rfl
  | 1 => rfl
  | 2 => rfl
  | k + 3 => simp [va_up, oShelf, iX4]
def LN0 : Nat → Int32 := va_up (va_up (va_up (va_up (fun _ => 0) 0 (-1)) 1 (-1)) 2 (-1)) 3 (-1)
def SH0 : SH := (LN0, fun _ => 0, fun _ _ => 0)
set_option maxHeartbeats 400000 in
set_option maxRecDepth 100000 in
theorem t_X4_init {hp : mHp} (h1 : hp 36 = eO 4 iX4) : mC D_X4_init [.ref 36] 37 hp (fun v hp' => v = none ∧ cShelf hp' SH0 ∧ ∀ q, (q < 36 ∨ 43 < q) → hp' q = hp q) := by
  refine m_enter rfl rfl (Nat.le_of_ble_eq_true rfl) (fun K hF => ?_)
  have hin := hF.2.2.2.1
  show mW K _ 0 0 _ _ 0 [.ref 36, .retAddr 0] []
  refine m_aload_n dX4_init_0 rfl ?_
  refine m_objInit dX4_init_1 lk_X4_3 (Nat.le_of_ble_eq_true rfl) (by decide) ?_
  refine m_aload_n dX4_init_4 rfl ?_
  refine m_iconst (v := 4) dX4_init_5 (by decide) ?_
  refine m_newarray (ty := .int) (a0 := (4, .inl (fun _ => 0))) (N := 4) dX4_init_6 rfl w_1_42 (fun _ _ => rfl) ⟨0, fun _ => rfl⟩ (fun _ q => by cases q) ⟨by decide, by decide⟩ (by decide) (by decide) (by decide) (by decide) ?_
  show mW _ _ _ _ 38 _ _ _ (.ref 37 :: _)
  refine m_putfieldF dX4_init_8 fl_X4_9 ⟨RX4, TX4, 3, rfl, rfl⟩ (by first | exact va_up_self _ _ _ | rfl | exact h1) hin (fun _ => rfl) (fun _ => rfl) ?_
  try rw [va_uu]
  refine m_aload_n dX4_init_11 rfl ?_
  refine m_iconst (v := 4) dX4_init_12 (by decide) ?_
  refine m_newarray (ty := .int) (a0 := (4, .inl (fun _ => 0))) (N := 4) dX4_init_13 rfl w_1_42 (fun _ _ => rfl) ⟨0, fun _ => rfl⟩ (fun _ q => by cases q) ⟨by decide, by decide⟩ (by decide) (by decide) (by decide) (by decide) ?_
  show mW _ _ _ _ 39 _ _ _ (.ref 38 :: _)
  refine m_putfieldF dX4_init_15 fl_X4_15 ⟨RX4, TX4, 3, rfl, rfl⟩ (by first | exact va_up_self _ _ _ | rfl | exact h1) hin (fun _ => rfl) (fun _ => rfl) ?_
  try rw [va_uu]
  refine m_aload_n dX4_init_18 rfl ?_
  refine m_iconst (v := 4) dX4_init_19 (by decide) ?_
  refine m_bipush (v := 24) dX4_init_20 (by decide) ?_
  refine m_mna (N := 4) (N2 := 24) dX4_init_22 w_1_105 ⟨by decide, by decide⟩ ⟨by decide, by decide⟩ (by decide) (by decide) (by decide) ?_
  show mW _ _ _ _ 44 _ _ _ (.ref 39 :: _)
  refine m_putfieldF dX4_init_26 fl_X4_20 ⟨RX4, TX4, 3, rfl, rfl⟩ (by first | exact va_up_self _ _ _ | rfl | exact h1) hin (fun _ => rfl) (fun _ => rfl) ?_
  try rw [va_uu]
  refine m_iconst (v := 0) dX4_init_29 (by decide) ?_
  refine m_istore_n dX4_init_30 (by decide) ?_
  show mW _ _ _ _ _ _ 31 [_, _] _
  refine m_iload_n dX4_init_31 rfl ?_
  refine m_iconst (v := 4) dX4_init_32 (by decide) ?_
  refine m_icmp_ge (t := 49) dX4_init_33 (by decide) (fun q => absurd q (by decide)) (fun _ => ?_)
  refine m_aload_n dX4_init_36 rfl ?_
  refine m_getfield dX4_init_37 fl_X4_9 (by first | exact va_up_self _ _ _ | rfl | exact h1) (by first | exact va_up_self _ _ _ | rfl | exact h1) ?_
  show mW _ _ _ _ _ _ _ _ (.ref _ :: _)
  refine m_iload_n dX4_init_40 rfl ?_
  refine m_iconst (v := -1) dX4_init_41 (by decide) ?_
  refine m_iastore (k := 0) dX4_init_42 (by first | exact va_up_self _ _ _ | rfl | exact h1) ⟨by decide, by decide⟩ ?_
  try rw [va_uu]
  refine m_iinc (v := 1) dX4_init_43 rfl (by decide) (by decide) ?_
  show mW _ _ _ _ _ _ 46 [_, _] _
  refine m_goto (t := 31) dX4_init_46 (by decide) ?_
  refine m_iload_n dX4_init_31 rfl ?_
  refine m_iconst (v := 4) dX4_init_32 (by decide) ?_
  refine m_icmp_ge (t := 49) dX4_init_33 (by decide) (fun q => absurd q (by decide)) (fun _ => ?_)
  refine m_aload_n dX4_init_36 rfl ?_
  refine m_getfield dX4_init_37 fl_X4_9 (by first | exact va_up_self _ _ _ | rfl | exact h1) (by first | exact va_up_self _ _ _ | rfl | exact h1) ?_
  show mW _ _ _ _ _ _ _ _ (.ref _ :: _)
  refine m_iload_n dX4_init_40 rfl ?_
  refine m_iconst (v := -1) dX4_init_41 (by decide) ?_
  refine m_iastore (k := 1) dX4_init_42 (by first | exact va_up_self _ _ _ | rfl | exact h1) ⟨by decide, by decide⟩ ?_
  try rw [va_uu]
  refine m_iinc (v := 2) dX4_init_43 rfl (by decide) (by decide) ?_
  show mW _ _ _ _ _ _ 46 [_, _] _
  refine m_goto (t := 31) dX4_init_46 (by decide) ?_
  refine m_iload_n dX4_init_31 rfl ?_
  refine m_iconst (v := 4) dX4_init_32 (by decide) ?_
  refine m_icmp_ge (t := 49) dX4_init_33 (by decide) (fun q => absurd q (by decide)) (fun _ => ?_)
  refine m_aload_n dX4_init_36 rfl ?_
  refine m_getfield dX4_init_37 fl_X4_9 (by first | exact va_up_self _ _ _ | rfl | exact h1) (by first | exact va_up_self _ _ _ | rfl | exact h1) ?_
  show mW _ _ _ _ _ _ _ _ (.ref _ :: _)
  refine m_iload_n dX4_init_40 rfl ?_
  refine m_iconst (v := -1) dX4_init_41 (by decide) ?_
  refine m_iastore (k := 2) dX4_init_42 (by first | exact va_up_self _ _ _ | rfl | exact h1) ⟨by decide, by decide⟩ ?_
  try rw [va_uu]
  refine m_iinc (v := 3) dX4_init_43 rfl (by decide) (by decide) ?_
  show mW _ _ _ _ _ _ 46 [_, _] _
  refine m_goto (t := 31) dX4_init_46 (by decide) ?_
  refine m_iload_n dX4_init_31 rfl ?_
  refine m_iconst (v := 4) dX4_init_32 (by decide) ?_
  refine m_icmp_ge (t := 49) dX4_init_33 (by decide) (fun q => absurd q (by decide)) (fun _ => ?_)
  refine m_aload_n dX4_init_36 rfl ?_
  refine m_getfield dX4_init_37 fl_X4_9 (by first | exact va_up_self _ _ _ | rfl | exact h1) (by first | exact va_up_self _ _ _ | rfl | exact h1) ?_
  show mW _ _ _ _ _ _ _ _ (.ref _ :: _)
  refine m_iload_n dX4_init_40 rfl ?_
  refine m_iconst (v := -1) dX4_init_41 (by decide) ?_
  refine m_iastore (k := 3) dX4_init_42 (by first | exact va_up_self _ _ _ | rfl | exact h1) ⟨by decide, by decide⟩ ?_
  try rw [va_uu]
  refine m_iinc (v := 4) dX4_init_43 rfl (by decide) (by decide) ?_
  show mW _ _ _ _ _ _ 46 [_, _] _
  refine m_goto (t := 31) dX4_init_46 (by decide) ?_
  refine m_iload_n dX4_init_31 rfl ?_
  refine m_iconst (v := 4) dX4_init_32 (by decide) ?_
  refine m_icmp_ge (t := 49) dX4_init_33 (by decide) (fun _ => ?_) (fun q => absurd (by decide) q)
  exact m_return hF dX4_init_49 rfl rfl rfl ⟨rfl, ⟨congrArg (eO 4) iX4_fin, rfl, rfl, rfl, fun s hs => (by
    match s, hs with
    | 0, _ => rfl
    | 1, _ => rfl
    | 2, _ => rfl
    | 3, _ => rfl)⟩, fun q hq => by repeat (first | rw [va_up_ne _ _ (by omega)] | rw [show ∀ hp : mHp, hpM hp 39 4 24 q = hp q from fun hp => (if_neg (by omega)).trans (if_neg (by omega))])⟩

theorem iX0_fin : va_up (va_up (va_up (iX0) 0 (.ref 46)) 1 (.ref 52)) 2 (.int 0) = oChain (nI 0) := by
  funext k
  match k with
  | 0 => rfl
  | 1 => rfl
  | 2 => rfl
  | k + 3 => simp [va_up, oChain, iX0]
set_option maxHeartbeats 400000 in
set_option maxRecDepth 100000 in
theorem t_X0_init {hp : mHp} (h1 : hp 45 = eO 0 iX0) : mC D_X0_init [.ref 45] 46 hp (fun v hp' => v = none ∧ hp' 45 = eO 0 (oChain (nI 0)) ∧ hp' 46 = eR tyJJ 5 rLines ∧ (∀ i, i < 5 → hp' (47 + i) = eL 5 (fun _ => 0)) ∧ hp' 52 = eI 5 (fun _ => 0) ∧ ∀ q, (q < 45 ∨ 52 < q) → hp' q = hp q) := by
  refine m_enter rfl rfl (Nat.le_of_ble_eq_true rfl) (fun K hF => ?_)
  have hin := hF.2.2.2.1
  show mW K _ 0 0 _ _ 0 [.ref 45] []
  refine m_aload_n dX0_init_0 rfl ?_
  refine m_objInit dX0_init_1 lk_X0_3 (Nat.le_of_ble_eq_true rfl) (by decide) ?_
  refine m_aload_n dX0_init_4 rfl ?_
  refine m_iconst (v := 5) dX0_init_5 (by decide) ?_
  refine m_iconst (v := 5) dX0_init_6 (by decide) ?_
  refine m_mna (N := 5) (N2 := 5) dX0_init_7 w_1_133 ⟨by decide, by decide⟩ ⟨by decide, by decide⟩ (by decide) (by decide) (by decide) ?_
  show mW _ _ _ _ 52 _ _ _ (.ref 46 :: _)
  refine m_putfieldF dX0_init_11 fl_X0_11 ⟨RX0, TX0, 3, rfl, rfl⟩ (by first | exact va_up_self _ _ _ | rfl | exact h1) hin (fun _ => rfl) (fun _ => rfl) ?_
  try rw [va_uu]
  refine m_aload_n dX0_init_14 rfl ?_
  refine m_iconst (v := 5) dX0_init_15 (by decide) ?_
  refine m_newarray (ty := .int) (a0 := (5, .inl (fun _ => 0))) (N := 5) dX0_init_16 rfl w_1_42 (fun _ _ => rfl) ⟨0, fun _ => rfl⟩ (fun _ q => by cases q) ⟨by decide, by decide⟩ (by decide) (by decide) (by decide) (by decide) ?_
  show mW _ _ _ _ 53 _ _ _ (.ref 52 :: _)
  refine m_putfieldF dX0_init_18 fl_X0_16 ⟨RX0, TX0, 3, rfl, rfl⟩ (by first | exact va_up_self _ _ _ | rfl | exact h1) hin (fun _ => rfl) (fun _ => rfl) ?_
  try rw [va_uu]
  refine m_aload_n dX0_init_21 rfl ?_
  refine m_iconst (v := 0) dX0_init_22 (by decide) ?_
  refine m_putfield dX0_init_23 fl_X0_20 (by first | exact va_up_self _ _ _ | rfl | exact h1) (fun _ => rfl) (fun _ => rfl) ?_
  try rw [va_uu]
  exact m_return hF dX0_init_26 rfl rfl rfl ⟨rfl, congrArg (eO 0) iX0_fin, rfl, fun i hi => (by
    match i, hi with
    | 0, _ => rfl
    | 1, _ => rfl
    | 2, _ => rfl
    | 3, _ => rfl
    | 4, _ => rfl), rfl, fun q hq => by repeat (first | rw [va_up_ne _ _ (by omega)] | rw [show ∀ hp : mHp, hpM hp 46 5 5 q = hp q from fun hp => (if_neg (by omega)).trans (if_neg (by omega))])⟩

theorem iX1_fin : va_up (va_up (va_up (va_up (va_up (iX1) 0 (.ref 45)) 1 (.ref 53)) 2 (.int 0)) 3 (.int 0)) 4 (.int 0) = oJudge 0 0 0 := by
  funext k
  match k with
  | 0 => rfl
  | 1 => rfl
  | 2 => rfl
  | 3 => rfl
  | 4 => rfl
  | k + 5 => simp [va_up, oJudge, iX1]
theorem hpC_mk {hp : mHp} (h1 : hp 45 = eO 0 (oChain (nI 0))) (h2 : ∀ i, i < 5 → hp (47 + i) = eL 5 (fun _ => 0)) (h3 : hp 52 = eI 5 (fun _ => 0)) : hp = hpC hp (fun _ _ => 0) (fun _ => 0) 0 := by
  funext q
  unfold hpC
  by_cases e1 : q = 45
  · rw [if_pos e1, e1]
    exact h1
  · rw [if_neg e1]
    by_cases e2 : q = 52
    · rw [if_pos e2, e2]
      exact h3
    · rw [if_neg e2]
      by_cases e3 : 47 ≤ q ∧ q < 52
      · rw [if_pos e3]
        have := h2 (q - 47) (by omega)
        rw [show 47 + (q - 47) = q by omega] at this
        exact this
      · rw [if_neg e3]
set_option maxHeartbeats 400000 in
set_option maxRecDepth 100000 in
theorem t_X1_init {hp : mHp} (h1 : hp 44 = eO 1 iX1) : mC D_X1_init [.ref 44] 45 hp (fun v hp' => v = none ∧ cJudge hp' ∧ ∀ q, (q < 44 ∨ 53 < q) → hp' q = hp q) := by
  refine m_enter rfl rfl (Nat.le_of_ble_eq_true rfl) (fun K hF => ?_)
  have hin := hF.2.2.2.1
  show mW K _ 0 0 _ _ 0 [.ref 44] []
  refine m_aload_n dX1_init_0 rfl ?_
  refine m_objInit dX1_init_1 lk_X1_3 (Nat.le_of_ble_eq_true rfl) (by decide) ?_
  refine m_aload_n dX1_init_4 rfl ?_
  refine m_new (ci := 0) (f := iX0) dX1_init_5 rfl inT0 tyX0_ok w_1_127 w_1_128 w_1_7 iX0_ok (by decide) (by decide) (by decide) ?_
  show mW _ _ _ _ 46 _ _ _ (.ref 45 :: _)
  refine m_dup dX1_init_8 rfl ?_
  refine m_invI dX1_init_9 lk_X1_11 ar_X0_init rfl (t_X0_init (va_up_self _ _ _)) rfl (Nat.le_of_ble_eq_true rfl) (by decide) (by decide) (by decide) (by decide) (fun v hp1 q => ?_)
  obtain ⟨rfl, k1, k2, k3, k4, kO⟩ := q
  have k0 : hp1 44 = eO 1 iX1 := (kO 44 (by decide)).trans h1
  show mW K _ _ _ 53 _ 12 _ (.ref 45 :: _)
  refine m_putfieldF dX1_init_12 fl_X1_12 ⟨RX1, TX1, 5, rfl, rfl⟩ (by first | exact va_up_self _ _ _ | rfl | exact k0 | exact (va_up_ne _ _ (by decide)).trans (va_up_self _ _ _)) hin (fun _ => rfl) (fun _ => rfl) ?_
  try rw [va_uu]
  refine m_aload_n dX1_init_15 rfl ?_
  refine m_iconst (v := 5) dX1_init_16 (by decide) ?_
  refine m_newarray (ty := .long) (a0 := (5, .inr (.inl (fun _ => 0)))) (N := 5) dX1_init_17 rfl w_1_120 (fun _ _ => rfl) ⟨1, fun _ => rfl⟩ (fun _ q => by cases q) ⟨by decide, by decide⟩ (by decide) (by decide) (by decide) (by decide) ?_
  show mW _ _ _ _ 54 _ _ _ (.ref 53 :: _)
  refine m_putfieldF dX1_init_19 fl_X1_18 ⟨RX1, TX1, 5, rfl, rfl⟩ (by first | exact va_up_self _ _ _ | rfl | exact k0 | exact (va_up_ne _ _ (by decide)).trans (va_up_self _ _ _)) hin (fun _ => rfl) (fun _ => rfl) ?_
  try rw [va_uu]
  refine m_aload_n dX1_init_22 rfl ?_
  refine m_iconst (v := 0) dX1_init_23 (by decide) ?_
  refine m_putfield dX1_init_24 fl_X1_22 (by first | exact va_up_self _ _ _ | rfl | exact k0 | exact (va_up_ne _ _ (by decide)).trans (va_up_self _ _ _)) (fun _ => rfl) (fun _ => rfl) ?_
  try rw [va_uu]
  refine m_aload_n dX1_init_27 rfl ?_
  refine m_iconst (v := 0) dX1_init_28 (by decide) ?_
  refine m_putfield dX1_init_29 fl_X1_26 (by first | exact va_up_self _ _ _ | rfl | exact k0 | exact (va_up_ne _ _ (by decide)).trans (va_up_self _ _ _)) (fun _ => rfl) (fun _ => rfl) ?_
  try rw [va_uu]
  refine m_aload_n dX1_init_32 rfl ?_
  refine m_iconst (v := 0) dX1_init_33 (by decide) ?_
  refine m_putfield dX1_init_34 fl_X1_29 (by first | exact va_up_self _ _ _ | rfl | exact k0 | exact (va_up_ne _ _ (by decide)).trans (va_up_self _ _ _)) (fun _ => rfl) (fun _ => rfl) ?_
  try rw [va_uu]
  exact m_return hF dX1_init_37 rfl rfl rfl ⟨rfl, ⟨fun _ _ => 0, fun _ => 0, 0, 0, 0, 0, fun _ => 0, hpC_mk k1 (fun i hi => by rw [va_up_ne _ _ (by omega), va_up_ne _ _ (by omega), va_up_ne _ _ (by omega)]; exact k3 i hi) k4, congrArg (eO 1) iX1_fin, k2, rfl⟩, fun q hq => by rw [va_up_ne _ _ (by omega), va_up_ne _ _ (by omega), va_up_ne _ _ (by omega), kO q (by omega), va_up_ne _ _ (by omega)]⟩

theorem iX5_fin54 : va_up (va_up (va_up (va_up (va_up (va_up (va_up (va_up (va_up (iX5) 0 (.int 0)) 1 (.ref 55)) 2 (.ref 56)) 3 (.ref 57)) 4 (.ref 58)) 5 (.ref 59)) 6 (.int 0)) 7 (.int 0)) 8 (.int 0) = oBk54 0 (nI 0) 0 := by
  funext k
  match k with
  | 0 => rfl
  | 1 => rfl
  | 2 => rfl
  | 3 => rfl
  | 4 => rfl
  | 5 => rfl
  | 6 => rfl
  | 7 => rfl
  | 8 => rfl
  | k + 9 => simp [va_up, oBk54, iX5]
set_option maxHeartbeats 400000 in
set_option maxRecDepth 100000 in
theorem t_X5_init_54 {hp : mHp} (h1 : hp 54 = eO 5 iX5) : mC D_X5_init [.ref 54, .int 0] 55 hp (fun v hp' => v = none ∧ cBk54 hp' ∧ ∀ q, (q < 54 ∨ 59 < q) → hp' q = hp q) := by
  refine m_enter rfl rfl (Nat.le_of_ble_eq_true rfl) (fun K hF => ?_)
  have hin := hF.2.2.2.1
  show mW K _ 0 0 _ _ 0 [.ref 54, .int 0] []
  refine m_aload_n dX5_init_0 rfl ?_
  refine m_objInit dX5_init_1 lk_X5_3 (Nat.le_of_ble_eq_true rfl) (by decide) ?_
  refine m_aload_n dX5_init_4 rfl ?_
  refine m_iload_n dX5_init_5 rfl ?_
  refine m_putfieldF dX5_init_6 fl_X5_9 ⟨RX5, TX5, 9, rfl, rfl⟩ (by first | exact va_up_self _ _ _ | rfl | exact h1) hin (fun _ => rfl) (fun _ => rfl) ?_
  try rw [va_uu]
  refine m_aload_n dX5_init_9 rfl ?_
  refine m_bipush (v := 10) dX5_init_10 (by decide) ?_
  refine m_newarray (ty := .int) (a0 := (10, .inl (fun _ => 0))) (N := 10) dX5_init_12 rfl w_1_42 (fun _ _ => rfl) ⟨0, fun _ => rfl⟩ (fun _ q => by cases q) ⟨by decide, by decide⟩ (by decide) (by decide) (by decide) (by decide) ?_
  show mW _ _ _ _ 56 _ _ _ (.ref 55 :: _)
  refine m_putfieldF dX5_init_14 fl_X5_15 ⟨RX5, TX5, 9, rfl, rfl⟩ (by first | exact va_up_self _ _ _ | rfl | exact h1) hin (fun _ => rfl) (fun _ => rfl) ?_
  try rw [va_uu]
  refine m_aload_n dX5_init_17 rfl ?_
  refine m_iconst (v := 5) dX5_init_18 (by decide) ?_
  refine m_newarray (ty := .long) (a0 := (5, .inr (.inl (fun _ => 0)))) (N := 5) dX5_init_19 rfl w_1_120 (fun _ _ => rfl) ⟨1, fun _ => rfl⟩ (fun _ q => by cases q) ⟨by decide, by decide⟩ (by decide) (by decide) (by decide) (by decide) ?_
  show mW _ _ _ _ 57 _ _ _ (.ref 56 :: _)
  refine m_putfieldF dX5_init_21 fl_X5_19 ⟨RX5, TX5, 9, rfl, rfl⟩ (by first | exact va_up_self _ _ _ | rfl | exact h1) hin (fun _ => rfl) (fun _ => rfl) ?_
  try rw [va_uu]
  refine m_aload_n dX5_init_24 rfl ?_
  refine m_bipush (v := 32) dX5_init_25 (by decide) ?_
  refine m_newarray (ty := .int) (a0 := (32, .inl (fun _ => 0))) (N := 32) dX5_init_27 rfl w_1_42 (fun _ _ => rfl) ⟨0, fun _ => rfl⟩ (fun _ q => by cases q) ⟨by decide, by decide⟩ (by decide) (by decide) (by decide) (by decide) ?_
  show mW _ _ _ _ 58 _ _ _ (.ref 57 :: _)
  refine m_putfieldF dX5_init_29 fl_X5_23 ⟨RX5, TX5, 9, rfl, rfl⟩ (by first | exact va_up_self _ _ _ | rfl | exact h1) hin (fun _ => rfl) (fun _ => rfl) ?_
  try rw [va_uu]
  refine m_aload_n dX5_init_32 rfl ?_
  refine m_bipush (v := 32) dX5_init_33 (by decide) ?_
  refine m_newarray (ty := .int) (a0 := (32, .inl (fun _ => 0))) (N := 32) dX5_init_35 rfl w_1_42 (fun _ _ => rfl) ⟨0, fun _ => rfl⟩ (fun _ q => by cases q) ⟨by decide, by decide⟩ (by decide) (by decide) (by decide) (by decide) ?_
  show mW _ _ _ _ 59 _ _ _ (.ref 58 :: _)
  refine m_putfieldF dX5_init_37 fl_X5_26 ⟨RX5, TX5, 9, rfl, rfl⟩ (by first | exact va_up_self _ _ _ | rfl | exact h1) hin (fun _ => rfl) (fun _ => rfl) ?_
  try rw [va_uu]
  refine m_aload_n dX5_init_40 rfl ?_
  refine m_bipush (v := 32) dX5_init_41 (by decide) ?_
  refine m_newarray (ty := .int) (a0 := (32, .inl (fun _ => 0))) (N := 32) dX5_init_43 rfl w_1_42 (fun _ _ => rfl) ⟨0, fun _ => rfl⟩ (fun _ q => by cases q) ⟨by decide, by decide⟩ (by decide) (by decide) (by decide) (by decide) ?_
  show mW _ _ _ _ 60 _ _ _ (.ref 59 :: _)
  refine m_putfieldF dX5_init_45 fl_X5_29 ⟨RX5, TX5, 9, rfl, rfl⟩ (by first | exact va_up_self _ _ _ | rfl | exact h1) hin (fun _ => rfl) (fun _ => rfl) ?_
  try rw [va_uu]
  refine m_aload_n dX5_init_48 rfl ?_
  refine m_iconst (v := 0) dX5_init_49 (by decide) ?_
  refine m_putfield dX5_init_50 fl_X5_32 (by first | exact va_up_self _ _ _ | rfl | exact h1) (fun _ => rfl) (fun _ => rfl) ?_
  try rw [va_uu]
  refine m_aload_n dX5_init_53 rfl ?_
  refine m_iconst (v := 0) dX5_init_54 (by decide) ?_
  refine m_putfield dX5_init_55 fl_X5_36 (by first | exact va_up_self _ _ _ | rfl | exact h1) (fun _ => rfl) (fun _ => rfl) ?_
  try rw [va_uu]
  refine m_aload_n dX5_init_58 rfl ?_
  refine m_iconst (v := 0) dX5_init_59 (by decide) ?_
  refine m_putfield dX5_init_60 fl_X5_39 (by first | exact va_up_self _ _ _ | rfl | exact h1) (fun _ => rfl) (fun _ => rfl) ?_
  try rw [va_uu]
  exact m_return hF dX5_init_63 rfl rfl rfl ⟨rfl, ⟨0, 0, 0, fun _ => 0, fun _ => 0, fun _ => 0, fun _ => 0, fun _ => 0, congrArg (eO 5) iX5_fin54, rfl, rfl, rfl, rfl, rfl, by decide, Or.inl rfl⟩, fun q hq => by repeat rw [va_up_ne _ _ (by omega)]⟩

theorem iX5_fin60 : va_up (va_up (va_up (va_up (va_up (va_up (va_up (va_up (va_up (iX5) 0 (.int 1)) 1 (.ref 61)) 2 (.ref 62)) 3 (.ref 63)) 4 (.ref 64)) 5 (.ref 65)) 6 (.int 0)) 7 (.int 0)) 8 (.int 0) = oBk60 0 (nI 0) 0 := by
  funext k
  match k with
  | 0 => rfl
  | 1 => rfl
  | 2 => rfl
  | 3 => rfl
  | 4 => rfl
  | 5 => rfl
  | 6 => rfl
  | 7 => rfl
  | 8 => rfl
  | k + 9 => simp [va_up, oBk60, iX5]
set_option maxHeartbeats 400000 in
set_option maxRecDepth 100000 in
theorem t_X5_init_60 {hp : mHp} (h1 : hp 60 = eO 5 iX5) : mC D_X5_init [.ref 60, .int 1] 61 hp (fun v hp' => v = none ∧ cBk60 hp' ∧ ∀ q, (q < 60 ∨ 65 < q) → hp' q = hp q) := by
  refine m_enter rfl rfl (Nat.le_of_ble_eq_true rfl) (fun K hF => ?_)
  have hin := hF.2.2.2.1
  show mW K _ 0 0 _ _ 0 [.ref 60, .int 1] []
  refine m_aload_n dX5_init_0 rfl ?_
  refine m_objInit dX5_init_1 lk_X5_3 (Nat.le_of_ble_eq_true rfl) (by decide) ?_
  refine m_aload_n dX5_init_4 rfl ?_
  refine m_iload_n dX5_init_5 rfl ?_
  refine m_putfieldF dX5_init_6 fl_X5_9 ⟨RX5, TX5, 9, rfl, rfl⟩ (by first | exact va_up_self _ _ _ | rfl | exact h1) hin (fun _ => rfl) (fun _ => rfl) ?_
  try rw [va_uu]
  refine m_aload_n dX5_init_9 rfl ?_
  refine m_bipush (v := 10) dX5_init_10 (by decide) ?_
  refine m_newarray (ty := .int) (a0 := (10, .inl (fun _ => 0))) (N := 10) dX5_init_12 rfl w_1_42 (fun _ _ => rfl) ⟨0, fun _ => rfl⟩ (fun _ q => by cases q) ⟨by decide, by decide⟩ (by decide) (by decide) (by decide) (by decide) ?_
  show mW _ _ _ _ 62 _ _ _ (.ref 61 :: _)
  refine m_putfieldF dX5_init_14 fl_X5_15 ⟨RX5, TX5, 9, rfl, rfl⟩ (by first | exact va_up_self _ _ _ | rfl | exact h1) hin (fun _ => rfl) (fun _ => rfl) ?_
  try rw [va_uu]
  refine m_aload_n dX5_init_17 rfl ?_
  refine m_iconst (v := 5) dX5_init_18 (by decide) ?_
  refine m_newarray (ty := .long) (a0 := (5, .inr (.inl (fun _ => 0)))) (N := 5) dX5_init_19 rfl w_1_120 (fun _ _ => rfl) ⟨1, fun _ => rfl⟩ (fun _ q => by cases q) ⟨by decide, by decide⟩ (by decide) (by decide) (by decide) (by decide) ?_
  show mW _ _ _ _ 63 _ _ _ (.ref 62 :: _)
  refine m_putfieldF dX5_init_21 fl_X5_19 ⟨RX5, TX5, 9, rfl, rfl⟩ (by first | exact va_up_self _ _ _ | rfl | exact h1) hin (fun _ => rfl) (fun _ => rfl) ?_
  try rw [va_uu]
  refine m_aload_n dX5_init_24 rfl ?_
  refine m_bipush (v := 32) dX5_init_25 (by decide) ?_
  refine m_newarray (ty := .int) (a0 := (32, .inl (fun _ => 0))) (N := 32) dX5_init_27 rfl w_1_42 (fun _ _ => rfl) ⟨0, fun _ => rfl⟩ (fun _ q => by cases q) ⟨by decide, by decide⟩ (by decide) (by decide) (by decide) (by decide) ?_
  show mW _ _ _ _ 64 _ _ _ (.ref 63 :: _)
  refine m_putfieldF dX5_init_29 fl_X5_23 ⟨RX5, TX5, 9, rfl, rfl⟩ (by first | exact va_up_self _ _ _ | rfl | exact h1) hin (fun _ => rfl) (fun _ => rfl) ?_
  try rw [va_uu]
  refine m_aload_n dX5_init_32 rfl ?_
  refine m_bipush (v := 32) dX5_init_33 (by decide) ?_
  refine m_newarray (ty := .int) (a0 := (32, .inl (fun _ => 0))) (N := 32) dX5_init_35 rfl w_1_42 (fun _ _ => rfl) ⟨0, fun _ => rfl⟩ (fun _ q => by cases q) ⟨by decide, by decide⟩ (by decide) (by decide) (by decide) (by decide) ?_
  show mW _ _ _ _ 65 _ _ _ (.ref 64 :: _)
  refine m_putfieldF dX5_init_37 fl_X5_26 ⟨RX5, TX5, 9, rfl, rfl⟩ (by first | exact va_up_self _ _ _ | rfl | exact h1) hin (fun _ => rfl) (fun _ => rfl) ?_
  try rw [va_uu]
  refine m_aload_n dX5_init_40 rfl ?_
  refine m_bipush (v := 32) dX5_init_41 (by decide) ?_
  refine m_newarray (ty := .int) (a0 := (32, .inl (fun _ => 0))) (N := 32) dX5_init_43 rfl w_1_42 (fun _ _ => rfl) ⟨0, fun _ => rfl⟩ (fun _ q => by cases q) ⟨by decide, by decide⟩ (by decide) (by decide) (by decide) (by decide) ?_
  show mW _ _ _ _ 66 _ _ _ (.ref 65 :: _)
  refine m_putfieldF dX5_init_45 fl_X5_29 ⟨RX5, TX5, 9, rfl, rfl⟩ (by first | exact va_up_self _ _ _ | rfl | exact h1) hin (fun _ => rfl) (fun _ => rfl) ?_
  try rw [va_uu]
  refine m_aload_n dX5_init_48 rfl ?_
  refine m_iconst (v := 0) dX5_init_49 (by decide) ?_
  refine m_putfield dX5_init_50 fl_X5_32 (by first | exact va_up_self _ _ _ | rfl | exact h1) (fun _ => rfl) (fun _ => rfl) ?_
  try rw [va_uu]
  refine m_aload_n dX5_init_53 rfl ?_
  refine m_iconst (v := 0) dX5_init_54 (by decide) ?_
  refine m_putfield dX5_init_55 fl_X5_36 (by first | exact va_up_self _ _ _ | rfl | exact h1) (fun _ => rfl) (fun _ => rfl) ?_
  try rw [va_uu]
  refine m_aload_n dX5_init_58 rfl ?_
  refine m_iconst (v := 0) dX5_init_59 (by decide) ?_
  refine m_putfield dX5_init_60 fl_X5_39 (by first | exact va_up_self _ _ _ | rfl | exact h1) (fun _ => rfl) (fun _ => rfl) ?_
  try rw [va_uu]
  exact m_return hF dX5_init_63 rfl rfl rfl ⟨rfl, ⟨0, 0, 0, fun _ => 0, fun _ => 0, fun _ => 0, fun _ => 0, fun _ => 0, congrArg (eO 5) iX5_fin60, rfl, rfl, rfl, rfl, rfl, by decide, Or.inl rfl⟩, fun q hq => by repeat rw [va_up_ne _ _ (by omega)]⟩

theorem iX7_fin : va_up (va_up (va_up (va_up (va_up (va_up (va_up (va_up (va_up (va_up (va_up (iX7) 0 (.ref 1)) 1 (.ref 3)) 2 (.ref 17)) 3 (.ref 19)) 4 (.int 0)) 5 (.ref 33)) 6 (.ref 36)) 7 (.ref 44)) 8 (.ref 54)) 9 (.ref 60)) 10 (.ref 66) = oTop 0 := by
  funext k
  match k with
  | 0 => rfl
  | 1 => rfl
  | 2 => rfl
  | 3 => rfl
  | 4 => rfl
  | 5 => rfl
  | 6 => rfl
  | 7 => rfl
  | 8 => rfl
  | 9 => rfl
  | 10 => rfl
  | k + 11 => simp [va_up, oTop, iX7]
def c0P : Nat → Int32 := va_up (va_up (va_up (fun _ => 0) 0 1) 1 1) 5 1
def TS0 : TS := (vec c0P 0 1, 0, fun _ _ => 0)
def TK0 : TS := (vec (fun _ => 0) 0 1, 0, fun _ _ => 0)
def cAll (hp : mHp) (kf : Int32) (S T : TS) (z : Nat) (LT : Nat → Int32) (X : SH) : Prop := cTop hp kf ∧ cTold hp S ∧ cKept hp T ∧ cTape hp z LT ∧ cShelf hp X ∧ cJudge hp ∧ cBk54 hp ∧ cBk60 hp ∧ cPol hp
set_option maxHeartbeats 400000 in
set_option maxRecDepth 100000 in
theorem t_X7_init {hp : mHp} (h1 : hp 0 = eO 7 iX7) : mC D_X7_init [.ref 0] 1 hp (fun v hp' => v = none ∧ cAll hp' 0 TS0 TK0 0 (fun _ => 0) SH0 ∧ ∀ q, 66 < q → hp' q = hp q) := by
  refine m_enter rfl rfl (Nat.le_of_ble_eq_true rfl) (fun K hF => ?_)
  have hin := hF.2.2.2.1
  show mW K _ 0 0 _ _ 0 [.ref 0] []
  refine m_aload_n dX7_init_0 rfl ?_
  refine m_objInit dX7_init_1 lk_X7_3 (Nat.le_of_ble_eq_true rfl) (by decide) ?_
  refine m_aload_n dX7_init_4 rfl ?_
  refine m_new (ci := 3) (f := iX3) dX7_init_5 rfl inT3 tyX3_ok w_1_22 w_1_23 w_1_2 iX3_ok (by decide) (by decide) (by decide) ?_
  show mW _ _ _ _ 2 _ _ _ (.ref 1 :: _)
  refine m_dup dX7_init_8 rfl ?_
  refine m_invI dX7_init_9 lk_X7_11 ar_X3_init rfl (t_X3_init (h := 1) (va_up_self _ _ _) (by decide) (by decide)) rfl (Nat.le_of_ble_eq_true rfl) (by decide) (by decide) (by decide) (by decide) (fun v hp' q => ?_)
  obtain ⟨rfl, rfl⟩ := q
  show mW K _ _ _ 3 _ 12 _ (.ref 1 :: _)
  refine m_putfieldF dX7_init_12 fl_X7_12 ⟨RX7, TX7, 11, rfl, rfl⟩ (by first | exact va_up_self _ _ _ | exact o7 | exact o6 | exact o5 | exact o4 | exact o3 | exact o2 | exact o1 | exact h1 | rfl) hin (fun _ => rfl) (fun _ => rfl) ?_
  try rw [va_uu]
  refine m_aload_n dX7_init_15 rfl ?_
  refine m_getfield dX7_init_16 fl_X7_12 (by first | exact va_up_self _ _ _ | exact o7 | exact o6 | exact o5 | exact o4 | exact o3 | exact o2 | exact o1 | exact h1 | rfl) (by first | exact va_up_self _ _ _ | exact o7 | exact o6 | exact o5 | exact o4 | exact o3 | exact o2 | exact o1 | exact h1 | rfl) ?_
  show mW _ _ _ _ _ _ _ _ (.ref _ :: _)
  refine m_invV_V dX7_init_19 lk_X7_16 ar_X3_begin (ci := 3) rfl rfl (by first | exact va_up_self _ _ _ | exact o7 | exact o6 | exact o5 | exact o4 | exact o3 | exact o2 | exact o1 | exact h1 | rfl) (t_X3_begin (q := 2) rfl rfl) rfl (Nat.le_of_ble_eq_true rfl) (by decide) (by decide) (by decide) (by decide) rfl rfl ?_
  try rw [va_uu]
  refine m_aload_n dX7_init_22 rfl ?_
  refine m_new (ci := 2) (f := iX2) dX7_init_23 rfl inT2 tyX2_ok w_1_47 w_1_48 w_1_3 iX2_ok (by decide) (by decide) (by decide) ?_
  show mW _ _ _ _ 4 _ _ _ (.ref 3 :: _)
  refine m_dup dX7_init_26 rfl ?_
  refine m_invI dX7_init_27 lk_X7_21 ar_X2_init rfl (t_X2_init_3 (H := fun _ _ => 0) (va_up_self _ _ _)) rfl (Nat.le_of_ble_eq_true rfl) (by decide) (by decide) (by decide) (by decide) (fun v hp1 q => ?_)
  obtain ⟨rfl, pp1, gO1⟩ := q
  have o1 : hp1 0 = eO 7 (va_up (iX7) 0 (.ref 1)) := (gO1 0 (by decide)).trans rfl
  have ss1 : cSet hp1 1 TS0.1 := ⟨c0P, 0, 1, (gO1 1 (by decide)).trans rfl, (gO1 2 (by decide)).trans rfl, fun _ _ => rfl⟩
  show mW K _ _ _ 17 _ 30 _ (.ref 3 :: _)
  refine m_putfieldF dX7_init_30 fl_X7_22 ⟨RX7, TX7, 11, rfl, rfl⟩ (by first | exact va_up_self _ _ _ | exact o7 | exact o6 | exact o5 | exact o4 | exact o3 | exact o2 | exact o1 | exact h1 | rfl) hin (fun _ => rfl) (fun _ => rfl) ?_
  try rw [va_uu]
  refine m_aload_n dX7_init_33 rfl ?_
  refine m_new (ci := 3) (f := iX3) dX7_init_34 rfl inT3 tyX3_ok w_1_22 w_1_23 w_1_2 iX3_ok (by decide) (by decide) (by decide) ?_
  show mW _ _ _ _ 18 _ _ _ (.ref 17 :: _)
  refine m_dup dX7_init_37 rfl ?_
  refine m_invI dX7_init_38 lk_X7_11 ar_X3_init rfl (t_X3_init (h := 17) (va_up_self _ _ _) (by decide) (by decide)) rfl (Nat.le_of_ble_eq_true rfl) (by decide) (by decide) (by decide) (by decide) (fun v hp' q => ?_)
  obtain ⟨rfl, rfl⟩ := q
  show mW K _ _ _ 19 _ 41 _ (.ref 17 :: _)
  refine m_putfieldF dX7_init_41 fl_X7_26 ⟨RX7, TX7, 11, rfl, rfl⟩ (by first | exact va_up_self _ _ _ | exact o7 | exact o6 | exact o5 | exact o4 | exact o3 | exact o2 | exact o1 | exact h1 | rfl) hin (fun _ => rfl) (fun _ => rfl) ?_
  try rw [va_uu]
  refine m_aload_n dX7_init_44 rfl ?_
  refine m_new (ci := 2) (f := iX2) dX7_init_45 rfl inT2 tyX2_ok w_1_47 w_1_48 w_1_3 iX2_ok (by decide) (by decide) (by decide) ?_
  show mW _ _ _ _ 20 _ _ _ (.ref 19 :: _)
  refine m_dup dX7_init_48 rfl ?_
  refine m_invI dX7_init_49 lk_X7_21 ar_X2_init rfl (t_X2_init_19 (H := fun _ _ => 0) (va_up_self _ _ _)) rfl (Nat.le_of_ble_eq_true rfl) (by decide) (by decide) (by decide) (by decide) (fun v hp2 q => ?_)
  obtain ⟨rfl, qq2, gO2⟩ := q
  have o2 : hp2 0 = eO 7 (va_up (va_up (va_up (iX7) 0 (.ref 1)) 1 (.ref 3)) 2 (.ref 17)) := (gO2 0 (by decide)).trans rfl
  have ss2 : cSet hp2 1 TS0.1 := ss1.of (fun q a b => by rw [gO2 q (by omega)]; repeat rw [va_up_ne _ _ (by omega)])
  have pp2 := pp1.of (hp' := hp2) (fun q a b => by rw [gO2 q (by omega)]; repeat rw [va_up_ne _ _ (by omega)])
  have kk2 : cSet hp2 17 TK0.1 := ⟨fun _ => 0, 0, 1, (gO2 17 (by decide)).trans rfl, (gO2 18 (by decide)).trans rfl, fun _ _ => rfl⟩
  show mW K _ _ _ 33 _ 52 _ (.ref 19 :: _)
  refine m_putfieldF dX7_init_52 fl_X7_29 ⟨RX7, TX7, 11, rfl, rfl⟩ (by first | exact va_up_self _ _ _ | exact o7 | exact o6 | exact o5 | exact o4 | exact o3 | exact o2 | exact o1 | exact h1 | rfl) hin (fun _ => rfl) (fun _ => rfl) ?_
  try rw [va_uu]
  refine m_aload_n dX7_init_55 rfl ?_
  refine m_iconst (v := 0) dX7_init_56 (by decide) ?_
  refine m_putfield dX7_init_57 fl_X7_32 (by first | exact va_up_self _ _ _ | exact o7 | exact o6 | exact o5 | exact o4 | exact o3 | exact o2 | exact o1 | exact h1 | rfl) (fun _ => rfl) (fun _ => rfl) ?_
  try rw [va_uu]
  refine m_aload_n dX7_init_60 rfl ?_
  refine m_new (ci := 6) (f := iX6) dX7_init_61 rfl inT6 tyX6_ok w_1_67 w_1_68 w_1_4 iX6_ok (by decide) (by decide) (by decide) ?_
  show mW _ _ _ _ 34 _ _ _ (.ref 33 :: _)
  refine m_dup dX7_init_64 rfl ?_
  refine m_invI dX7_init_65 lk_X7_38 ar_X6_init rfl (t_X6_init (va_up_self _ _ _)) rfl (Nat.le_of_ble_eq_true rfl) (by decide) (by decide) (by decide) (by decide) (fun v hp3 q => ?_)
  obtain ⟨rfl, tt3, gO3⟩ := q
  have o3 : hp3 0 = eO 7 (va_up (va_up (va_up (va_up (va_up (iX7) 0 (.ref 1)) 1 (.ref 3)) 2 (.ref 17)) 3 (.ref 19)) 4 (.int 0)) := (gO3 0 (by decide)).trans rfl
  have ss3 := ss2.of (hp' := hp3) (fun q a b => by rw [gO3 q (by omega), va_up_ne _ _ (by omega), va_up_ne _ _ (by omega)])
  have pp3 := pp2.of (hp' := hp3) (fun q a b => by rw [gO3 q (by omega), va_up_ne _ _ (by omega), va_up_ne _ _ (by omega)])
  have kk3 := kk2.of (hp' := hp3) (fun q a b => by rw [gO3 q (by omega), va_up_ne _ _ (by omega), va_up_ne _ _ (by omega)])
  have qq3 := qq2.of (hp' := hp3) (fun q a b => by rw [gO3 q (by omega), va_up_ne _ _ (by omega), va_up_ne _ _ (by omega)])
  show mW K _ _ _ 36 _ 68 _ (.ref 33 :: _)
  refine m_putfieldF dX7_init_68 fl_X7_39 ⟨RX7, TX7, 11, rfl, rfl⟩ (by first | exact va_up_self _ _ _ | exact o7 | exact o6 | exact o5 | exact o4 | exact o3 | exact o2 | exact o1 | exact h1 | rfl) hin (fun _ => rfl) (fun _ => rfl) ?_
  try rw [va_uu]
  refine m_aload_n dX7_init_71 rfl ?_
  refine m_new (ci := 4) (f := iX4) dX7_init_72 rfl inT4 tyX4_ok w_1_99 w_1_100 w_1_5 iX4_ok (by decide) (by decide) (by decide) ?_
  show mW _ _ _ _ 37 _ _ _ (.ref 36 :: _)
  refine m_dup dX7_init_75 rfl ?_
  refine m_invI dX7_init_76 lk_X7_45 ar_X4_init rfl (t_X4_init (va_up_self _ _ _)) rfl (Nat.le_of_ble_eq_true rfl) (by decide) (by decide) (by decide) (by decide) (fun v hp4 q => ?_)
  obtain ⟨rfl, hh4, gO4⟩ := q
  have o4 : hp4 0 = eO 7 (va_up (va_up (va_up (va_up (va_up (va_up (iX7) 0 (.ref 1)) 1 (.ref 3)) 2 (.ref 17)) 3 (.ref 19)) 4 (.int 0)) 5 (.ref 33)) := (gO4 0 (by decide)).trans rfl
  have ss4 := ss3.of (hp' := hp4) (fun q a b => by rw [gO4 q (by omega), va_up_ne _ _ (by omega), va_up_ne _ _ (by omega)])
  have pp4 := pp3.of (hp' := hp4) (fun q a b => by rw [gO4 q (by omega), va_up_ne _ _ (by omega), va_up_ne _ _ (by omega)])
  have kk4 := kk3.of (hp' := hp4) (fun q a b => by rw [gO4 q (by omega), va_up_ne _ _ (by omega), va_up_ne _ _ (by omega)])
  have qq4 := qq3.of (hp' := hp4) (fun q a b => by rw [gO4 q (by omega), va_up_ne _ _ (by omega), va_up_ne _ _ (by omega)])
  have tt4 := tt3.of (hp' := hp4) (fun q a b => by rw [gO4 q (by omega), va_up_ne _ _ (by omega), va_up_ne _ _ (by omega)])
  show mW K _ _ _ 44 _ 79 _ (.ref 36 :: _)
  refine m_putfieldF dX7_init_79 fl_X7_46 ⟨RX7, TX7, 11, rfl, rfl⟩ (by first | exact va_up_self _ _ _ | exact o7 | exact o6 | exact o5 | exact o4 | exact o3 | exact o2 | exact o1 | exact h1 | rfl) hin (fun _ => rfl) (fun _ => rfl) ?_
  try rw [va_uu]
  refine m_aload_n dX7_init_82 rfl ?_
  refine m_new (ci := 1) (f := iX1) dX7_init_83 rfl inT1 tyX1_ok w_1_121 w_1_122 w_1_6 iX1_ok (by decide) (by decide) (by decide) ?_
  show mW _ _ _ _ 45 _ _ _ (.ref 44 :: _)
  refine m_dup dX7_init_86 rfl ?_
  refine m_invI dX7_init_87 lk_X7_52 ar_X1_init rfl (t_X1_init (va_up_self _ _ _)) rfl (Nat.le_of_ble_eq_true rfl) (by decide) (by decide) (by decide) (by decide) (fun v hp5 q => ?_)
  obtain ⟨rfl, jj5, gO5⟩ := q
  have o5 : hp5 0 = eO 7 (va_up (va_up (va_up (va_up (va_up (va_up (va_up (iX7) 0 (.ref 1)) 1 (.ref 3)) 2 (.ref 17)) 3 (.ref 19)) 4 (.int 0)) 5 (.ref 33)) 6 (.ref 36)) := (gO5 0 (by decide)).trans rfl
  have ss5 := ss4.of (hp' := hp5) (fun q a b => by rw [gO5 q (by omega), va_up_ne _ _ (by omega), va_up_ne _ _ (by omega)])
  have pp5 := pp4.of (hp' := hp5) (fun q a b => by rw [gO5 q (by omega), va_up_ne _ _ (by omega), va_up_ne _ _ (by omega)])
  have kk5 := kk4.of (hp' := hp5) (fun q a b => by rw [gO5 q (by omega), va_up_ne _ _ (by omega), va_up_ne _ _ (by omega)])
  have qq5 := qq4.of (hp' := hp5) (fun q a b => by rw [gO5 q (by omega), va_up_ne _ _ (by omega), va_up_ne _ _ (by omega)])
  have tt5 := tt4.of (hp' := hp5) (fun q a b => by rw [gO5 q (by omega), va_up_ne _ _ (by omega), va_up_ne _ _ (by omega)])
  have hh5 := hh4.of (hp' := hp5) (fun q a b => by rw [gO5 q (by omega), va_up_ne _ _ (by omega), va_up_ne _ _ (by omega)])
  show mW K _ _ _ 54 _ 90 _ (.ref 44 :: _)
  refine m_putfieldF dX7_init_90 fl_X7_53 ⟨RX7, TX7, 11, rfl, rfl⟩ (by first | exact va_up_self _ _ _ | exact o7 | exact o6 | exact o5 | exact o4 | exact o3 | exact o2 | exact o1 | exact h1 | rfl) hin (fun _ => rfl) (fun _ => rfl) ?_
  try rw [va_uu]
  refine m_aload_n dX7_init_93 rfl ?_
  refine m_new (ci := 5) (f := iX5) dX7_init_94 rfl inT5 tyX5_ok w_1_169 w_1_170 w_1_8 iX5_ok (by decide) (by decide) (by decide) ?_
  show mW _ _ _ _ 55 _ _ _ (.ref 54 :: _)
  refine m_dup dX7_init_97 rfl ?_
  refine m_iconst (v := 0) dX7_init_98 (by decide) ?_
  refine m_invI dX7_init_99 lk_X7_59 ar_X5_init rfl (t_X5_init_54 (va_up_self _ _ _)) rfl (Nat.le_of_ble_eq_true rfl) (by decide) (by decide) (by decide) (by decide) (fun v hp6 q => ?_)
  obtain ⟨rfl, ba6, gO6⟩ := q
  have o6 : hp6 0 = eO 7 (va_up (va_up (va_up (va_up (va_up (va_up (va_up (va_up (iX7) 0 (.ref 1)) 1 (.ref 3)) 2 (.ref 17)) 3 (.ref 19)) 4 (.int 0)) 5 (.ref 33)) 6 (.ref 36)) 7 (.ref 44)) := (gO6 0 (by decide)).trans rfl
  have ss6 := ss5.of (hp' := hp6) (fun q a b => by rw [gO6 q (by omega), va_up_ne _ _ (by omega), va_up_ne _ _ (by omega)])
  have pp6 := pp5.of (hp' := hp6) (fun q a b => by rw [gO6 q (by omega), va_up_ne _ _ (by omega), va_up_ne _ _ (by omega)])
  have kk6 := kk5.of (hp' := hp6) (fun q a b => by rw [gO6 q (by omega), va_up_ne _ _ (by omega), va_up_ne _ _ (by omega)])
  have qq6 := qq5.of (hp' := hp6) (fun q a b => by rw [gO6 q (by omega), va_up_ne _ _ (by omega), va_up_ne _ _ (by omega)])
  have tt6 := tt5.of (hp' := hp6) (fun q a b => by rw [gO6 q (by omega), va_up_ne _ _ (by omega), va_up_ne _ _ (by omega)])
  have hh6 := hh5.of (hp' := hp6) (fun q a b => by rw [gO6 q (by omega), va_up_ne _ _ (by omega), va_up_ne _ _ (by omega)])
  have jj6 := jj5.of (hp' := hp6) (fun q a b => by rw [gO6 q (by omega), va_up_ne _ _ (by omega), va_up_ne _ _ (by omega)])
  show mW K _ _ _ 60 _ 102 _ (.ref 54 :: _)
  refine m_putfieldF dX7_init_102 fl_X7_62 ⟨RX7, TX7, 11, rfl, rfl⟩ (by first | exact va_up_self _ _ _ | exact o7 | exact o6 | exact o5 | exact o4 | exact o3 | exact o2 | exact o1 | exact h1 | rfl) hin (fun _ => rfl) (fun _ => rfl) ?_
  try rw [va_uu]
  refine m_aload_n dX7_init_105 rfl ?_
  refine m_new (ci := 5) (f := iX5) dX7_init_106 rfl inT5 tyX5_ok w_1_169 w_1_170 w_1_8 iX5_ok (by decide) (by decide) (by decide) ?_
  show mW _ _ _ _ 61 _ _ _ (.ref 60 :: _)
  refine m_dup dX7_init_109 rfl ?_
  refine m_iconst (v := 1) dX7_init_110 (by decide) ?_
  refine m_invI dX7_init_111 lk_X7_59 ar_X5_init rfl (t_X5_init_60 (va_up_self _ _ _)) rfl (Nat.le_of_ble_eq_true rfl) (by decide) (by decide) (by decide) (by decide) (fun v hp7 q => ?_)
  obtain ⟨rfl, bb7, gO7⟩ := q
  have o7 : hp7 0 = eO 7 (va_up (va_up (va_up (va_up (va_up (va_up (va_up (va_up (va_up (iX7) 0 (.ref 1)) 1 (.ref 3)) 2 (.ref 17)) 3 (.ref 19)) 4 (.int 0)) 5 (.ref 33)) 6 (.ref 36)) 7 (.ref 44)) 8 (.ref 54)) := (gO7 0 (by decide)).trans rfl
  have ss7 := ss6.of (hp' := hp7) (fun q a b => by rw [gO7 q (by omega), va_up_ne _ _ (by omega), va_up_ne _ _ (by omega)])
  have pp7 := pp6.of (hp' := hp7) (fun q a b => by rw [gO7 q (by omega), va_up_ne _ _ (by omega), va_up_ne _ _ (by omega)])
  have kk7 := kk6.of (hp' := hp7) (fun q a b => by rw [gO7 q (by omega), va_up_ne _ _ (by omega), va_up_ne _ _ (by omega)])
  have qq7 := qq6.of (hp' := hp7) (fun q a b => by rw [gO7 q (by omega), va_up_ne _ _ (by omega), va_up_ne _ _ (by omega)])
  have tt7 := tt6.of (hp' := hp7) (fun q a b => by rw [gO7 q (by omega), va_up_ne _ _ (by omega), va_up_ne _ _ (by omega)])
  have hh7 := hh6.of (hp' := hp7) (fun q a b => by rw [gO7 q (by omega), va_up_ne _ _ (by omega), va_up_ne _ _ (by omega)])
  have jj7 := jj6.of (hp' := hp7) (fun q a b => by rw [gO7 q (by omega), va_up_ne _ _ (by omega), va_up_ne _ _ (by omega)])
  have ba7 := ba6.of (hp' := hp7) (fun q a b => by rw [gO7 q (by omega), va_up_ne _ _ (by omega), va_up_ne _ _ (by omega)])
  show mW K _ _ _ 66 _ 114 _ (.ref 60 :: _)
  refine m_putfieldF dX7_init_114 fl_X7_66 ⟨RX7, TX7, 11, rfl, rfl⟩ (by first | exact va_up_self _ _ _ | exact o7 | exact o6 | exact o5 | exact o4 | exact o3 | exact o2 | exact o1 | exact h1 | rfl) hin (fun _ => rfl) (fun _ => rfl) ?_
  try rw [va_uu]
  refine m_aload_n dX7_init_117 rfl ?_
  refine m_iconst (v := 5) dX7_init_118 (by decide) ?_
  refine m_newarray (ty := .long) (a0 := (5, .inr (.inl (fun _ => 0)))) (N := 5) dX7_init_119 rfl w_1_120 (fun _ _ => rfl) ⟨1, fun _ => rfl⟩ (fun _ q => by cases q) ⟨by decide, by decide⟩ (by decide) (by decide) (by decide) (by decide) ?_
  show mW _ _ _ _ 67 _ _ _ (.ref 66 :: _)
  refine m_putfieldF dX7_init_121 fl_X7_69 ⟨RX7, TX7, 11, rfl, rfl⟩ (by first | exact va_up_self _ _ _ | exact o7 | exact o6 | exact o5 | exact o4 | exact o3 | exact o2 | exact o1 | exact h1 | rfl) hin (fun _ => rfl) (fun _ => rfl) ?_
  try rw [va_uu]
  exact m_return hF dX7_init_124 rfl rfl rfl ⟨rfl, ⟨congrArg (eO 7) iX7_fin, ⟨ss7.of (fun q a b => by rw [va_up_ne _ _ (by omega), va_up_ne _ _ (by omega), va_up_ne _ _ (by omega)]), pp7.of (fun q a b => by rw [va_up_ne _ _ (by omega), va_up_ne _ _ (by omega), va_up_ne _ _ (by omega)])⟩, ⟨kk7.of (fun q a b => by rw [va_up_ne _ _ (by omega), va_up_ne _ _ (by omega), va_up_ne _ _ (by omega)]), qq7.of (fun q a b => by rw [va_up_ne _ _ (by omega), va_up_ne _ _ (by omega), va_up_ne _ _ (by omega)])⟩, tt7.of (fun q a b => by rw [va_up_ne _ _ (by omega), va_up_ne _ _ (by omega), va_up_ne _ _ (by omega)]), hh7.of (fun q a b => by rw [va_up_ne _ _ (by omega), va_up_ne _ _ (by omega), va_up_ne _ _ (by omega)]), jj7.of (fun q a b => by rw [va_up_ne _ _ (by omega), va_up_ne _ _ (by omega), va_up_ne _ _ (by omega)]), ba7.of (fun q a b => by rw [va_up_ne _ _ (by omega), va_up_ne _ _ (by omega), va_up_ne _ _ (by omega)]), bb7.of (fun q a b => by rw [va_up_ne _ _ (by omega), va_up_ne _ _ (by omega), va_up_ne _ _ (by omega)]), ⟨fun _ => 0, rfl⟩⟩, fun q hq => by rw [va_up_ne _ _ (by omega), va_up_ne _ _ (by omega), va_up_ne _ _ (by omega), gO7 q (by omega), va_up_ne _ _ (by omega), va_up_ne _ _ (by omega), gO6 q (by omega), va_up_ne _ _ (by omega), va_up_ne _ _ (by omega), gO5 q (by omega), va_up_ne _ _ (by omega), va_up_ne _ _ (by omega), gO4 q (by omega), va_up_ne _ _ (by omega), va_up_ne _ _ (by omega), gO3 q (by omega), va_up_ne _ _ (by omega), va_up_ne _ _ (by omega), gO2 q (by omega)]; repeat first | rw [va_up_ne _ _ (by omega)] | rw [gO1 q (by omega)]⟩

