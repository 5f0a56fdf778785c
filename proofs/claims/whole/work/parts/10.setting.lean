/-! ===== Setting, Past ===== -/
def oSet (q : Nat) (g d : Int32) : Nat → Value := fun k => match k with
  | 0 => .ref q
  | 1 => .int g
  | 2 => .int d
  | _ => .null
theorem oSet_1 (q : Nat) (g d x : Int32) : va_up (oSet q g d) 1 (.int x) = oSet q x d := by
  funext k
  match k with
  | 0 => rfl
  | 1 => rfl
  | 2 => rfl
  | k + 3 => simp [va_up, oSet]
theorem oSet_2 (q : Nat) (g d x : Int32) : va_up (oSet q g d) 2 (.int x) = oSet q g x := by
  funext k
  match k with
  | 0 => rfl
  | 1 => rfl
  | 2 => rfl
  | k + 3 => simp [va_up, oSet]
theorem va_uu {α : Type} (f : Nat → α) (k : Nat) (v w : α) : va_up (va_up f k v) k w = va_up f k w := by
  funext j
  by_cases e : j = k <;> simp [va_up, e]
theorem va_uc {α : Type} (f : Nat → α) {k j : Nat} (v w : α) (h : k ≠ j) : va_up (va_up f k v) j w = va_up (va_up f j w) k v := by
  funext i
  by_cases e : i = k
  · subst e
    simp [va_up, h]
  · by_cases e2 : i = j
    · subst e2
      simp [va_up, e]
    · simp [va_up, e, e2]
theorem va_uid {α : Type} (f : Nat → α) {k : Nat} {v : α} (h : f k = v) : va_up f k v = f := by
  funext i
  by_cases e : i = k <;> simp [va_up, e, h]
theorem eO_ne_eI {c : Nat} {f : Nat → Value} {n : Nat} {g : Nat → Int32} : eO c f ≠ eI n g := fun h => by cases h
theorem eO_ne_eL {c : Nat} {f : Nat → Value} {n : Nat} {g : Nat → Int64} : eO c f ≠ eL n g := fun h => by cases h
theorem eI_ne_eL {m : Nat} {f : Nat → Int32} {n : Nat} {g : Nat → Int64} : eI m f ≠ eL n g := fun h => by cases h
theorem mNe {hp : mHp} {a b : Nat} {x y : mE} (h1 : hp a = x) (h2 : hp b = y) (h : x ≠ y) : a ≠ b := fun e => h (by rw [← h1, ← h2, e])
theorem mIx_lit {k len : Nat} (h : k < len) (hl : len ≤ 2147483647) : mIx (nI k) k len := ⟨nI_toInt (by omega), h⟩

theorem t_X3_begin {n : Nat} {hp : mHp} {h q : Nat} {g d : Int32} {P : Nat → Int32} (h1 : hp h = eO 3 (oSet q g d)) (h2 : hp q = eI 10 P) : mC D_X3_begin [.ref h] n hp (rV (va_up hp q (eI 10 (va_up (va_up (va_up P 0 1) 1 1) 5 1)))) := by
  refine m_enter rfl rfl (Nat.le_of_ble_eq_true rfl) (fun K hF => ?_)
  show mW K _ 0 0 _ _ 0 [.ref h] []
  have e1 : h ≠ q := mNe h1 h2 eO_ne_eI
  refine m_aload_n dX3_begin_0 rfl ?_
  refine m_getfield dX3_begin_1 fl_X3_9 (by first | assumption | rfl | exact va_up_self _ _ _ | (refine (va_up_ne _ _ ?_).trans ?_ <;> assumption) | (refine (va_up_ne _ _ ?_).trans (va_up_self _ _ _) <;> assumption) | (refine (va_up_ne _ _ ?_).trans ((va_up_ne _ _ ?_).trans ?_) <;> assumption) | (refine (va_up_ne _ _ ?_).trans ((va_up_ne _ _ ?_).trans (va_up_self _ _ _)) <;> assumption) | (refine (va_up_ne _ _ ?_).trans ((va_up_ne _ _ ?_).trans ((va_up_ne _ _ ?_).trans ?_)) <;> assumption) | (refine (va_up_ne _ _ ?_).trans ((va_up_ne _ _ ?_).trans ((va_up_ne _ _ ?_).trans (va_up_self _ _ _))) <;> assumption)) (by first | assumption | rfl | exact va_up_self _ _ _ | (refine (va_up_ne _ _ ?_).trans ?_ <;> assumption) | (refine (va_up_ne _ _ ?_).trans (va_up_self _ _ _) <;> assumption) | (refine (va_up_ne _ _ ?_).trans ((va_up_ne _ _ ?_).trans ?_) <;> assumption) | (refine (va_up_ne _ _ ?_).trans ((va_up_ne _ _ ?_).trans (va_up_self _ _ _)) <;> assumption) | (refine (va_up_ne _ _ ?_).trans ((va_up_ne _ _ ?_).trans ((va_up_ne _ _ ?_).trans ?_)) <;> assumption) | (refine (va_up_ne _ _ ?_).trans ((va_up_ne _ _ ?_).trans ((va_up_ne _ _ ?_).trans (va_up_self _ _ _))) <;> assumption)) ?_
  show mW _ _ _ _ _ _ _ _ (.ref _ :: _)
  refine m_iconst (v := 0) dX3_begin_4 (by decide) ?_
  refine m_iconst (v := 1) dX3_begin_5 (by decide) ?_
  refine m_iastore (k := 0) dX3_begin_6 (by first | assumption | rfl | exact va_up_self _ _ _ | (refine (va_up_ne _ _ ?_).trans ?_ <;> assumption) | (refine (va_up_ne _ _ ?_).trans (va_up_self _ _ _) <;> assumption) | (refine (va_up_ne _ _ ?_).trans ((va_up_ne _ _ ?_).trans ?_) <;> assumption) | (refine (va_up_ne _ _ ?_).trans ((va_up_ne _ _ ?_).trans (va_up_self _ _ _)) <;> assumption) | (refine (va_up_ne _ _ ?_).trans ((va_up_ne _ _ ?_).trans ((va_up_ne _ _ ?_).trans ?_)) <;> assumption) | (refine (va_up_ne _ _ ?_).trans ((va_up_ne _ _ ?_).trans ((va_up_ne _ _ ?_).trans (va_up_self _ _ _))) <;> assumption)) ⟨by decide, by decide⟩ ?_
  try rw [va_uu]
  refine m_aload_n dX3_begin_7 rfl ?_
  refine m_getfield dX3_begin_8 fl_X3_9 (by first | assumption | rfl | exact va_up_self _ _ _ | (refine (va_up_ne _ _ ?_).trans ?_ <;> assumption) | (refine (va_up_ne _ _ ?_).trans (va_up_self _ _ _) <;> assumption) | (refine (va_up_ne _ _ ?_).trans ((va_up_ne _ _ ?_).trans ?_) <;> assumption) | (refine (va_up_ne _ _ ?_).trans ((va_up_ne _ _ ?_).trans (va_up_self _ _ _)) <;> assumption) | (refine (va_up_ne _ _ ?_).trans ((va_up_ne _ _ ?_).trans ((va_up_ne _ _ ?_).trans ?_)) <;> assumption) | (refine (va_up_ne _ _ ?_).trans ((va_up_ne _ _ ?_).trans ((va_up_ne _ _ ?_).trans (va_up_self _ _ _))) <;> assumption)) (by first | assumption | rfl | exact va_up_self _ _ _ | (refine (va_up_ne _ _ ?_).trans ?_ <;> assumption) | (refine (va_up_ne _ _ ?_).trans (va_up_self _ _ _) <;> assumption) | (refine (va_up_ne _ _ ?_).trans ((va_up_ne _ _ ?_).trans ?_) <;> assumption) | (refine (va_up_ne _ _ ?_).trans ((va_up_ne _ _ ?_).trans (va_up_self _ _ _)) <;> assumption) | (refine (va_up_ne _ _ ?_).trans ((va_up_ne _ _ ?_).trans ((va_up_ne _ _ ?_).trans ?_)) <;> assumption) | (refine (va_up_ne _ _ ?_).trans ((va_up_ne _ _ ?_).trans ((va_up_ne _ _ ?_).trans (va_up_self _ _ _))) <;> assumption)) ?_
  show mW _ _ _ _ _ _ _ _ (.ref _ :: _)
  refine m_iconst (v := 1) dX3_begin_11 (by decide) ?_
  refine m_iconst (v := 1) dX3_begin_12 (by decide) ?_
  refine m_iastore (k := 1) dX3_begin_13 (by first | assumption | rfl | exact va_up_self _ _ _ | (refine (va_up_ne _ _ ?_).trans ?_ <;> assumption) | (refine (va_up_ne _ _ ?_).trans (va_up_self _ _ _) <;> assumption) | (refine (va_up_ne _ _ ?_).trans ((va_up_ne _ _ ?_).trans ?_) <;> assumption) | (refine (va_up_ne _ _ ?_).trans ((va_up_ne _ _ ?_).trans (va_up_self _ _ _)) <;> assumption) | (refine (va_up_ne _ _ ?_).trans ((va_up_ne _ _ ?_).trans ((va_up_ne _ _ ?_).trans ?_)) <;> assumption) | (refine (va_up_ne _ _ ?_).trans ((va_up_ne _ _ ?_).trans ((va_up_ne _ _ ?_).trans (va_up_self _ _ _))) <;> assumption)) ⟨by decide, by decide⟩ ?_
  try rw [va_uu]
  refine m_aload_n dX3_begin_14 rfl ?_
  refine m_getfield dX3_begin_15 fl_X3_9 (by first | assumption | rfl | exact va_up_self _ _ _ | (refine (va_up_ne _ _ ?_).trans ?_ <;> assumption) | (refine (va_up_ne _ _ ?_).trans (va_up_self _ _ _) <;> assumption) | (refine (va_up_ne _ _ ?_).trans ((va_up_ne _ _ ?_).trans ?_) <;> assumption) | (refine (va_up_ne _ _ ?_).trans ((va_up_ne _ _ ?_).trans (va_up_self _ _ _)) <;> assumption) | (refine (va_up_ne _ _ ?_).trans ((va_up_ne _ _ ?_).trans ((va_up_ne _ _ ?_).trans ?_)) <;> assumption) | (refine (va_up_ne _ _ ?_).trans ((va_up_ne _ _ ?_).trans ((va_up_ne _ _ ?_).trans (va_up_self _ _ _))) <;> assumption)) (by first | assumption | rfl | exact va_up_self _ _ _ | (refine (va_up_ne _ _ ?_).trans ?_ <;> assumption) | (refine (va_up_ne _ _ ?_).trans (va_up_self _ _ _) <;> assumption) | (refine (va_up_ne _ _ ?_).trans ((va_up_ne _ _ ?_).trans ?_) <;> assumption) | (refine (va_up_ne _ _ ?_).trans ((va_up_ne _ _ ?_).trans (va_up_self _ _ _)) <;> assumption) | (refine (va_up_ne _ _ ?_).trans ((va_up_ne _ _ ?_).trans ((va_up_ne _ _ ?_).trans ?_)) <;> assumption) | (refine (va_up_ne _ _ ?_).trans ((va_up_ne _ _ ?_).trans ((va_up_ne _ _ ?_).trans (va_up_self _ _ _))) <;> assumption)) ?_
  show mW _ _ _ _ _ _ _ _ (.ref _ :: _)
  refine m_iconst (v := 5) dX3_begin_18 (by decide) ?_
  refine m_iconst (v := 1) dX3_begin_19 (by decide) ?_
  refine m_iastore (k := 5) dX3_begin_20 (by first | assumption | rfl | exact va_up_self _ _ _ | (refine (va_up_ne _ _ ?_).trans ?_ <;> assumption) | (refine (va_up_ne _ _ ?_).trans (va_up_self _ _ _) <;> assumption) | (refine (va_up_ne _ _ ?_).trans ((va_up_ne _ _ ?_).trans ?_) <;> assumption) | (refine (va_up_ne _ _ ?_).trans ((va_up_ne _ _ ?_).trans (va_up_self _ _ _)) <;> assumption) | (refine (va_up_ne _ _ ?_).trans ((va_up_ne _ _ ?_).trans ((va_up_ne _ _ ?_).trans ?_)) <;> assumption) | (refine (va_up_ne _ _ ?_).trans ((va_up_ne _ _ ?_).trans ((va_up_ne _ _ ?_).trans (va_up_self _ _ _))) <;> assumption)) ⟨by decide, by decide⟩ ?_
  try rw [va_uu]
  exact m_return hF dX3_begin_21 rfl rfl rfl ⟨rfl, by simp only [va_uu]⟩

theorem t_X3_become {n : Nat} {hp : mHp} {a b qa qb : Nat} {g d g' d' : Int32} {P P' : Nat → Int32} (h1 : hp a = eO 3 (oSet qa g d)) (h2 : hp qa = eI 10 P) (h3 : hp b = eO 3 (oSet qb g' d')) (h4 : hp qb = eI 10 P') (hab : a ≠ b) : mC D_X3_become [.ref a, .ref b] n hp (rV (va_up (va_up hp qa (eI 10 (va_cpy P' P 0 0 10))) a (eO 3 (oSet qa g' d')))) := by
  refine m_enter rfl rfl (Nat.le_of_ble_eq_true rfl) (fun K hF => ?_)
  show mW K _ 0 0 _ _ 0 [.ref a, .ref b] []
  have e1 : a ≠ qa := mNe h1 h2 eO_ne_eI
  have e2 : b ≠ qa := mNe h3 h2 eO_ne_eI
  have e3 : a ≠ qb := mNe h1 h4 eO_ne_eI
  have e4 := hab.symm
  refine m_aload_n dX3_become_0 rfl ?_
  refine m_getfield dX3_become_1 fl_X3_9 (by first | assumption | rfl | exact va_up_self _ _ _ | (refine (va_up_ne _ _ ?_).trans ?_ <;> assumption) | (refine (va_up_ne _ _ ?_).trans (va_up_self _ _ _) <;> assumption) | (refine (va_up_ne _ _ ?_).trans ((va_up_ne _ _ ?_).trans ?_) <;> assumption) | (refine (va_up_ne _ _ ?_).trans ((va_up_ne _ _ ?_).trans (va_up_self _ _ _)) <;> assumption) | (refine (va_up_ne _ _ ?_).trans ((va_up_ne _ _ ?_).trans ((va_up_ne _ _ ?_).trans ?_)) <;> assumption) | (refine (va_up_ne _ _ ?_).trans ((va_up_ne _ _ ?_).trans ((va_up_ne _ _ ?_).trans (va_up_self _ _ _))) <;> assumption)) (by first | assumption | rfl | exact va_up_self _ _ _ | (refine (va_up_ne _ _ ?_).trans ?_ <;> assumption) | (refine (va_up_ne _ _ ?_).trans (va_up_self _ _ _) <;> assumption) | (refine (va_up_ne _ _ ?_).trans ((va_up_ne _ _ ?_).trans ?_) <;> assumption) | (refine (va_up_ne _ _ ?_).trans ((va_up_ne _ _ ?_).trans (va_up_self _ _ _)) <;> assumption) | (refine (va_up_ne _ _ ?_).trans ((va_up_ne _ _ ?_).trans ((va_up_ne _ _ ?_).trans ?_)) <;> assumption) | (refine (va_up_ne _ _ ?_).trans ((va_up_ne _ _ ?_).trans ((va_up_ne _ _ ?_).trans (va_up_self _ _ _))) <;> assumption)) ?_
  show mW _ _ _ _ _ _ _ _ (.ref _ :: _)
  refine m_iconst (v := 0) dX3_become_4 (by decide) ?_
  refine m_aload_n dX3_become_5 rfl ?_
  refine m_getfield dX3_become_6 fl_X3_9 (by first | assumption | rfl | exact va_up_self _ _ _ | (refine (va_up_ne _ _ ?_).trans ?_ <;> assumption) | (refine (va_up_ne _ _ ?_).trans (va_up_self _ _ _) <;> assumption) | (refine (va_up_ne _ _ ?_).trans ((va_up_ne _ _ ?_).trans ?_) <;> assumption) | (refine (va_up_ne _ _ ?_).trans ((va_up_ne _ _ ?_).trans (va_up_self _ _ _)) <;> assumption) | (refine (va_up_ne _ _ ?_).trans ((va_up_ne _ _ ?_).trans ((va_up_ne _ _ ?_).trans ?_)) <;> assumption) | (refine (va_up_ne _ _ ?_).trans ((va_up_ne _ _ ?_).trans ((va_up_ne _ _ ?_).trans (va_up_self _ _ _))) <;> assumption)) (by first | assumption | rfl | exact va_up_self _ _ _ | (refine (va_up_ne _ _ ?_).trans ?_ <;> assumption) | (refine (va_up_ne _ _ ?_).trans (va_up_self _ _ _) <;> assumption) | (refine (va_up_ne _ _ ?_).trans ((va_up_ne _ _ ?_).trans ?_) <;> assumption) | (refine (va_up_ne _ _ ?_).trans ((va_up_ne _ _ ?_).trans (va_up_self _ _ _)) <;> assumption) | (refine (va_up_ne _ _ ?_).trans ((va_up_ne _ _ ?_).trans ((va_up_ne _ _ ?_).trans ?_)) <;> assumption) | (refine (va_up_ne _ _ ?_).trans ((va_up_ne _ _ ?_).trans ((va_up_ne _ _ ?_).trans (va_up_self _ _ _))) <;> assumption)) ?_
  show mW _ _ _ _ _ _ _ _ (.ref _ :: _)
  refine m_iconst (v := 0) dX3_become_9 (by decide) ?_
  refine m_bipush (v := 10) dX3_become_10 (by decide) ?_
  refine m_copyI (s0 := 0) (d0 := 0) (k := 10) dX3_become_12 lk_X3_22 (by first | assumption | rfl | exact va_up_self _ _ _ | (refine (va_up_ne _ _ ?_).trans ?_ <;> assumption) | (refine (va_up_ne _ _ ?_).trans (va_up_self _ _ _) <;> assumption) | (refine (va_up_ne _ _ ?_).trans ((va_up_ne _ _ ?_).trans ?_) <;> assumption) | (refine (va_up_ne _ _ ?_).trans ((va_up_ne _ _ ?_).trans (va_up_self _ _ _)) <;> assumption) | (refine (va_up_ne _ _ ?_).trans ((va_up_ne _ _ ?_).trans ((va_up_ne _ _ ?_).trans ?_)) <;> assumption) | (refine (va_up_ne _ _ ?_).trans ((va_up_ne _ _ ?_).trans ((va_up_ne _ _ ?_).trans (va_up_self _ _ _))) <;> assumption)) (by first | assumption | rfl | exact va_up_self _ _ _ | (refine (va_up_ne _ _ ?_).trans ?_ <;> assumption) | (refine (va_up_ne _ _ ?_).trans (va_up_self _ _ _) <;> assumption) | (refine (va_up_ne _ _ ?_).trans ((va_up_ne _ _ ?_).trans ?_) <;> assumption) | (refine (va_up_ne _ _ ?_).trans ((va_up_ne _ _ ?_).trans (va_up_self _ _ _)) <;> assumption) | (refine (va_up_ne _ _ ?_).trans ((va_up_ne _ _ ?_).trans ((va_up_ne _ _ ?_).trans ?_)) <;> assumption) | (refine (va_up_ne _ _ ?_).trans ((va_up_ne _ _ ?_).trans ((va_up_ne _ _ ?_).trans (va_up_self _ _ _))) <;> assumption)) (by decide) (by decide) (by decide) (by decide) (by decide) (Nat.le_of_ble_eq_true rfl) (by decide) ?_
  refine m_aload_n dX3_become_15 rfl ?_
  refine m_aload_n dX3_become_16 rfl ?_
  refine m_getfield dX3_become_17 fl_X3_15 (by first | assumption | rfl | exact va_up_self _ _ _ | (refine (va_up_ne _ _ ?_).trans ?_ <;> assumption) | (refine (va_up_ne _ _ ?_).trans (va_up_self _ _ _) <;> assumption) | (refine (va_up_ne _ _ ?_).trans ((va_up_ne _ _ ?_).trans ?_) <;> assumption) | (refine (va_up_ne _ _ ?_).trans ((va_up_ne _ _ ?_).trans (va_up_self _ _ _)) <;> assumption) | (refine (va_up_ne _ _ ?_).trans ((va_up_ne _ _ ?_).trans ((va_up_ne _ _ ?_).trans ?_)) <;> assumption) | (refine (va_up_ne _ _ ?_).trans ((va_up_ne _ _ ?_).trans ((va_up_ne _ _ ?_).trans (va_up_self _ _ _))) <;> assumption)) (by first | assumption | rfl | exact va_up_self _ _ _ | (refine (va_up_ne _ _ ?_).trans ?_ <;> assumption) | (refine (va_up_ne _ _ ?_).trans (va_up_self _ _ _) <;> assumption) | (refine (va_up_ne _ _ ?_).trans ((va_up_ne _ _ ?_).trans ?_) <;> assumption) | (refine (va_up_ne _ _ ?_).trans ((va_up_ne _ _ ?_).trans (va_up_self _ _ _)) <;> assumption) | (refine (va_up_ne _ _ ?_).trans ((va_up_ne _ _ ?_).trans ((va_up_ne _ _ ?_).trans ?_)) <;> assumption) | (refine (va_up_ne _ _ ?_).trans ((va_up_ne _ _ ?_).trans ((va_up_ne _ _ ?_).trans (va_up_self _ _ _))) <;> assumption)) ?_
  show mW _ _ _ _ _ _ _ _ (.int _ :: _)
  refine m_putfield dX3_become_20 fl_X3_15 (by first | assumption | rfl | exact va_up_self _ _ _ | (refine (va_up_ne _ _ ?_).trans ?_ <;> assumption) | (refine (va_up_ne _ _ ?_).trans (va_up_self _ _ _) <;> assumption) | (refine (va_up_ne _ _ ?_).trans ((va_up_ne _ _ ?_).trans ?_) <;> assumption) | (refine (va_up_ne _ _ ?_).trans ((va_up_ne _ _ ?_).trans (va_up_self _ _ _)) <;> assumption) | (refine (va_up_ne _ _ ?_).trans ((va_up_ne _ _ ?_).trans ((va_up_ne _ _ ?_).trans ?_)) <;> assumption) | (refine (va_up_ne _ _ ?_).trans ((va_up_ne _ _ ?_).trans ((va_up_ne _ _ ?_).trans (va_up_self _ _ _))) <;> assumption)) (fun _ => rfl) (fun _ => rfl) ?_
  try rw [va_uu]
  refine m_aload_n dX3_become_23 rfl ?_
  refine m_aload_n dX3_become_24 rfl ?_
  refine m_getfield dX3_become_25 fl_X3_19 (by first | assumption | rfl | exact va_up_self _ _ _ | (refine (va_up_ne _ _ ?_).trans ?_ <;> assumption) | (refine (va_up_ne _ _ ?_).trans (va_up_self _ _ _) <;> assumption) | (refine (va_up_ne _ _ ?_).trans ((va_up_ne _ _ ?_).trans ?_) <;> assumption) | (refine (va_up_ne _ _ ?_).trans ((va_up_ne _ _ ?_).trans (va_up_self _ _ _)) <;> assumption) | (refine (va_up_ne _ _ ?_).trans ((va_up_ne _ _ ?_).trans ((va_up_ne _ _ ?_).trans ?_)) <;> assumption) | (refine (va_up_ne _ _ ?_).trans ((va_up_ne _ _ ?_).trans ((va_up_ne _ _ ?_).trans (va_up_self _ _ _))) <;> assumption)) (by first | assumption | rfl | exact va_up_self _ _ _ | (refine (va_up_ne _ _ ?_).trans ?_ <;> assumption) | (refine (va_up_ne _ _ ?_).trans (va_up_self _ _ _) <;> assumption) | (refine (va_up_ne _ _ ?_).trans ((va_up_ne _ _ ?_).trans ?_) <;> assumption) | (refine (va_up_ne _ _ ?_).trans ((va_up_ne _ _ ?_).trans (va_up_self _ _ _)) <;> assumption) | (refine (va_up_ne _ _ ?_).trans ((va_up_ne _ _ ?_).trans ((va_up_ne _ _ ?_).trans ?_)) <;> assumption) | (refine (va_up_ne _ _ ?_).trans ((va_up_ne _ _ ?_).trans ((va_up_ne _ _ ?_).trans (va_up_self _ _ _))) <;> assumption)) ?_
  show mW _ _ _ _ _ _ _ _ (.int _ :: _)
  refine m_putfield dX3_become_28 fl_X3_19 (by first | assumption | rfl | exact va_up_self _ _ _ | (refine (va_up_ne _ _ ?_).trans ?_ <;> assumption) | (refine (va_up_ne _ _ ?_).trans (va_up_self _ _ _) <;> assumption) | (refine (va_up_ne _ _ ?_).trans ((va_up_ne _ _ ?_).trans ?_) <;> assumption) | (refine (va_up_ne _ _ ?_).trans ((va_up_ne _ _ ?_).trans (va_up_self _ _ _)) <;> assumption) | (refine (va_up_ne _ _ ?_).trans ((va_up_ne _ _ ?_).trans ((va_up_ne _ _ ?_).trans ?_)) <;> assumption) | (refine (va_up_ne _ _ ?_).trans ((va_up_ne _ _ ?_).trans ((va_up_ne _ _ ?_).trans (va_up_self _ _ _))) <;> assumption)) (fun _ => rfl) (fun _ => rfl) ?_
  try rw [va_uu]
  exact m_return hF dX3_become_31 rfl rfl rfl ⟨rfl, by simp only [va_uu, oSet_1, oSet_2]⟩

/-- the greatest place of five from b on that isn't 0; -1: none -/
def degI (P : Nat → Int32) (b : Nat) : Int32 := if P (b + 4) = 0 then if P (b + 3) = 0 then if P (b + 2) = 0 then if P (b + 1) = 0 then if P (b + 0) = 0 then -1 else 0 else 1 else 2 else 3 else 4
set_option maxHeartbeats 4000000 in
set_option maxRecDepth 100000 in
theorem t_X3_degreeTold0 {n : Nat} {hp : mHp} {h q : Nat} {g d : Int32} {P : Nat → Int32} (h1 : hp h = eO 3 (oSet q g d)) (h2 : hp q = eI 10 P) : mC D_X3_degreeTold [.ref h, .int 0] n hp (rI (degI P 0) hp) := by
  refine m_enter rfl rfl (Nat.le_of_ble_eq_true rfl) (fun K hF => ?_)
  show mW K _ 0 0 _ _ 0 [.ref h, .int 0, .retAddr 0] []
  refine m_iconst (v := 4) dX3_degreeTold_0 (by decide) ?_
  refine m_istore_n dX3_degreeTold_1 (by decide) ?_
  show mW _ _ _ _ _ _ 2 [_, _, _] _
  refine m_iload_n dX3_degreeTold_2 rfl ?_
  refine m_if_lt (t := 27) dX3_degreeTold_3 (by decide) (fun q => absurd q (by decide)) (fun _ => ?_)
  refine m_aload_n dX3_degreeTold_6 rfl ?_
  refine m_getfield dX3_degreeTold_7 fl_X3_9 (by first | assumption | rfl | exact va_up_self _ _ _ | (refine (va_up_ne _ _ ?_).trans ?_ <;> assumption) | (refine (va_up_ne _ _ ?_).trans (va_up_self _ _ _) <;> assumption) | (refine (va_up_ne _ _ ?_).trans ((va_up_ne _ _ ?_).trans ?_) <;> assumption) | (refine (va_up_ne _ _ ?_).trans ((va_up_ne _ _ ?_).trans (va_up_self _ _ _)) <;> assumption) | (refine (va_up_ne _ _ ?_).trans ((va_up_ne _ _ ?_).trans ((va_up_ne _ _ ?_).trans ?_)) <;> assumption) | (refine (va_up_ne _ _ ?_).trans ((va_up_ne _ _ ?_).trans ((va_up_ne _ _ ?_).trans (va_up_self _ _ _))) <;> assumption)) (by first | assumption | rfl | exact va_up_self _ _ _ | (refine (va_up_ne _ _ ?_).trans ?_ <;> assumption) | (refine (va_up_ne _ _ ?_).trans (va_up_self _ _ _) <;> assumption) | (refine (va_up_ne _ _ ?_).trans ((va_up_ne _ _ ?_).trans ?_) <;> assumption) | (refine (va_up_ne _ _ ?_).trans ((va_up_ne _ _ ?_).trans (va_up_self _ _ _)) <;> assumption) | (refine (va_up_ne _ _ ?_).trans ((va_up_ne _ _ ?_).trans ((va_up_ne _ _ ?_).trans ?_)) <;> assumption) | (refine (va_up_ne _ _ ?_).trans ((va_up_ne _ _ ?_).trans ((va_up_ne _ _ ?_).trans (va_up_self _ _ _))) <;> assumption)) ?_
  show mW _ _ _ _ _ _ _ _ (.ref _ :: _)
  refine m_iload_n dX3_degreeTold_10 rfl ?_
  refine m_iconst (v := 5) dX3_degreeTold_11 (by decide) ?_
  refine m_imul dX3_degreeTold_12 ?_
  refine m_ci (v := 0) (by decide) ?_
  refine m_iload_n dX3_degreeTold_13 rfl ?_
  refine m_iadd dX3_degreeTold_14 ?_
  refine m_ci (v := 4) (by decide) ?_
  refine m_iaload (k := 4) dX3_degreeTold_15 (by first | assumption | rfl | exact va_up_self _ _ _ | (refine (va_up_ne _ _ ?_).trans ?_ <;> assumption) | (refine (va_up_ne _ _ ?_).trans (va_up_self _ _ _) <;> assumption) | (refine (va_up_ne _ _ ?_).trans ((va_up_ne _ _ ?_).trans ?_) <;> assumption) | (refine (va_up_ne _ _ ?_).trans ((va_up_ne _ _ ?_).trans (va_up_self _ _ _)) <;> assumption) | (refine (va_up_ne _ _ ?_).trans ((va_up_ne _ _ ?_).trans ((va_up_ne _ _ ?_).trans ?_)) <;> assumption) | (refine (va_up_ne _ _ ?_).trans ((va_up_ne _ _ ?_).trans ((va_up_ne _ _ ?_).trans (va_up_self _ _ _))) <;> assumption)) ⟨by decide, by decide⟩ ?_
  refine m_if_eq (t := 21) dX3_degreeTold_16 (by decide) (fun c16 => ?_) (fun c16 => ?_)
  rotate_left
  · refine m_iload_n dX3_degreeTold_19 rfl ?_
    exact m_ireturn hF dX3_degreeTold_20 rfl rfl rfl ⟨by unfold degI; simp only [if_neg c16], rfl⟩
  refine m_iinc (v := 3) dX3_degreeTold_21 rfl (by decide) (by decide) ?_
  show mW _ _ _ _ _ _ 24 [_, _, _] _
  refine m_goto (t := 2) dX3_degreeTold_24 (by decide) ?_
  refine m_iload_n dX3_degreeTold_2 rfl ?_
  refine m_if_lt (t := 27) dX3_degreeTold_3 (by decide) (fun q => absurd q (by decide)) (fun _ => ?_)
  refine m_aload_n dX3_degreeTold_6 rfl ?_
  refine m_getfield dX3_degreeTold_7 fl_X3_9 (by first | assumption | rfl | exact va_up_self _ _ _ | (refine (va_up_ne _ _ ?_).trans ?_ <;> assumption) | (refine (va_up_ne _ _ ?_).trans (va_up_self _ _ _) <;> assumption) | (refine (va_up_ne _ _ ?_).trans ((va_up_ne _ _ ?_).trans ?_) <;> assumption) | (refine (va_up_ne _ _ ?_).trans ((va_up_ne _ _ ?_).trans (va_up_self _ _ _)) <;> assumption) | (refine (va_up_ne _ _ ?_).trans ((va_up_ne _ _ ?_).trans ((va_up_ne _ _ ?_).trans ?_)) <;> assumption) | (refine (va_up_ne _ _ ?_).trans ((va_up_ne _ _ ?_).trans ((va_up_ne _ _ ?_).trans (va_up_self _ _ _))) <;> assumption)) (by first | assumption | rfl | exact va_up_self _ _ _ | (refine (va_up_ne _ _ ?_).trans ?_ <;> assumption) | (refine (va_up_ne _ _ ?_).trans (va_up_self _ _ _) <;> assumption) | (refine (va_up_ne _ _ ?_).trans ((va_up_ne _ _ ?_).trans ?_) <;> assumption) | (refine (va_up_ne _ _ ?_).trans ((va_up_ne _ _ ?_).trans (va_up_self _ _ _)) <;> assumption) | (refine (va_up_ne _ _ ?_).trans ((va_up_ne _ _ ?_).trans ((va_up_ne _ _ ?_).trans ?_)) <;> assumption) | (refine (va_up_ne _ _ ?_).trans ((va_up_ne _ _ ?_).trans ((va_up_ne _ _ ?_).trans (va_up_self _ _ _))) <;> assumption)) ?_
  show mW _ _ _ _ _ _ _ _ (.ref _ :: _)
  refine m_iload_n dX3_degreeTold_10 rfl ?_
  refine m_iconst (v := 5) dX3_degreeTold_11 (by decide) ?_
  refine m_imul dX3_degreeTold_12 ?_
  refine m_ci (v := 0) (by decide) ?_
  refine m_iload_n dX3_degreeTold_13 rfl ?_
  refine m_iadd dX3_degreeTold_14 ?_
  refine m_ci (v := 3) (by decide) ?_
  refine m_iaload (k := 3) dX3_degreeTold_15 (by first | assumption | rfl | exact va_up_self _ _ _ | (refine (va_up_ne _ _ ?_).trans ?_ <;> assumption) | (refine (va_up_ne _ _ ?_).trans (va_up_self _ _ _) <;> assumption) | (refine (va_up_ne _ _ ?_).trans ((va_up_ne _ _ ?_).trans ?_) <;> assumption) | (refine (va_up_ne _ _ ?_).trans ((va_up_ne _ _ ?_).trans (va_up_self _ _ _)) <;> assumption) | (refine (va_up_ne _ _ ?_).trans ((va_up_ne _ _ ?_).trans ((va_up_ne _ _ ?_).trans ?_)) <;> assumption) | (refine (va_up_ne _ _ ?_).trans ((va_up_ne _ _ ?_).trans ((va_up_ne _ _ ?_).trans (va_up_self _ _ _))) <;> assumption)) ⟨by decide, by decide⟩ ?_
  refine m_if_eq (t := 21) dX3_degreeTold_16 (by decide) (fun c16_1 => ?_) (fun c16_1 => ?_)
  rotate_left
  · refine m_iload_n dX3_degreeTold_19 rfl ?_
    exact m_ireturn hF dX3_degreeTold_20 rfl rfl rfl ⟨by unfold degI; simp only [if_pos c16, if_neg c16_1], rfl⟩
  refine m_iinc (v := 2) dX3_degreeTold_21 rfl (by decide) (by decide) ?_
  show mW _ _ _ _ _ _ 24 [_, _, _] _
  refine m_goto (t := 2) dX3_degreeTold_24 (by decide) ?_
  refine m_iload_n dX3_degreeTold_2 rfl ?_
  refine m_if_lt (t := 27) dX3_degreeTold_3 (by decide) (fun q => absurd q (by decide)) (fun _ => ?_)
  refine m_aload_n dX3_degreeTold_6 rfl ?_
  refine m_getfield dX3_degreeTold_7 fl_X3_9 (by first | assumption | rfl | exact va_up_self _ _ _ | (refine (va_up_ne _ _ ?_).trans ?_ <;> assumption) | (refine (va_up_ne _ _ ?_).trans (va_up_self _ _ _) <;> assumption) | (refine (va_up_ne _ _ ?_).trans ((va_up_ne _ _ ?_).trans ?_) <;> assumption) | (refine (va_up_ne _ _ ?_).trans ((va_up_ne _ _ ?_).trans (va_up_self _ _ _)) <;> assumption) | (refine (va_up_ne _ _ ?_).trans ((va_up_ne _ _ ?_).trans ((va_up_ne _ _ ?_).trans ?_)) <;> assumption) | (refine (va_up_ne _ _ ?_).trans ((va_up_ne _ _ ?_).trans ((va_up_ne _ _ ?_).trans (va_up_self _ _ _))) <;> assumption)) (by first | assumption | rfl | exact va_up_self _ _ _ | (refine (va_up_ne _ _ ?_).trans ?_ <;> assumption) | (refine (va_up_ne _ _ ?_).trans (va_up_self _ _ _) <;> assumption) | (refine (va_up_ne _ _ ?_).trans ((va_up_ne _ _ ?_).trans ?_) <;> assumption) | (refine (va_up_ne _ _ ?_).trans ((va_up_ne _ _ ?_).trans (va_up_self _ _ _)) <;> assumption) | (refine (va_up_ne _ _ ?_).trans ((va_up_ne _ _ ?_).trans ((va_up_ne _ _ ?_).trans ?_)) <;> assumption) | (refine (va_up_ne _ _ ?_).trans ((va_up_ne _ _ ?_).trans ((va_up_ne _ _ ?_).trans (va_up_self _ _ _))) <;> assumption)) ?_
  show mW _ _ _ _ _ _ _ _ (.ref _ :: _)
  refine m_iload_n dX3_degreeTold_10 rfl ?_
  refine m_iconst (v := 5) dX3_degreeTold_11 (by decide) ?_
  refine m_imul dX3_degreeTold_12 ?_
  refine m_ci (v := 0) (by decide) ?_
  refine m_iload_n dX3_degreeTold_13 rfl ?_
  refine m_iadd dX3_degreeTold_14 ?_
  refine m_ci (v := 2) (by decide) ?_
  refine m_iaload (k := 2) dX3_degreeTold_15 (by first | assumption | rfl | exact va_up_self _ _ _ | (refine (va_up_ne _ _ ?_).trans ?_ <;> assumption) | (refine (va_up_ne _ _ ?_).trans (va_up_self _ _ _) <;> assumption) | (refine (va_up_ne _ _ ?_).trans ((va_up_ne _ _ ?_).trans ?_) <;> assumption) | (refine (va_up_ne _ _ ?_).trans ((va_up_ne _ _ ?_).trans (va_up_self _ _ _)) <;> assumption) | (refine (va_up_ne _ _ ?_).trans ((va_up_ne _ _ ?_).trans ((va_up_ne _ _ ?_).trans ?_)) <;> assumption) | (refine (va_up_ne _ _ ?_).trans ((va_up_ne _ _ ?_).trans ((va_up_ne _ _ ?_).trans (va_up_self _ _ _))) <;> assumption)) ⟨by decide, by decide⟩ ?_
  refine m_if_eq (t := 21) dX3_degreeTold_16 (by decide) (fun c16_2 => ?_) (fun c16_2 => ?_)
  rotate_left
  · refine m_iload_n dX3_degreeTold_19 rfl ?_
    exact m_ireturn hF dX3_degreeTold_20 rfl rfl rfl ⟨by unfold degI; simp only [if_pos c16, if_pos c16_1, if_neg c16_2], rfl⟩
  refine m_iinc (v := 1) dX3_degreeTold_21 rfl (by decide) (by decide) ?_
  show mW _ _ _ _ _ _ 24 [_, _, _] _
  refine m_goto (t := 2) dX3_degreeTold_24 (by decide) ?_
  refine m_iload_n dX3_degreeTold_2 rfl ?_
  refine m_if_lt (t := 27) dX3_degreeTold_3 (by decide) (fun q => absurd q (by decide)) (fun _ => ?_)
  refine m_aload_n dX3_degreeTold_6 rfl ?_
  refine m_getfield dX3_degreeTold_7 fl_X3_9 (by first | assumption | rfl | exact va_up_self _ _ _ | (refine (va_up_ne _ _ ?_).trans ?_ <;> assumption) | (refine (va_up_ne _ _ ?_).trans (va_up_self _ _ _) <;> assumption) | (refine (va_up_ne _ _ ?_).trans ((va_up_ne _ _ ?_).trans ?_) <;> assumption) | (refine (va_up_ne _ _ ?_).trans ((va_up_ne _ _ ?_).trans (va_up_self _ _ _)) <;> assumption) | (refine (va_up_ne _ _ ?_).trans ((va_up_ne _ _ ?_).trans ((va_up_ne _ _ ?_).trans ?_)) <;> assumption) | (refine (va_up_ne _ _ ?_).trans ((va_up_ne _ _ ?_).trans ((va_up_ne _ _ ?_).trans (va_up_self _ _ _))) <;> assumption)) (by first | assumption | rfl | exact va_up_self _ _ _ | (refine (va_up_ne _ _ ?_).trans ?_ <;> assumption) | (refine (va_up_ne _ _ ?_).trans (va_up_self _ _ _) <;> assumption) | (refine (va_up_ne _ _ ?_).trans ((va_up_ne _ _ ?_).trans ?_) <;> assumption) | (refine (va_up_ne _ _ ?_).trans ((va_up_ne _ _ ?_).trans (va_up_self _ _ _)) <;> assumption) | (refine (va_up_ne _ _ ?_).trans ((va_up_ne _ _ ?_).trans ((va_up_ne _ _ ?_).trans ?_)) <;> assumption) | (refine (va_up_ne _ _ ?_).trans ((va_up_ne _ _ ?_).trans ((va_up_ne _ _ ?_).trans (va_up_self _ _ _))) <;> assumption)) ?_
  show mW _ _ _ _ _ _ _ _ (.ref _ :: _)
  refine m_iload_n dX3_degreeTold_10 rfl ?_
  refine m_iconst (v := 5) dX3_degreeTold_11 (by decide) ?_
  refine m_imul dX3_degreeTold_12 ?_
  refine m_ci (v := 0) (by decide) ?_
  refine m_iload_n dX3_degreeTold_13 rfl ?_
  refine m_iadd dX3_degreeTold_14 ?_
  refine m_ci (v := 1) (by decide) ?_
  refine m_iaload (k := 1) dX3_degreeTold_15 (by first | assumption | rfl | exact va_up_self _ _ _ | (refine (va_up_ne _ _ ?_).trans ?_ <;> assumption) | (refine (va_up_ne _ _ ?_).trans (va_up_self _ _ _) <;> assumption) | (refine (va_up_ne _ _ ?_).trans ((va_up_ne _ _ ?_).trans ?_) <;> assumption) | (refine (va_up_ne _ _ ?_).trans ((va_up_ne _ _ ?_).trans (va_up_self _ _ _)) <;> assumption) | (refine (va_up_ne _ _ ?_).trans ((va_up_ne _ _ ?_).trans ((va_up_ne _ _ ?_).trans ?_)) <;> assumption) | (refine (va_up_ne _ _ ?_).trans ((va_up_ne _ _ ?_).trans ((va_up_ne _ _ ?_).trans (va_up_self _ _ _))) <;> assumption)) ⟨by decide, by decide⟩ ?_
  refine m_if_eq (t := 21) dX3_degreeTold_16 (by decide) (fun c16_3 => ?_) (fun c16_3 => ?_)
  rotate_left
  · refine m_iload_n dX3_degreeTold_19 rfl ?_
    exact m_ireturn hF dX3_degreeTold_20 rfl rfl rfl ⟨by unfold degI; simp only [if_pos c16, if_pos c16_1, if_pos c16_2, if_neg c16_3], rfl⟩
  refine m_iinc (v := 0) dX3_degreeTold_21 rfl (by decide) (by decide) ?_
  show mW _ _ _ _ _ _ 24 [_, _, _] _
  refine m_goto (t := 2) dX3_degreeTold_24 (by decide) ?_
  refine m_iload_n dX3_degreeTold_2 rfl ?_
  refine m_if_lt (t := 27) dX3_degreeTold_3 (by decide) (fun q => absurd q (by decide)) (fun _ => ?_)
  refine m_aload_n dX3_degreeTold_6 rfl ?_
  refine m_getfield dX3_degreeTold_7 fl_X3_9 (by first | assumption | rfl | exact va_up_self _ _ _ | (refine (va_up_ne _ _ ?_).trans ?_ <;> assumption) | (refine (va_up_ne _ _ ?_).trans (va_up_self _ _ _) <;> assumption) | (refine (va_up_ne _ _ ?_).trans ((va_up_ne _ _ ?_).trans ?_) <;> assumption) | (refine (va_up_ne _ _ ?_).trans ((va_up_ne _ _ ?_).trans (va_up_self _ _ _)) <;> assumption) | (refine (va_up_ne _ _ ?_).trans ((va_up_ne _ _ ?_).trans ((va_up_ne _ _ ?_).trans ?_)) <;> assumption) | (refine (va_up_ne _ _ ?_).trans ((va_up_ne _ _ ?_).trans ((va_up_ne _ _ ?_).trans (va_up_self _ _ _))) <;> assumption)) (by first | assumption | rfl | exact va_up_self _ _ _ | (refine (va_up_ne _ _ ?_).trans ?_ <;> assumption) | (refine (va_up_ne _ _ ?_).trans (va_up_self _ _ _) <;> assumption) | (refine (va_up_ne _ _ ?_).trans ((va_up_ne _ _ ?_).trans ?_) <;> assumption) | (refine (va_up_ne _ _ ?_).trans ((va_up_ne _ _ ?_).trans (va_up_self _ _ _)) <;> assumption) | (refine (va_up_ne _ _ ?_).trans ((va_up_ne _ _ ?_).trans ((va_up_ne _ _ ?_).trans ?_)) <;> assumption) | (refine (va_up_ne _ _ ?_).trans ((va_up_ne _ _ ?_).trans ((va_up_ne _ _ ?_).trans (va_up_self _ _ _))) <;> assumption)) ?_
  show mW _ _ _ _ _ _ _ _ (.ref _ :: _)
  refine m_iload_n dX3_degreeTold_10 rfl ?_
  refine m_iconst (v := 5) dX3_degreeTold_11 (by decide) ?_
  refine m_imul dX3_degreeTold_12 ?_
  refine m_ci (v := 0) (by decide) ?_
  refine m_iload_n dX3_degreeTold_13 rfl ?_
  refine m_iadd dX3_degreeTold_14 ?_
  refine m_ci (v := 0) (by decide) ?_
  refine m_iaload (k := 0) dX3_degreeTold_15 (by first | assumption | rfl | exact va_up_self _ _ _ | (refine (va_up_ne _ _ ?_).trans ?_ <;> assumption) | (refine (va_up_ne _ _ ?_).trans (va_up_self _ _ _) <;> assumption) | (refine (va_up_ne _ _ ?_).trans ((va_up_ne _ _ ?_).trans ?_) <;> assumption) | (refine (va_up_ne _ _ ?_).trans ((va_up_ne _ _ ?_).trans (va_up_self _ _ _)) <;> assumption) | (refine (va_up_ne _ _ ?_).trans ((va_up_ne _ _ ?_).trans ((va_up_ne _ _ ?_).trans ?_)) <;> assumption) | (refine (va_up_ne _ _ ?_).trans ((va_up_ne _ _ ?_).trans ((va_up_ne _ _ ?_).trans (va_up_self _ _ _))) <;> assumption)) ⟨by decide, by decide⟩ ?_
  refine m_if_eq (t := 21) dX3_degreeTold_16 (by decide) (fun c16_4 => ?_) (fun c16_4 => ?_)
  rotate_left
  · refine m_iload_n dX3_degreeTold_19 rfl ?_
    exact m_ireturn hF dX3_degreeTold_20 rfl rfl rfl ⟨by unfold degI; simp only [if_pos c16, if_pos c16_1, if_pos c16_2, if_pos c16_3, if_neg c16_4], rfl⟩
  refine m_iinc (v := -1) dX3_degreeTold_21 rfl (by decide) (by decide) ?_
  show mW _ _ _ _ _ _ 24 [_, _, _] _
  refine m_goto (t := 2) dX3_degreeTold_24 (by decide) ?_
  refine m_iload_n dX3_degreeTold_2 rfl ?_
  refine m_if_lt (t := 27) dX3_degreeTold_3 (by decide) (fun _ => ?_) (fun q => absurd (by decide) q)
  refine m_iconst (v := -1) dX3_degreeTold_27 (by decide) ?_
  exact m_ireturn hF dX3_degreeTold_28 rfl rfl rfl ⟨by unfold degI; simp only [if_pos c16, if_pos c16_1, if_pos c16_2, if_pos c16_3, if_pos c16_4], rfl⟩

set_option maxHeartbeats 4000000 in
set_option maxRecDepth 100000 in
theorem t_X3_degreeTold1 {n : Nat} {hp : mHp} {h q : Nat} {g d : Int32} {P : Nat → Int32} (h1 : hp h = eO 3 (oSet q g d)) (h2 : hp q = eI 10 P) : mC D_X3_degreeTold [.ref h, .int 1] n hp (rI (degI P 5) hp) := by
  refine m_enter rfl rfl (Nat.le_of_ble_eq_true rfl) (fun K hF => ?_)
  show mW K _ 0 0 _ _ 0 [.ref h, .int 1, .retAddr 0] []
  refine m_iconst (v := 4) dX3_degreeTold_0 (by decide) ?_
  refine m_istore_n dX3_degreeTold_1 (by decide) ?_
  show mW _ _ _ _ _ _ 2 [_, _, _] _
  refine m_iload_n dX3_degreeTold_2 rfl ?_
  refine m_if_lt (t := 27) dX3_degreeTold_3 (by decide) (fun q => absurd q (by decide)) (fun _ => ?_)
  refine m_aload_n dX3_degreeTold_6 rfl ?_
  refine m_getfield dX3_degreeTold_7 fl_X3_9 (by first | assumption | rfl | exact va_up_self _ _ _ | (refine (va_up_ne _ _ ?_).trans ?_ <;> assumption) | (refine (va_up_ne _ _ ?_).trans (va_up_self _ _ _) <;> assumption) | (refine (va_up_ne _ _ ?_).trans ((va_up_ne _ _ ?_).trans ?_) <;> assumption) | (refine (va_up_ne _ _ ?_).trans ((va_up_ne _ _ ?_).trans (va_up_self _ _ _)) <;> assumption) | (refine (va_up_ne _ _ ?_).trans ((va_up_ne _ _ ?_).trans ((va_up_ne _ _ ?_).trans ?_)) <;> assumption) | (refine (va_up_ne _ _ ?_).trans ((va_up_ne _ _ ?_).trans ((va_up_ne _ _ ?_).trans (va_up_self _ _ _))) <;> assumption)) (by first | assumption | rfl | exact va_up_self _ _ _ | (refine (va_up_ne _ _ ?_).trans ?_ <;> assumption) | (refine (va_up_ne _ _ ?_).trans (va_up_self _ _ _) <;> assumption) | (refine (va_up_ne _ _ ?_).trans ((va_up_ne _ _ ?_).trans ?_) <;> assumption) | (refine (va_up_ne _ _ ?_).trans ((va_up_ne _ _ ?_).trans (va_up_self _ _ _)) <;> assumption) | (refine (va_up_ne _ _ ?_).trans ((va_up_ne _ _ ?_).trans ((va_up_ne _ _ ?_).trans ?_)) <;> assumption) | (refine (va_up_ne _ _ ?_).trans ((va_up_ne _ _ ?_).trans ((va_up_ne _ _ ?_).trans (va_up_self _ _ _))) <;> assumption)) ?_
  show mW _ _ _ _ _ _ _ _ (.ref _ :: _)
  refine m_iload_n dX3_degreeTold_10 rfl ?_
  refine m_iconst (v := 5) dX3_degreeTold_11 (by decide) ?_
  refine m_imul dX3_degreeTold_12 ?_
  refine m_ci (v := 5) (by decide) ?_
  refine m_iload_n dX3_degreeTold_13 rfl ?_
  refine m_iadd dX3_degreeTold_14 ?_
  refine m_ci (v := 9) (by decide) ?_
  refine m_iaload (k := 9) dX3_degreeTold_15 (by first | assumption | rfl | exact va_up_self _ _ _ | (refine (va_up_ne _ _ ?_).trans ?_ <;> assumption) | (refine (va_up_ne _ _ ?_).trans (va_up_self _ _ _) <;> assumption) | (refine (va_up_ne _ _ ?_).trans ((va_up_ne _ _ ?_).trans ?_) <;> assumption) | (refine (va_up_ne _ _ ?_).trans ((va_up_ne _ _ ?_).trans (va_up_self _ _ _)) <;> assumption) | (refine (va_up_ne _ _ ?_).trans ((va_up_ne _ _ ?_).trans ((va_up_ne _ _ ?_).trans ?_)) <;> assumption) | (refine (va_up_ne _ _ ?_).trans ((va_up_ne _ _ ?_).trans ((va_up_ne _ _ ?_).trans (va_up_self _ _ _))) <;> assumption)) ⟨by decide, by decide⟩ ?_
  refine m_if_eq (t := 21) dX3_degreeTold_16 (by decide) (fun c16 => ?_) (fun c16 => ?_)
  rotate_left
  · refine m_iload_n dX3_degreeTold_19 rfl ?_
    exact m_ireturn hF dX3_degreeTold_20 rfl rfl rfl ⟨by unfold degI; simp only [if_neg c16], rfl⟩
  refine m_iinc (v := 3) dX3_degreeTold_21 rfl (by decide) (by decide) ?_
  show mW _ _ _ _ _ _ 24 [_, _, _] _
  refine m_goto (t := 2) dX3_degreeTold_24 (by decide) ?_
  refine m_iload_n dX3_degreeTold_2 rfl ?_
  refine m_if_lt (t := 27) dX3_degreeTold_3 (by decide) (fun q => absurd q (by decide)) (fun _ => ?_)
  refine m_aload_n dX3_degreeTold_6 rfl ?_
  refine m_getfield dX3_degreeTold_7 fl_X3_9 (by first | assumption | rfl | exact va_up_self _ _ _ | (refine (va_up_ne _ _ ?_).trans ?_ <;> assumption) | (refine (va_up_ne _ _ ?_).trans (va_up_self _ _ _) <;> assumption) | (refine (va_up_ne _ _ ?_).trans ((va_up_ne _ _ ?_).trans ?_) <;> assumption) | (refine (va_up_ne _ _ ?_).trans ((va_up_ne _ _ ?_).trans (va_up_self _ _ _)) <;> assumption) | (refine (va_up_ne _ _ ?_).trans ((va_up_ne _ _ ?_).trans ((va_up_ne _ _ ?_).trans ?_)) <;> assumption) | (refine (va_up_ne _ _ ?_).trans ((va_up_ne _ _ ?_).trans ((va_up_ne _ _ ?_).trans (va_up_self _ _ _))) <;> assumption)) (by first | assumption | rfl | exact va_up_self _ _ _ | (refine (va_up_ne _ _ ?_).trans ?_ <;> assumption) | (refine (va_up_ne _ _ ?_).trans (va_up_self _ _ _) <;> assumption) | (refine (va_up_ne _ _ ?_).trans ((va_up_ne _ _ ?_).trans ?_) <;> assumption) | (refine (va_up_ne _ _ ?_).trans ((va_up_ne _ _ ?_).trans (va_up_self _ _ _)) <;> assumption) | (refine (va_up_ne _ _ ?_).trans ((va_up_ne _ _ ?_).trans ((va_up_ne _ _ ?_).trans ?_)) <;> assumption) | (refine (va_up_ne _ _ ?_).trans ((va_up_ne _ _ ?_).trans ((va_up_ne _ _ ?_).trans (va_up_self _ _ _))) <;> assumption)) ?_
  show mW _ _ _ _ _ _ _ _ (.ref _ :: _)
  refine m_iload_n dX3_degreeTold_10 rfl ?_
  refine m_iconst (v := 5) dX3_degreeTold_11 (by decide) ?_
  refine m_imul dX3_degreeTold_12 ?_
  refine m_ci (v := 5) (by decide) ?_
  refine m_iload_n dX3_degreeTold_13 rfl ?_
  refine m_iadd dX3_degreeTold_14 ?_
  refine m_ci (v := 8) (by decide) ?_
  refine m_iaload (k := 8) dX3_degreeTold_15 (by first | assumption | rfl | exact va_up_self _ _ _ | (refine (va_up_ne _ _ ?_).trans ?_ <;> assumption) | (refine (va_up_ne _ _ ?_).trans (va_up_self _ _ _) <;> assumption) | (refine (va_up_ne _ _ ?_).trans ((va_up_ne _ _ ?_).trans ?_) <;> assumption) | (refine (va_up_ne _ _ ?_).trans ((va_up_ne _ _ ?_).trans (va_up_self _ _ _)) <;> assumption) | (refine (va_up_ne _ _ ?_).trans ((va_up_ne _ _ ?_).trans ((va_up_ne _ _ ?_).trans ?_)) <;> assumption) | (refine (va_up_ne _ _ ?_).trans ((va_up_ne _ _ ?_).trans ((va_up_ne _ _ ?_).trans (va_up_self _ _ _))) <;> assumption)) ⟨by decide, by decide⟩ ?_
  refine m_if_eq (t := 21) dX3_degreeTold_16 (by decide) (fun c16_1 => ?_) (fun c16_1 => ?_)
  rotate_left
  · refine m_iload_n dX3_degreeTold_19 rfl ?_
    exact m_ireturn hF dX3_degreeTold_20 rfl rfl rfl ⟨by unfold degI; simp only [if_pos c16, if_neg c16_1], rfl⟩
  refine m_iinc (v := 2) dX3_degreeTold_21 rfl (by decide) (by decide) ?_
  show mW _ _ _ _ _ _ 24 [_, _, _] _
  refine m_goto (t := 2) dX3_degreeTold_24 (by decide) ?_
  refine m_iload_n dX3_degreeTold_2 rfl ?_
  refine m_if_lt (t := 27) dX3_degreeTold_3 (by decide) (fun q => absurd q (by decide)) (fun _ => ?_)
  refine m_aload_n dX3_degreeTold_6 rfl ?_
  refine m_getfield dX3_degreeTold_7 fl_X3_9 (by first | assumption | rfl | exact va_up_self _ _ _ | (refine (va_up_ne _ _ ?_).trans ?_ <;> assumption) | (refine (va_up_ne _ _ ?_).trans (va_up_self _ _ _) <;> assumption) | (refine (va_up_ne _ _ ?_).trans ((va_up_ne _ _ ?_).trans ?_) <;> assumption) | (refine (va_up_ne _ _ ?_).trans ((va_up_ne _ _ ?_).trans (va_up_self _ _ _)) <;> assumption) | (refine (va_up_ne _ _ ?_).trans ((va_up_ne _ _ ?_).trans ((va_up_ne _ _ ?_).trans ?_)) <;> assumption) | (refine (va_up_ne _ _ ?_).trans ((va_up_ne _ _ ?_).trans ((va_up_ne _ _ ?_).trans (va_up_self _ _ _))) <;> assumption)) (by first | assumption | rfl | exact va_up_self _ _ _ | (refine (va_up_ne _ _ ?_).trans ?_ <;> assumption) | (refine (va_up_ne _ _ ?_).trans (va_up_self _ _ _) <;> assumption) | (refine (va_up_ne _ _ ?_).trans ((va_up_ne _ _ ?_).trans ?_) <;> assumption) | (refine (va_up_ne _ _ ?_).trans ((va_up_ne _ _ ?_).trans (va_up_self _ _ _)) <;> assumption) | (refine (va_up_ne _ _ ?_).trans ((va_up_ne _ _ ?_).trans ((va_up_ne _ _ ?_).trans ?_)) <;> assumption) | (refine (va_up_ne _ _ ?_).trans ((va_up_ne _ _ ?_).trans ((va_up_ne _ _ ?_).trans (va_up_self _ _ _))) <;> assumption)) ?_
  show mW _ _ _ _ _ _ _ _ (.ref _ :: _)
  refine m_iload_n dX3_degreeTold_10 rfl ?_
  refine m_iconst (v := 5) dX3_degreeTold_11 (by decide) ?_
  refine m_imul dX3_degreeTold_12 ?_
  refine m_ci (v := 5) (by decide) ?_
  refine m_iload_n dX3_degreeTold_13 rfl ?_
  refine m_iadd dX3_degreeTold_14 ?_
  refine m_ci (v := 7) (by decide) ?_
  refine m_iaload (k := 7) dX3_degreeTold_15 (by first | assumption | rfl | exact va_up_self _ _ _ | (refine (va_up_ne _ _ ?_).trans ?_ <;> assumption) | (refine (va_up_ne _ _ ?_).trans (va_up_self _ _ _) <;> assumption) | (refine (va_up_ne _ _ ?_).trans ((va_up_ne _ _ ?_).trans ?_) <;> assumption) | (refine (va_up_ne _ _ ?_).trans ((va_up_ne _ _ ?_).trans (va_up_self _ _ _)) <;> assumption) | (refine (va_up_ne _ _ ?_).trans ((va_up_ne _ _ ?_).trans ((va_up_ne _ _ ?_).trans ?_)) <;> assumption) | (refine (va_up_ne _ _ ?_).trans ((va_up_ne _ _ ?_).trans ((va_up_ne _ _ ?_).trans (va_up_self _ _ _))) <;> assumption)) ⟨by decide, by decide⟩ ?_
  refine m_if_eq (t := 21) dX3_degreeTold_16 (by decide) (fun c16_2 => ?_) (fun c16_2 => ?_)
  rotate_left
  · refine m_iload_n dX3_degreeTold_19 rfl ?_
    exact m_ireturn hF dX3_degreeTold_20 rfl rfl rfl ⟨by unfold degI; simp only [if_pos c16, if_pos c16_1, if_neg c16_2], rfl⟩
  refine m_iinc (v := 1) dX3_degreeTold_21 rfl (by decide) (by decide) ?_
  show mW _ _ _ _ _ _ 24 [_, _, _] _
  refine m_goto (t := 2) dX3_degreeTold_24 (by decide) ?_
  refine m_iload_n dX3_degreeTold_2 rfl ?_
  refine m_if_lt (t := 27) dX3_degreeTold_3 (by decide) (fun q => absurd q (by decide)) (fun _ => ?_)
  refine m_aload_n dX3_degreeTold_6 rfl ?_
  refine m_getfield dX3_degreeTold_7 fl_X3_9 (by first | assumption | rfl | exact va_up_self _ _ _ | (refine (va_up_ne _ _ ?_).trans ?_ <;> assumption) | (refine (va_up_ne _ _ ?_).trans (va_up_self _ _ _) <;> assumption) | (refine (va_up_ne _ _ ?_).trans ((va_up_ne _ _ ?_).trans ?_) <;> assumption) | (refine (va_up_ne _ _ ?_).trans ((va_up_ne _ _ ?_).trans (va_up_self _ _ _)) <;> assumption) | (refine (va_up_ne _ _ ?_).trans ((va_up_ne _ _ ?_).trans ((va_up_ne _ _ ?_).trans ?_)) <;> assumption) | (refine (va_up_ne _ _ ?_).trans ((va_up_ne _ _ ?_).trans ((va_up_ne _ _ ?_).trans (va_up_self _ _ _))) <;> assumption)) (by first | assumption | rfl | exact va_up_self _ _ _ | (refine (va_up_ne _ _ ?_).trans ?_ <;> assumption) | (refine (va_up_ne _ _ ?_).trans (va_up_self _ _ _) <;> assumption) | (refine (va_up_ne _ _ ?_).trans ((va_up_ne _ _ ?_).trans ?_) <;> assumption) | (refine (va_up_ne _ _ ?_).trans ((va_up_ne _ _ ?_).trans (va_up_self _ _ _)) <;> assumption) | (refine (va_up_ne _ _ ?_).trans ((va_up_ne _ _ ?_).trans ((va_up_ne _ _ ?_).trans ?_)) <;> assumption) | (refine (va_up_ne _ _ ?_).trans ((va_up_ne _ _ ?_).trans ((va_up_ne _ _ ?_).trans (va_up_self _ _ _))) <;> assumption)) ?_
  show mW _ _ _ _ _ _ _ _ (.ref _ :: _)
  refine m_iload_n dX3_degreeTold_10 rfl ?_
  refine m_iconst (v := 5) dX3_degreeTold_11 (by decide) ?_
  refine m_imul dX3_degreeTold_12 ?_
  refine m_ci (v := 5) (by decide) ?_
  refine m_iload_n dX3_degreeTold_13 rfl ?_
  refine m_iadd dX3_degreeTold_14 ?_
  refine m_ci (v := 6) (by decide) ?_
  refine m_iaload (k := 6) dX3_degreeTold_15 (by first | assumption | rfl | exact va_up_self _ _ _ | (refine (va_up_ne _ _ ?_).trans ?_ <;> assumption) | (refine (va_up_ne _ _ ?_).trans (va_up_self _ _ _) <;> assumption) | (refine (va_up_ne _ _ ?_).trans ((va_up_ne _ _ ?_).trans ?_) <;> assumption) | (refine (va_up_ne _ _ ?_).trans ((va_up_ne _ _ ?_).trans (va_up_self _ _ _)) <;> assumption) | (refine (va_up_ne _ _ ?_).trans ((va_up_ne _ _ ?_).trans ((va_up_ne _ _ ?_).trans ?_)) <;> assumption) | (refine (va_up_ne _ _ ?_).trans ((va_up_ne _ _ ?_).trans ((va_up_ne _ _ ?_).trans (va_up_self _ _ _))) <;> assumption)) ⟨by decide, by decide⟩ ?_
  refine m_if_eq (t := 21) dX3_degreeTold_16 (by decide) (fun c16_3 => ?_) (fun c16_3 => ?_)
  rotate_left
  · refine m_iload_n dX3_degreeTold_19 rfl ?_
    exact m_ireturn hF dX3_degreeTold_20 rfl rfl rfl ⟨by unfold degI; simp only [if_pos c16, if_pos c16_1, if_pos c16_2, if_neg c16_3], rfl⟩
  refine m_iinc (v := 0) dX3_degreeTold_21 rfl (by decide) (by decide) ?_
  show mW _ _ _ _ _ _ 24 [_, _, _] _
  refine m_goto (t := 2) dX3_degreeTold_24 (by decide) ?_
  refine m_iload_n dX3_degreeTold_2 rfl ?_
  refine m_if_lt (t := 27) dX3_degreeTold_3 (by decide) (fun q => absurd q (by decide)) (fun _ => ?_)
  refine m_aload_n dX3_degreeTold_6 rfl ?_
  refine m_getfield dX3_degreeTold_7 fl_X3_9 (by first | assumption | rfl | exact va_up_self _ _ _ | (refine (va_up_ne _ _ ?_).trans ?_ <;> assumption) | (refine (va_up_ne _ _ ?_).trans (va_up_self _ _ _) <;> assumption) | (refine (va_up_ne _ _ ?_).trans ((va_up_ne _ _ ?_).trans ?_) <;> assumption) | (refine (va_up_ne _ _ ?_).trans ((va_up_ne _ _ ?_).trans (va_up_self _ _ _)) <;> assumption) | (refine (va_up_ne _ _ ?_).trans ((va_up_ne _ _ ?_).trans ((va_up_ne _ _ ?_).trans ?_)) <;> assumption) | (refine (va_up_ne _ _ ?_).trans ((va_up_ne _ _ ?_).trans ((va_up_ne _ _ ?_).trans (va_up_self _ _ _))) <;> assumption)) (by first | assumption | rfl | exact va_up_self _ _ _ | (refine (va_up_ne _ _ ?_).trans ?_ <;> assumption) | (refine (va_up_ne _ _ ?_).trans (va_up_self _ _ _) <;> assumption) | (refine (va_up_ne _ _ ?_).trans ((va_up_ne _ _ ?_).trans ?_) <;> assumption) | (refine (va_up_ne _ _ ?_).trans ((va_up_ne _ _ ?_).trans (va_up_self _ _ _)) <;> assumption) | (refine (va_up_ne _ _ ?_).trans ((va_up_ne _ _ ?_).trans ((va_up_ne _ _ ?_).trans ?_)) <;> assumption) | (refine (va_up_ne _ _ ?_).trans ((va_up_ne _ _ ?_).trans ((va_up_ne _ _ ?_).trans (va_up_self _ _ _))) <;> assumption)) ?_
  show mW _ _ _ _ _ _ _ _ (.ref _ :: _)
  refine m_iload_n dX3_degreeTold_10 rfl ?_
  refine m_iconst (v := 5) dX3_degreeTold_11 (by decide) ?_
  refine m_imul dX3_degreeTold_12 ?_
  refine m_ci (v := 5) (by decide) ?_
  refine m_iload_n dX3_degreeTold_13 rfl ?_
  refine m_iadd dX3_degreeTold_14 ?_
  refine m_ci (v := 5) (by decide) ?_
  refine m_iaload (k := 5) dX3_degreeTold_15 (by first | assumption | rfl | exact va_up_self _ _ _ | (refine (va_up_ne _ _ ?_).trans ?_ <;> assumption) | (refine (va_up_ne _ _ ?_).trans (va_up_self _ _ _) <;> assumption) | (refine (va_up_ne _ _ ?_).trans ((va_up_ne _ _ ?_).trans ?_) <;> assumption) | (refine (va_up_ne _ _ ?_).trans ((va_up_ne _ _ ?_).trans (va_up_self _ _ _)) <;> assumption) | (refine (va_up_ne _ _ ?_).trans ((va_up_ne _ _ ?_).trans ((va_up_ne _ _ ?_).trans ?_)) <;> assumption) | (refine (va_up_ne _ _ ?_).trans ((va_up_ne _ _ ?_).trans ((va_up_ne _ _ ?_).trans (va_up_self _ _ _))) <;> assumption)) ⟨by decide, by decide⟩ ?_
  refine m_if_eq (t := 21) dX3_degreeTold_16 (by decide) (fun c16_4 => ?_) (fun c16_4 => ?_)
  rotate_left
  · refine m_iload_n dX3_degreeTold_19 rfl ?_
    exact m_ireturn hF dX3_degreeTold_20 rfl rfl rfl ⟨by unfold degI; simp only [if_pos c16, if_pos c16_1, if_pos c16_2, if_pos c16_3, if_neg c16_4], rfl⟩
  refine m_iinc (v := -1) dX3_degreeTold_21 rfl (by decide) (by decide) ?_
  show mW _ _ _ _ _ _ 24 [_, _, _] _
  refine m_goto (t := 2) dX3_degreeTold_24 (by decide) ?_
  refine m_iload_n dX3_degreeTold_2 rfl ?_
  refine m_if_lt (t := 27) dX3_degreeTold_3 (by decide) (fun _ => ?_) (fun q => absurd (by decide) q)
  refine m_iconst (v := -1) dX3_degreeTold_27 (by decide) ?_
  exact m_ireturn hF dX3_degreeTold_28 rfl rfl rfl ⟨by unfold degI; simp only [if_pos c16, if_pos c16_1, if_pos c16_2, if_pos c16_3, if_pos c16_4], rfl⟩

/-- THE LOOP of a gain, in the class's ints -/
def loopI (P : Nat → Int32) (v : Int32) (k : Nat) : Int64 := (8 * P k + v * P (5 + k)).toInt64
def fill5 (f g : Nat → Int64) : Nat → Int64 := va_up (va_up (va_up (va_up (va_up g 0 (f 0)) 1 (f 1)) 2 (f 2)) 3 (f 3)) 4 (f 4)
set_option maxHeartbeats 4000000 in
set_option maxRecDepth 100000 in
theorem t_X3_fillLoop {n : Nat} {hp : mHp} {h q r : Nat} {g d v : Int32} {P : Nat → Int32} {L : Nat → Int64} (h1 : hp h = eO 3 (oSet q g d)) (h2 : hp q = eI 10 P) (h3 : hp r = eL 5 L) : mC D_X3_fillLoop [.ref h, .ref r, .int v] n hp (rV (va_up hp r (eL 5 (fill5 (loopI P v) L)))) := by
  refine m_enter rfl rfl (Nat.le_of_ble_eq_true rfl) (fun K hF => ?_)
  show mW K _ 0 0 _ _ 0 [.ref h, .ref r, .int v, .retAddr 0] []
  have e1 : h ≠ q := mNe h1 h2 eO_ne_eI
  have e2 : h ≠ r := mNe h1 h3 eO_ne_eL
  have e3 : q ≠ r := mNe h2 h3 eI_ne_eL
  refine m_iconst (v := 0) dX3_fillLoop_0 (by decide) ?_
  refine m_istore_n dX3_fillLoop_1 (by decide) ?_
  show mW _ _ _ _ _ _ 2 [_, _, _, _] _
  refine m_iload_n dX3_fillLoop_2 rfl ?_
  refine m_iconst (v := 5) dX3_fillLoop_3 (by decide) ?_
  refine m_icmp_ge (t := 37) dX3_fillLoop_4 (by decide) (fun q => absurd q (by decide)) (fun _ => ?_)
  refine m_aload_n dX3_fillLoop_7 rfl ?_
  refine m_iload_n dX3_fillLoop_8 rfl ?_
  refine m_bipush (v := 8) dX3_fillLoop_9 (by decide) ?_
  refine m_aload_n dX3_fillLoop_11 rfl ?_
  refine m_getfield dX3_fillLoop_12 fl_X3_9 (by first | assumption | rfl | exact va_up_self _ _ _ | (refine (va_up_ne _ _ ?_).trans ?_ <;> assumption) | (refine (va_up_ne _ _ ?_).trans (va_up_self _ _ _) <;> assumption) | (refine (va_up_ne _ _ ?_).trans ((va_up_ne _ _ ?_).trans ?_) <;> assumption) | (refine (va_up_ne _ _ ?_).trans ((va_up_ne _ _ ?_).trans (va_up_self _ _ _)) <;> assumption) | (refine (va_up_ne _ _ ?_).trans ((va_up_ne _ _ ?_).trans ((va_up_ne _ _ ?_).trans ?_)) <;> assumption) | (refine (va_up_ne _ _ ?_).trans ((va_up_ne _ _ ?_).trans ((va_up_ne _ _ ?_).trans (va_up_self _ _ _))) <;> assumption)) (by first | assumption | rfl | exact va_up_self _ _ _ | (refine (va_up_ne _ _ ?_).trans ?_ <;> assumption) | (refine (va_up_ne _ _ ?_).trans (va_up_self _ _ _) <;> assumption) | (refine (va_up_ne _ _ ?_).trans ((va_up_ne _ _ ?_).trans ?_) <;> assumption) | (refine (va_up_ne _ _ ?_).trans ((va_up_ne _ _ ?_).trans (va_up_self _ _ _)) <;> assumption) | (refine (va_up_ne _ _ ?_).trans ((va_up_ne _ _ ?_).trans ((va_up_ne _ _ ?_).trans ?_)) <;> assumption) | (refine (va_up_ne _ _ ?_).trans ((va_up_ne _ _ ?_).trans ((va_up_ne _ _ ?_).trans (va_up_self _ _ _))) <;> assumption)) ?_
  show mW _ _ _ _ _ _ _ _ (.ref _ :: _)
  refine m_iload_n dX3_fillLoop_15 rfl ?_
  refine m_iaload (k := 0) dX3_fillLoop_16 (by first | assumption | rfl | exact va_up_self _ _ _ | (refine (va_up_ne _ _ ?_).trans ?_ <;> assumption) | (refine (va_up_ne _ _ ?_).trans (va_up_self _ _ _) <;> assumption) | (refine (va_up_ne _ _ ?_).trans ((va_up_ne _ _ ?_).trans ?_) <;> assumption) | (refine (va_up_ne _ _ ?_).trans ((va_up_ne _ _ ?_).trans (va_up_self _ _ _)) <;> assumption) | (refine (va_up_ne _ _ ?_).trans ((va_up_ne _ _ ?_).trans ((va_up_ne _ _ ?_).trans ?_)) <;> assumption) | (refine (va_up_ne _ _ ?_).trans ((va_up_ne _ _ ?_).trans ((va_up_ne _ _ ?_).trans (va_up_self _ _ _))) <;> assumption)) ⟨by decide, by decide⟩ ?_
  refine m_imul dX3_fillLoop_17 ?_
  refine m_iload_n dX3_fillLoop_18 rfl ?_
  refine m_aload_n dX3_fillLoop_19 rfl ?_
  refine m_getfield dX3_fillLoop_20 fl_X3_9 (by first | assumption | rfl | exact va_up_self _ _ _ | (refine (va_up_ne _ _ ?_).trans ?_ <;> assumption) | (refine (va_up_ne _ _ ?_).trans (va_up_self _ _ _) <;> assumption) | (refine (va_up_ne _ _ ?_).trans ((va_up_ne _ _ ?_).trans ?_) <;> assumption) | (refine (va_up_ne _ _ ?_).trans ((va_up_ne _ _ ?_).trans (va_up_self _ _ _)) <;> assumption) | (refine (va_up_ne _ _ ?_).trans ((va_up_ne _ _ ?_).trans ((va_up_ne _ _ ?_).trans ?_)) <;> assumption) | (refine (va_up_ne _ _ ?_).trans ((va_up_ne _ _ ?_).trans ((va_up_ne _ _ ?_).trans (va_up_self _ _ _))) <;> assumption)) (by first | assumption | rfl | exact va_up_self _ _ _ | (refine (va_up_ne _ _ ?_).trans ?_ <;> assumption) | (refine (va_up_ne _ _ ?_).trans (va_up_self _ _ _) <;> assumption) | (refine (va_up_ne _ _ ?_).trans ((va_up_ne _ _ ?_).trans ?_) <;> assumption) | (refine (va_up_ne _ _ ?_).trans ((va_up_ne _ _ ?_).trans (va_up_self _ _ _)) <;> assumption) | (refine (va_up_ne _ _ ?_).trans ((va_up_ne _ _ ?_).trans ((va_up_ne _ _ ?_).trans ?_)) <;> assumption) | (refine (va_up_ne _ _ ?_).trans ((va_up_ne _ _ ?_).trans ((va_up_ne _ _ ?_).trans (va_up_self _ _ _))) <;> assumption)) ?_
  show mW _ _ _ _ _ _ _ _ (.ref _ :: _)
  refine m_iconst (v := 5) dX3_fillLoop_23 (by decide) ?_
  refine m_iload_n dX3_fillLoop_24 rfl ?_
  refine m_iadd dX3_fillLoop_25 ?_
  refine m_ci (v := 5) (by decide) ?_
  refine m_iaload (k := 5) dX3_fillLoop_26 (by first | assumption | rfl | exact va_up_self _ _ _ | (refine (va_up_ne _ _ ?_).trans ?_ <;> assumption) | (refine (va_up_ne _ _ ?_).trans (va_up_self _ _ _) <;> assumption) | (refine (va_up_ne _ _ ?_).trans ((va_up_ne _ _ ?_).trans ?_) <;> assumption) | (refine (va_up_ne _ _ ?_).trans ((va_up_ne _ _ ?_).trans (va_up_self _ _ _)) <;> assumption) | (refine (va_up_ne _ _ ?_).trans ((va_up_ne _ _ ?_).trans ((va_up_ne _ _ ?_).trans ?_)) <;> assumption) | (refine (va_up_ne _ _ ?_).trans ((va_up_ne _ _ ?_).trans ((va_up_ne _ _ ?_).trans (va_up_self _ _ _))) <;> assumption)) ⟨by decide, by decide⟩ ?_
  refine m_imul dX3_fillLoop_27 ?_
  refine m_iadd dX3_fillLoop_28 ?_
  refine m_i2l dX3_fillLoop_29 ?_
  refine m_lastore (k := 0) dX3_fillLoop_30 (by first | assumption | rfl | exact va_up_self _ _ _ | (refine (va_up_ne _ _ ?_).trans ?_ <;> assumption) | (refine (va_up_ne _ _ ?_).trans (va_up_self _ _ _) <;> assumption) | (refine (va_up_ne _ _ ?_).trans ((va_up_ne _ _ ?_).trans ?_) <;> assumption) | (refine (va_up_ne _ _ ?_).trans ((va_up_ne _ _ ?_).trans (va_up_self _ _ _)) <;> assumption) | (refine (va_up_ne _ _ ?_).trans ((va_up_ne _ _ ?_).trans ((va_up_ne _ _ ?_).trans ?_)) <;> assumption) | (refine (va_up_ne _ _ ?_).trans ((va_up_ne _ _ ?_).trans ((va_up_ne _ _ ?_).trans (va_up_self _ _ _))) <;> assumption)) ⟨by decide, by decide⟩ ?_
  try rw [va_uu]
  refine m_iinc (v := 1) dX3_fillLoop_31 rfl (by decide) (by decide) ?_
  show mW _ _ _ _ _ _ 34 [_, _, _, _] _
  refine m_goto (t := 2) dX3_fillLoop_34 (by decide) ?_
  refine m_iload_n dX3_fillLoop_2 rfl ?_
  refine m_iconst (v := 5) dX3_fillLoop_3 (by decide) ?_
  refine m_icmp_ge (t := 37) dX3_fillLoop_4 (by decide) (fun q => absurd q (by decide)) (fun _ => ?_)
  refine m_aload_n dX3_fillLoop_7 rfl ?_
  refine m_iload_n dX3_fillLoop_8 rfl ?_
  refine m_bipush (v := 8) dX3_fillLoop_9 (by decide) ?_
  refine m_aload_n dX3_fillLoop_11 rfl ?_
  refine m_getfield dX3_fillLoop_12 fl_X3_9 (by first | assumption | rfl | exact va_up_self _ _ _ | (refine (va_up_ne _ _ ?_).trans ?_ <;> assumption) | (refine (va_up_ne _ _ ?_).trans (va_up_self _ _ _) <;> assumption) | (refine (va_up_ne _ _ ?_).trans ((va_up_ne _ _ ?_).trans ?_) <;> assumption) | (refine (va_up_ne _ _ ?_).trans ((va_up_ne _ _ ?_).trans (va_up_self _ _ _)) <;> assumption) | (refine (va_up_ne _ _ ?_).trans ((va_up_ne _ _ ?_).trans ((va_up_ne _ _ ?_).trans ?_)) <;> assumption) | (refine (va_up_ne _ _ ?_).trans ((va_up_ne _ _ ?_).trans ((va_up_ne _ _ ?_).trans (va_up_self _ _ _))) <;> assumption)) (by first | assumption | rfl | exact va_up_self _ _ _ | (refine (va_up_ne _ _ ?_).trans ?_ <;> assumption) | (refine (va_up_ne _ _ ?_).trans (va_up_self _ _ _) <;> assumption) | (refine (va_up_ne _ _ ?_).trans ((va_up_ne _ _ ?_).trans ?_) <;> assumption) | (refine (va_up_ne _ _ ?_).trans ((va_up_ne _ _ ?_).trans (va_up_self _ _ _)) <;> assumption) | (refine (va_up_ne _ _ ?_).trans ((va_up_ne _ _ ?_).trans ((va_up_ne _ _ ?_).trans ?_)) <;> assumption) | (refine (va_up_ne _ _ ?_).trans ((va_up_ne _ _ ?_).trans ((va_up_ne _ _ ?_).trans (va_up_self _ _ _))) <;> assumption)) ?_
  show mW _ _ _ _ _ _ _ _ (.ref _ :: _)
  refine m_iload_n dX3_fillLoop_15 rfl ?_
  refine m_iaload (k := 1) dX3_fillLoop_16 (by first | assumption | rfl | exact va_up_self _ _ _ | (refine (va_up_ne _ _ ?_).trans ?_ <;> assumption) | (refine (va_up_ne _ _ ?_).trans (va_up_self _ _ _) <;> assumption) | (refine (va_up_ne _ _ ?_).trans ((va_up_ne _ _ ?_).trans ?_) <;> assumption) | (refine (va_up_ne _ _ ?_).trans ((va_up_ne _ _ ?_).trans (va_up_self _ _ _)) <;> assumption) | (refine (va_up_ne _ _ ?_).trans ((va_up_ne _ _ ?_).trans ((va_up_ne _ _ ?_).trans ?_)) <;> assumption) | (refine (va_up_ne _ _ ?_).trans ((va_up_ne _ _ ?_).trans ((va_up_ne _ _ ?_).trans (va_up_self _ _ _))) <;> assumption)) ⟨by decide, by decide⟩ ?_
  refine m_imul dX3_fillLoop_17 ?_
  refine m_iload_n dX3_fillLoop_18 rfl ?_
  refine m_aload_n dX3_fillLoop_19 rfl ?_
  refine m_getfield dX3_fillLoop_20 fl_X3_9 (by first | assumption | rfl | exact va_up_self _ _ _ | (refine (va_up_ne _ _ ?_).trans ?_ <;> assumption) | (refine (va_up_ne _ _ ?_).trans (va_up_self _ _ _) <;> assumption) | (refine (va_up_ne _ _ ?_).trans ((va_up_ne _ _ ?_).trans ?_) <;> assumption) | (refine (va_up_ne _ _ ?_).trans ((va_up_ne _ _ ?_).trans (va_up_self _ _ _)) <;> assumption) | (refine (va_up_ne _ _ ?_).trans ((va_up_ne _ _ ?_).trans ((va_up_ne _ _ ?_).trans ?_)) <;> assumption) | (refine (va_up_ne _ _ ?_).trans ((va_up_ne _ _ ?_).trans ((va_up_ne _ _ ?_).trans (va_up_self _ _ _))) <;> assumption)) (by first | assumption | rfl | exact va_up_self _ _ _ | (refine (va_up_ne _ _ ?_).trans ?_ <;> assumption) | (refine (va_up_ne _ _ ?_).trans (va_up_self _ _ _) <;> assumption) | (refine (va_up_ne _ _ ?_).trans ((va_up_ne _ _ ?_).trans ?_) <;> assumption) | (refine (va_up_ne _ _ ?_).trans ((va_up_ne _ _ ?_).trans (va_up_self _ _ _)) <;> assumption) | (refine (va_up_ne _ _ ?_).trans ((va_up_ne _ _ ?_).trans ((va_up_ne _ _ ?_).trans ?_)) <;> assumption) | (refine (va_up_ne _ _ ?_).trans ((va_up_ne _ _ ?_).trans ((va_up_ne _ _ ?_).trans (va_up_self _ _ _))) <;> assumption)) ?_
  show mW _ _ _ _ _ _ _ _ (.ref _ :: _)
  refine m_iconst (v := 5) dX3_fillLoop_23 (by decide) ?_
  refine m_iload_n dX3_fillLoop_24 rfl ?_
  refine m_iadd dX3_fillLoop_25 ?_
  refine m_ci (v := 6) (by decide) ?_
  refine m_iaload (k := 6) dX3_fillLoop_26 (by first | assumption | rfl | exact va_up_self _ _ _ | (refine (va_up_ne _ _ ?_).trans ?_ <;> assumption) | (refine (va_up_ne _ _ ?_).trans (va_up_self _ _ _) <;> assumption) | (refine (va_up_ne _ _ ?_).trans ((va_up_ne _ _ ?_).trans ?_) <;> assumption) | (refine (va_up_ne _ _ ?_).trans ((va_up_ne _ _ ?_).trans (va_up_self _ _ _)) <;> assumption) | (refine (va_up_ne _ _ ?_).trans ((va_up_ne _ _ ?_).trans ((va_up_ne _ _ ?_).trans ?_)) <;> assumption) | (refine (va_up_ne _ _ ?_).trans ((va_up_ne _ _ ?_).trans ((va_up_ne _ _ ?_).trans (va_up_self _ _ _))) <;> assumption)) ⟨by decide, by decide⟩ ?_
  refine m_imul dX3_fillLoop_27 ?_
  refine m_iadd dX3_fillLoop_28 ?_
  refine m_i2l dX3_fillLoop_29 ?_
  refine m_lastore (k := 1) dX3_fillLoop_30 (by first | assumption | rfl | exact va_up_self _ _ _ | (refine (va_up_ne _ _ ?_).trans ?_ <;> assumption) | (refine (va_up_ne _ _ ?_).trans (va_up_self _ _ _) <;> assumption) | (refine (va_up_ne _ _ ?_).trans ((va_up_ne _ _ ?_).trans ?_) <;> assumption) | (refine (va_up_ne _ _ ?_).trans ((va_up_ne _ _ ?_).trans (va_up_self _ _ _)) <;> assumption) | (refine (va_up_ne _ _ ?_).trans ((va_up_ne _ _ ?_).trans ((va_up_ne _ _ ?_).trans ?_)) <;> assumption) | (refine (va_up_ne _ _ ?_).trans ((va_up_ne _ _ ?_).trans ((va_up_ne _ _ ?_).trans (va_up_self _ _ _))) <;> assumption)) ⟨by decide, by decide⟩ ?_
  try rw [va_uu]
  refine m_iinc (v := 2) dX3_fillLoop_31 rfl (by decide) (by decide) ?_
  show mW _ _ _ _ _ _ 34 [_, _, _, _] _
  refine m_goto (t := 2) dX3_fillLoop_34 (by decide) ?_
  refine m_iload_n dX3_fillLoop_2 rfl ?_
  refine m_iconst (v := 5) dX3_fillLoop_3 (by decide) ?_
  refine m_icmp_ge (t := 37) dX3_fillLoop_4 (by decide) (fun q => absurd q (by decide)) (fun _ => ?_)
  refine m_aload_n dX3_fillLoop_7 rfl ?_
  refine m_iload_n dX3_fillLoop_8 rfl ?_
  refine m_bipush (v := 8) dX3_fillLoop_9 (by decide) ?_
  refine m_aload_n dX3_fillLoop_11 rfl ?_
  refine m_getfield dX3_fillLoop_12 fl_X3_9 (by first | assumption | rfl | exact va_up_self _ _ _ | (refine (va_up_ne _ _ ?_).trans ?_ <;> assumption) | (refine (va_up_ne _ _ ?_).trans (va_up_self _ _ _) <;> assumption) | (refine (va_up_ne _ _ ?_).trans ((va_up_ne _ _ ?_).trans ?_) <;> assumption) | (refine (va_up_ne _ _ ?_).trans ((va_up_ne _ _ ?_).trans (va_up_self _ _ _)) <;> assumption) | (refine (va_up_ne _ _ ?_).trans ((va_up_ne _ _ ?_).trans ((va_up_ne _ _ ?_).trans ?_)) <;> assumption) | (refine (va_up_ne _ _ ?_).trans ((va_up_ne _ _ ?_).trans ((va_up_ne _ _ ?_).trans (va_up_self _ _ _))) <;> assumption)) (by first | assumption | rfl | exact va_up_self _ _ _ | (refine (va_up_ne _ _ ?_).trans ?_ <;> assumption) | (refine (va_up_ne _ _ ?_).trans (va_up_self _ _ _) <;> assumption) | (refine (va_up_ne _ _ ?_).trans ((va_up_ne _ _ ?_).trans ?_) <;> assumption) | (refine (va_up_ne _ _ ?_).trans ((va_up_ne _ _ ?_).trans (va_up_self _ _ _)) <;> assumption) | (refine (va_up_ne _ _ ?_).trans ((va_up_ne _ _ ?_).trans ((va_up_ne _ _ ?_).trans ?_)) <;> assumption) | (refine (va_up_ne _ _ ?_).trans ((va_up_ne _ _ ?_).trans ((va_up_ne _ _ ?_).trans (va_up_self _ _ _))) <;> assumption)) ?_
  show mW _ _ _ _ _ _ _ _ (.ref _ :: _)
  refine m_iload_n dX3_fillLoop_15 rfl ?_
  refine m_iaload (k := 2) dX3_fillLoop_16 (by first | assumption | rfl | exact va_up_self _ _ _ | (refine (va_up_ne _ _ ?_).trans ?_ <;> assumption) | (refine (va_up_ne _ _ ?_).trans (va_up_self _ _ _) <;> assumption) | (refine (va_up_ne _ _ ?_).trans ((va_up_ne _ _ ?_).trans ?_) <;> assumption) | (refine (va_up_ne _ _ ?_).trans ((va_up_ne _ _ ?_).trans (va_up_self _ _ _)) <;> assumption) | (refine (va_up_ne _ _ ?_).trans ((va_up_ne _ _ ?_).trans ((va_up_ne _ _ ?_).trans ?_)) <;> assumption) | (refine (va_up_ne _ _ ?_).trans ((va_up_ne _ _ ?_).trans ((va_up_ne _ _ ?_).trans (va_up_self _ _ _))) <;> assumption)) ⟨by decide, by decide⟩ ?_
  refine m_imul dX3_fillLoop_17 ?_
  refine m_iload_n dX3_fillLoop_18 rfl ?_
  refine m_aload_n dX3_fillLoop_19 rfl ?_
  refine m_getfield dX3_fillLoop_20 fl_X3_9 (by first | assumption | rfl | exact va_up_self _ _ _ | (refine (va_up_ne _ _ ?_).trans ?_ <;> assumption) | (refine (va_up_ne _ _ ?_).trans (va_up_self _ _ _) <;> assumption) | (refine (va_up_ne _ _ ?_).trans ((va_up_ne _ _ ?_).trans ?_) <;> assumption) | (refine (va_up_ne _ _ ?_).trans ((va_up_ne _ _ ?_).trans (va_up_self _ _ _)) <;> assumption) | (refine (va_up_ne _ _ ?_).trans ((va_up_ne _ _ ?_).trans ((va_up_ne _ _ ?_).trans ?_)) <;> assumption) | (refine (va_up_ne _ _ ?_).trans ((va_up_ne _ _ ?_).trans ((va_up_ne _ _ ?_).trans (va_up_self _ _ _))) <;> assumption)) (by first | assumption | rfl | exact va_up_self _ _ _ | (refine (va_up_ne _ _ ?_).trans ?_ <;> assumption) | (refine (va_up_ne _ _ ?_).trans (va_up_self _ _ _) <;> assumption) | (refine (va_up_ne _ _ ?_).trans ((va_up_ne _ _ ?_).trans ?_) <;> assumption) | (refine (va_up_ne _ _ ?_).trans ((va_up_ne _ _ ?_).trans (va_up_self _ _ _)) <;> assumption) | (refine (va_up_ne _ _ ?_).trans ((va_up_ne _ _ ?_).trans ((va_up_ne _ _ ?_).trans ?_)) <;> assumption) | (refine (va_up_ne _ _ ?_).trans ((va_up_ne _ _ ?_).trans ((va_up_ne _ _ ?_).trans (va_up_self _ _ _))) <;> assumption)) ?_
  show mW _ _ _ _ _ _ _ _ (.ref _ :: _)
  refine m_iconst (v := 5) dX3_fillLoop_23 (by decide) ?_
  refine m_iload_n dX3_fillLoop_24 rfl ?_
  refine m_iadd dX3_fillLoop_25 ?_
  refine m_ci (v := 7) (by decide) ?_
  refine m_iaload (k := 7) dX3_fillLoop_26 (by first | assumption | rfl | exact va_up_self _ _ _ | (refine (va_up_ne _ _ ?_).trans ?_ <;> assumption) | (refine (va_up_ne _ _ ?_).trans (va_up_self _ _ _) <;> assumption) | (refine (va_up_ne _ _ ?_).trans ((va_up_ne _ _ ?_).trans ?_) <;> assumption) | (refine (va_up_ne _ _ ?_).trans ((va_up_ne _ _ ?_).trans (va_up_self _ _ _)) <;> assumption) | (refine (va_up_ne _ _ ?_).trans ((va_up_ne _ _ ?_).trans ((va_up_ne _ _ ?_).trans ?_)) <;> assumption) | (refine (va_up_ne _ _ ?_).trans ((va_up_ne _ _ ?_).trans ((va_up_ne _ _ ?_).trans (va_up_self _ _ _))) <;> assumption)) ⟨by decide, by decide⟩ ?_
  refine m_imul dX3_fillLoop_27 ?_
  refine m_iadd dX3_fillLoop_28 ?_
  refine m_i2l dX3_fillLoop_29 ?_
  refine m_lastore (k := 2) dX3_fillLoop_30 (by first | assumption | rfl | exact va_up_self _ _ _ | (refine (va_up_ne _ _ ?_).trans ?_ <;> assumption) | (refine (va_up_ne _ _ ?_).trans (va_up_self _ _ _) <;> assumption) | (refine (va_up_ne _ _ ?_).trans ((va_up_ne _ _ ?_).trans ?_) <;> assumption) | (refine (va_up_ne _ _ ?_).trans ((va_up_ne _ _ ?_).trans (va_up_self _ _ _)) <;> assumption) | (refine (va_up_ne _ _ ?_).trans ((va_up_ne _ _ ?_).trans ((va_up_ne _ _ ?_).trans ?_)) <;> assumption) | (refine (va_up_ne _ _ ?_).trans ((va_up_ne _ _ ?_).trans ((va_up_ne _ _ ?_).trans (va_up_self _ _ _))) <;> assumption)) ⟨by decide, by decide⟩ ?_
  try rw [va_uu]
  refine m_iinc (v := 3) dX3_fillLoop_31 rfl (by decide) (by decide) ?_
  show mW _ _ _ _ _ _ 34 [_, _, _, _] _
  refine m_goto (t := 2) dX3_fillLoop_34 (by decide) ?_
  refine m_iload_n dX3_fillLoop_2 rfl ?_
  refine m_iconst (v := 5) dX3_fillLoop_3 (by decide) ?_
  refine m_icmp_ge (t := 37) dX3_fillLoop_4 (by decide) (fun q => absurd q (by decide)) (fun _ => ?_)
  refine m_aload_n dX3_fillLoop_7 rfl ?_
  refine m_iload_n dX3_fillLoop_8 rfl ?_
  refine m_bipush (v := 8) dX3_fillLoop_9 (by decide) ?_
  refine m_aload_n dX3_fillLoop_11 rfl ?_
  refine m_getfield dX3_fillLoop_12 fl_X3_9 (by first | assumption | rfl | exact va_up_self _ _ _ | (refine (va_up_ne _ _ ?_).trans ?_ <;> assumption) | (refine (va_up_ne _ _ ?_).trans (va_up_self _ _ _) <;> assumption) | (refine (va_up_ne _ _ ?_).trans ((va_up_ne _ _ ?_).trans ?_) <;> assumption) | (refine (va_up_ne _ _ ?_).trans ((va_up_ne _ _ ?_).trans (va_up_self _ _ _)) <;> assumption) | (refine (va_up_ne _ _ ?_).trans ((va_up_ne _ _ ?_).trans ((va_up_ne _ _ ?_).trans ?_)) <;> assumption) | (refine (va_up_ne _ _ ?_).trans ((va_up_ne _ _ ?_).trans ((va_up_ne _ _ ?_).trans (va_up_self _ _ _))) <;> assumption)) (by first | assumption | rfl | exact va_up_self _ _ _ | (refine (va_up_ne _ _ ?_).trans ?_ <;> assumption) | (refine (va_up_ne _ _ ?_).trans (va_up_self _ _ _) <;> assumption) | (refine (va_up_ne _ _ ?_).trans ((va_up_ne _ _ ?_).trans ?_) <;> assumption) | (refine (va_up_ne _ _ ?_).trans ((va_up_ne _ _ ?_).trans (va_up_self _ _ _)) <;> assumption) | (refine (va_up_ne _ _ ?_).trans ((va_up_ne _ _ ?_).trans ((va_up_ne _ _ ?_).trans ?_)) <;> assumption) | (refine (va_up_ne _ _ ?_).trans ((va_up_ne _ _ ?_).trans ((va_up_ne _ _ ?_).trans (va_up_self _ _ _))) <;> assumption)) ?_
  show mW _ _ _ _ _ _ _ _ (.ref _ :: _)
  refine m_iload_n dX3_fillLoop_15 rfl ?_
  refine m_iaload (k := 3) dX3_fillLoop_16 (by first | assumption | rfl | exact va_up_self _ _ _ | (refine (va_up_ne _ _ ?_).trans ?_ <;> assumption) | (refine (va_up_ne _ _ ?_).trans (va_up_self _ _ _) <;> assumption) | (refine (va_up_ne _ _ ?_).trans ((va_up_ne _ _ ?_).trans ?_) <;> assumption) | (refine (va_up_ne _ _ ?_).trans ((va_up_ne _ _ ?_).trans (va_up_self _ _ _)) <;> assumption) | (refine (va_up_ne _ _ ?_).trans ((va_up_ne _ _ ?_).trans ((va_up_ne _ _ ?_).trans ?_)) <;> assumption) | (refine (va_up_ne _ _ ?_).trans ((va_up_ne _ _ ?_).trans ((va_up_ne _ _ ?_).trans (va_up_self _ _ _))) <;> assumption)) ⟨by decide, by decide⟩ ?_
  refine m_imul dX3_fillLoop_17 ?_
  refine m_iload_n dX3_fillLoop_18 rfl ?_
  refine m_aload_n dX3_fillLoop_19 rfl ?_
  refine m_getfield dX3_fillLoop_20 fl_X3_9 (by first | assumption | rfl | exact va_up_self _ _ _ | (refine (va_up_ne _ _ ?_).trans ?_ <;> assumption) | (refine (va_up_ne _ _ ?_).trans (va_up_self _ _ _) <;> assumption) | (refine (va_up_ne _ _ ?_).trans ((va_up_ne _ _ ?_).trans ?_) <;> assumption) | (refine (va_up_ne _ _ ?_).trans ((va_up_ne _ _ ?_).trans (va_up_self _ _ _)) <;> assumption) | (refine (va_up_ne _ _ ?_).trans ((va_up_ne _ _ ?_).trans ((va_up_ne _ _ ?_).trans ?_)) <;> assumption) | (refine (va_up_ne _ _ ?_).trans ((va_up_ne _ _ ?_).trans ((va_up_ne _ _ ?_).trans (va_up_self _ _ _))) <;> assumption)) (by first | assumption | rfl | exact va_up_self _ _ _ | (refine (va_up_ne _ _ ?_).trans ?_ <;> assumption) | (refine (va_up_ne _ _ ?_).trans (va_up_self _ _ _) <;> assumption) | (refine (va_up_ne _ _ ?_).trans ((va_up_ne _ _ ?_).trans ?_) <;> assumption) | (refine (va_up_ne _ _ ?_).trans ((va_up_ne _ _ ?_).trans (va_up_self _ _ _)) <;> assumption) | (refine (va_up_ne _ _ ?_).trans ((va_up_ne _ _ ?_).trans ((va_up_ne _ _ ?_).trans ?_)) <;> assumption) | (refine (va_up_ne _ _ ?_).trans ((va_up_ne _ _ ?_).trans ((va_up_ne _ _ ?_).trans (va_up_self _ _ _))) <;> assumption)) ?_
  show mW _ _ _ _ _ _ _ _ (.ref _ :: _)
  refine m_iconst (v := 5) dX3_fillLoop_23 (by decide) ?_
  refine m_iload_n dX3_fillLoop_24 rfl ?_
  refine m_iadd dX3_fillLoop_25 ?_
  refine m_ci (v := 8) (by decide) ?_
  refine m_iaload (k := 8) dX3_fillLoop_26 (by first | assumption | rfl | exact va_up_self _ _ _ | (refine (va_up_ne _ _ ?_).trans ?_ <;> assumption) | (refine (va_up_ne _ _ ?_).trans (va_up_self _ _ _) <;> assumption) | (refine (va_up_ne _ _ ?_).trans ((va_up_ne _ _ ?_).trans ?_) <;> assumption) | (refine (va_up_ne _ _ ?_).trans ((va_up_ne _ _ ?_).trans (va_up_self _ _ _)) <;> assumption) | (refine (va_up_ne _ _ ?_).trans ((va_up_ne _ _ ?_).trans ((va_up_ne _ _ ?_).trans ?_)) <;> assumption) | (refine (va_up_ne _ _ ?_).trans ((va_up_ne _ _ ?_).trans ((va_up_ne _ _ ?_).trans (va_up_self _ _ _))) <;> assumption)) ⟨by decide, by decide⟩ ?_
  refine m_imul dX3_fillLoop_27 ?_
  refine m_iadd dX3_fillLoop_28 ?_
  refine m_i2l dX3_fillLoop_29 ?_
  refine m_lastore (k := 3) dX3_fillLoop_30 (by first | assumption | rfl | exact va_up_self _ _ _ | (refine (va_up_ne _ _ ?_).trans ?_ <;> assumption) | (refine (va_up_ne _ _ ?_).trans (va_up_self _ _ _) <;> assumption) | (refine (va_up_ne _ _ ?_).trans ((va_up_ne _ _ ?_).trans ?_) <;> assumption) | (refine (va_up_ne _ _ ?_).trans ((va_up_ne _ _ ?_).trans (va_up_self _ _ _)) <;> assumption) | (refine (va_up_ne _ _ ?_).trans ((va_up_ne _ _ ?_).trans ((va_up_ne _ _ ?_).trans ?_)) <;> assumption) | (refine (va_up_ne _ _ ?_).trans ((va_up_ne _ _ ?_).trans ((va_up_ne _ _ ?_).trans (va_up_self _ _ _))) <;> assumption)) ⟨by decide, by decide⟩ ?_
  try rw [va_uu]
  refine m_iinc (v := 4) dX3_fillLoop_31 rfl (by decide) (by decide) ?_
  show mW _ _ _ _ _ _ 34 [_, _, _, _] _
  refine m_goto (t := 2) dX3_fillLoop_34 (by decide) ?_
  refine m_iload_n dX3_fillLoop_2 rfl ?_
  refine m_iconst (v := 5) dX3_fillLoop_3 (by decide) ?_
  refine m_icmp_ge (t := 37) dX3_fillLoop_4 (by decide) (fun q => absurd q (by decide)) (fun _ => ?_)
  refine m_aload_n dX3_fillLoop_7 rfl ?_
  refine m_iload_n dX3_fillLoop_8 rfl ?_
  refine m_bipush (v := 8) dX3_fillLoop_9 (by decide) ?_
  refine m_aload_n dX3_fillLoop_11 rfl ?_
  refine m_getfield dX3_fillLoop_12 fl_X3_9 (by first | assumption | rfl | exact va_up_self _ _ _ | (refine (va_up_ne _ _ ?_).trans ?_ <;> assumption) | (refine (va_up_ne _ _ ?_).trans (va_up_self _ _ _) <;> assumption) | (refine (va_up_ne _ _ ?_).trans ((va_up_ne _ _ ?_).trans ?_) <;> assumption) | (refine (va_up_ne _ _ ?_).trans ((va_up_ne _ _ ?_).trans (va_up_self _ _ _)) <;> assumption) | (refine (va_up_ne _ _ ?_).trans ((va_up_ne _ _ ?_).trans ((va_up_ne _ _ ?_).trans ?_)) <;> assumption) | (refine (va_up_ne _ _ ?_).trans ((va_up_ne _ _ ?_).trans ((va_up_ne _ _ ?_).trans (va_up_self _ _ _))) <;> assumption)) (by first | assumption | rfl | exact va_up_self _ _ _ | (refine (va_up_ne _ _ ?_).trans ?_ <;> assumption) | (refine (va_up_ne _ _ ?_).trans (va_up_self _ _ _) <;> assumption) | (refine (va_up_ne _ _ ?_).trans ((va_up_ne _ _ ?_).trans ?_) <;> assumption) | (refine (va_up_ne _ _ ?_).trans ((va_up_ne _ _ ?_).trans (va_up_self _ _ _)) <;> assumption) | (refine (va_up_ne _ _ ?_).trans ((va_up_ne _ _ ?_).trans ((va_up_ne _ _ ?_).trans ?_)) <;> assumption) | (refine (va_up_ne _ _ ?_).trans ((va_up_ne _ _ ?_).trans ((va_up_ne _ _ ?_).trans (va_up_self _ _ _))) <;> assumption)) ?_
  show mW _ _ _ _ _ _ _ _ (.ref _ :: _)
  refine m_iload_n dX3_fillLoop_15 rfl ?_
  refine m_iaload (k := 4) dX3_fillLoop_16 (by first | assumption | rfl | exact va_up_self _ _ _ | (refine (va_up_ne _ _ ?_).trans ?_ <;> assumption) | (refine (va_up_ne _ _ ?_).trans (va_up_self _ _ _) <;> assumption) | (refine (va_up_ne _ _ ?_).trans ((va_up_ne _ _ ?_).trans ?_) <;> assumption) | (refine (va_up_ne _ _ ?_).trans ((va_up_ne _ _ ?_).trans (va_up_self _ _ _)) <;> assumption) | (refine (va_up_ne _ _ ?_).trans ((va_up_ne _ _ ?_).trans ((va_up_ne _ _ ?_).trans ?_)) <;> assumption) | (refine (va_up_ne _ _ ?_).trans ((va_up_ne _ _ ?_).trans ((va_up_ne _ _ ?_).trans (va_up_self _ _ _))) <;> assumption)) ⟨by decide, by decide⟩ ?_
  refine m_imul dX3_fillLoop_17 ?_
  refine m_iload_n dX3_fillLoop_18 rfl ?_
  refine m_aload_n dX3_fillLoop_19 rfl ?_
  refine m_getfield dX3_fillLoop_20 fl_X3_9 (by first | assumption | rfl | exact va_up_self _ _ _ | (refine (va_up_ne _ _ ?_).trans ?_ <;> assumption) | (refine (va_up_ne _ _ ?_).trans (va_up_self _ _ _) <;> assumption) | (refine (va_up_ne _ _ ?_).trans ((va_up_ne _ _ ?_).trans ?_) <;> assumption) | (refine (va_up_ne _ _ ?_).trans ((va_up_ne _ _ ?_).trans (va_up_self _ _ _)) <;> assumption) | (refine (va_up_ne _ _ ?_).trans ((va_up_ne _ _ ?_).trans ((va_up_ne _ _ ?_).trans ?_)) <;> assumption) | (refine (va_up_ne _ _ ?_).trans ((va_up_ne _ _ ?_).trans ((va_up_ne _ _ ?_).trans (va_up_self _ _ _))) <;> assumption)) (by first | assumption | rfl | exact va_up_self _ _ _ | (refine (va_up_ne _ _ ?_).trans ?_ <;> assumption) | (refine (va_up_ne _ _ ?_).trans (va_up_self _ _ _) <;> assumption) | (refine (va_up_ne _ _ ?_).trans ((va_up_ne _ _ ?_).trans ?_) <;> assumption) | (refine (va_up_ne _ _ ?_).trans ((va_up_ne _ _ ?_).trans (va_up_self _ _ _)) <;> assumption) | (refine (va_up_ne _ _ ?_).trans ((va_up_ne _ _ ?_).trans ((va_up_ne _ _ ?_).trans ?_)) <;> assumption) | (refine (va_up_ne _ _ ?_).trans ((va_up_ne _ _ ?_).trans ((va_up_ne _ _ ?_).trans (va_up_self _ _ _))) <;> assumption)) ?_
  show mW _ _ _ _ _ _ _ _ (.ref _ :: _)
  refine m_iconst (v := 5) dX3_fillLoop_23 (by decide) ?_
  refine m_iload_n dX3_fillLoop_24 rfl ?_
  refine m_iadd dX3_fillLoop_25 ?_
  refine m_ci (v := 9) (by decide) ?_
  refine m_iaload (k := 9) dX3_fillLoop_26 (by first | assumption | rfl | exact va_up_self _ _ _ | (refine (va_up_ne _ _ ?_).trans ?_ <;> assumption) | (refine (va_up_ne _ _ ?_).trans (va_up_self _ _ _) <;> assumption) | (refine (va_up_ne _ _ ?_).trans ((va_up_ne _ _ ?_).trans ?_) <;> assumption) | (refine (va_up_ne _ _ ?_).trans ((va_up_ne _ _ ?_).trans (va_up_self _ _ _)) <;> assumption) | (refine (va_up_ne _ _ ?_).trans ((va_up_ne _ _ ?_).trans ((va_up_ne _ _ ?_).trans ?_)) <;> assumption) | (refine (va_up_ne _ _ ?_).trans ((va_up_ne _ _ ?_).trans ((va_up_ne _ _ ?_).trans (va_up_self _ _ _))) <;> assumption)) ⟨by decide, by decide⟩ ?_
  refine m_imul dX3_fillLoop_27 ?_
  refine m_iadd dX3_fillLoop_28 ?_
  refine m_i2l dX3_fillLoop_29 ?_
  refine m_lastore (k := 4) dX3_fillLoop_30 (by first | assumption | rfl | exact va_up_self _ _ _ | (refine (va_up_ne _ _ ?_).trans ?_ <;> assumption) | (refine (va_up_ne _ _ ?_).trans (va_up_self _ _ _) <;> assumption) | (refine (va_up_ne _ _ ?_).trans ((va_up_ne _ _ ?_).trans ?_) <;> assumption) | (refine (va_up_ne _ _ ?_).trans ((va_up_ne _ _ ?_).trans (va_up_self _ _ _)) <;> assumption) | (refine (va_up_ne _ _ ?_).trans ((va_up_ne _ _ ?_).trans ((va_up_ne _ _ ?_).trans ?_)) <;> assumption) | (refine (va_up_ne _ _ ?_).trans ((va_up_ne _ _ ?_).trans ((va_up_ne _ _ ?_).trans (va_up_self _ _ _))) <;> assumption)) ⟨by decide, by decide⟩ ?_
  try rw [va_uu]
  refine m_iinc (v := 5) dX3_fillLoop_31 rfl (by decide) (by decide) ?_
  show mW _ _ _ _ _ _ 34 [_, _, _, _] _
  refine m_goto (t := 2) dX3_fillLoop_34 (by decide) ?_
  refine m_iload_n dX3_fillLoop_2 rfl ?_
  refine m_iconst (v := 5) dX3_fillLoop_3 (by decide) ?_
  refine m_icmp_ge (t := 37) dX3_fillLoop_4 (by decide) (fun _ => ?_) (fun q => absurd (by decide) q)
  exact m_return hF dX3_fillLoop_37 rfl rfl rfl ⟨rfl, rfl⟩


theorem bmod32 {z : Int} (h1 : -2147483648 ≤ z) (h2 : z < 2147483648) : z.bmod 4294967296 = z := by
  rw [Int.bmod_def]
  omega
theorem bmod64 {z : Int} (h1 : -9223372036854775808 ≤ z) (h2 : z < 9223372036854775808) : z.bmod 18446744073709551616 = z := by
  rw [Int.bmod_def]
  omega
theorem nI_mulN (a b : Nat) : nI a * nI b = nI (a * b) := (Int32.ofNat_mul a b).symm
theorem nI_div {a b : Nat} (ha : a < 2 ^ 31) (hb : b < 2 ^ 31) : nI a / nI b = nI (a / b) := by
  apply Int32.toInt_inj.mp
  have hq : a / b < 2 ^ 31 := Nat.lt_of_le_of_lt (Nat.div_le_self a b) ha
  rw [Int32.toInt_div, nI_toInt ha, nI_toInt hb, nI_toInt hq, ← Int.ofNat_tdiv]
  generalize a / b = q at hq ⊢
  exact bmod32 (by omega) (by omega)
theorem nI_rem {a b : Nat} (ha : a < 2 ^ 31) (hb : b < 2 ^ 31) : nI a - nI a / nI b * nI b = nI (a % b) := by
  rw [nI_div ha hb, nI_mulN]
  have h : a / b * b ≤ a := Nat.div_mul_le_self a b
  have e : nI a = nI (a % b) + nI (a / b * b) := by
    rw [nI_add]
    congr 1
    have := Nat.mod_add_div a b
    rw [Nat.mul_comm b] at this
    omega
  rw [e, Int32.add_sub_cancel]
/-- THE DRAW's next number -/
def drawN (d : Nat) : Nat := (d * 1103515245 + 12345) % 2147483648
theorem drawN_lt (d : Nat) : drawN d < 2 ^ 31 := Nat.mod_lt _ (by decide)
theorem draw_mask (x : Int32) : (x &&& 2147483647).toInt = x.toInt % 2147483648 := by
  have h1 : (x &&& 2147483647).toInt = (x.toBitVec &&& 2147483647#32).toInt := rfl
  have h2 : (x.toBitVec &&& 2147483647#32).toNat = x.toBitVec.toNat % 2147483648 := by
    rw [BitVec.toNat_and]
    exact Nat.and_two_pow_sub_one_eq_mod _ 31
  have h3 : x.toInt = (x.toBitVec.toNat : Int).bmod (2 ^ 32) := BitVec.toInt_eq_toNat_bmod _
  rw [h1, BitVec.toInt_eq_toNat_bmod, h2, h3, Int.bmod_def, Int.bmod_def]
  omega
theorem draw_next {d : Nat} (hd : d < 2 ^ 31) : (nI d * 1103515245 + 12345) &&& 2147483647 = nI (drawN d) := by
  apply Int32.toInt_inj.mp
  rw [draw_mask, nI_toInt (drawN_lt d), Int32.toInt_add, Int32.toInt_mul, nI_toInt hd]
  have e1 : (1103515245 : Int32).toInt = 1103515245 := by decide
  have e2 : (12345 : Int32).toInt = 12345 := by decide
  rw [e1, e2]
  have e3 : ∀ z : Int, (z.bmod (2 ^ 32)) % 2147483648 = z % 2147483648 := fun z => by
    rw [Int.bmod_def]
    omega
  unfold drawN
  rw [e3]
  have e4 : ((↑d * 1103515245 : Int).bmod (2 ^ 32) + 12345) % 2147483648 = (↑d * 1103515245 + 12345) % 2147483648 := by
    rw [Int.bmod_def]
    omega
  rw [e4]
  omega

/-- the place that a turn of a DRIFT sets, and what it becomes -/
def drawAt (d : Nat) : Nat := d / 65536 % 2 * 5 + d / 65536 / 2 % 5
def drawV (d : Nat) : Int32 := nI (d / 65536 / 16 % 19) - 9
theorem drawAt_lt (d : Nat) : drawAt d < 10 := by unfold drawAt; omega
set_option maxHeartbeats 4000000 in
set_option maxRecDepth 100000 in
theorem t_X3_drawOnce {n : Nat} {hp : mHp} {h q dn : Nat} {g : Int32} {P : Nat → Int32} (h1 : hp h = eO 3 (oSet q g (nI dn))) (h2 : hp q = eI 10 P) (hdn : dn < 2 ^ 31) : mC D_X3_drawOnce [.ref h] n hp (rV (va_up (va_up hp h (eO 3 (oSet q g (nI (drawN dn))))) q (eI 10 (va_up P (drawAt (drawN dn)) (drawV (drawN dn)))))) := by
  refine m_enter rfl rfl (Nat.le_of_ble_eq_true rfl) (fun K hF => ?_)
  show mW K _ 0 0 _ _ 0 [.ref h, .retAddr 0] []
  have e1 : h ≠ q := mNe h1 h2 eO_ne_eI
  have e2 := e1.symm
  have hD := drawN_lt dn
  have hX : drawN dn / 65536 < 2 ^ 31 := by omega
  have hX2 : drawN dn / 65536 / 2 < 2 ^ 31 := by omega
  have hX3 : drawN dn / 65536 / 16 < 2 ^ 31 := by omega
  refine m_aload_n dX3_drawOnce_0 rfl ?_
  refine m_aload_n dX3_drawOnce_1 rfl ?_
  refine m_getfield dX3_drawOnce_2 fl_X3_19 (by first | assumption | rfl | exact va_up_self _ _ _ | (refine (va_up_ne _ _ ?_).trans ?_ <;> assumption) | (refine (va_up_ne _ _ ?_).trans (va_up_self _ _ _) <;> assumption) | (refine (va_up_ne _ _ ?_).trans ((va_up_ne _ _ ?_).trans ?_) <;> assumption) | (refine (va_up_ne _ _ ?_).trans ((va_up_ne _ _ ?_).trans (va_up_self _ _ _)) <;> assumption) | (refine (va_up_ne _ _ ?_).trans ((va_up_ne _ _ ?_).trans ((va_up_ne _ _ ?_).trans ?_)) <;> assumption) | (refine (va_up_ne _ _ ?_).trans ((va_up_ne _ _ ?_).trans ((va_up_ne _ _ ?_).trans (va_up_self _ _ _))) <;> assumption)) (by first | assumption | rfl | exact va_up_self _ _ _ | (refine (va_up_ne _ _ ?_).trans ?_ <;> assumption) | (refine (va_up_ne _ _ ?_).trans (va_up_self _ _ _) <;> assumption) | (refine (va_up_ne _ _ ?_).trans ((va_up_ne _ _ ?_).trans ?_) <;> assumption) | (refine (va_up_ne _ _ ?_).trans ((va_up_ne _ _ ?_).trans (va_up_self _ _ _)) <;> assumption) | (refine (va_up_ne _ _ ?_).trans ((va_up_ne _ _ ?_).trans ((va_up_ne _ _ ?_).trans ?_)) <;> assumption) | (refine (va_up_ne _ _ ?_).trans ((va_up_ne _ _ ?_).trans ((va_up_ne _ _ ?_).trans (va_up_self _ _ _))) <;> assumption)) ?_
  show mW _ _ _ _ _ _ _ _ (.int _ :: _)
  refine m_ldc dX3_drawOnce_5 ct_X3_28 ?_
  refine m_imul dX3_drawOnce_7 ?_
  refine m_sipush (v := 12345) dX3_drawOnce_8 (by decide) ?_
  refine m_iadd dX3_drawOnce_11 ?_
  refine m_ldc dX3_drawOnce_12 ct_X3_29 ?_
  refine m_iand dX3_drawOnce_14 ?_
  refine m_ci (v := nI (drawN dn)) (draw_next hdn) ?_
  refine m_putfield dX3_drawOnce_15 fl_X3_19 (by first | assumption | rfl | exact va_up_self _ _ _ | (refine (va_up_ne _ _ ?_).trans ?_ <;> assumption) | (refine (va_up_ne _ _ ?_).trans (va_up_self _ _ _) <;> assumption) | (refine (va_up_ne _ _ ?_).trans ((va_up_ne _ _ ?_).trans ?_) <;> assumption) | (refine (va_up_ne _ _ ?_).trans ((va_up_ne _ _ ?_).trans (va_up_self _ _ _)) <;> assumption) | (refine (va_up_ne _ _ ?_).trans ((va_up_ne _ _ ?_).trans ((va_up_ne _ _ ?_).trans ?_)) <;> assumption) | (refine (va_up_ne _ _ ?_).trans ((va_up_ne _ _ ?_).trans ((va_up_ne _ _ ?_).trans (va_up_self _ _ _))) <;> assumption)) (fun _ => rfl) (fun _ => rfl) ?_
  try rw [va_uu]
  rw [oSet_2]
  refine m_aload_n dX3_drawOnce_18 rfl ?_
  refine m_getfield dX3_drawOnce_19 fl_X3_19 (by first | assumption | rfl | exact va_up_self _ _ _ | (refine (va_up_ne _ _ ?_).trans ?_ <;> assumption) | (refine (va_up_ne _ _ ?_).trans (va_up_self _ _ _) <;> assumption) | (refine (va_up_ne _ _ ?_).trans ((va_up_ne _ _ ?_).trans ?_) <;> assumption) | (refine (va_up_ne _ _ ?_).trans ((va_up_ne _ _ ?_).trans (va_up_self _ _ _)) <;> assumption) | (refine (va_up_ne _ _ ?_).trans ((va_up_ne _ _ ?_).trans ((va_up_ne _ _ ?_).trans ?_)) <;> assumption) | (refine (va_up_ne _ _ ?_).trans ((va_up_ne _ _ ?_).trans ((va_up_ne _ _ ?_).trans (va_up_self _ _ _))) <;> assumption)) (by first | assumption | rfl | exact va_up_self _ _ _ | (refine (va_up_ne _ _ ?_).trans ?_ <;> assumption) | (refine (va_up_ne _ _ ?_).trans (va_up_self _ _ _) <;> assumption) | (refine (va_up_ne _ _ ?_).trans ((va_up_ne _ _ ?_).trans ?_) <;> assumption) | (refine (va_up_ne _ _ ?_).trans ((va_up_ne _ _ ?_).trans (va_up_self _ _ _)) <;> assumption) | (refine (va_up_ne _ _ ?_).trans ((va_up_ne _ _ ?_).trans ((va_up_ne _ _ ?_).trans ?_)) <;> assumption) | (refine (va_up_ne _ _ ?_).trans ((va_up_ne _ _ ?_).trans ((va_up_ne _ _ ?_).trans (va_up_self _ _ _))) <;> assumption)) ?_
  show mW _ _ _ _ _ _ _ _ (.int _ :: _)
  refine m_ldc dX3_drawOnce_22 ct_X3_30 ?_
  refine m_idiv dX3_drawOnce_24 (by decide) ?_
  refine m_ci (v := nI (drawN dn / 65536)) (nI_div (drawN_lt dn) (by decide)) ?_
  refine m_istore_n dX3_drawOnce_25 (by decide) ?_
  show mW _ _ _ _ _ _ 26 [_, _] _
  refine m_aload_n dX3_drawOnce_26 rfl ?_
  refine m_getfield dX3_drawOnce_27 fl_X3_9 (by first | assumption | rfl | exact va_up_self _ _ _ | (refine (va_up_ne _ _ ?_).trans ?_ <;> assumption) | (refine (va_up_ne _ _ ?_).trans (va_up_self _ _ _) <;> assumption) | (refine (va_up_ne _ _ ?_).trans ((va_up_ne _ _ ?_).trans ?_) <;> assumption) | (refine (va_up_ne _ _ ?_).trans ((va_up_ne _ _ ?_).trans (va_up_self _ _ _)) <;> assumption) | (refine (va_up_ne _ _ ?_).trans ((va_up_ne _ _ ?_).trans ((va_up_ne _ _ ?_).trans ?_)) <;> assumption) | (refine (va_up_ne _ _ ?_).trans ((va_up_ne _ _ ?_).trans ((va_up_ne _ _ ?_).trans (va_up_self _ _ _))) <;> assumption)) (by first | assumption | rfl | exact va_up_self _ _ _ | (refine (va_up_ne _ _ ?_).trans ?_ <;> assumption) | (refine (va_up_ne _ _ ?_).trans (va_up_self _ _ _) <;> assumption) | (refine (va_up_ne _ _ ?_).trans ((va_up_ne _ _ ?_).trans ?_) <;> assumption) | (refine (va_up_ne _ _ ?_).trans ((va_up_ne _ _ ?_).trans (va_up_self _ _ _)) <;> assumption) | (refine (va_up_ne _ _ ?_).trans ((va_up_ne _ _ ?_).trans ((va_up_ne _ _ ?_).trans ?_)) <;> assumption) | (refine (va_up_ne _ _ ?_).trans ((va_up_ne _ _ ?_).trans ((va_up_ne _ _ ?_).trans (va_up_self _ _ _))) <;> assumption)) ?_
  show mW _ _ _ _ _ _ _ _ (.ref _ :: _)
  refine m_iload_n dX3_drawOnce_30 rfl ?_
  refine m_iconst (v := 2) dX3_drawOnce_31 (by decide) ?_
  refine m_irem dX3_drawOnce_32 (by decide) ?_
  refine m_ci (v := nI (drawN dn / 65536 % 2)) (nI_rem (b := 2) hX (by decide)) ?_
  refine m_iconst (v := 5) dX3_drawOnce_33 (by decide) ?_
  refine m_imul dX3_drawOnce_34 ?_
  refine m_ci (v := nI (drawN dn / 65536 % 2 * 5)) (nI_mulN _ 5) ?_
  refine m_iload_n dX3_drawOnce_35 rfl ?_
  refine m_iconst (v := 2) dX3_drawOnce_36 (by decide) ?_
  refine m_idiv dX3_drawOnce_37 (by decide) ?_
  refine m_ci (v := nI (drawN dn / 65536 / 2)) (nI_div (b := 2) hX (by decide)) ?_
  refine m_iconst (v := 5) dX3_drawOnce_38 (by decide) ?_
  refine m_irem dX3_drawOnce_39 (by decide) ?_
  refine m_ci (v := nI (drawN dn / 65536 / 2 % 5)) (nI_rem (b := 5) hX2 (by decide)) ?_
  refine m_iadd dX3_drawOnce_40 ?_
  refine m_ci (v := nI (drawN dn / 65536 % 2 * 5 + drawN dn / 65536 / 2 % 5)) (nI_add _ _) ?_
  refine m_iload_n dX3_drawOnce_41 rfl ?_
  refine m_bipush (v := 16) dX3_drawOnce_42 (by decide) ?_
  refine m_idiv dX3_drawOnce_44 (by decide) ?_
  refine m_ci (v := nI (drawN dn / 65536 / 16)) (nI_div (b := 16) hX (by decide)) ?_
  refine m_bipush (v := 19) dX3_drawOnce_45 (by decide) ?_
  refine m_irem dX3_drawOnce_47 (by decide) ?_
  refine m_ci (v := nI (drawN dn / 65536 / 16 % 19)) (nI_rem (b := 19) hX3 (by decide)) ?_
  refine m_bipush (v := 9) dX3_drawOnce_48 (by decide) ?_
  refine m_isub dX3_drawOnce_50 ?_
  refine m_iastore dX3_drawOnce_51 (by first | assumption | rfl | exact va_up_self _ _ _ | (refine (va_up_ne _ _ ?_).trans ?_ <;> assumption) | (refine (va_up_ne _ _ ?_).trans (va_up_self _ _ _) <;> assumption) | (refine (va_up_ne _ _ ?_).trans ((va_up_ne _ _ ?_).trans ?_) <;> assumption) | (refine (va_up_ne _ _ ?_).trans ((va_up_ne _ _ ?_).trans (va_up_self _ _ _)) <;> assumption) | (refine (va_up_ne _ _ ?_).trans ((va_up_ne _ _ ?_).trans ((va_up_ne _ _ ?_).trans ?_)) <;> assumption) | (refine (va_up_ne _ _ ?_).trans ((va_up_ne _ _ ?_).trans ((va_up_ne _ _ ?_).trans (va_up_self _ _ _))) <;> assumption)) (mIx_lit (drawAt_lt (drawN dn)) (by decide)) ?_
  try rw [va_uu]
  exact m_return hF dX3_drawOnce_52 rfl rfl rfl ⟨rfl, rfl⟩


/-! Past: six settings one behind the other -/
def oPast (q : Nat) (w k : Int32) : Nat → Value := fun i => match i with
  | 0 => .ref q
  | 1 => .int w
  | 2 => .int k
  | _ => .null
theorem oPast_1 (q : Nat) (w k x : Int32) : va_up (oPast q w k) 1 (.int x) = oPast q x k := by
  funext i
  match i with
  | 0 => rfl
  | 1 => rfl
  | 2 => rfl
  | i + 3 => simp [va_up, oPast]
theorem oPast_2 (q : Nat) (w k x : Int32) : va_up (oPast q w k) 2 (.int x) = oPast q w x := by
  funext i
  match i with
  | 0 => rfl
  | 1 => rfl
  | 2 => rfl
  | i + 3 => simp [va_up, oPast]
/-- six handles, each two behind the one ahead -/
def rSet (b : Nat) : Nat → Option Nat := fun i => if i < 6 then some (b + 2 * i) else none
theorem rSet_at {b i : Nat} (h : i < 6) : va_rf (rSet b i) = .ref (b + 2 * i) := by simp [rSet, h, va_rf]
/-- the cells of six settings: gains, draws, parts -/
def sixAt (hp : mHp) (b : Nat) (G Dr : Nat → Int32) (PP : Nat → Nat → Int32) : Prop := ∀ i, i < 6 → hp (b + 2 * i) = eO 3 (oSet (b + 2 * i + 1) (G i) (Dr i)) ∧ hp (b + 2 * i + 1) = eI 10 (PP i)
/-- .. behind a change of the i-th -/
def sixUp (hp : mHp) (b i : Nat) (g d : Int32) (P : Nat → Int32) : mHp := va_up (va_up hp (b + 2 * i + 1) (eI 10 P)) (b + 2 * i) (eO 3 (oSet (b + 2 * i + 1) g d))
theorem sixAt.up {hp : mHp} {b i : Nat} {G Dr : Nat → Int32} {PP : Nat → Nat → Int32} (h : sixAt hp b G Dr PP) (g d : Int32) (P : Nat → Int32) : sixAt (sixUp hp b i g d P) b (va_up G i g) (va_up Dr i d) (va_up PP i P) := by
  intro j hj
  unfold sixUp
  by_cases e : j = i
  · subst e
    simp [va_up]
  · have h1 : b + 2 * j ≠ b + 2 * i := by omega
    have h2 : b + 2 * j ≠ b + 2 * i + 1 := by omega
    have h3 : b + 2 * j + 1 ≠ b + 2 * i := by omega
    have h4 : b + 2 * j + 1 ≠ b + 2 * i + 1 := by omega
    rw [va_up_ne _ _ h1, va_up_ne _ _ h2, va_up_ne _ _ h3, va_up_ne _ _ h4, va_up_ne _ _ e, va_up_ne _ _ e, va_up_ne _ _ e]
    exact h j hj

theorem t_X2_keep {n : Nat} {hp : mHp} {h q b a qa w : Nat} {k g d : Int32} {P : Nat → Int32} {G Dr : Nat → Int32} {PP : Nat → Nat → Int32} (h1 : hp h = eO 2 (oPast q (nI w) k)) (h2 : hp q = eR tyS 6 (rSet b)) (h3 : sixAt hp b G Dr PP) (h4 : hp a = eO 3 (oSet qa g d)) (h5 : hp qa = eI 10 P) (hw : w < 6) (h6 : ∀ i, i < 6 → a ≠ b + 2 * i) : mC D_X2_keep [.ref h, .ref a] n hp (rV (va_up (sixUp hp b ((w + 1) % 6) g d (va_cpy P (PP ((w + 1) % 6)) 0 0 10)) h (eO 2 (oPast q (nI ((w + 1) % 6)) (if 6 ≤ k then k else k + 1))))) := by
  refine m_enter rfl rfl (Nat.le_of_ble_eq_true rfl) (fun K hF => ?_)
  show mW K _ 0 0 _ _ 0 [.ref h, .ref a] []
  have hi : (w + 1) % 6 < 6 := Nat.mod_lt _ (by decide)
  obtain ⟨g1, g2⟩ := h3 _ hi
  have n1 : q ≠ h := mNe h2 h1 (by intro z; cases z)
  have n2 : b + 2 * ((w + 1) % 6) ≠ h := mNe g1 h1 (by intro z; cases z)
  have n3 : b + 2 * ((w + 1) % 6) + 1 ≠ h := mNe g2 h1 (by intro z; cases z)
  have n4 : a ≠ h := mNe h4 h1 (by intro z; cases z)
  have n5 : qa ≠ h := mNe h5 h1 (by intro z; cases z)
  have n6 := h6 _ hi
  have n7 := n6.symm
  have n8 : h ≠ b + 2 * ((w + 1) % 6) := n2.symm
  have n9 : h ≠ b + 2 * ((w + 1) % 6) + 1 := n3.symm
  refine m_aload_n dX2_keep_0 rfl ?_
  refine m_aload_n dX2_keep_1 rfl ?_
  refine m_getfield dX2_keep_2 fl_X2_16 (by first | assumption | rfl | exact va_up_self _ _ _ | (refine (va_up_ne _ _ ?_).trans ?_ <;> assumption) | (refine (va_up_ne _ _ ?_).trans (va_up_self _ _ _) <;> assumption) | (refine (va_up_ne _ _ ?_).trans ((va_up_ne _ _ ?_).trans ?_) <;> assumption) | (refine (va_up_ne _ _ ?_).trans ((va_up_ne _ _ ?_).trans (va_up_self _ _ _)) <;> assumption) | (refine (va_up_ne _ _ ?_).trans ((va_up_ne _ _ ?_).trans ((va_up_ne _ _ ?_).trans ?_)) <;> assumption) | (refine (va_up_ne _ _ ?_).trans ((va_up_ne _ _ ?_).trans ((va_up_ne _ _ ?_).trans (va_up_self _ _ _))) <;> assumption) | (refine (va_up_ne _ _ ?_).trans ((va_up_ne _ _ ?_).trans ((va_up_ne _ _ ?_).trans ((va_up_ne _ _ ?_).trans ?_))) <;> assumption) | (refine (va_up_ne _ _ ?_).trans ((va_up_ne _ _ ?_).trans ((va_up_ne _ _ ?_).trans ((va_up_ne _ _ ?_).trans (va_up_self _ _ _)))) <;> assumption)) (by first | assumption | rfl | exact va_up_self _ _ _ | (refine (va_up_ne _ _ ?_).trans ?_ <;> assumption) | (refine (va_up_ne _ _ ?_).trans (va_up_self _ _ _) <;> assumption) | (refine (va_up_ne _ _ ?_).trans ((va_up_ne _ _ ?_).trans ?_) <;> assumption) | (refine (va_up_ne _ _ ?_).trans ((va_up_ne _ _ ?_).trans (va_up_self _ _ _)) <;> assumption) | (refine (va_up_ne _ _ ?_).trans ((va_up_ne _ _ ?_).trans ((va_up_ne _ _ ?_).trans ?_)) <;> assumption) | (refine (va_up_ne _ _ ?_).trans ((va_up_ne _ _ ?_).trans ((va_up_ne _ _ ?_).trans (va_up_self _ _ _))) <;> assumption) | (refine (va_up_ne _ _ ?_).trans ((va_up_ne _ _ ?_).trans ((va_up_ne _ _ ?_).trans ((va_up_ne _ _ ?_).trans ?_))) <;> assumption) | (refine (va_up_ne _ _ ?_).trans ((va_up_ne _ _ ?_).trans ((va_up_ne _ _ ?_).trans ((va_up_ne _ _ ?_).trans (va_up_self _ _ _)))) <;> assumption)) ?_
  show mW _ _ _ _ _ _ _ _ (.int _ :: _)
  refine m_iconst (v := 1) dX2_keep_5 (by decide) ?_
  refine m_iadd dX2_keep_6 ?_
  refine m_ci (v := nI (w + 1)) (nI_add w 1) ?_
  refine m_bipush (v := 6) dX2_keep_7 (by decide) ?_
  refine m_irem dX2_keep_9 (by decide) ?_
  refine m_ci (v := nI ((w + 1) % 6)) (nI_rem (b := 6) (by omega) (by decide)) ?_
  refine m_putfield dX2_keep_10 fl_X2_16 (by first | assumption | rfl | exact va_up_self _ _ _ | (refine (va_up_ne _ _ ?_).trans ?_ <;> assumption) | (refine (va_up_ne _ _ ?_).trans (va_up_self _ _ _) <;> assumption) | (refine (va_up_ne _ _ ?_).trans ((va_up_ne _ _ ?_).trans ?_) <;> assumption) | (refine (va_up_ne _ _ ?_).trans ((va_up_ne _ _ ?_).trans (va_up_self _ _ _)) <;> assumption) | (refine (va_up_ne _ _ ?_).trans ((va_up_ne _ _ ?_).trans ((va_up_ne _ _ ?_).trans ?_)) <;> assumption) | (refine (va_up_ne _ _ ?_).trans ((va_up_ne _ _ ?_).trans ((va_up_ne _ _ ?_).trans (va_up_self _ _ _))) <;> assumption) | (refine (va_up_ne _ _ ?_).trans ((va_up_ne _ _ ?_).trans ((va_up_ne _ _ ?_).trans ((va_up_ne _ _ ?_).trans ?_))) <;> assumption) | (refine (va_up_ne _ _ ?_).trans ((va_up_ne _ _ ?_).trans ((va_up_ne _ _ ?_).trans ((va_up_ne _ _ ?_).trans (va_up_self _ _ _)))) <;> assumption)) (fun _ => rfl) (fun _ => rfl) ?_
  try rw [va_uu]
  rw [oPast_1]
  refine m_aload_n dX2_keep_13 rfl ?_
  refine m_getfield dX2_keep_14 fl_X2_11 (by first | assumption | rfl | exact va_up_self _ _ _ | (refine (va_up_ne _ _ ?_).trans ?_ <;> assumption) | (refine (va_up_ne _ _ ?_).trans (va_up_self _ _ _) <;> assumption) | (refine (va_up_ne _ _ ?_).trans ((va_up_ne _ _ ?_).trans ?_) <;> assumption) | (refine (va_up_ne _ _ ?_).trans ((va_up_ne _ _ ?_).trans (va_up_self _ _ _)) <;> assumption) | (refine (va_up_ne _ _ ?_).trans ((va_up_ne _ _ ?_).trans ((va_up_ne _ _ ?_).trans ?_)) <;> assumption) | (refine (va_up_ne _ _ ?_).trans ((va_up_ne _ _ ?_).trans ((va_up_ne _ _ ?_).trans (va_up_self _ _ _))) <;> assumption) | (refine (va_up_ne _ _ ?_).trans ((va_up_ne _ _ ?_).trans ((va_up_ne _ _ ?_).trans ((va_up_ne _ _ ?_).trans ?_))) <;> assumption) | (refine (va_up_ne _ _ ?_).trans ((va_up_ne _ _ ?_).trans ((va_up_ne _ _ ?_).trans ((va_up_ne _ _ ?_).trans (va_up_self _ _ _)))) <;> assumption)) (by first | assumption | rfl | exact va_up_self _ _ _ | (refine (va_up_ne _ _ ?_).trans ?_ <;> assumption) | (refine (va_up_ne _ _ ?_).trans (va_up_self _ _ _) <;> assumption) | (refine (va_up_ne _ _ ?_).trans ((va_up_ne _ _ ?_).trans ?_) <;> assumption) | (refine (va_up_ne _ _ ?_).trans ((va_up_ne _ _ ?_).trans (va_up_self _ _ _)) <;> assumption) | (refine (va_up_ne _ _ ?_).trans ((va_up_ne _ _ ?_).trans ((va_up_ne _ _ ?_).trans ?_)) <;> assumption) | (refine (va_up_ne _ _ ?_).trans ((va_up_ne _ _ ?_).trans ((va_up_ne _ _ ?_).trans (va_up_self _ _ _))) <;> assumption) | (refine (va_up_ne _ _ ?_).trans ((va_up_ne _ _ ?_).trans ((va_up_ne _ _ ?_).trans ((va_up_ne _ _ ?_).trans ?_))) <;> assumption) | (refine (va_up_ne _ _ ?_).trans ((va_up_ne _ _ ?_).trans ((va_up_ne _ _ ?_).trans ((va_up_ne _ _ ?_).trans (va_up_self _ _ _)))) <;> assumption)) ?_
  show mW _ _ _ _ _ _ _ _ (.ref _ :: _)
  refine m_aload_n dX2_keep_17 rfl ?_
  refine m_getfield dX2_keep_18 fl_X2_16 (by first | assumption | rfl | exact va_up_self _ _ _ | (refine (va_up_ne _ _ ?_).trans ?_ <;> assumption) | (refine (va_up_ne _ _ ?_).trans (va_up_self _ _ _) <;> assumption) | (refine (va_up_ne _ _ ?_).trans ((va_up_ne _ _ ?_).trans ?_) <;> assumption) | (refine (va_up_ne _ _ ?_).trans ((va_up_ne _ _ ?_).trans (va_up_self _ _ _)) <;> assumption) | (refine (va_up_ne _ _ ?_).trans ((va_up_ne _ _ ?_).trans ((va_up_ne _ _ ?_).trans ?_)) <;> assumption) | (refine (va_up_ne _ _ ?_).trans ((va_up_ne _ _ ?_).trans ((va_up_ne _ _ ?_).trans (va_up_self _ _ _))) <;> assumption) | (refine (va_up_ne _ _ ?_).trans ((va_up_ne _ _ ?_).trans ((va_up_ne _ _ ?_).trans ((va_up_ne _ _ ?_).trans ?_))) <;> assumption) | (refine (va_up_ne _ _ ?_).trans ((va_up_ne _ _ ?_).trans ((va_up_ne _ _ ?_).trans ((va_up_ne _ _ ?_).trans (va_up_self _ _ _)))) <;> assumption)) (by first | assumption | rfl | exact va_up_self _ _ _ | (refine (va_up_ne _ _ ?_).trans ?_ <;> assumption) | (refine (va_up_ne _ _ ?_).trans (va_up_self _ _ _) <;> assumption) | (refine (va_up_ne _ _ ?_).trans ((va_up_ne _ _ ?_).trans ?_) <;> assumption) | (refine (va_up_ne _ _ ?_).trans ((va_up_ne _ _ ?_).trans (va_up_self _ _ _)) <;> assumption) | (refine (va_up_ne _ _ ?_).trans ((va_up_ne _ _ ?_).trans ((va_up_ne _ _ ?_).trans ?_)) <;> assumption) | (refine (va_up_ne _ _ ?_).trans ((va_up_ne _ _ ?_).trans ((va_up_ne _ _ ?_).trans (va_up_self _ _ _))) <;> assumption) | (refine (va_up_ne _ _ ?_).trans ((va_up_ne _ _ ?_).trans ((va_up_ne _ _ ?_).trans ((va_up_ne _ _ ?_).trans ?_))) <;> assumption) | (refine (va_up_ne _ _ ?_).trans ((va_up_ne _ _ ?_).trans ((va_up_ne _ _ ?_).trans ((va_up_ne _ _ ?_).trans (va_up_self _ _ _)))) <;> assumption)) ?_
  show mW _ _ _ _ _ _ _ _ (.int _ :: _)
  refine m_aaload dX2_keep_21 (by first | assumption | rfl | exact va_up_self _ _ _ | (refine (va_up_ne _ _ ?_).trans ?_ <;> assumption) | (refine (va_up_ne _ _ ?_).trans (va_up_self _ _ _) <;> assumption) | (refine (va_up_ne _ _ ?_).trans ((va_up_ne _ _ ?_).trans ?_) <;> assumption) | (refine (va_up_ne _ _ ?_).trans ((va_up_ne _ _ ?_).trans (va_up_self _ _ _)) <;> assumption) | (refine (va_up_ne _ _ ?_).trans ((va_up_ne _ _ ?_).trans ((va_up_ne _ _ ?_).trans ?_)) <;> assumption) | (refine (va_up_ne _ _ ?_).trans ((va_up_ne _ _ ?_).trans ((va_up_ne _ _ ?_).trans (va_up_self _ _ _))) <;> assumption) | (refine (va_up_ne _ _ ?_).trans ((va_up_ne _ _ ?_).trans ((va_up_ne _ _ ?_).trans ((va_up_ne _ _ ?_).trans ?_))) <;> assumption) | (refine (va_up_ne _ _ ?_).trans ((va_up_ne _ _ ?_).trans ((va_up_ne _ _ ?_).trans ((va_up_ne _ _ ?_).trans (va_up_self _ _ _)))) <;> assumption)) (mIx_lit hi (by decide)) (rSet_at hi) ?_
  refine m_aload_n dX2_keep_22 rfl ?_
  refine m_invV_V dX2_keep_23 lk_X2_23 ar_X3_become (ci := 3) rfl rfl (by first | assumption | rfl | exact va_up_self _ _ _ | (refine (va_up_ne _ _ ?_).trans ?_ <;> assumption) | (refine (va_up_ne _ _ ?_).trans (va_up_self _ _ _) <;> assumption) | (refine (va_up_ne _ _ ?_).trans ((va_up_ne _ _ ?_).trans ?_) <;> assumption) | (refine (va_up_ne _ _ ?_).trans ((va_up_ne _ _ ?_).trans (va_up_self _ _ _)) <;> assumption) | (refine (va_up_ne _ _ ?_).trans ((va_up_ne _ _ ?_).trans ((va_up_ne _ _ ?_).trans ?_)) <;> assumption) | (refine (va_up_ne _ _ ?_).trans ((va_up_ne _ _ ?_).trans ((va_up_ne _ _ ?_).trans (va_up_self _ _ _))) <;> assumption) | (refine (va_up_ne _ _ ?_).trans ((va_up_ne _ _ ?_).trans ((va_up_ne _ _ ?_).trans ((va_up_ne _ _ ?_).trans ?_))) <;> assumption) | (refine (va_up_ne _ _ ?_).trans ((va_up_ne _ _ ?_).trans ((va_up_ne _ _ ?_).trans ((va_up_ne _ _ ?_).trans (va_up_self _ _ _)))) <;> assumption)) (t_X3_become (by first | assumption | rfl | exact va_up_self _ _ _ | (refine (va_up_ne _ _ ?_).trans ?_ <;> assumption) | (refine (va_up_ne _ _ ?_).trans (va_up_self _ _ _) <;> assumption) | (refine (va_up_ne _ _ ?_).trans ((va_up_ne _ _ ?_).trans ?_) <;> assumption) | (refine (va_up_ne _ _ ?_).trans ((va_up_ne _ _ ?_).trans (va_up_self _ _ _)) <;> assumption) | (refine (va_up_ne _ _ ?_).trans ((va_up_ne _ _ ?_).trans ((va_up_ne _ _ ?_).trans ?_)) <;> assumption) | (refine (va_up_ne _ _ ?_).trans ((va_up_ne _ _ ?_).trans ((va_up_ne _ _ ?_).trans (va_up_self _ _ _))) <;> assumption) | (refine (va_up_ne _ _ ?_).trans ((va_up_ne _ _ ?_).trans ((va_up_ne _ _ ?_).trans ((va_up_ne _ _ ?_).trans ?_))) <;> assumption) | (refine (va_up_ne _ _ ?_).trans ((va_up_ne _ _ ?_).trans ((va_up_ne _ _ ?_).trans ((va_up_ne _ _ ?_).trans (va_up_self _ _ _)))) <;> assumption)) (by first | assumption | rfl | exact va_up_self _ _ _ | (refine (va_up_ne _ _ ?_).trans ?_ <;> assumption) | (refine (va_up_ne _ _ ?_).trans (va_up_self _ _ _) <;> assumption) | (refine (va_up_ne _ _ ?_).trans ((va_up_ne _ _ ?_).trans ?_) <;> assumption) | (refine (va_up_ne _ _ ?_).trans ((va_up_ne _ _ ?_).trans (va_up_self _ _ _)) <;> assumption) | (refine (va_up_ne _ _ ?_).trans ((va_up_ne _ _ ?_).trans ((va_up_ne _ _ ?_).trans ?_)) <;> assumption) | (refine (va_up_ne _ _ ?_).trans ((va_up_ne _ _ ?_).trans ((va_up_ne _ _ ?_).trans (va_up_self _ _ _))) <;> assumption) | (refine (va_up_ne _ _ ?_).trans ((va_up_ne _ _ ?_).trans ((va_up_ne _ _ ?_).trans ((va_up_ne _ _ ?_).trans ?_))) <;> assumption) | (refine (va_up_ne _ _ ?_).trans ((va_up_ne _ _ ?_).trans ((va_up_ne _ _ ?_).trans ((va_up_ne _ _ ?_).trans (va_up_self _ _ _)))) <;> assumption)) (by first | assumption | rfl | exact va_up_self _ _ _ | (refine (va_up_ne _ _ ?_).trans ?_ <;> assumption) | (refine (va_up_ne _ _ ?_).trans (va_up_self _ _ _) <;> assumption) | (refine (va_up_ne _ _ ?_).trans ((va_up_ne _ _ ?_).trans ?_) <;> assumption) | (refine (va_up_ne _ _ ?_).trans ((va_up_ne _ _ ?_).trans (va_up_self _ _ _)) <;> assumption) | (refine (va_up_ne _ _ ?_).trans ((va_up_ne _ _ ?_).trans ((va_up_ne _ _ ?_).trans ?_)) <;> assumption) | (refine (va_up_ne _ _ ?_).trans ((va_up_ne _ _ ?_).trans ((va_up_ne _ _ ?_).trans (va_up_self _ _ _))) <;> assumption) | (refine (va_up_ne _ _ ?_).trans ((va_up_ne _ _ ?_).trans ((va_up_ne _ _ ?_).trans ((va_up_ne _ _ ?_).trans ?_))) <;> assumption) | (refine (va_up_ne _ _ ?_).trans ((va_up_ne _ _ ?_).trans ((va_up_ne _ _ ?_).trans ((va_up_ne _ _ ?_).trans (va_up_self _ _ _)))) <;> assumption)) (by first | assumption | rfl | exact va_up_self _ _ _ | (refine (va_up_ne _ _ ?_).trans ?_ <;> assumption) | (refine (va_up_ne _ _ ?_).trans (va_up_self _ _ _) <;> assumption) | (refine (va_up_ne _ _ ?_).trans ((va_up_ne _ _ ?_).trans ?_) <;> assumption) | (refine (va_up_ne _ _ ?_).trans ((va_up_ne _ _ ?_).trans (va_up_self _ _ _)) <;> assumption) | (refine (va_up_ne _ _ ?_).trans ((va_up_ne _ _ ?_).trans ((va_up_ne _ _ ?_).trans ?_)) <;> assumption) | (refine (va_up_ne _ _ ?_).trans ((va_up_ne _ _ ?_).trans ((va_up_ne _ _ ?_).trans (va_up_self _ _ _))) <;> assumption) | (refine (va_up_ne _ _ ?_).trans ((va_up_ne _ _ ?_).trans ((va_up_ne _ _ ?_).trans ((va_up_ne _ _ ?_).trans ?_))) <;> assumption) | (refine (va_up_ne _ _ ?_).trans ((va_up_ne _ _ ?_).trans ((va_up_ne _ _ ?_).trans ((va_up_ne _ _ ?_).trans (va_up_self _ _ _)))) <;> assumption)) (by first | assumption | rfl | exact va_up_self _ _ _ | (refine (va_up_ne _ _ ?_).trans ?_ <;> assumption) | (refine (va_up_ne _ _ ?_).trans (va_up_self _ _ _) <;> assumption) | (refine (va_up_ne _ _ ?_).trans ((va_up_ne _ _ ?_).trans ?_) <;> assumption) | (refine (va_up_ne _ _ ?_).trans ((va_up_ne _ _ ?_).trans (va_up_self _ _ _)) <;> assumption) | (refine (va_up_ne _ _ ?_).trans ((va_up_ne _ _ ?_).trans ((va_up_ne _ _ ?_).trans ?_)) <;> assumption) | (refine (va_up_ne _ _ ?_).trans ((va_up_ne _ _ ?_).trans ((va_up_ne _ _ ?_).trans (va_up_self _ _ _))) <;> assumption) | (refine (va_up_ne _ _ ?_).trans ((va_up_ne _ _ ?_).trans ((va_up_ne _ _ ?_).trans ((va_up_ne _ _ ?_).trans ?_))) <;> assumption) | (refine (va_up_ne _ _ ?_).trans ((va_up_ne _ _ ?_).trans ((va_up_ne _ _ ?_).trans ((va_up_ne _ _ ?_).trans (va_up_self _ _ _)))) <;> assumption))) rfl (Nat.le_of_ble_eq_true rfl) (by decide) (by decide) (by decide) (by decide) rfl rfl ?_
  try rw [va_uu]
  refine m_aload_n dX2_keep_26 rfl ?_
  refine m_getfield dX2_keep_27 fl_X2_20 (by first | assumption | rfl | exact va_up_self _ _ _ | (refine (va_up_ne _ _ ?_).trans ?_ <;> assumption) | (refine (va_up_ne _ _ ?_).trans (va_up_self _ _ _) <;> assumption) | (refine (va_up_ne _ _ ?_).trans ((va_up_ne _ _ ?_).trans ?_) <;> assumption) | (refine (va_up_ne _ _ ?_).trans ((va_up_ne _ _ ?_).trans (va_up_self _ _ _)) <;> assumption) | (refine (va_up_ne _ _ ?_).trans ((va_up_ne _ _ ?_).trans ((va_up_ne _ _ ?_).trans ?_)) <;> assumption) | (refine (va_up_ne _ _ ?_).trans ((va_up_ne _ _ ?_).trans ((va_up_ne _ _ ?_).trans (va_up_self _ _ _))) <;> assumption) | (refine (va_up_ne _ _ ?_).trans ((va_up_ne _ _ ?_).trans ((va_up_ne _ _ ?_).trans ((va_up_ne _ _ ?_).trans ?_))) <;> assumption) | (refine (va_up_ne _ _ ?_).trans ((va_up_ne _ _ ?_).trans ((va_up_ne _ _ ?_).trans ((va_up_ne _ _ ?_).trans (va_up_self _ _ _)))) <;> assumption)) (by first | assumption | rfl | exact va_up_self _ _ _ | (refine (va_up_ne _ _ ?_).trans ?_ <;> assumption) | (refine (va_up_ne _ _ ?_).trans (va_up_self _ _ _) <;> assumption) | (refine (va_up_ne _ _ ?_).trans ((va_up_ne _ _ ?_).trans ?_) <;> assumption) | (refine (va_up_ne _ _ ?_).trans ((va_up_ne _ _ ?_).trans (va_up_self _ _ _)) <;> assumption) | (refine (va_up_ne _ _ ?_).trans ((va_up_ne _ _ ?_).trans ((va_up_ne _ _ ?_).trans ?_)) <;> assumption) | (refine (va_up_ne _ _ ?_).trans ((va_up_ne _ _ ?_).trans ((va_up_ne _ _ ?_).trans (va_up_self _ _ _))) <;> assumption) | (refine (va_up_ne _ _ ?_).trans ((va_up_ne _ _ ?_).trans ((va_up_ne _ _ ?_).trans ((va_up_ne _ _ ?_).trans ?_))) <;> assumption) | (refine (va_up_ne _ _ ?_).trans ((va_up_ne _ _ ?_).trans ((va_up_ne _ _ ?_).trans ((va_up_ne _ _ ?_).trans (va_up_self _ _ _)))) <;> assumption)) ?_
  show mW _ _ _ _ _ _ _ _ (.int _ :: _)
  refine m_bipush (v := 6) dX2_keep_30 (by decide) ?_
  refine m_icmp_ge (t := 45) dX2_keep_32 (by decide) (fun c32 => ?_) (fun c32 => ?_)
  · try rw [oPast_2]
    exact m_return hF dX2_keep_45 rfl rfl rfl ⟨rfl, by simp only [if_pos c32]; unfold sixUp; funext z; by_cases z0 : z = h <;> by_cases z1 : z = b + 2 * ((w + 1) % 6) <;> by_cases z2 : z = b + 2 * ((w + 1) % 6) + 1 <;> simp_all [va_up]⟩
  refine m_aload_n dX2_keep_35 rfl ?_
  refine m_dup dX2_keep_36 rfl ?_
  refine m_getfield dX2_keep_37 fl_X2_20 (by first | assumption | rfl | exact va_up_self _ _ _ | (refine (va_up_ne _ _ ?_).trans ?_ <;> assumption) | (refine (va_up_ne _ _ ?_).trans (va_up_self _ _ _) <;> assumption) | (refine (va_up_ne _ _ ?_).trans ((va_up_ne _ _ ?_).trans ?_) <;> assumption) | (refine (va_up_ne _ _ ?_).trans ((va_up_ne _ _ ?_).trans (va_up_self _ _ _)) <;> assumption) | (refine (va_up_ne _ _ ?_).trans ((va_up_ne _ _ ?_).trans ((va_up_ne _ _ ?_).trans ?_)) <;> assumption) | (refine (va_up_ne _ _ ?_).trans ((va_up_ne _ _ ?_).trans ((va_up_ne _ _ ?_).trans (va_up_self _ _ _))) <;> assumption) | (refine (va_up_ne _ _ ?_).trans ((va_up_ne _ _ ?_).trans ((va_up_ne _ _ ?_).trans ((va_up_ne _ _ ?_).trans ?_))) <;> assumption) | (refine (va_up_ne _ _ ?_).trans ((va_up_ne _ _ ?_).trans ((va_up_ne _ _ ?_).trans ((va_up_ne _ _ ?_).trans (va_up_self _ _ _)))) <;> assumption)) (by first | assumption | rfl | exact va_up_self _ _ _ | (refine (va_up_ne _ _ ?_).trans ?_ <;> assumption) | (refine (va_up_ne _ _ ?_).trans (va_up_self _ _ _) <;> assumption) | (refine (va_up_ne _ _ ?_).trans ((va_up_ne _ _ ?_).trans ?_) <;> assumption) | (refine (va_up_ne _ _ ?_).trans ((va_up_ne _ _ ?_).trans (va_up_self _ _ _)) <;> assumption) | (refine (va_up_ne _ _ ?_).trans ((va_up_ne _ _ ?_).trans ((va_up_ne _ _ ?_).trans ?_)) <;> assumption) | (refine (va_up_ne _ _ ?_).trans ((va_up_ne _ _ ?_).trans ((va_up_ne _ _ ?_).trans (va_up_self _ _ _))) <;> assumption) | (refine (va_up_ne _ _ ?_).trans ((va_up_ne _ _ ?_).trans ((va_up_ne _ _ ?_).trans ((va_up_ne _ _ ?_).trans ?_))) <;> assumption) | (refine (va_up_ne _ _ ?_).trans ((va_up_ne _ _ ?_).trans ((va_up_ne _ _ ?_).trans ((va_up_ne _ _ ?_).trans (va_up_self _ _ _)))) <;> assumption)) ?_
  show mW _ _ _ _ _ _ _ _ (.int _ :: _)
  refine m_iconst (v := 1) dX2_keep_40 (by decide) ?_
  refine m_iadd dX2_keep_41 ?_
  refine m_putfield dX2_keep_42 fl_X2_20 (by first | assumption | rfl | exact va_up_self _ _ _ | (refine (va_up_ne _ _ ?_).trans ?_ <;> assumption) | (refine (va_up_ne _ _ ?_).trans (va_up_self _ _ _) <;> assumption) | (refine (va_up_ne _ _ ?_).trans ((va_up_ne _ _ ?_).trans ?_) <;> assumption) | (refine (va_up_ne _ _ ?_).trans ((va_up_ne _ _ ?_).trans (va_up_self _ _ _)) <;> assumption) | (refine (va_up_ne _ _ ?_).trans ((va_up_ne _ _ ?_).trans ((va_up_ne _ _ ?_).trans ?_)) <;> assumption) | (refine (va_up_ne _ _ ?_).trans ((va_up_ne _ _ ?_).trans ((va_up_ne _ _ ?_).trans (va_up_self _ _ _))) <;> assumption) | (refine (va_up_ne _ _ ?_).trans ((va_up_ne _ _ ?_).trans ((va_up_ne _ _ ?_).trans ((va_up_ne _ _ ?_).trans ?_))) <;> assumption) | (refine (va_up_ne _ _ ?_).trans ((va_up_ne _ _ ?_).trans ((va_up_ne _ _ ?_).trans ((va_up_ne _ _ ?_).trans (va_up_self _ _ _)))) <;> assumption)) (fun _ => rfl) (fun _ => rfl) ?_
  try rw [va_uu]
  try rw [oPast_2]
  exact m_return hF dX2_keep_45 rfl rfl rfl ⟨rfl, by simp only [if_neg c32]; unfold sixUp; funext z; by_cases z0 : z = h <;> by_cases z1 : z = b + 2 * ((w + 1) % 6) <;> by_cases z2 : z = b + 2 * ((w + 1) % 6) + 1 <;> simp_all [va_up]⟩

theorem t_X2_giveBack {n : Nat} {hp : mHp} {h q b a qa w : Nat} {k g d : Int32} {P : Nat → Int32} {G Dr : Nat → Int32} {PP : Nat → Nat → Int32} (h1 : hp h = eO 2 (oPast q (nI w) k)) (h2 : hp q = eR tyS 6 (rSet b)) (h3 : sixAt hp b G Dr PP) (h4 : hp a = eO 3 (oSet qa g d)) (h5 : hp qa = eI 10 P) (hw : w < 6) (h6 : ∀ i, i < 6 → a ≠ b + 2 * i) : mC D_X2_giveBack [.ref h, .ref a] n hp (rV (va_up (va_up (va_up hp qa (eI 10 (va_cpy (PP w) P 0 0 10))) a (eO 3 (oSet qa (G w) (Dr w)))) h (eO 2 (oPast q (nI ((w + 5) % 6)) (k - 1))))) := by
  refine m_enter rfl rfl (Nat.le_of_ble_eq_true rfl) (fun K hF => ?_)
  show mW K _ 0 0 _ _ 0 [.ref h, .ref a] []
  obtain ⟨g1, g2⟩ := h3 _ hw
  have n1 : q ≠ h := mNe h2 h1 (by intro z; cases z)
  have n4 : a ≠ h := mNe h4 h1 (by intro z; cases z)
  have n5 : qa ≠ h := mNe h5 h1 (by intro z; cases z)
  have n6 := h6 _ hw
  have n7 := n4.symm
  have n8 := n5.symm
  have n9 : q ≠ a := mNe h2 h4 (by intro z; cases z)
  have n10 : q ≠ qa := mNe h2 h5 (by intro z; cases z)
  refine m_aload_n dX2_giveBack_0 rfl ?_
  refine m_aload_n dX2_giveBack_1 rfl ?_
  refine m_getfield dX2_giveBack_2 fl_X2_11 (by first | assumption | rfl | exact va_up_self _ _ _ | (refine (va_up_ne _ _ ?_).trans ?_ <;> assumption) | (refine (va_up_ne _ _ ?_).trans (va_up_self _ _ _) <;> assumption) | (refine (va_up_ne _ _ ?_).trans ((va_up_ne _ _ ?_).trans ?_) <;> assumption) | (refine (va_up_ne _ _ ?_).trans ((va_up_ne _ _ ?_).trans (va_up_self _ _ _)) <;> assumption) | (refine (va_up_ne _ _ ?_).trans ((va_up_ne _ _ ?_).trans ((va_up_ne _ _ ?_).trans ?_)) <;> assumption) | (refine (va_up_ne _ _ ?_).trans ((va_up_ne _ _ ?_).trans ((va_up_ne _ _ ?_).trans (va_up_self _ _ _))) <;> assumption) | (refine (va_up_ne _ _ ?_).trans ((va_up_ne _ _ ?_).trans ((va_up_ne _ _ ?_).trans ((va_up_ne _ _ ?_).trans ?_))) <;> assumption) | (refine (va_up_ne _ _ ?_).trans ((va_up_ne _ _ ?_).trans ((va_up_ne _ _ ?_).trans ((va_up_ne _ _ ?_).trans (va_up_self _ _ _)))) <;> assumption)) (by first | assumption | rfl | exact va_up_self _ _ _ | (refine (va_up_ne _ _ ?_).trans ?_ <;> assumption) | (refine (va_up_ne _ _ ?_).trans (va_up_self _ _ _) <;> assumption) | (refine (va_up_ne _ _ ?_).trans ((va_up_ne _ _ ?_).trans ?_) <;> assumption) | (refine (va_up_ne _ _ ?_).trans ((va_up_ne _ _ ?_).trans (va_up_self _ _ _)) <;> assumption) | (refine (va_up_ne _ _ ?_).trans ((va_up_ne _ _ ?_).trans ((va_up_ne _ _ ?_).trans ?_)) <;> assumption) | (refine (va_up_ne _ _ ?_).trans ((va_up_ne _ _ ?_).trans ((va_up_ne _ _ ?_).trans (va_up_self _ _ _))) <;> assumption) | (refine (va_up_ne _ _ ?_).trans ((va_up_ne _ _ ?_).trans ((va_up_ne _ _ ?_).trans ((va_up_ne _ _ ?_).trans ?_))) <;> assumption) | (refine (va_up_ne _ _ ?_).trans ((va_up_ne _ _ ?_).trans ((va_up_ne _ _ ?_).trans ((va_up_ne _ _ ?_).trans (va_up_self _ _ _)))) <;> assumption)) ?_
  show mW _ _ _ _ _ _ _ _ (.ref _ :: _)
  refine m_aload_n dX2_giveBack_5 rfl ?_
  refine m_getfield dX2_giveBack_6 fl_X2_16 (by first | assumption | rfl | exact va_up_self _ _ _ | (refine (va_up_ne _ _ ?_).trans ?_ <;> assumption) | (refine (va_up_ne _ _ ?_).trans (va_up_self _ _ _) <;> assumption) | (refine (va_up_ne _ _ ?_).trans ((va_up_ne _ _ ?_).trans ?_) <;> assumption) | (refine (va_up_ne _ _ ?_).trans ((va_up_ne _ _ ?_).trans (va_up_self _ _ _)) <;> assumption) | (refine (va_up_ne _ _ ?_).trans ((va_up_ne _ _ ?_).trans ((va_up_ne _ _ ?_).trans ?_)) <;> assumption) | (refine (va_up_ne _ _ ?_).trans ((va_up_ne _ _ ?_).trans ((va_up_ne _ _ ?_).trans (va_up_self _ _ _))) <;> assumption) | (refine (va_up_ne _ _ ?_).trans ((va_up_ne _ _ ?_).trans ((va_up_ne _ _ ?_).trans ((va_up_ne _ _ ?_).trans ?_))) <;> assumption) | (refine (va_up_ne _ _ ?_).trans ((va_up_ne _ _ ?_).trans ((va_up_ne _ _ ?_).trans ((va_up_ne _ _ ?_).trans (va_up_self _ _ _)))) <;> assumption)) (by first | assumption | rfl | exact va_up_self _ _ _ | (refine (va_up_ne _ _ ?_).trans ?_ <;> assumption) | (refine (va_up_ne _ _ ?_).trans (va_up_self _ _ _) <;> assumption) | (refine (va_up_ne _ _ ?_).trans ((va_up_ne _ _ ?_).trans ?_) <;> assumption) | (refine (va_up_ne _ _ ?_).trans ((va_up_ne _ _ ?_).trans (va_up_self _ _ _)) <;> assumption) | (refine (va_up_ne _ _ ?_).trans ((va_up_ne _ _ ?_).trans ((va_up_ne _ _ ?_).trans ?_)) <;> assumption) | (refine (va_up_ne _ _ ?_).trans ((va_up_ne _ _ ?_).trans ((va_up_ne _ _ ?_).trans (va_up_self _ _ _))) <;> assumption) | (refine (va_up_ne _ _ ?_).trans ((va_up_ne _ _ ?_).trans ((va_up_ne _ _ ?_).trans ((va_up_ne _ _ ?_).trans ?_))) <;> assumption) | (refine (va_up_ne _ _ ?_).trans ((va_up_ne _ _ ?_).trans ((va_up_ne _ _ ?_).trans ((va_up_ne _ _ ?_).trans (va_up_self _ _ _)))) <;> assumption)) ?_
  show mW _ _ _ _ _ _ _ _ (.int _ :: _)
  refine m_aaload dX2_giveBack_9 (by first | assumption | rfl | exact va_up_self _ _ _ | (refine (va_up_ne _ _ ?_).trans ?_ <;> assumption) | (refine (va_up_ne _ _ ?_).trans (va_up_self _ _ _) <;> assumption) | (refine (va_up_ne _ _ ?_).trans ((va_up_ne _ _ ?_).trans ?_) <;> assumption) | (refine (va_up_ne _ _ ?_).trans ((va_up_ne _ _ ?_).trans (va_up_self _ _ _)) <;> assumption) | (refine (va_up_ne _ _ ?_).trans ((va_up_ne _ _ ?_).trans ((va_up_ne _ _ ?_).trans ?_)) <;> assumption) | (refine (va_up_ne _ _ ?_).trans ((va_up_ne _ _ ?_).trans ((va_up_ne _ _ ?_).trans (va_up_self _ _ _))) <;> assumption) | (refine (va_up_ne _ _ ?_).trans ((va_up_ne _ _ ?_).trans ((va_up_ne _ _ ?_).trans ((va_up_ne _ _ ?_).trans ?_))) <;> assumption) | (refine (va_up_ne _ _ ?_).trans ((va_up_ne _ _ ?_).trans ((va_up_ne _ _ ?_).trans ((va_up_ne _ _ ?_).trans (va_up_self _ _ _)))) <;> assumption)) (mIx_lit hw (by decide)) (rSet_at hw) ?_
  refine m_invV_V dX2_giveBack_10 lk_X2_23 ar_X3_become (ci := 3) rfl rfl (by first | assumption | rfl | exact va_up_self _ _ _ | (refine (va_up_ne _ _ ?_).trans ?_ <;> assumption) | (refine (va_up_ne _ _ ?_).trans (va_up_self _ _ _) <;> assumption) | (refine (va_up_ne _ _ ?_).trans ((va_up_ne _ _ ?_).trans ?_) <;> assumption) | (refine (va_up_ne _ _ ?_).trans ((va_up_ne _ _ ?_).trans (va_up_self _ _ _)) <;> assumption) | (refine (va_up_ne _ _ ?_).trans ((va_up_ne _ _ ?_).trans ((va_up_ne _ _ ?_).trans ?_)) <;> assumption) | (refine (va_up_ne _ _ ?_).trans ((va_up_ne _ _ ?_).trans ((va_up_ne _ _ ?_).trans (va_up_self _ _ _))) <;> assumption) | (refine (va_up_ne _ _ ?_).trans ((va_up_ne _ _ ?_).trans ((va_up_ne _ _ ?_).trans ((va_up_ne _ _ ?_).trans ?_))) <;> assumption) | (refine (va_up_ne _ _ ?_).trans ((va_up_ne _ _ ?_).trans ((va_up_ne _ _ ?_).trans ((va_up_ne _ _ ?_).trans (va_up_self _ _ _)))) <;> assumption)) (t_X3_become (by first | assumption | rfl | exact va_up_self _ _ _ | (refine (va_up_ne _ _ ?_).trans ?_ <;> assumption) | (refine (va_up_ne _ _ ?_).trans (va_up_self _ _ _) <;> assumption) | (refine (va_up_ne _ _ ?_).trans ((va_up_ne _ _ ?_).trans ?_) <;> assumption) | (refine (va_up_ne _ _ ?_).trans ((va_up_ne _ _ ?_).trans (va_up_self _ _ _)) <;> assumption) | (refine (va_up_ne _ _ ?_).trans ((va_up_ne _ _ ?_).trans ((va_up_ne _ _ ?_).trans ?_)) <;> assumption) | (refine (va_up_ne _ _ ?_).trans ((va_up_ne _ _ ?_).trans ((va_up_ne _ _ ?_).trans (va_up_self _ _ _))) <;> assumption) | (refine (va_up_ne _ _ ?_).trans ((va_up_ne _ _ ?_).trans ((va_up_ne _ _ ?_).trans ((va_up_ne _ _ ?_).trans ?_))) <;> assumption) | (refine (va_up_ne _ _ ?_).trans ((va_up_ne _ _ ?_).trans ((va_up_ne _ _ ?_).trans ((va_up_ne _ _ ?_).trans (va_up_self _ _ _)))) <;> assumption)) (by first | assumption | rfl | exact va_up_self _ _ _ | (refine (va_up_ne _ _ ?_).trans ?_ <;> assumption) | (refine (va_up_ne _ _ ?_).trans (va_up_self _ _ _) <;> assumption) | (refine (va_up_ne _ _ ?_).trans ((va_up_ne _ _ ?_).trans ?_) <;> assumption) | (refine (va_up_ne _ _ ?_).trans ((va_up_ne _ _ ?_).trans (va_up_self _ _ _)) <;> assumption) | (refine (va_up_ne _ _ ?_).trans ((va_up_ne _ _ ?_).trans ((va_up_ne _ _ ?_).trans ?_)) <;> assumption) | (refine (va_up_ne _ _ ?_).trans ((va_up_ne _ _ ?_).trans ((va_up_ne _ _ ?_).trans (va_up_self _ _ _))) <;> assumption) | (refine (va_up_ne _ _ ?_).trans ((va_up_ne _ _ ?_).trans ((va_up_ne _ _ ?_).trans ((va_up_ne _ _ ?_).trans ?_))) <;> assumption) | (refine (va_up_ne _ _ ?_).trans ((va_up_ne _ _ ?_).trans ((va_up_ne _ _ ?_).trans ((va_up_ne _ _ ?_).trans (va_up_self _ _ _)))) <;> assumption)) (by first | assumption | rfl | exact va_up_self _ _ _ | (refine (va_up_ne _ _ ?_).trans ?_ <;> assumption) | (refine (va_up_ne _ _ ?_).trans (va_up_self _ _ _) <;> assumption) | (refine (va_up_ne _ _ ?_).trans ((va_up_ne _ _ ?_).trans ?_) <;> assumption) | (refine (va_up_ne _ _ ?_).trans ((va_up_ne _ _ ?_).trans (va_up_self _ _ _)) <;> assumption) | (refine (va_up_ne _ _ ?_).trans ((va_up_ne _ _ ?_).trans ((va_up_ne _ _ ?_).trans ?_)) <;> assumption) | (refine (va_up_ne _ _ ?_).trans ((va_up_ne _ _ ?_).trans ((va_up_ne _ _ ?_).trans (va_up_self _ _ _))) <;> assumption) | (refine (va_up_ne _ _ ?_).trans ((va_up_ne _ _ ?_).trans ((va_up_ne _ _ ?_).trans ((va_up_ne _ _ ?_).trans ?_))) <;> assumption) | (refine (va_up_ne _ _ ?_).trans ((va_up_ne _ _ ?_).trans ((va_up_ne _ _ ?_).trans ((va_up_ne _ _ ?_).trans (va_up_self _ _ _)))) <;> assumption)) (by first | assumption | rfl | exact va_up_self _ _ _ | (refine (va_up_ne _ _ ?_).trans ?_ <;> assumption) | (refine (va_up_ne _ _ ?_).trans (va_up_self _ _ _) <;> assumption) | (refine (va_up_ne _ _ ?_).trans ((va_up_ne _ _ ?_).trans ?_) <;> assumption) | (refine (va_up_ne _ _ ?_).trans ((va_up_ne _ _ ?_).trans (va_up_self _ _ _)) <;> assumption) | (refine (va_up_ne _ _ ?_).trans ((va_up_ne _ _ ?_).trans ((va_up_ne _ _ ?_).trans ?_)) <;> assumption) | (refine (va_up_ne _ _ ?_).trans ((va_up_ne _ _ ?_).trans ((va_up_ne _ _ ?_).trans (va_up_self _ _ _))) <;> assumption) | (refine (va_up_ne _ _ ?_).trans ((va_up_ne _ _ ?_).trans ((va_up_ne _ _ ?_).trans ((va_up_ne _ _ ?_).trans ?_))) <;> assumption) | (refine (va_up_ne _ _ ?_).trans ((va_up_ne _ _ ?_).trans ((va_up_ne _ _ ?_).trans ((va_up_ne _ _ ?_).trans (va_up_self _ _ _)))) <;> assumption)) (by first | assumption | rfl | exact va_up_self _ _ _ | (refine (va_up_ne _ _ ?_).trans ?_ <;> assumption) | (refine (va_up_ne _ _ ?_).trans (va_up_self _ _ _) <;> assumption) | (refine (va_up_ne _ _ ?_).trans ((va_up_ne _ _ ?_).trans ?_) <;> assumption) | (refine (va_up_ne _ _ ?_).trans ((va_up_ne _ _ ?_).trans (va_up_self _ _ _)) <;> assumption) | (refine (va_up_ne _ _ ?_).trans ((va_up_ne _ _ ?_).trans ((va_up_ne _ _ ?_).trans ?_)) <;> assumption) | (refine (va_up_ne _ _ ?_).trans ((va_up_ne _ _ ?_).trans ((va_up_ne _ _ ?_).trans (va_up_self _ _ _))) <;> assumption) | (refine (va_up_ne _ _ ?_).trans ((va_up_ne _ _ ?_).trans ((va_up_ne _ _ ?_).trans ((va_up_ne _ _ ?_).trans ?_))) <;> assumption) | (refine (va_up_ne _ _ ?_).trans ((va_up_ne _ _ ?_).trans ((va_up_ne _ _ ?_).trans ((va_up_ne _ _ ?_).trans (va_up_self _ _ _)))) <;> assumption))) rfl (Nat.le_of_ble_eq_true rfl) (by decide) (by decide) (by decide) (by decide) rfl rfl ?_
  try rw [va_uu]
  refine m_aload_n dX2_giveBack_13 rfl ?_
  refine m_aload_n dX2_giveBack_14 rfl ?_
  refine m_getfield dX2_giveBack_15 fl_X2_16 (by first | assumption | rfl | exact va_up_self _ _ _ | (refine (va_up_ne _ _ ?_).trans ?_ <;> assumption) | (refine (va_up_ne _ _ ?_).trans (va_up_self _ _ _) <;> assumption) | (refine (va_up_ne _ _ ?_).trans ((va_up_ne _ _ ?_).trans ?_) <;> assumption) | (refine (va_up_ne _ _ ?_).trans ((va_up_ne _ _ ?_).trans (va_up_self _ _ _)) <;> assumption) | (refine (va_up_ne _ _ ?_).trans ((va_up_ne _ _ ?_).trans ((va_up_ne _ _ ?_).trans ?_)) <;> assumption) | (refine (va_up_ne _ _ ?_).trans ((va_up_ne _ _ ?_).trans ((va_up_ne _ _ ?_).trans (va_up_self _ _ _))) <;> assumption) | (refine (va_up_ne _ _ ?_).trans ((va_up_ne _ _ ?_).trans ((va_up_ne _ _ ?_).trans ((va_up_ne _ _ ?_).trans ?_))) <;> assumption) | (refine (va_up_ne _ _ ?_).trans ((va_up_ne _ _ ?_).trans ((va_up_ne _ _ ?_).trans ((va_up_ne _ _ ?_).trans (va_up_self _ _ _)))) <;> assumption)) (by first | assumption | rfl | exact va_up_self _ _ _ | (refine (va_up_ne _ _ ?_).trans ?_ <;> assumption) | (refine (va_up_ne _ _ ?_).trans (va_up_self _ _ _) <;> assumption) | (refine (va_up_ne _ _ ?_).trans ((va_up_ne _ _ ?_).trans ?_) <;> assumption) | (refine (va_up_ne _ _ ?_).trans ((va_up_ne _ _ ?_).trans (va_up_self _ _ _)) <;> assumption) | (refine (va_up_ne _ _ ?_).trans ((va_up_ne _ _ ?_).trans ((va_up_ne _ _ ?_).trans ?_)) <;> assumption) | (refine (va_up_ne _ _ ?_).trans ((va_up_ne _ _ ?_).trans ((va_up_ne _ _ ?_).trans (va_up_self _ _ _))) <;> assumption) | (refine (va_up_ne _ _ ?_).trans ((va_up_ne _ _ ?_).trans ((va_up_ne _ _ ?_).trans ((va_up_ne _ _ ?_).trans ?_))) <;> assumption) | (refine (va_up_ne _ _ ?_).trans ((va_up_ne _ _ ?_).trans ((va_up_ne _ _ ?_).trans ((va_up_ne _ _ ?_).trans (va_up_self _ _ _)))) <;> assumption)) ?_
  show mW _ _ _ _ _ _ _ _ (.int _ :: _)
  refine m_bipush (v := 6) dX2_giveBack_18 (by decide) ?_
  refine m_iadd dX2_giveBack_20 ?_
  refine m_ci (v := nI (w + 6)) (nI_add w 6) ?_
  refine m_iconst (v := 1) dX2_giveBack_21 (by decide) ?_
  refine m_isub dX2_giveBack_22 ?_
  refine m_ci (v := nI (w + 5)) (nI_pred (w + 5)) ?_
  refine m_bipush (v := 6) dX2_giveBack_23 (by decide) ?_
  refine m_irem dX2_giveBack_25 (by decide) ?_
  refine m_ci (v := nI ((w + 5) % 6)) (nI_rem (b := 6) (by omega) (by decide)) ?_
  refine m_putfield dX2_giveBack_26 fl_X2_16 (by first | assumption | rfl | exact va_up_self _ _ _ | (refine (va_up_ne _ _ ?_).trans ?_ <;> assumption) | (refine (va_up_ne _ _ ?_).trans (va_up_self _ _ _) <;> assumption) | (refine (va_up_ne _ _ ?_).trans ((va_up_ne _ _ ?_).trans ?_) <;> assumption) | (refine (va_up_ne _ _ ?_).trans ((va_up_ne _ _ ?_).trans (va_up_self _ _ _)) <;> assumption) | (refine (va_up_ne _ _ ?_).trans ((va_up_ne _ _ ?_).trans ((va_up_ne _ _ ?_).trans ?_)) <;> assumption) | (refine (va_up_ne _ _ ?_).trans ((va_up_ne _ _ ?_).trans ((va_up_ne _ _ ?_).trans (va_up_self _ _ _))) <;> assumption) | (refine (va_up_ne _ _ ?_).trans ((va_up_ne _ _ ?_).trans ((va_up_ne _ _ ?_).trans ((va_up_ne _ _ ?_).trans ?_))) <;> assumption) | (refine (va_up_ne _ _ ?_).trans ((va_up_ne _ _ ?_).trans ((va_up_ne _ _ ?_).trans ((va_up_ne _ _ ?_).trans (va_up_self _ _ _)))) <;> assumption)) (fun _ => rfl) (fun _ => rfl) ?_
  try rw [va_uu]
  rw [oPast_1]
  refine m_aload_n dX2_giveBack_29 rfl ?_
  refine m_dup dX2_giveBack_30 rfl ?_
  refine m_getfield dX2_giveBack_31 fl_X2_20 (by first | assumption | rfl | exact va_up_self _ _ _ | (refine (va_up_ne _ _ ?_).trans ?_ <;> assumption) | (refine (va_up_ne _ _ ?_).trans (va_up_self _ _ _) <;> assumption) | (refine (va_up_ne _ _ ?_).trans ((va_up_ne _ _ ?_).trans ?_) <;> assumption) | (refine (va_up_ne _ _ ?_).trans ((va_up_ne _ _ ?_).trans (va_up_self _ _ _)) <;> assumption) | (refine (va_up_ne _ _ ?_).trans ((va_up_ne _ _ ?_).trans ((va_up_ne _ _ ?_).trans ?_)) <;> assumption) | (refine (va_up_ne _ _ ?_).trans ((va_up_ne _ _ ?_).trans ((va_up_ne _ _ ?_).trans (va_up_self _ _ _))) <;> assumption) | (refine (va_up_ne _ _ ?_).trans ((va_up_ne _ _ ?_).trans ((va_up_ne _ _ ?_).trans ((va_up_ne _ _ ?_).trans ?_))) <;> assumption) | (refine (va_up_ne _ _ ?_).trans ((va_up_ne _ _ ?_).trans ((va_up_ne _ _ ?_).trans ((va_up_ne _ _ ?_).trans (va_up_self _ _ _)))) <;> assumption)) (by first | assumption | rfl | exact va_up_self _ _ _ | (refine (va_up_ne _ _ ?_).trans ?_ <;> assumption) | (refine (va_up_ne _ _ ?_).trans (va_up_self _ _ _) <;> assumption) | (refine (va_up_ne _ _ ?_).trans ((va_up_ne _ _ ?_).trans ?_) <;> assumption) | (refine (va_up_ne _ _ ?_).trans ((va_up_ne _ _ ?_).trans (va_up_self _ _ _)) <;> assumption) | (refine (va_up_ne _ _ ?_).trans ((va_up_ne _ _ ?_).trans ((va_up_ne _ _ ?_).trans ?_)) <;> assumption) | (refine (va_up_ne _ _ ?_).trans ((va_up_ne _ _ ?_).trans ((va_up_ne _ _ ?_).trans (va_up_self _ _ _))) <;> assumption) | (refine (va_up_ne _ _ ?_).trans ((va_up_ne _ _ ?_).trans ((va_up_ne _ _ ?_).trans ((va_up_ne _ _ ?_).trans ?_))) <;> assumption) | (refine (va_up_ne _ _ ?_).trans ((va_up_ne _ _ ?_).trans ((va_up_ne _ _ ?_).trans ((va_up_ne _ _ ?_).trans (va_up_self _ _ _)))) <;> assumption)) ?_
  show mW _ _ _ _ _ _ _ _ (.int _ :: _)
  refine m_iconst (v := 1) dX2_giveBack_34 (by decide) ?_
  refine m_isub dX2_giveBack_35 ?_
  refine m_putfield dX2_giveBack_36 fl_X2_20 (by first | assumption | rfl | exact va_up_self _ _ _ | (refine (va_up_ne _ _ ?_).trans ?_ <;> assumption) | (refine (va_up_ne _ _ ?_).trans (va_up_self _ _ _) <;> assumption) | (refine (va_up_ne _ _ ?_).trans ((va_up_ne _ _ ?_).trans ?_) <;> assumption) | (refine (va_up_ne _ _ ?_).trans ((va_up_ne _ _ ?_).trans (va_up_self _ _ _)) <;> assumption) | (refine (va_up_ne _ _ ?_).trans ((va_up_ne _ _ ?_).trans ((va_up_ne _ _ ?_).trans ?_)) <;> assumption) | (refine (va_up_ne _ _ ?_).trans ((va_up_ne _ _ ?_).trans ((va_up_ne _ _ ?_).trans (va_up_self _ _ _))) <;> assumption) | (refine (va_up_ne _ _ ?_).trans ((va_up_ne _ _ ?_).trans ((va_up_ne _ _ ?_).trans ((va_up_ne _ _ ?_).trans ?_))) <;> assumption) | (refine (va_up_ne _ _ ?_).trans ((va_up_ne _ _ ?_).trans ((va_up_ne _ _ ?_).trans ((va_up_ne _ _ ?_).trans (va_up_self _ _ _)))) <;> assumption)) (fun _ => rfl) (fun _ => rfl) ?_
  try rw [va_uu]
  rw [oPast_2]
  exact m_return hF dX2_giveBack_39 rfl rfl rfl ⟨rfl, rfl⟩

/-- six settings of one past become those of another -/
def sixCp (hp : mHp) (b : Nat) (G Dr : Nat → Int32) (PP QQ : Nat → Nat → Int32) : Nat → mHp
  | 0 => hp
  | i + 1 => sixUp (sixCp hp b G Dr PP QQ i) b i (G i) (Dr i) (va_cpy (PP i) (QQ i) 0 0 10)
theorem sixCp_out {hp : mHp} {b : Nat} {G Dr : Nat → Int32} {PP QQ : Nat → Nat → Int32} {z : Nat} : ∀ i : Nat, i ≤ 6 → (z < b ∨ b + 12 ≤ z) → sixCp hp b G Dr PP QQ i z = hp z
  | 0, _, _ => rfl
  | i + 1, hi, h => by
    unfold sixCp sixUp
    rw [va_up_ne _ _ (by omega), va_up_ne _ _ (by omega)]
    exact sixCp_out i (by omega) h
theorem sixCp_at {hp : mHp} {b : Nat} {G Dr : Nat → Int32} {PP QQ : Nat → Nat → Int32} {j : Nat} : ∀ i : Nat, j < i → sixCp hp b G Dr PP QQ i (b + 2 * j) = eO 3 (oSet (b + 2 * j + 1) (G j) (Dr j)) ∧ sixCp hp b G Dr PP QQ i (b + 2 * j + 1) = eI 10 (va_cpy (PP j) (QQ j) 0 0 10)
  | 0, h => absurd h (by omega)
  | i + 1, h => by
    unfold sixCp sixUp
    by_cases e : j = i
    · subst e
      simp [va_up]
    · rw [va_up_ne _ _ (by omega), va_up_ne _ _ (by omega), va_up_ne _ _ (by omega), va_up_ne _ _ (by omega)]
      exact sixCp_at i (by omega)
theorem sixCp_ge {hp : mHp} {b : Nat} {G Dr : Nat → Int32} {PP QQ : Nat → Nat → Int32} {j : Nat} : ∀ i : Nat, i ≤ j → sixCp hp b G Dr PP QQ i (b + 2 * j) = hp (b + 2 * j) ∧ sixCp hp b G Dr PP QQ i (b + 2 * j + 1) = hp (b + 2 * j + 1)
  | 0, _ => ⟨rfl, rfl⟩
  | i + 1, h => by
    unfold sixCp sixUp
    rw [va_up_ne _ _ (by omega), va_up_ne _ _ (by omega), va_up_ne _ _ (by omega), va_up_ne _ _ (by omega)]
    exact sixCp_ge i (by omega)

set_option maxHeartbeats 4000000 in
set_option maxRecDepth 100000 in
theorem l_X2_become {n : Nat} {hp : mHp} {h q b h' q' b' : Nat} {w k w' k' : Int32} {G Dr G' Dr' : Nat → Int32} {PP QQ : Nat → Nat → Int32} (h1 : hp h = eO 2 (oPast q w k)) (h2 : hp q = eR tyS 6 (rSet b)) (h3 : sixAt hp b G Dr QQ) (h4 : hp h' = eO 2 (oPast q' w' k')) (h5 : hp q' = eR tyS 6 (rSet b')) (h6 : sixAt hp b' G' Dr' PP) (o1 : h < b ∨ b + 12 ≤ h) (o2 : q < b ∨ b + 12 ≤ q) (o3 : h' < b ∨ b + 12 ≤ h') (o4 : q' < b ∨ b + 12 ≤ q') (o5 : b' + 12 ≤ b ∨ b + 12 ≤ b') (o6 : h ≠ h') {K : mK} (hF : mFin K D_X2_become n (rV (va_up (sixCp hp b G' Dr' PP QQ 6) h (eO 2 (oPast q w' k'))))) : ∀ m i : Nat, i ≤ 6 → 7 ≤ i + m → mW K D_X2_become 0 0 n (sixCp hp b G' Dr' PP QQ i) 2 [.ref h, .ref h', .int (nI i)] [] := by
  intro m
  induction m with
  | zero =>
    intro i hi6 him
    exact absurd hi6 (by omega)
  | succ m ih =>
    intro i hi6 him
    have c1 : sixCp hp b G' Dr' PP QQ i h = eO 2 (oPast q w k) := (sixCp_out i hi6 o1).trans h1
    have c2 : sixCp hp b G' Dr' PP QQ i q = eR tyS 6 (rSet b) := (sixCp_out i hi6 o2).trans h2
    have c4 : sixCp hp b G' Dr' PP QQ i h' = eO 2 (oPast q' w' k') := (sixCp_out i hi6 o3).trans h4
    have c5 : sixCp hp b G' Dr' PP QQ i q' = eR tyS 6 (rSet b') := (sixCp_out i hi6 o4).trans h5
    refine m_iload_n dX2_become_2 rfl ?_
    refine m_bipush (v := 6) dX2_become_3 (by decide) ?_
    refine m_icmp_ge (t := 29) dX2_become_5 (by decide) (fun c5_0 => ?_) (fun c5_0 => ?_)
    · have hi : i = 6 := by
        rcases Nat.lt_or_ge i 6 with z | z
        · exact absurd c5_0 (nI_ge (b := 6) z (by decide))
        · omega
      subst hi
      have o7 := o6.symm
      refine m_aload_n dX2_become_29 rfl ?_
      refine m_aload_n dX2_become_30 rfl ?_
      refine m_getfield dX2_become_31 fl_X2_16 (by first | assumption | rfl | exact va_up_self _ _ _ | (refine (va_up_ne _ _ ?_).trans ?_ <;> assumption) | (refine (va_up_ne _ _ ?_).trans (va_up_self _ _ _) <;> assumption)) (by first | assumption | rfl | exact va_up_self _ _ _ | (refine (va_up_ne _ _ ?_).trans ?_ <;> assumption) | (refine (va_up_ne _ _ ?_).trans (va_up_self _ _ _) <;> assumption)) ?_
      show mW _ _ _ _ _ _ _ _ (.int _ :: _)
      refine m_putfield dX2_become_34 fl_X2_16 (by first | assumption | rfl | exact va_up_self _ _ _ | (refine (va_up_ne _ _ ?_).trans ?_ <;> assumption) | (refine (va_up_ne _ _ ?_).trans (va_up_self _ _ _) <;> assumption)) (fun _ => rfl) (fun _ => rfl) ?_
      try rw [va_uu]
      rw [oPast_1]
      refine m_aload_n dX2_become_37 rfl ?_
      refine m_aload_n dX2_become_38 rfl ?_
      refine m_getfield dX2_become_39 fl_X2_20 (by first | assumption | rfl | exact va_up_self _ _ _ | (refine (va_up_ne _ _ ?_).trans ?_ <;> assumption) | (refine (va_up_ne _ _ ?_).trans (va_up_self _ _ _) <;> assumption)) (by first | assumption | rfl | exact va_up_self _ _ _ | (refine (va_up_ne _ _ ?_).trans ?_ <;> assumption) | (refine (va_up_ne _ _ ?_).trans (va_up_self _ _ _) <;> assumption)) ?_
      show mW _ _ _ _ _ _ _ _ (.int _ :: _)
      refine m_putfield dX2_become_42 fl_X2_20 (by first | assumption | rfl | exact va_up_self _ _ _ | (refine (va_up_ne _ _ ?_).trans ?_ <;> assumption) | (refine (va_up_ne _ _ ?_).trans (va_up_self _ _ _) <;> assumption)) (fun _ => rfl) (fun _ => rfl) ?_
      try rw [va_uu]
      rw [oPast_2]
      exact m_return hF dX2_become_45 rfl rfl rfl ⟨rfl, rfl⟩
    have hi : i < 6 := by
      rcases Nat.lt_or_ge i 6 with z | z
      · exact z
      · exact absurd (nI_le (a := 6) z (by omega)) c5_0
    obtain ⟨f1, f2⟩ := sixCp_ge (hp := hp) (b := b) (G := G') (Dr := Dr') (PP := PP) (QQ := QQ) (j := i) i (Nat.le_refl i)
    rw [(h3 i hi).1] at f1
    rw [(h3 i hi).2] at f2
    have f3 : sixCp hp b G' Dr' PP QQ i (b' + 2 * i) = eO 3 (oSet (b' + 2 * i + 1) (G' i) (Dr' i)) := (sixCp_out i hi6 (by omega)).trans (h6 i hi).1
    have f4 : sixCp hp b G' Dr' PP QQ i (b' + 2 * i + 1) = eI 10 (PP i) := (sixCp_out i hi6 (by omega)).trans (h6 i hi).2
    have f5 : b + 2 * i ≠ b' + 2 * i := by omega
    refine m_aload_n dX2_become_8 rfl ?_
    refine m_getfield dX2_become_9 fl_X2_11 (by first | assumption | rfl | exact va_up_self _ _ _ | (refine (va_up_ne _ _ ?_).trans ?_ <;> assumption) | (refine (va_up_ne _ _ ?_).trans (va_up_self _ _ _) <;> assumption)) (by first | assumption | rfl | exact va_up_self _ _ _ | (refine (va_up_ne _ _ ?_).trans ?_ <;> assumption) | (refine (va_up_ne _ _ ?_).trans (va_up_self _ _ _) <;> assumption)) ?_
    show mW _ _ _ _ _ _ _ _ (.ref _ :: _)
    refine m_iload_n dX2_become_12 rfl ?_
    refine m_aaload dX2_become_13 (by first | assumption | rfl | exact va_up_self _ _ _ | (refine (va_up_ne _ _ ?_).trans ?_ <;> assumption) | (refine (va_up_ne _ _ ?_).trans (va_up_self _ _ _) <;> assumption)) (mIx_lit hi (by decide)) (rSet_at hi) ?_
    refine m_aload_n dX2_become_14 rfl ?_
    refine m_getfield dX2_become_15 fl_X2_11 (by first | assumption | rfl | exact va_up_self _ _ _ | (refine (va_up_ne _ _ ?_).trans ?_ <;> assumption) | (refine (va_up_ne _ _ ?_).trans (va_up_self _ _ _) <;> assumption)) (by first | assumption | rfl | exact va_up_self _ _ _ | (refine (va_up_ne _ _ ?_).trans ?_ <;> assumption) | (refine (va_up_ne _ _ ?_).trans (va_up_self _ _ _) <;> assumption)) ?_
    show mW _ _ _ _ _ _ _ _ (.ref _ :: _)
    refine m_iload_n dX2_become_18 rfl ?_
    refine m_aaload dX2_become_19 (by first | assumption | rfl | exact va_up_self _ _ _ | (refine (va_up_ne _ _ ?_).trans ?_ <;> assumption) | (refine (va_up_ne _ _ ?_).trans (va_up_self _ _ _) <;> assumption)) (mIx_lit hi (by decide)) (rSet_at hi) ?_
    refine m_invV_V dX2_become_20 lk_X2_23 ar_X3_become (ci := 3) rfl rfl (by first | assumption | rfl | exact va_up_self _ _ _ | (refine (va_up_ne _ _ ?_).trans ?_ <;> assumption) | (refine (va_up_ne _ _ ?_).trans (va_up_self _ _ _) <;> assumption)) (t_X3_become (by first | assumption | rfl | exact va_up_self _ _ _ | (refine (va_up_ne _ _ ?_).trans ?_ <;> assumption) | (refine (va_up_ne _ _ ?_).trans (va_up_self _ _ _) <;> assumption)) (by first | assumption | rfl | exact va_up_self _ _ _ | (refine (va_up_ne _ _ ?_).trans ?_ <;> assumption) | (refine (va_up_ne _ _ ?_).trans (va_up_self _ _ _) <;> assumption)) (by first | assumption | rfl | exact va_up_self _ _ _ | (refine (va_up_ne _ _ ?_).trans ?_ <;> assumption) | (refine (va_up_ne _ _ ?_).trans (va_up_self _ _ _) <;> assumption)) (by first | assumption | rfl | exact va_up_self _ _ _ | (refine (va_up_ne _ _ ?_).trans ?_ <;> assumption) | (refine (va_up_ne _ _ ?_).trans (va_up_self _ _ _) <;> assumption)) (by first | assumption | rfl | exact va_up_self _ _ _ | (refine (va_up_ne _ _ ?_).trans ?_ <;> assumption) | (refine (va_up_ne _ _ ?_).trans (va_up_self _ _ _) <;> assumption))) rfl (Nat.le_of_ble_eq_true rfl) (by decide) (by decide) (by decide) (by decide) rfl rfl ?_
    try rw [va_uu]
    refine m_iinc (v := nI (i + 1)) dX2_become_23 rfl (nI_1 i) (by decide) ?_
    show mW _ _ _ _ _ _ 26 [_, _, _] _
    refine m_goto (t := 2) dX2_become_26 (by decide) ?_
    exact ih (i + 1) (by omega) (by omega)

theorem t_X2_become {n : Nat} {hp : mHp} {h q b h' q' b' : Nat} {w k w' k' : Int32} {G Dr G' Dr' : Nat → Int32} {PP QQ : Nat → Nat → Int32} (h1 : hp h = eO 2 (oPast q w k)) (h2 : hp q = eR tyS 6 (rSet b)) (h3 : sixAt hp b G Dr QQ) (h4 : hp h' = eO 2 (oPast q' w' k')) (h5 : hp q' = eR tyS 6 (rSet b')) (h6 : sixAt hp b' G' Dr' PP) (o1 : h < b ∨ b + 12 ≤ h) (o2 : q < b ∨ b + 12 ≤ q) (o3 : h' < b ∨ b + 12 ≤ h') (o4 : q' < b ∨ b + 12 ≤ q') (o5 : b' + 12 ≤ b ∨ b + 12 ≤ b') (o6 : h ≠ h') : mC D_X2_become [.ref h, .ref h'] n hp (rV (va_up (sixCp hp b G' Dr' PP QQ 6) h (eO 2 (oPast q w' k')))) := by
  refine m_enter rfl rfl (Nat.le_of_ble_eq_true rfl) (fun K hF => ?_)
  show mW K _ 0 0 _ _ 0 [.ref h, .ref h', .retAddr 0] []
  refine m_iconst (v := 0) dX2_become_0 (by decide) ?_
  refine m_istore_n dX2_become_1 (by decide) ?_
  show mW _ _ _ _ _ _ 2 [_, _, _] _
  exact l_X2_become h1 h2 h3 h4 h5 h6 o1 o2 o3 o4 o5 o6 hF 7 0 (by omega) (by omega)

