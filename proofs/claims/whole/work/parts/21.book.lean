/-! ===== SpanBook ===== -/
def eqP (A B : Nat → Int32) : Nat → Nat → Int32
  | 0, _ => 1
  | r + 1, k => if A k = B k then eqP A B r (k + 1) else 0
/-- what a gain does to the spans told so far -/
abbrev SpS : Type := (Nat → Int32) × (Nat → Int32) × Nat
def addG (S : SpS) (v : Int32) : SpS :=
  if nI S.2.2 ≤ 0 then (if 32 ≤ nI S.2.2 then S else (va_up S.1 S.2.2 v, va_up S.2.1 S.2.2 v, S.2.2 + 1))
  else if S.2.1 (S.2.2 - 1) = v - 1 then (S.1, va_up S.2.1 (S.2.2 - 1) v, S.2.2)
  else (if 32 ≤ nI S.2.2 then S else (va_up S.1 S.2.2 v, va_up S.2.1 S.2.2 v, S.2.2 + 1))
theorem addG_le {S : SpS} (v : Int32) (h : S.2.2 ≤ 32) : (addG S v).2.2 ≤ 32 := by
  unfold addG
  have a : ¬ 32 ≤ nI S.2.2 → S.2.2 + 1 ≤ 32 := fun q => by have := nI_cmp (b := 32) (by decide) (by omega) q; omega
  split
  · split
    · exact h
    · exact a (by assumption)
  · split
    · exact h
    · split
      · exact h
      · exact a (by assumption)
def oBk54 (md sz sg : Int32) : Nat → Value := fun k => match k with
  | 0 => .int 0
  | 1 => .ref 55
  | 2 => .ref 56
  | 3 => .ref 57
  | 4 => .ref 58
  | 5 => .ref 59
  | 6 => .int md
  | 7 => .int sz
  | 8 => .int sg
  | _ => .null
theorem oBk54_6 (md sz sg : Int32) (x9 : Int32) : va_up (oBk54 md sz sg) 6 (.int x9) = oBk54 x9 sz sg := by
  funext k
  match k with
  | 0 => rfl
  | 1 => rfl
  | 2 => rfl
  | 3 => rfl
  | 4 => rfl
  | 5 => rfl
  | 6 => rfl
  | 7 => rfl
  | 8 => rfl
  | k + 9 => simp [va_up, oBk54]
theorem oBk54_7 (md sz sg : Int32) (x9 : Int32) : va_up (oBk54 md sz sg) 7 (.int x9) = oBk54 md x9 sg := by
  funext k
  match k with
  | 0 => rfl
  | 1 => rfl
  | 2 => rfl
  | 3 => rfl
  | 4 => rfl
  | 5 => rfl
  | 6 => rfl
  | 7 => rfl
  | 8 => rfl
  | k + 9 => simp [va_up, oBk54]
theorem oBk54_8 (md sz sg : Int32) (x9 : Int32) : va_up (oBk54 md sz sg) 8 (.int x9) = oBk54 md sz x9 := by
  funext k
  match k with
  | 0 => rfl
  | 1 => rfl
  | 2 => rfl
  | 3 => rfl
  | 4 => rfl
  | 5 => rfl
  | 6 => rfl
  | 7 => rfl
  | 8 => rfl
  | k + 9 => simp [va_up, oBk54]
theorem t_X5_widthOf_54 {n : Nat} {hp : mHp} {LE GR : Nat → Int32} {md sz sg : Int32} {k : Nat} (h0 : hp 54 = eO 5 (oBk54 (md) (sz) (sg))) (h3 : hp 57 = eI 32 LE) (h4 : hp 58 = eI 32 GR) (hk : k < 32) : mC D_X5_widthOf [.ref 54, .int (nI k)] n hp (rI (GR k - LE k) hp) := by
  refine m_enter rfl rfl (Nat.le_of_ble_eq_true rfl) (fun K hF => ?_)
  show mW K _ 0 0 _ _ 0 [.ref 54, .int (nI k)] []
  refine m_aload_n dX5_widthOf_0 rfl ?_
  refine m_getfield dX5_widthOf_1 fl_X5_26 (by first | assumption | rfl) (by first | assumption | rfl) ?_
  show mW _ _ _ _ _ _ _ _ (.ref _ :: _)
  refine m_iload_n dX5_widthOf_4 rfl ?_
  refine m_iaload dX5_widthOf_5 (by first | assumption | rfl) (mIx_lit hk (by decide)) ?_
  refine m_aload_n dX5_widthOf_6 rfl ?_
  refine m_getfield dX5_widthOf_7 fl_X5_23 (by first | assumption | rfl) (by first | assumption | rfl) ?_
  show mW _ _ _ _ _ _ _ _ (.ref _ :: _)
  refine m_iload_n dX5_widthOf_10 rfl ?_
  refine m_iaload dX5_widthOf_11 (by first | assumption | rfl) (mIx_lit hk (by decide)) ?_
  refine m_isub dX5_widthOf_12 ?_
  exact m_ireturn hF dX5_widthOf_13 rfl rfl rfl ⟨rfl, rfl⟩

theorem t_X5_endOf_54_0 {n : Nat} {hp : mHp} {LE GR : Nat → Int32} {md sz sg : Int32} {k : Nat} (h0 : hp 54 = eO 5 (oBk54 (md) (sz) (sg))) (h3 : hp 57 = eI 32 LE) (h4 : hp 58 = eI 32 GR) (hk : k < 32) : mC D_X5_endOf [.ref 54, .int (nI k), .int 0] n hp (rI (LE k + 800) hp) := by
  refine m_enter rfl rfl (Nat.le_of_ble_eq_true rfl) (fun K hF => ?_)
  show mW K _ 0 0 _ _ 0 [.ref 54, .int (nI k), .int 0] []
  refine m_iload_n dX5_endOf_0 rfl ?_
  refine m_if_ne (t := 13) dX5_endOf_1 (by decide) (fun q => absurd rfl q) (fun _ => ?_)
  refine m_aload_n dX5_endOf_4 rfl ?_
  refine m_getfield dX5_endOf_5 fl_X5_23 (by first | assumption | rfl) (by first | assumption | rfl) ?_
  show mW _ _ _ _ _ _ _ _ (.ref _ :: _)
  refine m_iload_n dX5_endOf_8 rfl ?_
  refine m_iaload dX5_endOf_9 (by first | assumption | rfl) (mIx_lit hk (by decide)) ?_
  refine m_goto (t := 19) dX5_endOf_10 (by decide) ?_
  refine m_sipush (v := 800) dX5_endOf_19 (by decide) ?_
  refine m_iadd dX5_endOf_22 ?_
  exact m_ireturn hF dX5_endOf_23 rfl rfl rfl ⟨rfl, rfl⟩

theorem t_X5_endOf_54_1 {n : Nat} {hp : mHp} {LE GR : Nat → Int32} {md sz sg : Int32} {k : Nat} (h0 : hp 54 = eO 5 (oBk54 (md) (sz) (sg))) (h3 : hp 57 = eI 32 LE) (h4 : hp 58 = eI 32 GR) (hk : k < 32) : mC D_X5_endOf [.ref 54, .int (nI k), .int 1] n hp (rI (GR k + 800) hp) := by
  refine m_enter rfl rfl (Nat.le_of_ble_eq_true rfl) (fun K hF => ?_)
  show mW K _ 0 0 _ _ 0 [.ref 54, .int (nI k), .int 1] []
  refine m_iload_n dX5_endOf_0 rfl ?_
  refine m_if_ne (t := 13) dX5_endOf_1 (by decide) (fun _ => ?_) (fun q => absurd q (by decide))
  refine m_aload_n dX5_endOf_13 rfl ?_
  refine m_getfield dX5_endOf_14 fl_X5_26 (by first | assumption | rfl) (by first | assumption | rfl) ?_
  show mW _ _ _ _ _ _ _ _ (.ref _ :: _)
  refine m_iload_n dX5_endOf_17 rfl ?_
  refine m_iaload dX5_endOf_18 (by first | assumption | rfl) (mIx_lit hk (by decide)) ?_
  refine m_sipush (v := 800) dX5_endOf_19 (by decide) ?_
  refine m_iadd dX5_endOf_22 ?_
  exact m_ireturn hF dX5_endOf_23 rfl rfl rfl ⟨rfl, rfl⟩

set_option maxHeartbeats 4000000 in
set_option maxRecDepth 100000 in
theorem t_X5_isOf_54 {n : Nat} {hp : mHp} {A P : Nat → Int32} {md sz sg g d : Int32} {a q : Nat} (h0 : hp 54 = eO 5 (oBk54 (md) (sz) (sg))) (h1 : hp 55 = eI 10 A) (ha : hp a = eO 3 (oSet q g d)) (hq : hp q = eI 10 P) : mC D_X5_isOf [.ref 54, .ref a] n hp (rI (eqP A P 10 0) hp) := by
  refine m_enter rfl rfl (Nat.le_of_ble_eq_true rfl) (fun K hF => ?_)
  show mW K _ 0 0 _ _ 0 [.ref 54, .ref a, .retAddr 0] []
  refine m_iconst (v := 0) dX5_isOf_0 (by decide) ?_
  refine m_istore_n dX5_isOf_1 (by decide) ?_
  show mW _ _ _ _ _ _ 2 [_, _, _] _
  refine m_iload_n dX5_isOf_2 rfl ?_
  refine m_bipush (v := 10) dX5_isOf_3 (by decide) ?_
  refine m_icmp_ge (t := 31) dX5_isOf_5 (by decide) (fun q => absurd q (by decide)) (fun _ => ?_)
  refine m_aload_n dX5_isOf_8 rfl ?_
  refine m_getfield dX5_isOf_9 fl_X5_15 (by first | assumption | rfl) (by first | assumption | rfl) ?_
  show mW _ _ _ _ _ _ _ _ (.ref _ :: _)
  refine m_iload_n dX5_isOf_12 rfl ?_
  refine m_iaload (k := 0) dX5_isOf_13 (by first | assumption | rfl) ⟨by decide, by decide⟩ ?_
  refine m_aload_n dX5_isOf_14 rfl ?_
  refine m_getfield dX5_isOf_15 fl_X5_46 (by first | assumption | rfl) (by first | assumption | rfl) ?_
  show mW _ _ _ _ _ _ _ _ (.ref _ :: _)
  refine m_iload_n dX5_isOf_18 rfl ?_
  refine m_iaload (k := 0) dX5_isOf_19 (by first | assumption | rfl) ⟨by decide, by decide⟩ ?_
  refine m_icmp_eq (t := 25) dX5_isOf_20 (by decide) (fun c20 => ?_) (fun c20 => ?_)
  rotate_left
  · refine m_iconst (v := 0) dX5_isOf_23 (by decide) ?_
    exact m_zreturn hF dX5_isOf_24 rfl rfl rfl rfl ⟨by simp only [eqP, if_neg c20], rfl⟩
  refine m_iinc (v := 1) dX5_isOf_25 rfl (by decide) (by decide) ?_
  show mW _ _ _ _ _ _ 28 [_, _, _] _
  refine m_goto (t := 2) dX5_isOf_28 (by decide) ?_
  refine m_iload_n dX5_isOf_2 rfl ?_
  refine m_bipush (v := 10) dX5_isOf_3 (by decide) ?_
  refine m_icmp_ge (t := 31) dX5_isOf_5 (by decide) (fun q => absurd q (by decide)) (fun _ => ?_)
  refine m_aload_n dX5_isOf_8 rfl ?_
  refine m_getfield dX5_isOf_9 fl_X5_15 (by first | assumption | rfl) (by first | assumption | rfl) ?_
  show mW _ _ _ _ _ _ _ _ (.ref _ :: _)
  refine m_iload_n dX5_isOf_12 rfl ?_
  refine m_iaload (k := 1) dX5_isOf_13 (by first | assumption | rfl) ⟨by decide, by decide⟩ ?_
  refine m_aload_n dX5_isOf_14 rfl ?_
  refine m_getfield dX5_isOf_15 fl_X5_46 (by first | assumption | rfl) (by first | assumption | rfl) ?_
  show mW _ _ _ _ _ _ _ _ (.ref _ :: _)
  refine m_iload_n dX5_isOf_18 rfl ?_
  refine m_iaload (k := 1) dX5_isOf_19 (by first | assumption | rfl) ⟨by decide, by decide⟩ ?_
  refine m_icmp_eq (t := 25) dX5_isOf_20 (by decide) (fun c20_1 => ?_) (fun c20_1 => ?_)
  rotate_left
  · refine m_iconst (v := 0) dX5_isOf_23 (by decide) ?_
    exact m_zreturn hF dX5_isOf_24 rfl rfl rfl rfl ⟨by simp only [eqP, if_pos c20, if_neg c20_1], rfl⟩
  refine m_iinc (v := 2) dX5_isOf_25 rfl (by decide) (by decide) ?_
  show mW _ _ _ _ _ _ 28 [_, _, _] _
  refine m_goto (t := 2) dX5_isOf_28 (by decide) ?_
  refine m_iload_n dX5_isOf_2 rfl ?_
  refine m_bipush (v := 10) dX5_isOf_3 (by decide) ?_
  refine m_icmp_ge (t := 31) dX5_isOf_5 (by decide) (fun q => absurd q (by decide)) (fun _ => ?_)
  refine m_aload_n dX5_isOf_8 rfl ?_
  refine m_getfield dX5_isOf_9 fl_X5_15 (by first | assumption | rfl) (by first | assumption | rfl) ?_
  show mW _ _ _ _ _ _ _ _ (.ref _ :: _)
  refine m_iload_n dX5_isOf_12 rfl ?_
  refine m_iaload (k := 2) dX5_isOf_13 (by first | assumption | rfl) ⟨by decide, by decide⟩ ?_
  refine m_aload_n dX5_isOf_14 rfl ?_
  refine m_getfield dX5_isOf_15 fl_X5_46 (by first | assumption | rfl) (by first | assumption | rfl) ?_
  show mW _ _ _ _ _ _ _ _ (.ref _ :: _)
  refine m_iload_n dX5_isOf_18 rfl ?_
  refine m_iaload (k := 2) dX5_isOf_19 (by first | assumption | rfl) ⟨by decide, by decide⟩ ?_
  refine m_icmp_eq (t := 25) dX5_isOf_20 (by decide) (fun c20_2 => ?_) (fun c20_2 => ?_)
  rotate_left
  · refine m_iconst (v := 0) dX5_isOf_23 (by decide) ?_
    exact m_zreturn hF dX5_isOf_24 rfl rfl rfl rfl ⟨by simp only [eqP, if_pos c20, if_pos c20_1, if_neg c20_2], rfl⟩
  refine m_iinc (v := 3) dX5_isOf_25 rfl (by decide) (by decide) ?_
  show mW _ _ _ _ _ _ 28 [_, _, _] _
  refine m_goto (t := 2) dX5_isOf_28 (by decide) ?_
  refine m_iload_n dX5_isOf_2 rfl ?_
  refine m_bipush (v := 10) dX5_isOf_3 (by decide) ?_
  refine m_icmp_ge (t := 31) dX5_isOf_5 (by decide) (fun q => absurd q (by decide)) (fun _ => ?_)
  refine m_aload_n dX5_isOf_8 rfl ?_
  refine m_getfield dX5_isOf_9 fl_X5_15 (by first | assumption | rfl) (by first | assumption | rfl) ?_
  show mW _ _ _ _ _ _ _ _ (.ref _ :: _)
  refine m_iload_n dX5_isOf_12 rfl ?_
  refine m_iaload (k := 3) dX5_isOf_13 (by first | assumption | rfl) ⟨by decide, by decide⟩ ?_
  refine m_aload_n dX5_isOf_14 rfl ?_
  refine m_getfield dX5_isOf_15 fl_X5_46 (by first | assumption | rfl) (by first | assumption | rfl) ?_
  show mW _ _ _ _ _ _ _ _ (.ref _ :: _)
  refine m_iload_n dX5_isOf_18 rfl ?_
  refine m_iaload (k := 3) dX5_isOf_19 (by first | assumption | rfl) ⟨by decide, by decide⟩ ?_
  refine m_icmp_eq (t := 25) dX5_isOf_20 (by decide) (fun c20_3 => ?_) (fun c20_3 => ?_)
  rotate_left
  · refine m_iconst (v := 0) dX5_isOf_23 (by decide) ?_
    exact m_zreturn hF dX5_isOf_24 rfl rfl rfl rfl ⟨by simp only [eqP, if_pos c20, if_pos c20_1, if_pos c20_2, if_neg c20_3], rfl⟩
  refine m_iinc (v := 4) dX5_isOf_25 rfl (by decide) (by decide) ?_
  show mW _ _ _ _ _ _ 28 [_, _, _] _
  refine m_goto (t := 2) dX5_isOf_28 (by decide) ?_
  refine m_iload_n dX5_isOf_2 rfl ?_
  refine m_bipush (v := 10) dX5_isOf_3 (by decide) ?_
  refine m_icmp_ge (t := 31) dX5_isOf_5 (by decide) (fun q => absurd q (by decide)) (fun _ => ?_)
  refine m_aload_n dX5_isOf_8 rfl ?_
  refine m_getfield dX5_isOf_9 fl_X5_15 (by first | assumption | rfl) (by first | assumption | rfl) ?_
  show mW _ _ _ _ _ _ _ _ (.ref _ :: _)
  refine m_iload_n dX5_isOf_12 rfl ?_
  refine m_iaload (k := 4) dX5_isOf_13 (by first | assumption | rfl) ⟨by decide, by decide⟩ ?_
  refine m_aload_n dX5_isOf_14 rfl ?_
  refine m_getfield dX5_isOf_15 fl_X5_46 (by first | assumption | rfl) (by first | assumption | rfl) ?_
  show mW _ _ _ _ _ _ _ _ (.ref _ :: _)
  refine m_iload_n dX5_isOf_18 rfl ?_
  refine m_iaload (k := 4) dX5_isOf_19 (by first | assumption | rfl) ⟨by decide, by decide⟩ ?_
  refine m_icmp_eq (t := 25) dX5_isOf_20 (by decide) (fun c20_4 => ?_) (fun c20_4 => ?_)
  rotate_left
  · refine m_iconst (v := 0) dX5_isOf_23 (by decide) ?_
    exact m_zreturn hF dX5_isOf_24 rfl rfl rfl rfl ⟨by simp only [eqP, if_pos c20, if_pos c20_1, if_pos c20_2, if_pos c20_3, if_neg c20_4], rfl⟩
  refine m_iinc (v := 5) dX5_isOf_25 rfl (by decide) (by decide) ?_
  show mW _ _ _ _ _ _ 28 [_, _, _] _
  refine m_goto (t := 2) dX5_isOf_28 (by decide) ?_
  refine m_iload_n dX5_isOf_2 rfl ?_
  refine m_bipush (v := 10) dX5_isOf_3 (by decide) ?_
  refine m_icmp_ge (t := 31) dX5_isOf_5 (by decide) (fun q => absurd q (by decide)) (fun _ => ?_)
  refine m_aload_n dX5_isOf_8 rfl ?_
  refine m_getfield dX5_isOf_9 fl_X5_15 (by first | assumption | rfl) (by first | assumption | rfl) ?_
  show mW _ _ _ _ _ _ _ _ (.ref _ :: _)
  refine m_iload_n dX5_isOf_12 rfl ?_
  refine m_iaload (k := 5) dX5_isOf_13 (by first | assumption | rfl) ⟨by decide, by decide⟩ ?_
  refine m_aload_n dX5_isOf_14 rfl ?_
  refine m_getfield dX5_isOf_15 fl_X5_46 (by first | assumption | rfl) (by first | assumption | rfl) ?_
  show mW _ _ _ _ _ _ _ _ (.ref _ :: _)
  refine m_iload_n dX5_isOf_18 rfl ?_
  refine m_iaload (k := 5) dX5_isOf_19 (by first | assumption | rfl) ⟨by decide, by decide⟩ ?_
  refine m_icmp_eq (t := 25) dX5_isOf_20 (by decide) (fun c20_5 => ?_) (fun c20_5 => ?_)
  rotate_left
  · refine m_iconst (v := 0) dX5_isOf_23 (by decide) ?_
    exact m_zreturn hF dX5_isOf_24 rfl rfl rfl rfl ⟨by simp only [eqP, if_pos c20, if_pos c20_1, if_pos c20_2, if_pos c20_3, if_pos c20_4, if_neg c20_5], rfl⟩
  refine m_iinc (v := 6) dX5_isOf_25 rfl (by decide) (by decide) ?_
  show mW _ _ _ _ _ _ 28 [_, _, _] _
  refine m_goto (t := 2) dX5_isOf_28 (by decide) ?_
  refine m_iload_n dX5_isOf_2 rfl ?_
  refine m_bipush (v := 10) dX5_isOf_3 (by decide) ?_
  refine m_icmp_ge (t := 31) dX5_isOf_5 (by decide) (fun q => absurd q (by decide)) (fun _ => ?_)
  refine m_aload_n dX5_isOf_8 rfl ?_
  refine m_getfield dX5_isOf_9 fl_X5_15 (by first | assumption | rfl) (by first | assumption | rfl) ?_
  show mW _ _ _ _ _ _ _ _ (.ref _ :: _)
  refine m_iload_n dX5_isOf_12 rfl ?_
  refine m_iaload (k := 6) dX5_isOf_13 (by first | assumption | rfl) ⟨by decide, by decide⟩ ?_
  refine m_aload_n dX5_isOf_14 rfl ?_
  refine m_getfield dX5_isOf_15 fl_X5_46 (by first | assumption | rfl) (by first | assumption | rfl) ?_
  show mW _ _ _ _ _ _ _ _ (.ref _ :: _)
  refine m_iload_n dX5_isOf_18 rfl ?_
  refine m_iaload (k := 6) dX5_isOf_19 (by first | assumption | rfl) ⟨by decide, by decide⟩ ?_
  refine m_icmp_eq (t := 25) dX5_isOf_20 (by decide) (fun c20_6 => ?_) (fun c20_6 => ?_)
  rotate_left
  · refine m_iconst (v := 0) dX5_isOf_23 (by decide) ?_
    exact m_zreturn hF dX5_isOf_24 rfl rfl rfl rfl ⟨by simp only [eqP, if_pos c20, if_pos c20_1, if_pos c20_2, if_pos c20_3, if_pos c20_4, if_pos c20_5, if_neg c20_6], rfl⟩
  refine m_iinc (v := 7) dX5_isOf_25 rfl (by decide) (by decide) ?_
  show mW _ _ _ _ _ _ 28 [_, _, _] _
  refine m_goto (t := 2) dX5_isOf_28 (by decide) ?_
  refine m_iload_n dX5_isOf_2 rfl ?_
  refine m_bipush (v := 10) dX5_isOf_3 (by decide) ?_
  refine m_icmp_ge (t := 31) dX5_isOf_5 (by decide) (fun q => absurd q (by decide)) (fun _ => ?_)
  refine m_aload_n dX5_isOf_8 rfl ?_
  refine m_getfield dX5_isOf_9 fl_X5_15 (by first | assumption | rfl) (by first | assumption | rfl) ?_
  show mW _ _ _ _ _ _ _ _ (.ref _ :: _)
  refine m_iload_n dX5_isOf_12 rfl ?_
  refine m_iaload (k := 7) dX5_isOf_13 (by first | assumption | rfl) ⟨by decide, by decide⟩ ?_
  refine m_aload_n dX5_isOf_14 rfl ?_
  refine m_getfield dX5_isOf_15 fl_X5_46 (by first | assumption | rfl) (by first | assumption | rfl) ?_
  show mW _ _ _ _ _ _ _ _ (.ref _ :: _)
  refine m_iload_n dX5_isOf_18 rfl ?_
  refine m_iaload (k := 7) dX5_isOf_19 (by first | assumption | rfl) ⟨by decide, by decide⟩ ?_
  refine m_icmp_eq (t := 25) dX5_isOf_20 (by decide) (fun c20_7 => ?_) (fun c20_7 => ?_)
  rotate_left
  · refine m_iconst (v := 0) dX5_isOf_23 (by decide) ?_
    exact m_zreturn hF dX5_isOf_24 rfl rfl rfl rfl ⟨by simp only [eqP, if_pos c20, if_pos c20_1, if_pos c20_2, if_pos c20_3, if_pos c20_4, if_pos c20_5, if_pos c20_6, if_neg c20_7], rfl⟩
  refine m_iinc (v := 8) dX5_isOf_25 rfl (by decide) (by decide) ?_
  show mW _ _ _ _ _ _ 28 [_, _, _] _
  refine m_goto (t := 2) dX5_isOf_28 (by decide) ?_
  refine m_iload_n dX5_isOf_2 rfl ?_
  refine m_bipush (v := 10) dX5_isOf_3 (by decide) ?_
  refine m_icmp_ge (t := 31) dX5_isOf_5 (by decide) (fun q => absurd q (by decide)) (fun _ => ?_)
  refine m_aload_n dX5_isOf_8 rfl ?_
  refine m_getfield dX5_isOf_9 fl_X5_15 (by first | assumption | rfl) (by first | assumption | rfl) ?_
  show mW _ _ _ _ _ _ _ _ (.ref _ :: _)
  refine m_iload_n dX5_isOf_12 rfl ?_
  refine m_iaload (k := 8) dX5_isOf_13 (by first | assumption | rfl) ⟨by decide, by decide⟩ ?_
  refine m_aload_n dX5_isOf_14 rfl ?_
  refine m_getfield dX5_isOf_15 fl_X5_46 (by first | assumption | rfl) (by first | assumption | rfl) ?_
  show mW _ _ _ _ _ _ _ _ (.ref _ :: _)
  refine m_iload_n dX5_isOf_18 rfl ?_
  refine m_iaload (k := 8) dX5_isOf_19 (by first | assumption | rfl) ⟨by decide, by decide⟩ ?_
  refine m_icmp_eq (t := 25) dX5_isOf_20 (by decide) (fun c20_8 => ?_) (fun c20_8 => ?_)
  rotate_left
  · refine m_iconst (v := 0) dX5_isOf_23 (by decide) ?_
    exact m_zreturn hF dX5_isOf_24 rfl rfl rfl rfl ⟨by simp only [eqP, if_pos c20, if_pos c20_1, if_pos c20_2, if_pos c20_3, if_pos c20_4, if_pos c20_5, if_pos c20_6, if_pos c20_7, if_neg c20_8], rfl⟩
  refine m_iinc (v := 9) dX5_isOf_25 rfl (by decide) (by decide) ?_
  show mW _ _ _ _ _ _ 28 [_, _, _] _
  refine m_goto (t := 2) dX5_isOf_28 (by decide) ?_
  refine m_iload_n dX5_isOf_2 rfl ?_
  refine m_bipush (v := 10) dX5_isOf_3 (by decide) ?_
  refine m_icmp_ge (t := 31) dX5_isOf_5 (by decide) (fun q => absurd q (by decide)) (fun _ => ?_)
  refine m_aload_n dX5_isOf_8 rfl ?_
  refine m_getfield dX5_isOf_9 fl_X5_15 (by first | assumption | rfl) (by first | assumption | rfl) ?_
  show mW _ _ _ _ _ _ _ _ (.ref _ :: _)
  refine m_iload_n dX5_isOf_12 rfl ?_
  refine m_iaload (k := 9) dX5_isOf_13 (by first | assumption | rfl) ⟨by decide, by decide⟩ ?_
  refine m_aload_n dX5_isOf_14 rfl ?_
  refine m_getfield dX5_isOf_15 fl_X5_46 (by first | assumption | rfl) (by first | assumption | rfl) ?_
  show mW _ _ _ _ _ _ _ _ (.ref _ :: _)
  refine m_iload_n dX5_isOf_18 rfl ?_
  refine m_iaload (k := 9) dX5_isOf_19 (by first | assumption | rfl) ⟨by decide, by decide⟩ ?_
  refine m_icmp_eq (t := 25) dX5_isOf_20 (by decide) (fun c20_9 => ?_) (fun c20_9 => ?_)
  rotate_left
  · refine m_iconst (v := 0) dX5_isOf_23 (by decide) ?_
    exact m_zreturn hF dX5_isOf_24 rfl rfl rfl rfl ⟨by simp only [eqP, if_pos c20, if_pos c20_1, if_pos c20_2, if_pos c20_3, if_pos c20_4, if_pos c20_5, if_pos c20_6, if_pos c20_7, if_pos c20_8, if_neg c20_9], rfl⟩
  refine m_iinc (v := 10) dX5_isOf_25 rfl (by decide) (by decide) ?_
  show mW _ _ _ _ _ _ 28 [_, _, _] _
  refine m_goto (t := 2) dX5_isOf_28 (by decide) ?_
  refine m_iload_n dX5_isOf_2 rfl ?_
  refine m_bipush (v := 10) dX5_isOf_3 (by decide) ?_
  refine m_icmp_ge (t := 31) dX5_isOf_5 (by decide) (fun _ => ?_) (fun q => absurd (by decide) q)
  refine m_iconst (v := 1) dX5_isOf_31 (by decide) ?_
  exact m_zreturn hF dX5_isOf_32 rfl rfl rfl rfl ⟨by simp only [eqP, if_pos c20, if_pos c20_1, if_pos c20_2, if_pos c20_3, if_pos c20_4, if_pos c20_5, if_pos c20_6, if_pos c20_7, if_pos c20_8, if_pos c20_9], rfl⟩

set_option maxHeartbeats 4000000 in
set_option maxRecDepth 100000 in
theorem t_X5_addGain_54 {n : Nat} {hp : mHp} {LE GR : Nat → Int32} {md sg v : Int32} {s : Nat} (h0 : hp 54 = eO 5 (oBk54 (md) (nI s) (sg))) (h3 : hp 57 = eI 32 LE) (h4 : hp 58 = eI 32 GR) (hs32 : s ≤ 32) : mC D_X5_addGain [.ref 54, .int v] n hp (rV (va_up (va_up (va_up hp 57 (eI 32 (addG (LE, GR, s) v).1)) 58 (eI 32 (addG (LE, GR, s) v).2.1)) 54 (eO 5 (oBk54 (md) (nI (addG (LE, GR, s) v).2.2) (sg))))) := by
  refine m_enter rfl rfl (Nat.le_of_ble_eq_true rfl) (fun K hF => ?_)
  show mW K _ 0 0 _ _ 0 [.ref 54, .int v] []
  refine m_aload_n dX5_addGain_0 rfl ?_
  refine m_getfield dX5_addGain_1 fl_X5_36 (by first | assumption | rfl) (by first | assumption | rfl) ?_
  show mW _ _ _ _ _ _ _ _ (.int _ :: _)
  refine m_if_le (t := 39) dX5_addGain_4 (by decide) (fun c4 => ?_) (fun c4 => ?_)
  · refine m_aload_n dX5_addGain_39 rfl ?_
    refine m_getfield dX5_addGain_40 fl_X5_36 (by first | assumption | rfl) (by first | assumption | rfl) ?_
    show mW _ _ _ _ _ _ _ _ (.int _ :: _)
    refine m_bipush (v := 32) dX5_addGain_43 (by decide) ?_
    refine m_icmp_ge (t := 78) dX5_addGain_45 (by decide) (fun c45 => ?_) (fun c45 => ?_)
    · exact m_return hF dX5_addGain_78 rfl rfl rfl ⟨rfl, by unfold addG; dsimp only; simp only [if_pos c4, if_pos c45] <;> funext q <;> by_cases q0 : q = 54 <;> by_cases q3 : q = 57 <;> by_cases q4 : q = 58 <;> simp [va_up, q0, q3, q4, h0, h3, h4]⟩
    have hs2 : s < 32 := nI_cmp (b := 32) (by decide) (by omega) c45
    refine m_aload_n dX5_addGain_48 rfl ?_
    refine m_getfield dX5_addGain_49 fl_X5_23 (by first | assumption | rfl) (by first | assumption | rfl) ?_
    show mW _ _ _ _ _ _ _ _ (.ref _ :: _)
    refine m_aload_n dX5_addGain_52 rfl ?_
    refine m_getfield dX5_addGain_53 fl_X5_36 (by first | assumption | rfl) (by first | assumption | rfl) ?_
    show mW _ _ _ _ _ _ _ _ (.int _ :: _)
    refine m_iload_n dX5_addGain_56 rfl ?_
    refine m_iastore dX5_addGain_57 (by first | assumption | rfl) (mIx_lit hs2 (by decide)) ?_
    try rw [va_uu]
    refine m_aload_n dX5_addGain_58 rfl ?_
    refine m_getfield dX5_addGain_59 fl_X5_26 (by first | assumption | rfl) (by first | assumption | rfl) ?_
    show mW _ _ _ _ _ _ _ _ (.ref _ :: _)
    refine m_aload_n dX5_addGain_62 rfl ?_
    refine m_getfield dX5_addGain_63 fl_X5_36 (by first | assumption | rfl) (by first | assumption | rfl) ?_
    show mW _ _ _ _ _ _ _ _ (.int _ :: _)
    refine m_iload_n dX5_addGain_66 rfl ?_
    refine m_iastore dX5_addGain_67 (by first | assumption | rfl) (mIx_lit hs2 (by decide)) ?_
    try rw [va_uu]
    refine m_aload_n dX5_addGain_68 rfl ?_
    refine m_dup dX5_addGain_69 rfl ?_
    refine m_getfield dX5_addGain_70 fl_X5_36 (by first | assumption | rfl) (by first | assumption | rfl) ?_
    show mW _ _ _ _ _ _ _ _ (.int _ :: _)
    refine m_iconst (v := 1) dX5_addGain_73 (by decide) ?_
    refine m_iadd dX5_addGain_74 ?_
    refine m_ci (v := nI (s + 1)) (nI_1 s) ?_
    refine m_putfield dX5_addGain_75 fl_X5_36 (by first | assumption | rfl) (fun _ => rfl) (fun _ => rfl) ?_
    try rw [va_uu]
    rw [oBk54_7]
    exact m_return hF dX5_addGain_78 rfl rfl rfl ⟨rfl, by unfold addG; dsimp only; simp only [if_pos c4, if_neg c45] <;> funext q <;> by_cases q0 : q = 54 <;> by_cases q3 : q = 57 <;> by_cases q4 : q = 58 <;> simp [va_up, q0, q3, q4, h0, h3, h4]⟩
  have hs : 1 ≤ s := by
    rcases Nat.eq_zero_or_pos s with q | q
    · subst q
      exact absurd (by decide) c4
    · exact q
  have hs1 : s - 1 < 32 := by omega
  refine m_aload_n dX5_addGain_7 rfl ?_
  refine m_getfield dX5_addGain_8 fl_X5_26 (by first | assumption | rfl) (by first | assumption | rfl) ?_
  show mW _ _ _ _ _ _ _ _ (.ref _ :: _)
  refine m_aload_n dX5_addGain_11 rfl ?_
  refine m_getfield dX5_addGain_12 fl_X5_36 (by first | assumption | rfl) (by first | assumption | rfl) ?_
  show mW _ _ _ _ _ _ _ _ (.int _ :: _)
  refine m_iconst (v := 1) dX5_addGain_15 (by decide) ?_
  refine m_isub dX5_addGain_16 ?_
  refine m_ci (v := nI (s - 1)) (nI_subN (b := 1) hs) ?_
  refine m_iaload dX5_addGain_17 (by first | assumption | rfl) (mIx_lit hs1 (by decide)) ?_
  refine m_iload_n dX5_addGain_18 rfl ?_
  refine m_iconst (v := 1) dX5_addGain_19 (by decide) ?_
  refine m_isub dX5_addGain_20 ?_
  refine m_icmp_ne (t := 39) dX5_addGain_21 (by decide) (fun c21 => ?_) (fun c21 => ?_)
  rotate_left
  · refine m_aload_n dX5_addGain_24 rfl ?_
    refine m_getfield dX5_addGain_25 fl_X5_26 (by first | assumption | rfl) (by first | assumption | rfl) ?_
    show mW _ _ _ _ _ _ _ _ (.ref _ :: _)
    refine m_aload_n dX5_addGain_28 rfl ?_
    refine m_getfield dX5_addGain_29 fl_X5_36 (by first | assumption | rfl) (by first | assumption | rfl) ?_
    show mW _ _ _ _ _ _ _ _ (.int _ :: _)
    refine m_iconst (v := 1) dX5_addGain_32 (by decide) ?_
    refine m_isub dX5_addGain_33 ?_
    refine m_ci (v := nI (s - 1)) (nI_subN (b := 1) hs) ?_
    refine m_iload_n dX5_addGain_34 rfl ?_
    refine m_iastore dX5_addGain_35 (by first | assumption | rfl) (mIx_lit hs1 (by decide)) ?_
    try rw [va_uu]
    refine m_goto (t := 78) dX5_addGain_36 (by decide) ?_
    exact m_return hF dX5_addGain_78 rfl rfl rfl ⟨rfl, by unfold addG; dsimp only; simp only [if_neg c4, if_pos c21] <;> funext q <;> by_cases q0 : q = 54 <;> by_cases q3 : q = 57 <;> by_cases q4 : q = 58 <;> simp [va_up, q0, q3, q4, h0, h3, h4]⟩
  refine m_aload_n dX5_addGain_39 rfl ?_
  refine m_getfield dX5_addGain_40 fl_X5_36 (by first | assumption | rfl) (by first | assumption | rfl) ?_
  show mW _ _ _ _ _ _ _ _ (.int _ :: _)
  refine m_bipush (v := 32) dX5_addGain_43 (by decide) ?_
  refine m_icmp_ge (t := 78) dX5_addGain_45 (by decide) (fun c45 => ?_) (fun c45 => ?_)
  · exact m_return hF dX5_addGain_78 rfl rfl rfl ⟨rfl, by unfold addG; dsimp only; simp only [if_neg c4, if_neg c21, if_pos c45] <;> funext q <;> by_cases q0 : q = 54 <;> by_cases q3 : q = 57 <;> by_cases q4 : q = 58 <;> simp [va_up, q0, q3, q4, h0, h3, h4]⟩
  have hs2 : s < 32 := nI_cmp (b := 32) (by decide) (by omega) c45
  refine m_aload_n dX5_addGain_48 rfl ?_
  refine m_getfield dX5_addGain_49 fl_X5_23 (by first | assumption | rfl) (by first | assumption | rfl) ?_
  show mW _ _ _ _ _ _ _ _ (.ref _ :: _)
  refine m_aload_n dX5_addGain_52 rfl ?_
  refine m_getfield dX5_addGain_53 fl_X5_36 (by first | assumption | rfl) (by first | assumption | rfl) ?_
  show mW _ _ _ _ _ _ _ _ (.int _ :: _)
  refine m_iload_n dX5_addGain_56 rfl ?_
  refine m_iastore dX5_addGain_57 (by first | assumption | rfl) (mIx_lit hs2 (by decide)) ?_
  try rw [va_uu]
  refine m_aload_n dX5_addGain_58 rfl ?_
  refine m_getfield dX5_addGain_59 fl_X5_26 (by first | assumption | rfl) (by first | assumption | rfl) ?_
  show mW _ _ _ _ _ _ _ _ (.ref _ :: _)
  refine m_aload_n dX5_addGain_62 rfl ?_
  refine m_getfield dX5_addGain_63 fl_X5_36 (by first | assumption | rfl) (by first | assumption | rfl) ?_
  show mW _ _ _ _ _ _ _ _ (.int _ :: _)
  refine m_iload_n dX5_addGain_66 rfl ?_
  refine m_iastore dX5_addGain_67 (by first | assumption | rfl) (mIx_lit hs2 (by decide)) ?_
  try rw [va_uu]
  refine m_aload_n dX5_addGain_68 rfl ?_
  refine m_dup dX5_addGain_69 rfl ?_
  refine m_getfield dX5_addGain_70 fl_X5_36 (by first | assumption | rfl) (by first | assumption | rfl) ?_
  show mW _ _ _ _ _ _ _ _ (.int _ :: _)
  refine m_iconst (v := 1) dX5_addGain_73 (by decide) ?_
  refine m_iadd dX5_addGain_74 ?_
  refine m_ci (v := nI (s + 1)) (nI_1 s) ?_
  refine m_putfield dX5_addGain_75 fl_X5_36 (by first | assumption | rfl) (fun _ => rfl) (fun _ => rfl) ?_
  try rw [va_uu]
  rw [oBk54_7]
  exact m_return hF dX5_addGain_78 rfl rfl rfl ⟨rfl, by unfold addG; dsimp only; simp only [if_neg c4, if_neg c21, if_neg c45] <;> funext q <;> by_cases q0 : q = 54 <;> by_cases q3 : q = 57 <;> by_cases q4 : q = 58 <;> simp [va_up, q0, q3, q4, h0, h3, h4]⟩
def oBk60 (md sz sg : Int32) : Nat → Value := fun k => match k with
  | 0 => .int 1
  | 1 => .ref 61
  | 2 => .ref 62
  | 3 => .ref 63
  | 4 => .ref 64
  | 5 => .ref 65
  | 6 => .int md
  | 7 => .int sz
  | 8 => .int sg
  | _ => .null
theorem oBk60_6 (md sz sg : Int32) (x9 : Int32) : va_up (oBk60 md sz sg) 6 (.int x9) = oBk60 x9 sz sg := by
  funext k
  match k with
  | 0 => rfl
  | 1 => rfl
  | 2 => rfl
  | 3 => rfl
  | 4 => rfl
  | 5 => rfl
  | 6 => rfl
  | 7 => rfl
  | 8 => rfl
  | k + 9 => simp [va_up, oBk60]
theorem oBk60_7 (md sz sg : Int32) (x9 : Int32) : va_up (oBk60 md sz sg) 7 (.int x9) = oBk60 md x9 sg := by
  funext k
  match k with
  | 0 => rfl
  | 1 => rfl
  | 2 => rfl
  | 3 => rfl
  | 4 => rfl
  | 5 => rfl
  | 6 => rfl
  | 7 => rfl
  | 8 => rfl
  | k + 9 => simp [va_up, oBk60]
theorem oBk60_8 (md sz sg : Int32) (x9 : Int32) : va_up (oBk60 md sz sg) 8 (.int x9) = oBk60 md sz x9 := by
  funext k
  match k with
  | 0 => rfl
  | 1 => rfl
  | 2 => rfl
  | 3 => rfl
  | 4 => rfl
  | 5 => rfl
  | 6 => rfl
  | 7 => rfl
  | 8 => rfl
  | k + 9 => simp [va_up, oBk60]
theorem t_X5_widthOf_60 {n : Nat} {hp : mHp} {LE GR : Nat → Int32} {md sz sg : Int32} {k : Nat} (h0 : hp 60 = eO 5 (oBk60 (md) (sz) (sg))) (h3 : hp 63 = eI 32 LE) (h4 : hp 64 = eI 32 GR) (hk : k < 32) : mC D_X5_widthOf [.ref 60, .int (nI k)] n hp (rI (GR k - LE k) hp) := by
  refine m_enter rfl rfl (Nat.le_of_ble_eq_true rfl) (fun K hF => ?_)
  show mW K _ 0 0 _ _ 0 [.ref 60, .int (nI k)] []
  refine m_aload_n dX5_widthOf_0 rfl ?_
  refine m_getfield dX5_widthOf_1 fl_X5_26 (by first | assumption | rfl) (by first | assumption | rfl) ?_
  show mW _ _ _ _ _ _ _ _ (.ref _ :: _)
  refine m_iload_n dX5_widthOf_4 rfl ?_
  refine m_iaload dX5_widthOf_5 (by first | assumption | rfl) (mIx_lit hk (by decide)) ?_
  refine m_aload_n dX5_widthOf_6 rfl ?_
  refine m_getfield dX5_widthOf_7 fl_X5_23 (by first | assumption | rfl) (by first | assumption | rfl) ?_
  show mW _ _ _ _ _ _ _ _ (.ref _ :: _)
  refine m_iload_n dX5_widthOf_10 rfl ?_
  refine m_iaload dX5_widthOf_11 (by first | assumption | rfl) (mIx_lit hk (by decide)) ?_
  refine m_isub dX5_widthOf_12 ?_
  exact m_ireturn hF dX5_widthOf_13 rfl rfl rfl ⟨rfl, rfl⟩

theorem t_X5_endOf_60_0 {n : Nat} {hp : mHp} {LE GR : Nat → Int32} {md sz sg : Int32} {k : Nat} (h0 : hp 60 = eO 5 (oBk60 (md) (sz) (sg))) (h3 : hp 63 = eI 32 LE) (h4 : hp 64 = eI 32 GR) (hk : k < 32) : mC D_X5_endOf [.ref 60, .int (nI k), .int 0] n hp (rI (LE k + 800) hp) := by
  refine m_enter rfl rfl (Nat.le_of_ble_eq_true rfl) (fun K hF => ?_)
  show mW K _ 0 0 _ _ 0 [.ref 60, .int (nI k), .int 0] []
  refine m_iload_n dX5_endOf_0 rfl ?_
  refine m_if_ne (t := 13) dX5_endOf_1 (by decide) (fun q => absurd rfl q) (fun _ => ?_)
  refine m_aload_n dX5_endOf_4 rfl ?_
  refine m_getfield dX5_endOf_5 fl_X5_23 (by first | assumption | rfl) (by first | assumption | rfl) ?_
  show mW _ _ _ _ _ _ _ _ (.ref _ :: _)
  refine m_iload_n dX5_endOf_8 rfl ?_
  refine m_iaload dX5_endOf_9 (by first | assumption | rfl) (mIx_lit hk (by decide)) ?_
  refine m_goto (t := 19) dX5_endOf_10 (by decide) ?_
  refine m_sipush (v := 800) dX5_endOf_19 (by decide) ?_
  refine m_iadd dX5_endOf_22 ?_
  exact m_ireturn hF dX5_endOf_23 rfl rfl rfl ⟨rfl, rfl⟩

theorem t_X5_endOf_60_1 {n : Nat} {hp : mHp} {LE GR : Nat → Int32} {md sz sg : Int32} {k : Nat} (h0 : hp 60 = eO 5 (oBk60 (md) (sz) (sg))) (h3 : hp 63 = eI 32 LE) (h4 : hp 64 = eI 32 GR) (hk : k < 32) : mC D_X5_endOf [.ref 60, .int (nI k), .int 1] n hp (rI (GR k + 800) hp) := by
  refine m_enter rfl rfl (Nat.le_of_ble_eq_true rfl) (fun K hF => ?_)
  show mW K _ 0 0 _ _ 0 [.ref 60, .int (nI k), .int 1] []
  refine m_iload_n dX5_endOf_0 rfl ?_
  refine m_if_ne (t := 13) dX5_endOf_1 (by decide) (fun _ => ?_) (fun q => absurd q (by decide))
  refine m_aload_n dX5_endOf_13 rfl ?_
  refine m_getfield dX5_endOf_14 fl_X5_26 (by first | assumption | rfl) (by first | assumption | rfl) ?_
  show mW _ _ _ _ _ _ _ _ (.ref _ :: _)
  refine m_iload_n dX5_endOf_17 rfl ?_
  refine m_iaload dX5_endOf_18 (by first | assumption | rfl) (mIx_lit hk (by decide)) ?_
  refine m_sipush (v := 800) dX5_endOf_19 (by decide) ?_
  refine m_iadd dX5_endOf_22 ?_
  exact m_ireturn hF dX5_endOf_23 rfl rfl rfl ⟨rfl, rfl⟩

set_option maxHeartbeats 4000000 in
set_option maxRecDepth 100000 in
theorem t_X5_isOf_60 {n : Nat} {hp : mHp} {A P : Nat → Int32} {md sz sg g d : Int32} {a q : Nat} (h0 : hp 60 = eO 5 (oBk60 (md) (sz) (sg))) (h1 : hp 61 = eI 10 A) (ha : hp a = eO 3 (oSet q g d)) (hq : hp q = eI 10 P) : mC D_X5_isOf [.ref 60, .ref a] n hp (rI (eqP A P 10 0) hp) := by
  refine m_enter rfl rfl (Nat.le_of_ble_eq_true rfl) (fun K hF => ?_)
  show mW K _ 0 0 _ _ 0 [.ref 60, .ref a, .retAddr 0] []
  refine m_iconst (v := 0) dX5_isOf_0 (by decide) ?_
  refine m_istore_n dX5_isOf_1 (by decide) ?_
  show mW _ _ _ _ _ _ 2 [_, _, _] _
  refine m_iload_n dX5_isOf_2 rfl ?_
  refine m_bipush (v := 10) dX5_isOf_3 (by decide) ?_
  refine m_icmp_ge (t := 31) dX5_isOf_5 (by decide) (fun q => absurd q (by decide)) (fun _ => ?_)
  refine m_aload_n dX5_isOf_8 rfl ?_
  refine m_getfield dX5_isOf_9 fl_X5_15 (by first | assumption | rfl) (by first | assumption | rfl) ?_
  show mW _ _ _ _ _ _ _ _ (.ref _ :: _)
  refine m_iload_n dX5_isOf_12 rfl ?_
  refine m_iaload (k := 0) dX5_isOf_13 (by first | assumption | rfl) ⟨by decide, by decide⟩ ?_
  refine m_aload_n dX5_isOf_14 rfl ?_
  refine m_getfield dX5_isOf_15 fl_X5_46 (by first | assumption | rfl) (by first | assumption | rfl) ?_
  show mW _ _ _ _ _ _ _ _ (.ref _ :: _)
  refine m_iload_n dX5_isOf_18 rfl ?_
  refine m_iaload (k := 0) dX5_isOf_19 (by first | assumption | rfl) ⟨by decide, by decide⟩ ?_
  refine m_icmp_eq (t := 25) dX5_isOf_20 (by decide) (fun c20 => ?_) (fun c20 => ?_)
  rotate_left
  · refine m_iconst (v := 0) dX5_isOf_23 (by decide) ?_
    exact m_zreturn hF dX5_isOf_24 rfl rfl rfl rfl ⟨by simp only [eqP, if_neg c20], rfl⟩
  refine m_iinc (v := 1) dX5_isOf_25 rfl (by decide) (by decide) ?_
  show mW _ _ _ _ _ _ 28 [_, _, _] _
  refine m_goto (t := 2) dX5_isOf_28 (by decide) ?_
  refine m_iload_n dX5_isOf_2 rfl ?_
  refine m_bipush (v := 10) dX5_isOf_3 (by decide) ?_
  refine m_icmp_ge (t := 31) dX5_isOf_5 (by decide) (fun q => absurd q (by decide)) (fun _ => ?_)
  refine m_aload_n dX5_isOf_8 rfl ?_
  refine m_getfield dX5_isOf_9 fl_X5_15 (by first | assumption | rfl) (by first | assumption | rfl) ?_
  show mW _ _ _ _ _ _ _ _ (.ref _ :: _)
  refine m_iload_n dX5_isOf_12 rfl ?_
  refine m_iaload (k := 1) dX5_isOf_13 (by first | assumption | rfl) ⟨by decide, by decide⟩ ?_
  refine m_aload_n dX5_isOf_14 rfl ?_
  refine m_getfield dX5_isOf_15 fl_X5_46 (by first | assumption | rfl) (by first | assumption | rfl) ?_
  show mW _ _ _ _ _ _ _ _ (.ref _ :: _)
  refine m_iload_n dX5_isOf_18 rfl ?_
  refine m_iaload (k := 1) dX5_isOf_19 (by first | assumption | rfl) ⟨by decide, by decide⟩ ?_
  refine m_icmp_eq (t := 25) dX5_isOf_20 (by decide) (fun c20_1 => ?_) (fun c20_1 => ?_)
  rotate_left
  · refine m_iconst (v := 0) dX5_isOf_23 (by decide) ?_
    exact m_zreturn hF dX5_isOf_24 rfl rfl rfl rfl ⟨by simp only [eqP, if_pos c20, if_neg c20_1], rfl⟩
  refine m_iinc (v := 2) dX5_isOf_25 rfl (by decide) (by decide) ?_
  show mW _ _ _ _ _ _ 28 [_, _, _] _
  refine m_goto (t := 2) dX5_isOf_28 (by decide) ?_
  refine m_iload_n dX5_isOf_2 rfl ?_
  refine m_bipush (v := 10) dX5_isOf_3 (by decide) ?_
  refine m_icmp_ge (t := 31) dX5_isOf_5 (by decide) (fun q => absurd q (by decide)) (fun _ => ?_)
  refine m_aload_n dX5_isOf_8 rfl ?_
  refine m_getfield dX5_isOf_9 fl_X5_15 (by first | assumption | rfl) (by first | assumption | rfl) ?_
  show mW _ _ _ _ _ _ _ _ (.ref _ :: _)
  refine m_iload_n dX5_isOf_12 rfl ?_
  refine m_iaload (k := 2) dX5_isOf_13 (by first | assumption | rfl) ⟨by decide, by decide⟩ ?_
  refine m_aload_n dX5_isOf_14 rfl ?_
  refine m_getfield dX5_isOf_15 fl_X5_46 (by first | assumption | rfl) (by first | assumption | rfl) ?_
  show mW _ _ _ _ _ _ _ _ (.ref _ :: _)
  refine m_iload_n dX5_isOf_18 rfl ?_
  refine m_iaload (k := 2) dX5_isOf_19 (by first | assumption | rfl) ⟨by decide, by decide⟩ ?_
  refine m_icmp_eq (t := 25) dX5_isOf_20 (by decide) (fun c20_2 => ?_) (fun c20_2 => ?_)
  rotate_left
  · refine m_iconst (v := 0) dX5_isOf_23 (by decide) ?_
    exact m_zreturn hF dX5_isOf_24 rfl rfl rfl rfl ⟨by simp only [eqP, if_pos c20, if_pos c20_1, if_neg c20_2], rfl⟩
  refine m_iinc (v := 3) dX5_isOf_25 rfl (by decide) (by decide) ?_
  show mW _ _ _ _ _ _ 28 [_, _, _] _
  refine m_goto (t := 2) dX5_isOf_28 (by decide) ?_
  refine m_iload_n dX5_isOf_2 rfl ?_
  refine m_bipush (v := 10) dX5_isOf_3 (by decide) ?_
  refine m_icmp_ge (t := 31) dX5_isOf_5 (by decide) (fun q => absurd q (by decide)) (fun _ => ?_)
  refine m_aload_n dX5_isOf_8 rfl ?_
  refine m_getfield dX5_isOf_9 fl_X5_15 (by first | assumption | rfl) (by first | assumption | rfl) ?_
  show mW _ _ _ _ _ _ _ _ (.ref _ :: _)
  refine m_iload_n dX5_isOf_12 rfl ?_
  refine m_iaload (k := 3) dX5_isOf_13 (by first | assumption | rfl) ⟨by decide, by decide⟩ ?_
  refine m_aload_n dX5_isOf_14 rfl ?_
  refine m_getfield dX5_isOf_15 fl_X5_46 (by first | assumption | rfl) (by first | assumption | rfl) ?_
  show mW _ _ _ _ _ _ _ _ (.ref _ :: _)
  refine m_iload_n dX5_isOf_18 rfl ?_
  refine m_iaload (k := 3) dX5_isOf_19 (by first | assumption | rfl) ⟨by decide, by decide⟩ ?_
  refine m_icmp_eq (t := 25) dX5_isOf_20 (by decide) (fun c20_3 => ?_) (fun c20_3 => ?_)
  rotate_left
  · refine m_iconst (v := 0) dX5_isOf_23 (by decide) ?_
    exact m_zreturn hF dX5_isOf_24 rfl rfl rfl rfl ⟨by simp only [eqP, if_pos c20, if_pos c20_1, if_pos c20_2, if_neg c20_3], rfl⟩
  refine m_iinc (v := 4) dX5_isOf_25 rfl (by decide) (by decide) ?_
  show mW _ _ _ _ _ _ 28 [_, _, _] _
  refine m_goto (t := 2) dX5_isOf_28 (by decide) ?_
  refine m_iload_n dX5_isOf_2 rfl ?_
  refine m_bipush (v := 10) dX5_isOf_3 (by decide) ?_
  refine m_icmp_ge (t := 31) dX5_isOf_5 (by decide) (fun q => absurd q (by decide)) (fun _ => ?_)
  refine m_aload_n dX5_isOf_8 rfl ?_
  refine m_getfield dX5_isOf_9 fl_X5_15 (by first | assumption | rfl) (by first | assumption | rfl) ?_
  show mW _ _ _ _ _ _ _ _ (.ref _ :: _)
  refine m_iload_n dX5_isOf_12 rfl ?_
  refine m_iaload (k := 4) dX5_isOf_13 (by first | assumption | rfl) ⟨by decide, by decide⟩ ?_
  refine m_aload_n dX5_isOf_14 rfl ?_
  refine m_getfield dX5_isOf_15 fl_X5_46 (by first | assumption | rfl) (by first | assumption | rfl) ?_
  show mW _ _ _ _ _ _ _ _ (.ref _ :: _)
  refine m_iload_n dX5_isOf_18 rfl ?_
  refine m_iaload (k := 4) dX5_isOf_19 (by first | assumption | rfl) ⟨by decide, by decide⟩ ?_
  refine m_icmp_eq (t := 25) dX5_isOf_20 (by decide) (fun c20_4 => ?_) (fun c20_4 => ?_)
  rotate_left
  · refine m_iconst (v := 0) dX5_isOf_23 (by decide) ?_
    exact m_zreturn hF dX5_isOf_24 rfl rfl rfl rfl ⟨by simp only [eqP, if_pos c20, if_pos c20_1, if_pos c20_2, if_pos c20_3, if_neg c20_4], rfl⟩
  refine m_iinc (v := 5) dX5_isOf_25 rfl (by decide) (by decide) ?_
  show mW _ _ _ _ _ _ 28 [_, _, _] _
  refine m_goto (t := 2) dX5_isOf_28 (by decide) ?_
  refine m_iload_n dX5_isOf_2 rfl ?_
  refine m_bipush (v := 10) dX5_isOf_3 (by decide) ?_
  refine m_icmp_ge (t := 31) dX5_isOf_5 (by decide) (fun q => absurd q (by decide)) (fun _ => ?_)
  refine m_aload_n dX5_isOf_8 rfl ?_
  refine m_getfield dX5_isOf_9 fl_X5_15 (by first | assumption | rfl) (by first | assumption | rfl) ?_
  show mW _ _ _ _ _ _ _ _ (.ref _ :: _)
  refine m_iload_n dX5_isOf_12 rfl ?_
  refine m_iaload (k := 5) dX5_isOf_13 (by first | assumption | rfl) ⟨by decide, by decide⟩ ?_
  refine m_aload_n dX5_isOf_14 rfl ?_
  refine m_getfield dX5_isOf_15 fl_X5_46 (by first | assumption | rfl) (by first | assumption | rfl) ?_
  show mW _ _ _ _ _ _ _ _ (.ref _ :: _)
  refine m_iload_n dX5_isOf_18 rfl ?_
  refine m_iaload (k := 5) dX5_isOf_19 (by first | assumption | rfl) ⟨by decide, by decide⟩ ?_
  refine m_icmp_eq (t := 25) dX5_isOf_20 (by decide) (fun c20_5 => ?_) (fun c20_5 => ?_)
  rotate_left
  · refine m_iconst (v := 0) dX5_isOf_23 (by decide) ?_
    exact m_zreturn hF dX5_isOf_24 rfl rfl rfl rfl ⟨by simp only [eqP, if_pos c20, if_pos c20_1, if_pos c20_2, if_pos c20_3, if_pos c20_4, if_neg c20_5], rfl⟩
  refine m_iinc (v := 6) dX5_isOf_25 rfl (by decide) (by decide) ?_
  show mW _ _ _ _ _ _ 28 [_, _, _] _
  refine m_goto (t := 2) dX5_isOf_28 (by decide) ?_
  refine m_iload_n dX5_isOf_2 rfl ?_
  refine m_bipush (v := 10) dX5_isOf_3 (by decide) ?_
  refine m_icmp_ge (t := 31) dX5_isOf_5 (by decide) (fun q => absurd q (by decide)) (fun _ => ?_)
  refine m_aload_n dX5_isOf_8 rfl ?_
  refine m_getfield dX5_isOf_9 fl_X5_15 (by first | assumption | rfl) (by first | assumption | rfl) ?_
  show mW _ _ _ _ _ _ _ _ (.ref _ :: _)
  refine m_iload_n dX5_isOf_12 rfl ?_
  refine m_iaload (k := 6) dX5_isOf_13 (by first | assumption | rfl) ⟨by decide, by decide⟩ ?_
  refine m_aload_n dX5_isOf_14 rfl ?_
  refine m_getfield dX5_isOf_15 fl_X5_46 (by first | assumption | rfl) (by first | assumption | rfl) ?_
  show mW _ _ _ _ _ _ _ _ (.ref _ :: _)
  refine m_iload_n dX5_isOf_18 rfl ?_
  refine m_iaload (k := 6) dX5_isOf_19 (by first | assumption | rfl) ⟨by decide, by decide⟩ ?_
  refine m_icmp_eq (t := 25) dX5_isOf_20 (by decide) (fun c20_6 => ?_) (fun c20_6 => ?_)
  rotate_left
  · refine m_iconst (v := 0) dX5_isOf_23 (by decide) ?_
    exact m_zreturn hF dX5_isOf_24 rfl rfl rfl rfl ⟨by simp only [eqP, if_pos c20, if_pos c20_1, if_pos c20_2, if_pos c20_3, if_pos c20_4, if_pos c20_5, if_neg c20_6], rfl⟩
  refine m_iinc (v := 7) dX5_isOf_25 rfl (by decide) (by decide) ?_
  show mW _ _ _ _ _ _ 28 [_, _, _] _
  refine m_goto (t := 2) dX5_isOf_28 (by decide) ?_
  refine m_iload_n dX5_isOf_2 rfl ?_
  refine m_bipush (v := 10) dX5_isOf_3 (by decide) ?_
  refine m_icmp_ge (t := 31) dX5_isOf_5 (by decide) (fun q => absurd q (by decide)) (fun _ => ?_)
  refine m_aload_n dX5_isOf_8 rfl ?_
  refine m_getfield dX5_isOf_9 fl_X5_15 (by first | assumption | rfl) (by first | assumption | rfl) ?_
  show mW _ _ _ _ _ _ _ _ (.ref _ :: _)
  refine m_iload_n dX5_isOf_12 rfl ?_
  refine m_iaload (k := 7) dX5_isOf_13 (by first | assumption | rfl) ⟨by decide, by decide⟩ ?_
  refine m_aload_n dX5_isOf_14 rfl ?_
  refine m_getfield dX5_isOf_15 fl_X5_46 (by first | assumption | rfl) (by first | assumption | rfl) ?_
  show mW _ _ _ _ _ _ _ _ (.ref _ :: _)
  refine m_iload_n dX5_isOf_18 rfl ?_
  refine m_iaload (k := 7) dX5_isOf_19 (by first | assumption | rfl) ⟨by decide, by decide⟩ ?_
  refine m_icmp_eq (t := 25) dX5_isOf_20 (by decide) (fun c20_7 => ?_) (fun c20_7 => ?_)
  rotate_left
  · refine m_iconst (v := 0) dX5_isOf_23 (by decide) ?_
    exact m_zreturn hF dX5_isOf_24 rfl rfl rfl rfl ⟨by simp only [eqP, if_pos c20, if_pos c20_1, if_pos c20_2, if_pos c20_3, if_pos c20_4, if_pos c20_5, if_pos c20_6, if_neg c20_7], rfl⟩
  refine m_iinc (v := 8) dX5_isOf_25 rfl (by decide) (by decide) ?_
  show mW _ _ _ _ _ _ 28 [_, _, _] _
  refine m_goto (t := 2) dX5_isOf_28 (by decide) ?_
  refine m_iload_n dX5_isOf_2 rfl ?_
  refine m_bipush (v := 10) dX5_isOf_3 (by decide) ?_
  refine m_icmp_ge (t := 31) dX5_isOf_5 (by decide) (fun q => absurd q (by decide)) (fun _ => ?_)
  refine m_aload_n dX5_isOf_8 rfl ?_
  refine m_getfield dX5_isOf_9 fl_X5_15 (by first | assumption | rfl) (by first | assumption | rfl) ?_
  show mW _ _ _ _ _ _ _ _ (.ref _ :: _)
  refine m_iload_n dX5_isOf_12 rfl ?_
  refine m_iaload (k := 8) dX5_isOf_13 (by first | assumption | rfl) ⟨by decide, by decide⟩ ?_
  refine m_aload_n dX5_isOf_14 rfl ?_
  refine m_getfield dX5_isOf_15 fl_X5_46 (by first | assumption | rfl) (by first | assumption | rfl) ?_
  show mW _ _ _ _ _ _ _ _ (.ref _ :: _)
  refine m_iload_n dX5_isOf_18 rfl ?_
  refine m_iaload (k := 8) dX5_isOf_19 (by first | assumption | rfl) ⟨by decide, by decide⟩ ?_
  refine m_icmp_eq (t := 25) dX5_isOf_20 (by decide) (fun c20_8 => ?_) (fun c20_8 => ?_)
  rotate_left
  · refine m_iconst (v := 0) dX5_isOf_23 (by decide) ?_
    exact m_zreturn hF dX5_isOf_24 rfl rfl rfl rfl ⟨by simp only [eqP, if_pos c20, if_pos c20_1, if_pos c20_2, if_pos c20_3, if_pos c20_4, if_pos c20_5, if_pos c20_6, if_pos c20_7, if_neg c20_8], rfl⟩
  refine m_iinc (v := 9) dX5_isOf_25 rfl (by decide) (by decide) ?_
  show mW _ _ _ _ _ _ 28 [_, _, _] _
  refine m_goto (t := 2) dX5_isOf_28 (by decide) ?_
  refine m_iload_n dX5_isOf_2 rfl ?_
  refine m_bipush (v := 10) dX5_isOf_3 (by decide) ?_
  refine m_icmp_ge (t := 31) dX5_isOf_5 (by decide) (fun q => absurd q (by decide)) (fun _ => ?_)
  refine m_aload_n dX5_isOf_8 rfl ?_
  refine m_getfield dX5_isOf_9 fl_X5_15 (by first | assumption | rfl) (by first | assumption | rfl) ?_
  show mW _ _ _ _ _ _ _ _ (.ref _ :: _)
  refine m_iload_n dX5_isOf_12 rfl ?_
  refine m_iaload (k := 9) dX5_isOf_13 (by first | assumption | rfl) ⟨by decide, by decide⟩ ?_
  refine m_aload_n dX5_isOf_14 rfl ?_
  refine m_getfield dX5_isOf_15 fl_X5_46 (by first | assumption | rfl) (by first | assumption | rfl) ?_
  show mW _ _ _ _ _ _ _ _ (.ref _ :: _)
  refine m_iload_n dX5_isOf_18 rfl ?_
  refine m_iaload (k := 9) dX5_isOf_19 (by first | assumption | rfl) ⟨by decide, by decide⟩ ?_
  refine m_icmp_eq (t := 25) dX5_isOf_20 (by decide) (fun c20_9 => ?_) (fun c20_9 => ?_)
  rotate_left
  · refine m_iconst (v := 0) dX5_isOf_23 (by decide) ?_
    exact m_zreturn hF dX5_isOf_24 rfl rfl rfl rfl ⟨by simp only [eqP, if_pos c20, if_pos c20_1, if_pos c20_2, if_pos c20_3, if_pos c20_4, if_pos c20_5, if_pos c20_6, if_pos c20_7, if_pos c20_8, if_neg c20_9], rfl⟩
  refine m_iinc (v := 10) dX5_isOf_25 rfl (by decide) (by decide) ?_
  show mW _ _ _ _ _ _ 28 [_, _, _] _
  refine m_goto (t := 2) dX5_isOf_28 (by decide) ?_
  refine m_iload_n dX5_isOf_2 rfl ?_
  refine m_bipush (v := 10) dX5_isOf_3 (by decide) ?_
  refine m_icmp_ge (t := 31) dX5_isOf_5 (by decide) (fun _ => ?_) (fun q => absurd (by decide) q)
  refine m_iconst (v := 1) dX5_isOf_31 (by decide) ?_
  exact m_zreturn hF dX5_isOf_32 rfl rfl rfl rfl ⟨by simp only [eqP, if_pos c20, if_pos c20_1, if_pos c20_2, if_pos c20_3, if_pos c20_4, if_pos c20_5, if_pos c20_6, if_pos c20_7, if_pos c20_8, if_pos c20_9], rfl⟩

set_option maxHeartbeats 4000000 in
set_option maxRecDepth 100000 in
theorem t_X5_addGain_60 {n : Nat} {hp : mHp} {LE GR : Nat → Int32} {md sg v : Int32} {s : Nat} (h0 : hp 60 = eO 5 (oBk60 (md) (nI s) (sg))) (h3 : hp 63 = eI 32 LE) (h4 : hp 64 = eI 32 GR) (hs32 : s ≤ 32) : mC D_X5_addGain [.ref 60, .int v] n hp (rV (va_up (va_up (va_up hp 63 (eI 32 (addG (LE, GR, s) v).1)) 64 (eI 32 (addG (LE, GR, s) v).2.1)) 60 (eO 5 (oBk60 (md) (nI (addG (LE, GR, s) v).2.2) (sg))))) := by
  refine m_enter rfl rfl (Nat.le_of_ble_eq_true rfl) (fun K hF => ?_)
  show mW K _ 0 0 _ _ 0 [.ref 60, .int v] []
  refine m_aload_n dX5_addGain_0 rfl ?_
  refine m_getfield dX5_addGain_1 fl_X5_36 (by first | assumption | rfl) (by first | assumption | rfl) ?_
  show mW _ _ _ _ _ _ _ _ (.int _ :: _)
  refine m_if_le (t := 39) dX5_addGain_4 (by decide) (fun c4 => ?_) (fun c4 => ?_)
  · refine m_aload_n dX5_addGain_39 rfl ?_
    refine m_getfield dX5_addGain_40 fl_X5_36 (by first | assumption | rfl) (by first | assumption | rfl) ?_
    show mW _ _ _ _ _ _ _ _ (.int _ :: _)
    refine m_bipush (v := 32) dX5_addGain_43 (by decide) ?_
    refine m_icmp_ge (t := 78) dX5_addGain_45 (by decide) (fun c45 => ?_) (fun c45 => ?_)
    · exact m_return hF dX5_addGain_78 rfl rfl rfl ⟨rfl, by unfold addG; dsimp only; simp only [if_pos c4, if_pos c45] <;> funext q <;> by_cases q0 : q = 60 <;> by_cases q3 : q = 63 <;> by_cases q4 : q = 64 <;> simp [va_up, q0, q3, q4, h0, h3, h4]⟩
    have hs2 : s < 32 := nI_cmp (b := 32) (by decide) (by omega) c45
    refine m_aload_n dX5_addGain_48 rfl ?_
    refine m_getfield dX5_addGain_49 fl_X5_23 (by first | assumption | rfl) (by first | assumption | rfl) ?_
    show mW _ _ _ _ _ _ _ _ (.ref _ :: _)
    refine m_aload_n dX5_addGain_52 rfl ?_
    refine m_getfield dX5_addGain_53 fl_X5_36 (by first | assumption | rfl) (by first | assumption | rfl) ?_
    show mW _ _ _ _ _ _ _ _ (.int _ :: _)
    refine m_iload_n dX5_addGain_56 rfl ?_
    refine m_iastore dX5_addGain_57 (by first | assumption | rfl) (mIx_lit hs2 (by decide)) ?_
    try rw [va_uu]
    refine m_aload_n dX5_addGain_58 rfl ?_
    refine m_getfield dX5_addGain_59 fl_X5_26 (by first | assumption | rfl) (by first | assumption | rfl) ?_
    show mW _ _ _ _ _ _ _ _ (.ref _ :: _)
    refine m_aload_n dX5_addGain_62 rfl ?_
    refine m_getfield dX5_addGain_63 fl_X5_36 (by first | assumption | rfl) (by first | assumption | rfl) ?_
    show mW _ _ _ _ _ _ _ _ (.int _ :: _)
    refine m_iload_n dX5_addGain_66 rfl ?_
    refine m_iastore dX5_addGain_67 (by first | assumption | rfl) (mIx_lit hs2 (by decide)) ?_
    try rw [va_uu]
    refine m_aload_n dX5_addGain_68 rfl ?_
    refine m_dup dX5_addGain_69 rfl ?_
    refine m_getfield dX5_addGain_70 fl_X5_36 (by first | assumption | rfl) (by first | assumption | rfl) ?_
    show mW _ _ _ _ _ _ _ _ (.int _ :: _)
    refine m_iconst (v := 1) dX5_addGain_73 (by decide) ?_
    refine m_iadd dX5_addGain_74 ?_
    refine m_ci (v := nI (s + 1)) (nI_1 s) ?_
    refine m_putfield dX5_addGain_75 fl_X5_36 (by first | assumption | rfl) (fun _ => rfl) (fun _ => rfl) ?_
    try rw [va_uu]
    rw [oBk60_7]
    exact m_return hF dX5_addGain_78 rfl rfl rfl ⟨rfl, by unfold addG; dsimp only; simp only [if_pos c4, if_neg c45] <;> funext q <;> by_cases q0 : q = 60 <;> by_cases q3 : q = 63 <;> by_cases q4 : q = 64 <;> simp [va_up, q0, q3, q4, h0, h3, h4]⟩
  have hs : 1 ≤ s := by
    rcases Nat.eq_zero_or_pos s with q | q
    · subst q
      exact absurd (by decide) c4
    · exact q
  have hs1 : s - 1 < 32 := by omega
  refine m_aload_n dX5_addGain_7 rfl ?_
  refine m_getfield dX5_addGain_8 fl_X5_26 (by first | assumption | rfl) (by first | assumption | rfl) ?_
  show mW _ _ _ _ _ _ _ _ (.ref _ :: _)
  refine m_aload_n dX5_addGain_11 rfl ?_
  refine m_getfield dX5_addGain_12 fl_X5_36 (by first | assumption | rfl) (by first | assumption | rfl) ?_
  show mW _ _ _ _ _ _ _ _ (.int _ :: _)
  refine m_iconst (v := 1) dX5_addGain_15 (by decide) ?_
  refine m_isub dX5_addGain_16 ?_
  refine m_ci (v := nI (s - 1)) (nI_subN (b := 1) hs) ?_
  refine m_iaload dX5_addGain_17 (by first | assumption | rfl) (mIx_lit hs1 (by decide)) ?_
  refine m_iload_n dX5_addGain_18 rfl ?_
  refine m_iconst (v := 1) dX5_addGain_19 (by decide) ?_
  refine m_isub dX5_addGain_20 ?_
  refine m_icmp_ne (t := 39) dX5_addGain_21 (by decide) (fun c21 => ?_) (fun c21 => ?_)
  rotate_left
  · refine m_aload_n dX5_addGain_24 rfl ?_
    refine m_getfield dX5_addGain_25 fl_X5_26 (by first | assumption | rfl) (by first | assumption | rfl) ?_
    show mW _ _ _ _ _ _ _ _ (.ref _ :: _)
    refine m_aload_n dX5_addGain_28 rfl ?_
    refine m_getfield dX5_addGain_29 fl_X5_36 (by first | assumption | rfl) (by first | assumption | rfl) ?_
    show mW _ _ _ _ _ _ _ _ (.int _ :: _)
    refine m_iconst (v := 1) dX5_addGain_32 (by decide) ?_
    refine m_isub dX5_addGain_33 ?_
    refine m_ci (v := nI (s - 1)) (nI_subN (b := 1) hs) ?_
    refine m_iload_n dX5_addGain_34 rfl ?_
    refine m_iastore dX5_addGain_35 (by first | assumption | rfl) (mIx_lit hs1 (by decide)) ?_
    try rw [va_uu]
    refine m_goto (t := 78) dX5_addGain_36 (by decide) ?_
    exact m_return hF dX5_addGain_78 rfl rfl rfl ⟨rfl, by unfold addG; dsimp only; simp only [if_neg c4, if_pos c21] <;> funext q <;> by_cases q0 : q = 60 <;> by_cases q3 : q = 63 <;> by_cases q4 : q = 64 <;> simp [va_up, q0, q3, q4, h0, h3, h4]⟩
  refine m_aload_n dX5_addGain_39 rfl ?_
  refine m_getfield dX5_addGain_40 fl_X5_36 (by first | assumption | rfl) (by first | assumption | rfl) ?_
  show mW _ _ _ _ _ _ _ _ (.int _ :: _)
  refine m_bipush (v := 32) dX5_addGain_43 (by decide) ?_
  refine m_icmp_ge (t := 78) dX5_addGain_45 (by decide) (fun c45 => ?_) (fun c45 => ?_)
  · exact m_return hF dX5_addGain_78 rfl rfl rfl ⟨rfl, by unfold addG; dsimp only; simp only [if_neg c4, if_neg c21, if_pos c45] <;> funext q <;> by_cases q0 : q = 60 <;> by_cases q3 : q = 63 <;> by_cases q4 : q = 64 <;> simp [va_up, q0, q3, q4, h0, h3, h4]⟩
  have hs2 : s < 32 := nI_cmp (b := 32) (by decide) (by omega) c45
  refine m_aload_n dX5_addGain_48 rfl ?_
  refine m_getfield dX5_addGain_49 fl_X5_23 (by first | assumption | rfl) (by first | assumption | rfl) ?_
  show mW _ _ _ _ _ _ _ _ (.ref _ :: _)
  refine m_aload_n dX5_addGain_52 rfl ?_
  refine m_getfield dX5_addGain_53 fl_X5_36 (by first | assumption | rfl) (by first | assumption | rfl) ?_
  show mW _ _ _ _ _ _ _ _ (.int _ :: _)
  refine m_iload_n dX5_addGain_56 rfl ?_
  refine m_iastore dX5_addGain_57 (by first | assumption | rfl) (mIx_lit hs2 (by decide)) ?_
  try rw [va_uu]
  refine m_aload_n dX5_addGain_58 rfl ?_
  refine m_getfield dX5_addGain_59 fl_X5_26 (by first | assumption | rfl) (by first | assumption | rfl) ?_
  show mW _ _ _ _ _ _ _ _ (.ref _ :: _)
  refine m_aload_n dX5_addGain_62 rfl ?_
  refine m_getfield dX5_addGain_63 fl_X5_36 (by first | assumption | rfl) (by first | assumption | rfl) ?_
  show mW _ _ _ _ _ _ _ _ (.int _ :: _)
  refine m_iload_n dX5_addGain_66 rfl ?_
  refine m_iastore dX5_addGain_67 (by first | assumption | rfl) (mIx_lit hs2 (by decide)) ?_
  try rw [va_uu]
  refine m_aload_n dX5_addGain_68 rfl ?_
  refine m_dup dX5_addGain_69 rfl ?_
  refine m_getfield dX5_addGain_70 fl_X5_36 (by first | assumption | rfl) (by first | assumption | rfl) ?_
  show mW _ _ _ _ _ _ _ _ (.int _ :: _)
  refine m_iconst (v := 1) dX5_addGain_73 (by decide) ?_
  refine m_iadd dX5_addGain_74 ?_
  refine m_ci (v := nI (s + 1)) (nI_1 s) ?_
  refine m_putfield dX5_addGain_75 fl_X5_36 (by first | assumption | rfl) (fun _ => rfl) (fun _ => rfl) ?_
  try rw [va_uu]
  rw [oBk60_7]
  exact m_return hF dX5_addGain_78 rfl rfl rfl ⟨rfl, by unfold addG; dsimp only; simp only [if_neg c4, if_neg c21, if_neg c45] <;> funext q <;> by_cases q0 : q = 60 <;> by_cases q3 : q = 63 <;> by_cases q4 : q = 64 <;> simp [va_up, q0, q3, q4, h0, h3, h4]⟩
