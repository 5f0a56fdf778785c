/-! ===== the reference: corners, neighbours ===== -/
/-- steadiness as the reference tells it is that which the class tells -/
def STK : Prop := ∀ (b : Int32) (Z : Nat → Int64) (x : Int32), inC b 2 → bL Z → isB b Z x → (x = 0 ∨ x = 1) ∧ (x = 0 ↔ stB b Z = 0)
theorem stB_0 {Z : Nat → Int64} : stB 0 Z = stA Z := if_pos rfl
theorem stB_1 {Z : Nat → Int64} : stB 1 Z = stC Z := if_neg (by decide)
theorem bL_eq {Z Z' : Nat → Int64} (h : bL Z') (e : ∀ t, t < 5 → Z t = Z' t) : bL Z := fun t ht => by
  rw [e t ht]
  exact h t ht
theorem t_st5 {n : Nat} {hp : mHp} {ac ia tm ri ev le ch ls rm sm ra fa : Int32} (h1 : hp 67 = eO 8 (oMod ac ia tm ri ev le ch ls rm sm ra fa)) {Z : Nat → Int64} (hs : mScr hp Z) (hTU : TUK) (hST : STK) (hB : bL Z) {b : Int32} (hb : inC b 2) : mC D_X8_isSteady [.ref 67, .int b] n hp (fun v hp' => ∃ x : Int32, v = some (.int x) ∧ (x = 0 ∨ x = 1) ∧ (x = 0 ↔ stB b Z = 0) ∧ mOb5 hp' ac ia tm rm sm ra fa ∧ (∃ Z', mScr hp' Z') ∧ ∀ q, (q < 67 ∨ 67 < q ∧ q < 76 ∨ 79 < q) → hp' q = hp q) :=
  (t_isSteady h1 hs hTU hB hb).mono (fun v hp' ⟨x, e1, e2, e3⟩ => ⟨x, e1, (hST b Z x hb hB e2).1, (hST b Z x hb hB e2).2, e3⟩)
theorem t_st {n : Nat} {hp : mHp} {S : TS} {ia tm : Int32} (hR : mRep hp S ia tm) {Z : Nat → Int64} (hs : mScr hp Z) (hTU : TUK) (hST : STK) (hB : bL Z) {b : Int32} (hb : inC b 2) : mC D_X8_isSteady [.ref 67, .int b] n hp (fun v hp' => ∃ x : Int32, v = some (.int x) ∧ (x = 0 ∨ x = 1) ∧ (x = 0 ↔ stB b Z = 0) ∧ mRep hp' S ia tm ∧ (∃ Z', mScr hp' Z') ∧ ∀ q, (q < 67 ∨ 67 < q ∧ q < 76 ∨ 79 < q) → hp' q = hp q) := by
  obtain ⟨ri, ev, le, ch, ls, rm, sm, ra, fa, C, PA, h1, h2, h3, h4, h5, h6⟩ := hR
  exact (t_st5 h1 hs hTU hST hB hb).mono (fun v hp' ⟨x, e1, e2, e3, ⟨ri', ev', le', ch', ls', k1⟩, e5, e6⟩ => ⟨x, e1, e2, e3, ⟨ri', ev', le', ch', ls', rm, sm, ra, fa, C, PA, k1, (e6 68 (by decide)).trans h2, (e6 69 (by decide)).trans h3, h4, h5, h6⟩, e5, e6⟩)
def mScX (hp : mHp) : Prop := ∃ Z, mScr hp Z
/-- nothing but the reference's object and its scratch has changed -/
def offM (hp hp' : mHp) : Prop := ∀ q, (q < 67 ∨ 67 < q ∧ q < 76 ∨ 79 < q) → hp' q = hp q
theorem offM.rf {hp : mHp} : offM hp hp := fun _ _ => rfl
abbrev qM (hp : mHp) (S : TS) (ia tm : Int32) (x : Int32) : mQ := fun r hp' => r = some (.int x) ∧ mRep hp' S ia tm ∧ mScX hp' ∧ offM hp hp'
theorem add_sm {a b : Int32} {m : Int} (hm : m ≤ 1000) (ha : -m ≤ a.toInt ∧ a.toInt ≤ m) (hb : -m ≤ b.toInt ∧ b.toInt ≤ m) : (a + b).toInt = a.toInt + b.toInt := by
  rw [Int32.toInt_add]
  exact bmod32 (by omega) (by omega)
theorem add_l {a b : Int32} {m : Int} (hm : m ≤ 1000) (ha : -m ≤ a.toInt ∧ a.toInt ≤ m) (hb : -m ≤ b.toInt ∧ b.toInt ≤ m) : -7272 ≤ (a + b).toInt64.toInt ∧ (a + b).toInt64.toInt ≤ 7272 := by
  rw [Int32.toInt_toInt64, add_sm hm ha hb]
  omega
theorem mCS_1 : ∀ j : Nat, j < 20 → mCS.getD j 0 = 1 ∨ mCS.getD j 0 = -1 := by decide
theorem neg_m1 (r : Int32) : r * -1 = -r := by rw [Int32.mul_neg, Int32.mul_one]
theorem neg_sm {r : Int32} (h : -9 ≤ r.toInt ∧ r.toInt ≤ 9) : -9 ≤ (-r).toInt ∧ (-r).toInt ≤ 9 := by
  rw [Int32.toInt_neg, bmod32 (by omega) (by omega)]
  omega
theorem corP_b {c : Nat → Int32} {r : Int32} {i : Nat} (hc : ∀ t, t < 10 → in9 (c t)) (hr : -9 ≤ r.toInt ∧ r.toInt ≤ 9) (hi : i < 4) : bL (corP c r i) := fun t ht => by
  have h1 : -9 ≤ (r * mCS.getD (5 * i + t) 0).toInt ∧ (r * mCS.getD (5 * i + t) 0).toInt ≤ 9 := by
    rcases mCS_1 (5 * i + t) (by omega) with e | e
    · rw [e, Int32.mul_one]
      exact hr
    · rw [e, neg_m1]
      exact neg_sm hr
  exact add_l (m := 9) (by decide) (hc t (by omega)) h1
theorem nI_sm {j : Nat} (h : j ≤ 9) : -9 ≤ (nI j).toInt ∧ (nI j).toInt ≤ 9 := by
  rw [nI_toInt (by omega)]
  omega
theorem nbP_b {c : Nat → Int32} {i : Nat} (hc : ∀ t, t < 10 → in9 (c t)) : bL (nbP c i) := fun t ht => by
  have hj : i / 3 ^ t % 3 < 3 := Nat.mod_lt _ (by decide)
  have h1 := add_sm (m := 9) (by decide) (hc t (by omega)) (nI_sm (j := i / 3 ^ t % 3) (by omega))
  have h2 := nI_sm (j := i / 3 ^ t % 3) (by omega)
  have h3 := hc t (by omega)
  unfold in9 at h3
  unfold nbP
  rw [Int32.sub_eq_add_neg]
  exact add_l (m := 100) (by decide) (by rw [h1]; omega) (by decide)
theorem offP_b {c : Nat → Int32} {i : Nat} (hc : ∀ t, t < 10 → in9 (c t)) : bL (offP c i) := fun t ht => by
  have hj : i / 2 ^ t % 2 < 2 := Nat.mod_lt _ (by decide)
  exact add_l (m := 9) (by decide) (hc t (by omega)) (nI_sm (by omega))
set_option maxHeartbeats 400000 in
set_option maxRecDepth 100000 in
theorem l_X8_neighbours {n : Nat} {hp0 : mHp} {S : TS} {ia tm : Int32} {b V : Int32} (hb : inC b 2) (hC : okC S.1) (hTU : TUK) (hST : STK) {K : mK} (hF : mFin K D_X8_neighbours n (qM hp0 S ia tm V)) : ∀ (r i : Nat) (hp : mHp) (t : Int32) (vx vy : Value), i + r = 243 → mRep hp S ia tm → mScX hp → (∀ _ : Unit, cntS (fun i => stB b (nbP S.1 i)) r i t = V) → offM hp0 hp → mW K D_X8_neighbours 0 0 n hp 16 [.ref 67, .int b, .int t, .int (nI i), vx, vy] [] := by
  intro r
  induction r using Nat.strongRecOn with
  | ind r ih =>
    intro i hp t vx vy hir h hX hv ho
    have hR := h
    obtain ⟨ri, ev, le, ch, ls, rm, sm, ra, fa, C, PA, h1, h2, h3, h4, h5, h6⟩ := h
    obtain ⟨Z0, A0, T0, Pr, s1, s2, s3, s4⟩ := hX
    have y1 : ∀ f : mE, va_up hp 76 f 67 = _ := fun f => (va_up_ne _ _ (by decide)).trans h1
    have y2 : ∀ f : mE, va_up hp 76 f 68 = eI 12 C := fun f => (va_up_ne _ _ (by decide)).trans h2
    refine m_iload_n dX8_neighbours_16 rfl ?_
    refine m_sipush (v := 243) dX8_neighbours_17 (by decide) ?_
    refine m_icmp_ge (t := 91) dX8_neighbours_20 (by decide) (fun cc => ?_) (fun cc => ?_)
    · have hr : r = 0 := by have := nI_cmp' (b := 243) (by decide) (by omega) cc; omega
      subst hr
      refine m_iload_n dX8_neighbours_91 rfl ?_
      exact m_ireturn hF dX8_neighbours_92 rfl rfl rfl ⟨by rw [← hv ()]; rfl, hR, ⟨Z0, A0, T0, Pr, s1, s2, s3, s4⟩, ho⟩
    have hi4 : i < 243 := nI_cmp (by decide) (by omega) cc
    obtain ⟨r, rfl⟩ : ∃ r', r = r' + 1 := ⟨r - 1, by omega⟩
    rw [cntS] at hv
    refine m_iload_n dX8_neighbours_23 rfl ?_
    refine m_ci (v := nI (i / 3 ^ 0)) (by rw [Nat.pow_zero, Nat.div_one]) ?_
    refine m_istore dX8_neighbours_24 (by decide) ?_
    show mW _ _ _ _ _ _ 26 [_, _, _, _, _, _] _
    refine m_iconst (v := 0) dX8_neighbours_26 (by decide) ?_
    refine m_istore dX8_neighbours_27 (by decide) ?_
    show mW _ _ _ _ _ _ 29 [_, _, _, _, _, _] _
    refine m_iload dX8_neighbours_29 rfl ?_
    refine m_iconst (v := 5) dX8_neighbours_31 (by decide) ?_
    refine m_icmp_ge (t := 69) dX8_neighbours_32 (by decide) (fun q => absurd q (by decide)) (fun _ => ?_)
    refine m_aload_n dX8_neighbours_35 rfl ?_
    refine m_getfield dX8_neighbours_36 fl_X8_39 (by first | assumption | rfl | exact y1 _ | exact y2 _ | exact va_up_self _ _ _) (by first | assumption | rfl | exact y1 _ | exact y2 _ | exact va_up_self _ _ _) ?_
    show mW _ _ _ _ _ _ _ _ (.ref _ :: _)
    refine m_iload dX8_neighbours_39 rfl ?_
    refine m_aload_n dX8_neighbours_41 rfl ?_
    refine m_getfield dX8_neighbours_42 fl_X8_7 (by first | assumption | rfl | exact y1 _ | exact y2 _ | exact va_up_self _ _ _) (by first | assumption | rfl | exact y1 _ | exact y2 _ | exact va_up_self _ _ _) ?_
    show mW _ _ _ _ _ _ _ _ (.ref _ :: _)
    refine m_iload dX8_neighbours_45 rfl ?_
    refine m_iaload (k := 0) dX8_neighbours_47 (by first | assumption | rfl | exact y1 _ | exact y2 _ | exact va_up_self _ _ _) ⟨by decide, by decide⟩ ?_
    refine m_iload dX8_neighbours_48 rfl ?_
    refine m_iconst (v := 3) dX8_neighbours_50 (by decide) ?_
    refine m_irem dX8_neighbours_51 (by decide) ?_
    refine m_ci (v := nI (i / 3 ^ 0 % 3)) (nb_rem 0 hi4) ?_
    refine m_iadd dX8_neighbours_52 ?_
    refine m_iconst (v := 1) dX8_neighbours_53 (by decide) ?_
    refine m_isub dX8_neighbours_54 ?_
    refine m_i2l dX8_neighbours_55 ?_
    refine m_lastore (k := 0) dX8_neighbours_56 (by first | assumption | rfl | exact y1 _ | exact y2 _ | exact va_up_self _ _ _) ⟨by decide, by decide⟩ ?_
    try rw [va_uu]
    refine m_iload dX8_neighbours_57 rfl ?_
    refine m_iconst (v := 3) dX8_neighbours_59 (by decide) ?_
    refine m_idiv dX8_neighbours_60 (by decide) ?_
    refine m_ci (v := nI (i / 3 ^ 1)) (nb_div (k := 0) (kk := 1) rfl hi4) ?_
    refine m_istore dX8_neighbours_61 (by decide) ?_
    show mW _ _ _ _ _ _ 63 [_, _, _, _, _, _] _
    refine m_iinc (v := 1) dX8_neighbours_63 rfl (by decide) (by decide) ?_
    show mW _ _ _ _ _ _ 66 [_, _, _, _, _, _] _
    refine m_goto (t := 29) dX8_neighbours_66 (by decide) ?_
    refine m_iload dX8_neighbours_29 rfl ?_
    refine m_iconst (v := 5) dX8_neighbours_31 (by decide) ?_
    refine m_icmp_ge (t := 69) dX8_neighbours_32 (by decide) (fun q => absurd q (by decide)) (fun _ => ?_)
    refine m_aload_n dX8_neighbours_35 rfl ?_
    refine m_getfield dX8_neighbours_36 fl_X8_39 (by first | assumption | rfl | exact y1 _ | exact y2 _ | exact va_up_self _ _ _) (by first | assumption | rfl | exact y1 _ | exact y2 _ | exact va_up_self _ _ _) ?_
    show mW _ _ _ _ _ _ _ _ (.ref _ :: _)
    refine m_iload dX8_neighbours_39 rfl ?_
    refine m_aload_n dX8_neighbours_41 rfl ?_
    refine m_getfield dX8_neighbours_42 fl_X8_7 (by first | assumption | rfl | exact y1 _ | exact y2 _ | exact va_up_self _ _ _) (by first | assumption | rfl | exact y1 _ | exact y2 _ | exact va_up_self _ _ _) ?_
    show mW _ _ _ _ _ _ _ _ (.ref _ :: _)
    refine m_iload dX8_neighbours_45 rfl ?_
    refine m_iaload (k := 1) dX8_neighbours_47 (by first | assumption | rfl | exact y1 _ | exact y2 _ | exact va_up_self _ _ _) ⟨by decide, by decide⟩ ?_
    refine m_iload dX8_neighbours_48 rfl ?_
    refine m_iconst (v := 3) dX8_neighbours_50 (by decide) ?_
    refine m_irem dX8_neighbours_51 (by decide) ?_
    refine m_ci (v := nI (i / 3 ^ 1 % 3)) (nb_rem 1 hi4) ?_
    refine m_iadd dX8_neighbours_52 ?_
    refine m_iconst (v := 1) dX8_neighbours_53 (by decide) ?_
    refine m_isub dX8_neighbours_54 ?_
    refine m_i2l dX8_neighbours_55 ?_
    refine m_lastore (k := 1) dX8_neighbours_56 (by first | assumption | rfl | exact y1 _ | exact y2 _ | exact va_up_self _ _ _) ⟨by decide, by decide⟩ ?_
    try rw [va_uu]
    refine m_iload dX8_neighbours_57 rfl ?_
    refine m_iconst (v := 3) dX8_neighbours_59 (by decide) ?_
    refine m_idiv dX8_neighbours_60 (by decide) ?_
    refine m_ci (v := nI (i / 3 ^ 2)) (nb_div (k := 1) (kk := 2) rfl hi4) ?_
    refine m_istore dX8_neighbours_61 (by decide) ?_
    show mW _ _ _ _ _ _ 63 [_, _, _, _, _, _] _
    refine m_iinc (v := 2) dX8_neighbours_63 rfl (by decide) (by decide) ?_
    show mW _ _ _ _ _ _ 66 [_, _, _, _, _, _] _
    refine m_goto (t := 29) dX8_neighbours_66 (by decide) ?_
    refine m_iload dX8_neighbours_29 rfl ?_
    refine m_iconst (v := 5) dX8_neighbours_31 (by decide) ?_
    refine m_icmp_ge (t := 69) dX8_neighbours_32 (by decide) (fun q => absurd q (by decide)) (fun _ => ?_)
    refine m_aload_n dX8_neighbours_35 rfl ?_
    refine m_getfield dX8_neighbours_36 fl_X8_39 (by first | assumption | rfl | exact y1 _ | exact y2 _ | exact va_up_self _ _ _) (by first | assumption | rfl | exact y1 _ | exact y2 _ | exact va_up_self _ _ _) ?_
    show mW _ _ _ _ _ _ _ _ (.ref _ :: _)
    refine m_iload dX8_neighbours_39 rfl ?_
    refine m_aload_n dX8_neighbours_41 rfl ?_
    refine m_getfield dX8_neighbours_42 fl_X8_7 (by first | assumption | rfl | exact y1 _ | exact y2 _ | exact va_up_self _ _ _) (by first | assumption | rfl | exact y1 _ | exact y2 _ | exact va_up_self _ _ _) ?_
    show mW _ _ _ _ _ _ _ _ (.ref _ :: _)
    refine m_iload dX8_neighbours_45 rfl ?_
    refine m_iaload (k := 2) dX8_neighbours_47 (by first | assumption | rfl | exact y1 _ | exact y2 _ | exact va_up_self _ _ _) ⟨by decide, by decide⟩ ?_
    refine m_iload dX8_neighbours_48 rfl ?_
    refine m_iconst (v := 3) dX8_neighbours_50 (by decide) ?_
    refine m_irem dX8_neighbours_51 (by decide) ?_
    refine m_ci (v := nI (i / 3 ^ 2 % 3)) (nb_rem 2 hi4) ?_
    refine m_iadd dX8_neighbours_52 ?_
    refine m_iconst (v := 1) dX8_neighbours_53 (by decide) ?_
    refine m_isub dX8_neighbours_54 ?_
    refine m_i2l dX8_neighbours_55 ?_
    refine m_lastore (k := 2) dX8_neighbours_56 (by first | assumption | rfl | exact y1 _ | exact y2 _ | exact va_up_self _ _ _) ⟨by decide, by decide⟩ ?_
    try rw [va_uu]
    refine m_iload dX8_neighbours_57 rfl ?_
    refine m_iconst (v := 3) dX8_neighbours_59 (by decide) ?_
    refine m_idiv dX8_neighbours_60 (by decide) ?_
    refine m_ci (v := nI (i / 3 ^ 3)) (nb_div (k := 2) (kk := 3) rfl hi4) ?_
    refine m_istore dX8_neighbours_61 (by decide) ?_
    show mW _ _ _ _ _ _ 63 [_, _, _, _, _, _] _
    refine m_iinc (v := 3) dX8_neighbours_63 rfl (by decide) (by decide) ?_
    show mW _ _ _ _ _ _ 66 [_, _, _, _, _, _] _
    refine m_goto (t := 29) dX8_neighbours_66 (by decide) ?_
    refine m_iload dX8_neighbours_29 rfl ?_
    refine m_iconst (v := 5) dX8_neighbours_31 (by decide) ?_
    refine m_icmp_ge (t := 69) dX8_neighbours_32 (by decide) (fun q => absurd q (by decide)) (fun _ => ?_)
    refine m_aload_n dX8_neighbours_35 rfl ?_
    refine m_getfield dX8_neighbours_36 fl_X8_39 (by first | assumption | rfl | exact y1 _ | exact y2 _ | exact va_up_self _ _ _) (by first | assumption | rfl | exact y1 _ | exact y2 _ | exact va_up_self _ _ _) ?_
    show mW _ _ _ _ _ _ _ _ (.ref _ :: _)
    refine m_iload dX8_neighbours_39 rfl ?_
    refine m_aload_n dX8_neighbours_41 rfl ?_
    refine m_getfield dX8_neighbours_42 fl_X8_7 (by first | assumption | rfl | exact y1 _ | exact y2 _ | exact va_up_self _ _ _) (by first | assumption | rfl | exact y1 _ | exact y2 _ | exact va_up_self _ _ _) ?_
    show mW _ _ _ _ _ _ _ _ (.ref _ :: _)
    refine m_iload dX8_neighbours_45 rfl ?_
    refine m_iaload (k := 3) dX8_neighbours_47 (by first | assumption | rfl | exact y1 _ | exact y2 _ | exact va_up_self _ _ _) ⟨by decide, by decide⟩ ?_
    refine m_iload dX8_neighbours_48 rfl ?_
    refine m_iconst (v := 3) dX8_neighbours_50 (by decide) ?_
    refine m_irem dX8_neighbours_51 (by decide) ?_
    refine m_ci (v := nI (i / 3 ^ 3 % 3)) (nb_rem 3 hi4) ?_
    refine m_iadd dX8_neighbours_52 ?_
    refine m_iconst (v := 1) dX8_neighbours_53 (by decide) ?_
    refine m_isub dX8_neighbours_54 ?_
    refine m_i2l dX8_neighbours_55 ?_
    refine m_lastore (k := 3) dX8_neighbours_56 (by first | assumption | rfl | exact y1 _ | exact y2 _ | exact va_up_self _ _ _) ⟨by decide, by decide⟩ ?_
    try rw [va_uu]
    refine m_iload dX8_neighbours_57 rfl ?_
    refine m_iconst (v := 3) dX8_neighbours_59 (by decide) ?_
    refine m_idiv dX8_neighbours_60 (by decide) ?_
    refine m_ci (v := nI (i / 3 ^ 4)) (nb_div (k := 3) (kk := 4) rfl hi4) ?_
    refine m_istore dX8_neighbours_61 (by decide) ?_
    show mW _ _ _ _ _ _ 63 [_, _, _, _, _, _] _
    refine m_iinc (v := 4) dX8_neighbours_63 rfl (by decide) (by decide) ?_
    show mW _ _ _ _ _ _ 66 [_, _, _, _, _, _] _
    refine m_goto (t := 29) dX8_neighbours_66 (by decide) ?_
    refine m_iload dX8_neighbours_29 rfl ?_
    refine m_iconst (v := 5) dX8_neighbours_31 (by decide) ?_
    refine m_icmp_ge (t := 69) dX8_neighbours_32 (by decide) (fun q => absurd q (by decide)) (fun _ => ?_)
    refine m_aload_n dX8_neighbours_35 rfl ?_
    refine m_getfield dX8_neighbours_36 fl_X8_39 (by first | assumption | rfl | exact y1 _ | exact y2 _ | exact va_up_self _ _ _) (by first | assumption | rfl | exact y1 _ | exact y2 _ | exact va_up_self _ _ _) ?_
    show mW _ _ _ _ _ _ _ _ (.ref _ :: _)
    refine m_iload dX8_neighbours_39 rfl ?_
    refine m_aload_n dX8_neighbours_41 rfl ?_
    refine m_getfield dX8_neighbours_42 fl_X8_7 (by first | assumption | rfl | exact y1 _ | exact y2 _ | exact va_up_self _ _ _) (by first | assumption | rfl | exact y1 _ | exact y2 _ | exact va_up_self _ _ _) ?_
    show mW _ _ _ _ _ _ _ _ (.ref _ :: _)
    refine m_iload dX8_neighbours_45 rfl ?_
    refine m_iaload (k := 4) dX8_neighbours_47 (by first | assumption | rfl | exact y1 _ | exact y2 _ | exact va_up_self _ _ _) ⟨by decide, by decide⟩ ?_
    refine m_iload dX8_neighbours_48 rfl ?_
    refine m_iconst (v := 3) dX8_neighbours_50 (by decide) ?_
    refine m_irem dX8_neighbours_51 (by decide) ?_
    refine m_ci (v := nI (i / 3 ^ 4 % 3)) (nb_rem 4 hi4) ?_
    refine m_iadd dX8_neighbours_52 ?_
    refine m_iconst (v := 1) dX8_neighbours_53 (by decide) ?_
    refine m_isub dX8_neighbours_54 ?_
    refine m_i2l dX8_neighbours_55 ?_
    refine m_lastore (k := 4) dX8_neighbours_56 (by first | assumption | rfl | exact y1 _ | exact y2 _ | exact va_up_self _ _ _) ⟨by decide, by decide⟩ ?_
    try rw [va_uu]
    refine m_iload dX8_neighbours_57 rfl ?_
    refine m_iconst (v := 3) dX8_neighbours_59 (by decide) ?_
    refine m_idiv dX8_neighbours_60 (by decide) ?_
    refine m_ci (v := nI (i / 3 ^ 5)) (nb_div (k := 4) (kk := 5) rfl hi4) ?_
    refine m_istore dX8_neighbours_61 (by decide) ?_
    show mW _ _ _ _ _ _ 63 [_, _, _, _, _, _] _
    refine m_iinc (v := 5) dX8_neighbours_63 rfl (by decide) (by decide) ?_
    show mW _ _ _ _ _ _ 66 [_, _, _, _, _, _] _
    refine m_goto (t := 29) dX8_neighbours_66 (by decide) ?_
    refine m_iload dX8_neighbours_29 rfl ?_
    refine m_iconst (v := 5) dX8_neighbours_31 (by decide) ?_
    refine m_icmp_ge (t := 69) dX8_neighbours_32 (by decide) (fun _ => ?_) (fun q => absurd (by decide) q)
    refine m_iload_n dX8_neighbours_69 rfl ?_
    refine m_aload_n dX8_neighbours_70 rfl ?_
    refine m_iload_n dX8_neighbours_71 rfl ?_
    refine m_invV dX8_neighbours_72 lk_X8_204 ar_X8_isSteady (ci := 8) rfl rfl (by first | assumption | rfl | exact y1 _ | exact y2 _ | exact va_up_self _ _ _) (t_st (b := b) (Z := fill5 (nbP C i) Z0) (hR.of (fun q r1 r2 => va_up_ne _ _ (by omega))) ⟨A0, T0, Pr, va_up_self _ _ _, (va_up_ne _ _ (by decide)).trans s2, (va_up_ne _ _ (by decide)).trans s3, (va_up_ne _ _ (by decide)).trans s4⟩ hTU hST (bL_eq (nbP_b hC.1) (fun t ht => (fill5_at ht).trans (nbP_eq (fun t ht => h5 t (by omega)) ht))) hb) rfl (Nat.le_of_ble_eq_true rfl) (by decide) (by decide) (by decide) (by decide) (fun v hp' q => ?_)
    obtain ⟨x, rfl, x01, xs, gR, gX, gO⟩ := q
    have e9 : stB b (fill5 (nbP C i) Z0) = stB b (nbP S.1 i) := stB_eq (fun t ht => (fill5_at ht).trans (nbP_eq (fun t ht => h5 t (by omega)) ht))
    rw [e9] at xs
    have gO' : offM hp0 hp' := fun q hq => (by rw [gO q hq, va_up_ne _ _ (by omega)]; exact ho q hq)
    show mW K _ 0 0 n hp' 75 [.ref 67, .int b, .int t, .int (nI i), .int (nI (i / 3 ^ 5)), .int 5] [.int x, .int t]
    refine m_if_eq (t := 82) dX8_neighbours_75 (by decide) (fun c75 => ?_) (fun c75 => ?_)
    · rw [if_pos (xs.mp c75)] at hv
      refine m_iconst (v := 0) dX8_neighbours_82 (by decide) ?_
      refine m_iadd dX8_neighbours_83 ?_
      refine m_istore_n dX8_neighbours_84 (by decide) ?_
      show mW _ _ _ _ _ _ 85 [_, _, _, _, _, _] _
      refine m_iinc (v := nI (i + 1)) dX8_neighbours_85 rfl (nI_1 i) (by decide) ?_
      show mW _ _ _ _ _ _ 88 [_, _, _, _, _, _] _
      refine m_goto (t := 16) dX8_neighbours_88 (by decide) ?_
      exact ih r (by omega) (i + 1) hp' _ _ _ (by omega) gR gX (by first | exact hv | (rw [Int32.add_zero]; exact hv)) gO'
    rw [if_neg (fun y => c75 (xs.mpr y))] at hv
    refine m_iconst (v := 1) dX8_neighbours_78 (by decide) ?_
    refine m_goto (t := 83) dX8_neighbours_79 (by decide) ?_
    refine m_iadd dX8_neighbours_83 ?_
    refine m_istore_n dX8_neighbours_84 (by decide) ?_
    show mW _ _ _ _ _ _ 85 [_, _, _, _, _, _] _
    refine m_iinc (v := nI (i + 1)) dX8_neighbours_85 rfl (nI_1 i) (by decide) ?_
    show mW _ _ _ _ _ _ 88 [_, _, _, _, _, _] _
    refine m_goto (t := 16) dX8_neighbours_88 (by decide) ?_
    exact ih r (by omega) (i + 1) hp' _ _ _ (by omega) gR gX (by first | exact hv | (rw [Int32.add_zero]; exact hv)) gO'

set_option maxHeartbeats 400000 in
set_option maxRecDepth 100000 in
theorem t_X8_neighbours {n : Nat} {hp : mHp} {S : TS} {ia tm : Int32} (h : mRep hp S ia tm) (hX : mScX hp) (hC : okC S.1) (hTU : TUK) (hST : STK) {b : Int32} : mC D_X8_neighbours [.ref 67, .int b] n hp (qM hp S ia tm (sNeigh S b)) := by
  refine m_enter rfl rfl (Nat.le_of_ble_eq_true rfl) (fun K hF => ?_)
  show mW K _ 0 0 _ _ 0 [.ref 67, .int b, .retAddr 0, .retAddr 0, .retAddr 0, .retAddr 0] []
  refine m_iload_n dX8_neighbours_0 rfl ?_
  refine m_i2l dX8_neighbours_1 ?_
  refine m_lconst (v := 0) dX8_neighbours_2 (by decide) ?_
  refine m_lconst (v := 1) dX8_neighbours_3 (by decide) ?_
  refine m_invS_I dX8_neighbours_4 lk_X8_141 ar_X8_in (t_X8_in) rfl (Nat.le_of_ble_eq_true rfl) (by decide) (by decide) (by decide) (by decide) rfl rfl ?_
  try rw [va_uu]
  refine m_if_ne (t := 12) dX8_neighbours_7 (by decide) (fun c7 => ?_) (fun c7 => ?_)
  rotate_left
  · refine m_iconst (v := -1) dX8_neighbours_10 (by decide) ?_
    exact m_ireturn hF dX8_neighbours_11 rfl rfl rfl ⟨by unfold sNeigh; rw [if_neg (in2_iff.mp c7)], h, hX, offM.rf⟩
  have hb : inC b 2 := Classical.not_not.mp (fun y => c7 (in2_iff.mpr y))
  refine m_iconst (v := 0) dX8_neighbours_12 (by decide) ?_
  refine m_istore_n dX8_neighbours_13 (by decide) ?_
  show mW _ _ _ _ _ _ 14 [_, _, _, _, _, _] _
  refine m_iconst (v := 0) dX8_neighbours_14 (by decide) ?_
  refine m_istore_n dX8_neighbours_15 (by decide) ?_
  show mW _ _ _ _ _ _ 16 [_, _, _, _, _, _] _
  exact l_X8_neighbours (V := sNeigh S b) hb hC hTU hST hF 243 0 hp 0 _ _ rfl h hX (fun _ => by unfold sNeigh; rw [if_pos hb]) offM.rf

theorem cor_p {a r m : Int32} (h : m = 1) : (a + r).toInt64 = (a + r * m).toInt64 := by rw [h, Int32.mul_one]
theorem cor_m {a r m : Int32} (h : m = -1) : (a + -r).toInt64 = (a + r * m).toInt64 := by rw [h, neg_m1]
theorem cor_e0 {C c : Nat → Int32} {Z0 : Nat → Int64} {ρ : Int32} (h5 : eq12 C c) : ∀ t, t < 5 → (va_up (va_up (va_up (va_up (va_up Z0 0 (C 0 + -ρ).toInt64) 1 (C 1 + -ρ).toInt64) 2 (C 2 + ρ).toInt64) 3 (C 3 + ρ).toInt64) 4 (C 4 + -ρ).toInt64) t = corP c ρ 0 t := fun t ht => by
  rcases lt5 ht with rfl | rfl | rfl | rfl | rfl
  · rw [show corP c ρ 0 0 = (c 0 + ρ * mCS.getD (5 * 0 + 0) 0).toInt64 from rfl, ← h5 0 (by decide), show mCS.getD (5 * 0 + 0) 0 = -1 from rfl, neg_m1]
    rfl
  · rw [show corP c ρ 0 1 = (c 1 + ρ * mCS.getD (5 * 0 + 1) 0).toInt64 from rfl, ← h5 1 (by decide), show mCS.getD (5 * 0 + 1) 0 = -1 from rfl, neg_m1]
    rfl
  · rw [show corP c ρ 0 2 = (c 2 + ρ * mCS.getD (5 * 0 + 2) 0).toInt64 from rfl, ← h5 2 (by decide), show mCS.getD (5 * 0 + 2) 0 = 1 from rfl, Int32.mul_one]
    rfl
  · rw [show corP c ρ 0 3 = (c 3 + ρ * mCS.getD (5 * 0 + 3) 0).toInt64 from rfl, ← h5 3 (by decide), show mCS.getD (5 * 0 + 3) 0 = 1 from rfl, Int32.mul_one]
    rfl
  · rw [show corP c ρ 0 4 = (c 4 + ρ * mCS.getD (5 * 0 + 4) 0).toInt64 from rfl, ← h5 4 (by decide), show mCS.getD (5 * 0 + 4) 0 = -1 from rfl, neg_m1]
    rfl
theorem cor_e1 {C c : Nat → Int32} {Z0 : Nat → Int64} {ρ : Int32} (h5 : eq12 C c) : ∀ t, t < 5 → (va_up (va_up (va_up (va_up (va_up Z0 0 (C 0 + ρ).toInt64) 1 (C 1 + ρ).toInt64) 2 (C 2 + -ρ).toInt64) 3 (C 3 + -ρ).toInt64) 4 (C 4 + ρ).toInt64) t = corP c ρ 1 t := fun t ht => by
  rcases lt5 ht with rfl | rfl | rfl | rfl | rfl
  · rw [show corP c ρ 1 0 = (c 0 + ρ * mCS.getD (5 * 1 + 0) 0).toInt64 from rfl, ← h5 0 (by decide), show mCS.getD (5 * 1 + 0) 0 = 1 from rfl, Int32.mul_one]
    rfl
  · rw [show corP c ρ 1 1 = (c 1 + ρ * mCS.getD (5 * 1 + 1) 0).toInt64 from rfl, ← h5 1 (by decide), show mCS.getD (5 * 1 + 1) 0 = 1 from rfl, Int32.mul_one]
    rfl
  · rw [show corP c ρ 1 2 = (c 2 + ρ * mCS.getD (5 * 1 + 2) 0).toInt64 from rfl, ← h5 2 (by decide), show mCS.getD (5 * 1 + 2) 0 = -1 from rfl, neg_m1]
    rfl
  · rw [show corP c ρ 1 3 = (c 3 + ρ * mCS.getD (5 * 1 + 3) 0).toInt64 from rfl, ← h5 3 (by decide), show mCS.getD (5 * 1 + 3) 0 = -1 from rfl, neg_m1]
    rfl
  · rw [show corP c ρ 1 4 = (c 4 + ρ * mCS.getD (5 * 1 + 4) 0).toInt64 from rfl, ← h5 4 (by decide), show mCS.getD (5 * 1 + 4) 0 = 1 from rfl, Int32.mul_one]
    rfl
theorem cor_e2 {C c : Nat → Int32} {Z0 : Nat → Int64} {ρ : Int32} (h5 : eq12 C c) : ∀ t, t < 5 → (va_up (va_up (va_up (va_up (va_up Z0 0 (C 0 + -ρ).toInt64) 1 (C 1 + ρ).toInt64) 2 (C 2 + ρ).toInt64) 3 (C 3 + -ρ).toInt64) 4 (C 4 + -ρ).toInt64) t = corP c ρ 2 t := fun t ht => by
  rcases lt5 ht with rfl | rfl | rfl | rfl | rfl
  · rw [show corP c ρ 2 0 = (c 0 + ρ * mCS.getD (5 * 2 + 0) 0).toInt64 from rfl, ← h5 0 (by decide), show mCS.getD (5 * 2 + 0) 0 = -1 from rfl, neg_m1]
    rfl
  · rw [show corP c ρ 2 1 = (c 1 + ρ * mCS.getD (5 * 2 + 1) 0).toInt64 from rfl, ← h5 1 (by decide), show mCS.getD (5 * 2 + 1) 0 = 1 from rfl, Int32.mul_one]
    rfl
  · rw [show corP c ρ 2 2 = (c 2 + ρ * mCS.getD (5 * 2 + 2) 0).toInt64 from rfl, ← h5 2 (by decide), show mCS.getD (5 * 2 + 2) 0 = 1 from rfl, Int32.mul_one]
    rfl
  · rw [show corP c ρ 2 3 = (c 3 + ρ * mCS.getD (5 * 2 + 3) 0).toInt64 from rfl, ← h5 3 (by decide), show mCS.getD (5 * 2 + 3) 0 = -1 from rfl, neg_m1]
    rfl
  · rw [show corP c ρ 2 4 = (c 4 + ρ * mCS.getD (5 * 2 + 4) 0).toInt64 from rfl, ← h5 4 (by decide), show mCS.getD (5 * 2 + 4) 0 = -1 from rfl, neg_m1]
    rfl
theorem cor_e3 {C c : Nat → Int32} {Z0 : Nat → Int64} {ρ : Int32} (h5 : eq12 C c) : ∀ t, t < 5 → (va_up (va_up (va_up (va_up (va_up Z0 0 (C 0 + ρ).toInt64) 1 (C 1 + -ρ).toInt64) 2 (C 2 + -ρ).toInt64) 3 (C 3 + ρ).toInt64) 4 (C 4 + ρ).toInt64) t = corP c ρ 3 t := fun t ht => by
  rcases lt5 ht with rfl | rfl | rfl | rfl | rfl
  · rw [show corP c ρ 3 0 = (c 0 + ρ * mCS.getD (5 * 3 + 0) 0).toInt64 from rfl, ← h5 0 (by decide), show mCS.getD (5 * 3 + 0) 0 = 1 from rfl, Int32.mul_one]
    rfl
  · rw [show corP c ρ 3 1 = (c 1 + ρ * mCS.getD (5 * 3 + 1) 0).toInt64 from rfl, ← h5 1 (by decide), show mCS.getD (5 * 3 + 1) 0 = -1 from rfl, neg_m1]
    rfl
  · rw [show corP c ρ 3 2 = (c 2 + ρ * mCS.getD (5 * 3 + 2) 0).toInt64 from rfl, ← h5 2 (by decide), show mCS.getD (5 * 3 + 2) 0 = -1 from rfl, neg_m1]
    rfl
  · rw [show corP c ρ 3 3 = (c 3 + ρ * mCS.getD (5 * 3 + 3) 0).toInt64 from rfl, ← h5 3 (by decide), show mCS.getD (5 * 3 + 3) 0 = 1 from rfl, Int32.mul_one]
    rfl
  · rw [show corP c ρ 3 4 = (c 4 + ρ * mCS.getD (5 * 3 + 4) 0).toInt64 from rfl, ← h5 4 (by decide), show mCS.getD (5 * 3 + 4) 0 = 1 from rfl, Int32.mul_one]
    rfl
set_option maxHeartbeats 400000 in
set_option maxRecDepth 100000 in
theorem l_X8_corner0 {n : Nat} {hp : mHp} {S : TS} {ia tm ρ t : Int32} {vx vy : Value} (hρ : -9 ≤ ρ.toInt ∧ ρ.toInt ≤ 9) (hC : okC S.1) (hTU : TUK) (hST : STK) {K : mK} (h : mRep hp S ia tm) (hX : mScX hp) (hk9 : ∀ (hp' : mHp) (t' : Int32), mRep hp' S ia tm → mScX hp' → t' = (if stA (corP S.1 ρ 0) = 0 then t else t + 1) → offM hp hp' → mW K D_X8_corners 0 0 n hp' 18 [.ref 67, .int ρ, .int t', .int (nI (0 + 1)), .int 12, .int 5] []) : mW K D_X8_corners 0 0 n hp 23 [.ref 67, .int ρ, .int t, .int 0, vx, vy] [] := by
  have hR := h
  obtain ⟨ri, ev, le, ch, ls, rm, sm, ra, fa, C, PA, h1, h2, h3, h4, h5, h6⟩ := h
  obtain ⟨Z0, A0, T0, Pr, s1, s2, s3, s4⟩ := hX
  have y1 : ∀ f : mE, va_up hp 76 f 67 = _ := fun f => (va_up_ne _ _ (by decide)).trans h1
  have y2 : ∀ f : mE, va_up hp 76 f 68 = eI 12 C := fun f => (va_up_ne _ _ (by decide)).trans h2
  refine m_iload_n dX8_corners_23 rfl ?_
  refine m_if_ne (t := 32) dX8_corners_24 (by decide) (fun q => absurd rfl q) (fun _ => ?_)
  refine m_bipush (v := 12) dX8_corners_27 (by decide) ?_
  refine m_goto (t := 54) dX8_corners_29 (by decide) ?_
  refine m_istore dX8_corners_54 (by decide) ?_
  show mW _ _ _ _ _ _ 56 [_, _, _, _, _, _] _
  refine m_iconst (v := 0) dX8_corners_56 (by decide) ?_
  refine m_istore dX8_corners_57 (by decide) ?_
  show mW _ _ _ _ _ _ 59 [_, _, _, _, _, _] _
  refine m_iload dX8_corners_59 rfl ?_
  refine m_iconst (v := 5) dX8_corners_61 (by decide) ?_
  refine m_icmp_ge (t := 104) dX8_corners_62 (by decide) (fun q => absurd q (by decide)) (fun _ => ?_)
  refine m_aload_n dX8_corners_65 rfl ?_
  refine m_getfield dX8_corners_66 fl_X8_39 (by first | assumption | rfl | exact y1 _ | exact y2 _ | exact va_up_self _ _ _) (by first | assumption | rfl | exact y1 _ | exact y2 _ | exact va_up_self _ _ _) ?_
  show mW _ _ _ _ _ _ _ _ (.ref _ :: _)
  refine m_iload dX8_corners_69 rfl ?_
  refine m_aload_n dX8_corners_71 rfl ?_
  refine m_getfield dX8_corners_72 fl_X8_7 (by first | assumption | rfl | exact y1 _ | exact y2 _ | exact va_up_self _ _ _) (by first | assumption | rfl | exact y1 _ | exact y2 _ | exact va_up_self _ _ _) ?_
  show mW _ _ _ _ _ _ _ _ (.ref _ :: _)
  refine m_iload dX8_corners_75 rfl ?_
  refine m_iaload (k := 0) dX8_corners_77 (by first | assumption | rfl | exact y1 _ | exact y2 _ | exact va_up_self _ _ _) ⟨by decide, by decide⟩ ?_
  refine m_iload dX8_corners_78 rfl ?_
  refine m_iload dX8_corners_80 rfl ?_
  refine m_ishr dX8_corners_82 ?_
  refine m_ci (v := 12) (by decide) ?_
  refine m_iconst (v := 1) dX8_corners_83 (by decide) ?_
  refine m_iand dX8_corners_84 ?_
  refine m_ci (v := 0) (by decide) ?_
  refine m_iconst (v := 1) dX8_corners_85 (by decide) ?_
  refine m_icmp_ne (t := 93) dX8_corners_86 (by decide) (fun _ => ?_) (fun q => absurd q (by decide))
  refine m_iload_n dX8_corners_93 rfl ?_
  refine m_ineg dX8_corners_94 ?_
  refine m_iadd dX8_corners_95 ?_
  refine m_i2l dX8_corners_96 ?_
  refine m_lastore (k := 0) dX8_corners_97 (by first | assumption | rfl | exact y1 _ | exact y2 _ | exact va_up_self _ _ _) ⟨by decide, by decide⟩ ?_
  try rw [va_uu]
  refine m_iinc (v := 1) dX8_corners_98 rfl (by decide) (by decide) ?_
  show mW _ _ _ _ _ _ 101 [_, _, _, _, _, _] _
  refine m_goto (t := 59) dX8_corners_101 (by decide) ?_
  refine m_iload dX8_corners_59 rfl ?_
  refine m_iconst (v := 5) dX8_corners_61 (by decide) ?_
  refine m_icmp_ge (t := 104) dX8_corners_62 (by decide) (fun q => absurd q (by decide)) (fun _ => ?_)
  refine m_aload_n dX8_corners_65 rfl ?_
  refine m_getfield dX8_corners_66 fl_X8_39 (by first | assumption | rfl | exact y1 _ | exact y2 _ | exact va_up_self _ _ _) (by first | assumption | rfl | exact y1 _ | exact y2 _ | exact va_up_self _ _ _) ?_
  show mW _ _ _ _ _ _ _ _ (.ref _ :: _)
  refine m_iload dX8_corners_69 rfl ?_
  refine m_aload_n dX8_corners_71 rfl ?_
  refine m_getfield dX8_corners_72 fl_X8_7 (by first | assumption | rfl | exact y1 _ | exact y2 _ | exact va_up_self _ _ _) (by first | assumption | rfl | exact y1 _ | exact y2 _ | exact va_up_self _ _ _) ?_
  show mW _ _ _ _ _ _ _ _ (.ref _ :: _)
  refine m_iload dX8_corners_75 rfl ?_
  refine m_iaload (k := 1) dX8_corners_77 (by first | assumption | rfl | exact y1 _ | exact y2 _ | exact va_up_self _ _ _) ⟨by decide, by decide⟩ ?_
  refine m_iload dX8_corners_78 rfl ?_
  refine m_iload dX8_corners_80 rfl ?_
  refine m_ishr dX8_corners_82 ?_
  refine m_ci (v := 6) (by decide) ?_
  refine m_iconst (v := 1) dX8_corners_83 (by decide) ?_
  refine m_iand dX8_corners_84 ?_
  refine m_ci (v := 0) (by decide) ?_
  refine m_iconst (v := 1) dX8_corners_85 (by decide) ?_
  refine m_icmp_ne (t := 93) dX8_corners_86 (by decide) (fun _ => ?_) (fun q => absurd q (by decide))
  refine m_iload_n dX8_corners_93 rfl ?_
  refine m_ineg dX8_corners_94 ?_
  refine m_iadd dX8_corners_95 ?_
  refine m_i2l dX8_corners_96 ?_
  refine m_lastore (k := 1) dX8_corners_97 (by first | assumption | rfl | exact y1 _ | exact y2 _ | exact va_up_self _ _ _) ⟨by decide, by decide⟩ ?_
  try rw [va_uu]
  refine m_iinc (v := 2) dX8_corners_98 rfl (by decide) (by decide) ?_
  show mW _ _ _ _ _ _ 101 [_, _, _, _, _, _] _
  refine m_goto (t := 59) dX8_corners_101 (by decide) ?_
  refine m_iload dX8_corners_59 rfl ?_
  refine m_iconst (v := 5) dX8_corners_61 (by decide) ?_
  refine m_icmp_ge (t := 104) dX8_corners_62 (by decide) (fun q => absurd q (by decide)) (fun _ => ?_)
  refine m_aload_n dX8_corners_65 rfl ?_
  refine m_getfield dX8_corners_66 fl_X8_39 (by first | assumption | rfl | exact y1 _ | exact y2 _ | exact va_up_self _ _ _) (by first | assumption | rfl | exact y1 _ | exact y2 _ | exact va_up_self _ _ _) ?_
  show mW _ _ _ _ _ _ _ _ (.ref _ :: _)
  refine m_iload dX8_corners_69 rfl ?_
  refine m_aload_n dX8_corners_71 rfl ?_
  refine m_getfield dX8_corners_72 fl_X8_7 (by first | assumption | rfl | exact y1 _ | exact y2 _ | exact va_up_self _ _ _) (by first | assumption | rfl | exact y1 _ | exact y2 _ | exact va_up_self _ _ _) ?_
  show mW _ _ _ _ _ _ _ _ (.ref _ :: _)
  refine m_iload dX8_corners_75 rfl ?_
  refine m_iaload (k := 2) dX8_corners_77 (by first | assumption | rfl | exact y1 _ | exact y2 _ | exact va_up_self _ _ _) ⟨by decide, by decide⟩ ?_
  refine m_iload dX8_corners_78 rfl ?_
  refine m_iload dX8_corners_80 rfl ?_
  refine m_ishr dX8_corners_82 ?_
  refine m_ci (v := 3) (by decide) ?_
  refine m_iconst (v := 1) dX8_corners_83 (by decide) ?_
  refine m_iand dX8_corners_84 ?_
  refine m_ci (v := 1) (by decide) ?_
  refine m_iconst (v := 1) dX8_corners_85 (by decide) ?_
  refine m_icmp_ne (t := 93) dX8_corners_86 (by decide) (fun q => absurd rfl q) (fun _ => ?_)
  refine m_iload_n dX8_corners_89 rfl ?_
  refine m_goto (t := 95) dX8_corners_90 (by decide) ?_
  refine m_iadd dX8_corners_95 ?_
  refine m_i2l dX8_corners_96 ?_
  refine m_lastore (k := 2) dX8_corners_97 (by first | assumption | rfl | exact y1 _ | exact y2 _ | exact va_up_self _ _ _) ⟨by decide, by decide⟩ ?_
  try rw [va_uu]
  refine m_iinc (v := 3) dX8_corners_98 rfl (by decide) (by decide) ?_
  show mW _ _ _ _ _ _ 101 [_, _, _, _, _, _] _
  refine m_goto (t := 59) dX8_corners_101 (by decide) ?_
  refine m_iload dX8_corners_59 rfl ?_
  refine m_iconst (v := 5) dX8_corners_61 (by decide) ?_
  refine m_icmp_ge (t := 104) dX8_corners_62 (by decide) (fun q => absurd q (by decide)) (fun _ => ?_)
  refine m_aload_n dX8_corners_65 rfl ?_
  refine m_getfield dX8_corners_66 fl_X8_39 (by first | assumption | rfl | exact y1 _ | exact y2 _ | exact va_up_self _ _ _) (by first | assumption | rfl | exact y1 _ | exact y2 _ | exact va_up_self _ _ _) ?_
  show mW _ _ _ _ _ _ _ _ (.ref _ :: _)
  refine m_iload dX8_corners_69 rfl ?_
  refine m_aload_n dX8_corners_71 rfl ?_
  refine m_getfield dX8_corners_72 fl_X8_7 (by first | assumption | rfl | exact y1 _ | exact y2 _ | exact va_up_self _ _ _) (by first | assumption | rfl | exact y1 _ | exact y2 _ | exact va_up_self _ _ _) ?_
  show mW _ _ _ _ _ _ _ _ (.ref _ :: _)
  refine m_iload dX8_corners_75 rfl ?_
  refine m_iaload (k := 3) dX8_corners_77 (by first | assumption | rfl | exact y1 _ | exact y2 _ | exact va_up_self _ _ _) ⟨by decide, by decide⟩ ?_
  refine m_iload dX8_corners_78 rfl ?_
  refine m_iload dX8_corners_80 rfl ?_
  refine m_ishr dX8_corners_82 ?_
  refine m_ci (v := 1) (by decide) ?_
  refine m_iconst (v := 1) dX8_corners_83 (by decide) ?_
  refine m_iand dX8_corners_84 ?_
  refine m_ci (v := 1) (by decide) ?_
  refine m_iconst (v := 1) dX8_corners_85 (by decide) ?_
  refine m_icmp_ne (t := 93) dX8_corners_86 (by decide) (fun q => absurd rfl q) (fun _ => ?_)
  refine m_iload_n dX8_corners_89 rfl ?_
  refine m_goto (t := 95) dX8_corners_90 (by decide) ?_
  refine m_iadd dX8_corners_95 ?_
  refine m_i2l dX8_corners_96 ?_
  refine m_lastore (k := 3) dX8_corners_97 (by first | assumption | rfl | exact y1 _ | exact y2 _ | exact va_up_self _ _ _) ⟨by decide, by decide⟩ ?_
  try rw [va_uu]
  refine m_iinc (v := 4) dX8_corners_98 rfl (by decide) (by decide) ?_
  show mW _ _ _ _ _ _ 101 [_, _, _, _, _, _] _
  refine m_goto (t := 59) dX8_corners_101 (by decide) ?_
  refine m_iload dX8_corners_59 rfl ?_
  refine m_iconst (v := 5) dX8_corners_61 (by decide) ?_
  refine m_icmp_ge (t := 104) dX8_corners_62 (by decide) (fun q => absurd q (by decide)) (fun _ => ?_)
  refine m_aload_n dX8_corners_65 rfl ?_
  refine m_getfield dX8_corners_66 fl_X8_39 (by first | assumption | rfl | exact y1 _ | exact y2 _ | exact va_up_self _ _ _) (by first | assumption | rfl | exact y1 _ | exact y2 _ | exact va_up_self _ _ _) ?_
  show mW _ _ _ _ _ _ _ _ (.ref _ :: _)
  refine m_iload dX8_corners_69 rfl ?_
  refine m_aload_n dX8_corners_71 rfl ?_
  refine m_getfield dX8_corners_72 fl_X8_7 (by first | assumption | rfl | exact y1 _ | exact y2 _ | exact va_up_self _ _ _) (by first | assumption | rfl | exact y1 _ | exact y2 _ | exact va_up_self _ _ _) ?_
  show mW _ _ _ _ _ _ _ _ (.ref _ :: _)
  refine m_iload dX8_corners_75 rfl ?_
  refine m_iaload (k := 4) dX8_corners_77 (by first | assumption | rfl | exact y1 _ | exact y2 _ | exact va_up_self _ _ _) ⟨by decide, by decide⟩ ?_
  refine m_iload dX8_corners_78 rfl ?_
  refine m_iload dX8_corners_80 rfl ?_
  refine m_ishr dX8_corners_82 ?_
  refine m_ci (v := 0) (by decide) ?_
  refine m_iconst (v := 1) dX8_corners_83 (by decide) ?_
  refine m_iand dX8_corners_84 ?_
  refine m_ci (v := 0) (by decide) ?_
  refine m_iconst (v := 1) dX8_corners_85 (by decide) ?_
  refine m_icmp_ne (t := 93) dX8_corners_86 (by decide) (fun _ => ?_) (fun q => absurd q (by decide))
  refine m_iload_n dX8_corners_93 rfl ?_
  refine m_ineg dX8_corners_94 ?_
  refine m_iadd dX8_corners_95 ?_
  refine m_i2l dX8_corners_96 ?_
  refine m_lastore (k := 4) dX8_corners_97 (by first | assumption | rfl | exact y1 _ | exact y2 _ | exact va_up_self _ _ _) ⟨by decide, by decide⟩ ?_
  try rw [va_uu]
  refine m_iinc (v := 5) dX8_corners_98 rfl (by decide) (by decide) ?_
  show mW _ _ _ _ _ _ 101 [_, _, _, _, _, _] _
  refine m_goto (t := 59) dX8_corners_101 (by decide) ?_
  refine m_iload dX8_corners_59 rfl ?_
  refine m_iconst (v := 5) dX8_corners_61 (by decide) ?_
  refine m_icmp_ge (t := 104) dX8_corners_62 (by decide) (fun _ => ?_) (fun q => absurd (by decide) q)
  refine m_iload_n dX8_corners_104 rfl ?_
  refine m_aload_n dX8_corners_105 rfl ?_
  refine m_iconst (v := 0) dX8_corners_106 (by decide) ?_
  refine m_invV dX8_corners_107 lk_X8_204 ar_X8_isSteady (ci := 8) rfl rfl (by first | assumption | rfl | exact y1 _ | exact y2 _ | exact va_up_self _ _ _) (t_st (b := 0) (Z := va_up (va_up (va_up (va_up (va_up Z0 0 (C 0 + -ρ).toInt64) 1 (C 1 + -ρ).toInt64) 2 (C 2 + ρ).toInt64) 3 (C 3 + ρ).toInt64) 4 (C 4 + -ρ).toInt64) (hR.of (fun q r1 r2 => va_up_ne _ _ (by omega))) ⟨A0, T0, Pr, va_up_self _ _ _, (va_up_ne _ _ (by decide)).trans s2, (va_up_ne _ _ (by decide)).trans s3, (va_up_ne _ _ (by decide)).trans s4⟩ hTU hST (bL_eq (corP_b hC.1 hρ (i := 0) (by decide)) (cor_e0 h5)) (by decide)) rfl (Nat.le_of_ble_eq_true rfl) (by decide) (by decide) (by decide) (by decide) (fun v hp' q => ?_)
  obtain ⟨x, rfl, x01, xs, gR, gX, gO⟩ := q
  have e9 : stB 0 (va_up (va_up (va_up (va_up (va_up Z0 0 (C 0 + -ρ).toInt64) 1 (C 1 + -ρ).toInt64) 2 (C 2 + ρ).toInt64) 3 (C 3 + ρ).toInt64) 4 (C 4 + -ρ).toInt64) = stA (corP S.1 ρ 0) := (stB_eq (b := 0) (cor_e0 h5)).trans stB_0
  rw [e9] at xs
  have gO' : offM hp hp' := fun q hq => (by rw [gO q hq, va_up_ne _ _ (by omega)])
  show mW K _ 0 0 n hp' 110 [.ref 67, .int ρ, .int t, .int (nI 0), .int 12, .int 5] [.int x, .int t]
  refine m_if_eq (t := 117) dX8_corners_110 (by decide) (fun c110 => ?_) (fun c110 => ?_)
  · rw [if_pos (xs.mp c110)] at hk9
    refine m_iconst (v := 0) dX8_corners_117 (by decide) ?_
    refine m_iadd dX8_corners_118 ?_
    refine m_ci (v := t) (Int32.add_zero t) ?_
    refine m_istore_n dX8_corners_119 (by decide) ?_
    show mW _ _ _ _ _ _ 120 [_, _, _, _, _, _] _
    refine m_iinc (v := nI (0 + 1)) dX8_corners_120 rfl (nI_1 0) (by decide) ?_
    show mW _ _ _ _ _ _ 123 [_, _, _, _, _, _] _
    refine m_goto (t := 18) dX8_corners_123 (by decide) ?_
    exact hk9 hp' _ gR gX rfl gO'
  rw [if_neg (fun y => c110 (xs.mpr y))] at hk9
  refine m_iconst (v := 1) dX8_corners_113 (by decide) ?_
  refine m_goto (t := 118) dX8_corners_114 (by decide) ?_
  refine m_iadd dX8_corners_118 ?_
  skip
  refine m_istore_n dX8_corners_119 (by decide) ?_
  show mW _ _ _ _ _ _ 120 [_, _, _, _, _, _] _
  refine m_iinc (v := nI (0 + 1)) dX8_corners_120 rfl (nI_1 0) (by decide) ?_
  show mW _ _ _ _ _ _ 123 [_, _, _, _, _, _] _
  refine m_goto (t := 18) dX8_corners_123 (by decide) ?_
  exact hk9 hp' _ gR gX rfl gO'

set_option maxHeartbeats 400000 in
set_option maxRecDepth 100000 in
theorem l_X8_corner1 {n : Nat} {hp : mHp} {S : TS} {ia tm ρ t : Int32} {vx vy : Value} (hρ : -9 ≤ ρ.toInt ∧ ρ.toInt ≤ 9) (hC : okC S.1) (hTU : TUK) (hST : STK) {K : mK} (h : mRep hp S ia tm) (hX : mScX hp) (hk9 : ∀ (hp' : mHp) (t' : Int32), mRep hp' S ia tm → mScX hp' → t' = (if stA (corP S.1 ρ 1) = 0 then t else t + 1) → offM hp hp' → mW K D_X8_corners 0 0 n hp' 18 [.ref 67, .int ρ, .int t', .int (nI (1 + 1)), .int 19, .int 5] []) : mW K D_X8_corners 0 0 n hp 23 [.ref 67, .int ρ, .int t, .int 1, vx, vy] [] := by
  have hR := h
  obtain ⟨ri, ev, le, ch, ls, rm, sm, ra, fa, C, PA, h1, h2, h3, h4, h5, h6⟩ := h
  obtain ⟨Z0, A0, T0, Pr, s1, s2, s3, s4⟩ := hX
  have y1 : ∀ f : mE, va_up hp 76 f 67 = _ := fun f => (va_up_ne _ _ (by decide)).trans h1
  have y2 : ∀ f : mE, va_up hp 76 f 68 = eI 12 C := fun f => (va_up_ne _ _ (by decide)).trans h2
  refine m_iload_n dX8_corners_23 rfl ?_
  refine m_if_ne (t := 32) dX8_corners_24 (by decide) (fun _ => ?_) (fun q => absurd q (by decide))
  refine m_iload_n dX8_corners_32 rfl ?_
  refine m_iconst (v := 1) dX8_corners_33 (by decide) ?_
  refine m_icmp_ne (t := 42) dX8_corners_34 (by decide) (fun q => absurd rfl q) (fun _ => ?_)
  refine m_bipush (v := 19) dX8_corners_37 (by decide) ?_
  refine m_goto (t := 54) dX8_corners_39 (by decide) ?_
  refine m_istore dX8_corners_54 (by decide) ?_
  show mW _ _ _ _ _ _ 56 [_, _, _, _, _, _] _
  refine m_iconst (v := 0) dX8_corners_56 (by decide) ?_
  refine m_istore dX8_corners_57 (by decide) ?_
  show mW _ _ _ _ _ _ 59 [_, _, _, _, _, _] _
  refine m_iload dX8_corners_59 rfl ?_
  refine m_iconst (v := 5) dX8_corners_61 (by decide) ?_
  refine m_icmp_ge (t := 104) dX8_corners_62 (by decide) (fun q => absurd q (by decide)) (fun _ => ?_)
  refine m_aload_n dX8_corners_65 rfl ?_
  refine m_getfield dX8_corners_66 fl_X8_39 (by first | assumption | rfl | exact y1 _ | exact y2 _ | exact va_up_self _ _ _) (by first | assumption | rfl | exact y1 _ | exact y2 _ | exact va_up_self _ _ _) ?_
  show mW _ _ _ _ _ _ _ _ (.ref _ :: _)
  refine m_iload dX8_corners_69 rfl ?_
  refine m_aload_n dX8_corners_71 rfl ?_
  refine m_getfield dX8_corners_72 fl_X8_7 (by first | assumption | rfl | exact y1 _ | exact y2 _ | exact va_up_self _ _ _) (by first | assumption | rfl | exact y1 _ | exact y2 _ | exact va_up_self _ _ _) ?_
  show mW _ _ _ _ _ _ _ _ (.ref _ :: _)
  refine m_iload dX8_corners_75 rfl ?_
  refine m_iaload (k := 0) dX8_corners_77 (by first | assumption | rfl | exact y1 _ | exact y2 _ | exact va_up_self _ _ _) ⟨by decide, by decide⟩ ?_
  refine m_iload dX8_corners_78 rfl ?_
  refine m_iload dX8_corners_80 rfl ?_
  refine m_ishr dX8_corners_82 ?_
  refine m_ci (v := 19) (by decide) ?_
  refine m_iconst (v := 1) dX8_corners_83 (by decide) ?_
  refine m_iand dX8_corners_84 ?_
  refine m_ci (v := 1) (by decide) ?_
  refine m_iconst (v := 1) dX8_corners_85 (by decide) ?_
  refine m_icmp_ne (t := 93) dX8_corners_86 (by decide) (fun q => absurd rfl q) (fun _ => ?_)
  refine m_iload_n dX8_corners_89 rfl ?_
  refine m_goto (t := 95) dX8_corners_90 (by decide) ?_
  refine m_iadd dX8_corners_95 ?_
  refine m_i2l dX8_corners_96 ?_
  refine m_lastore (k := 0) dX8_corners_97 (by first | assumption | rfl | exact y1 _ | exact y2 _ | exact va_up_self _ _ _) ⟨by decide, by decide⟩ ?_
  try rw [va_uu]
  refine m_iinc (v := 1) dX8_corners_98 rfl (by decide) (by decide) ?_
  show mW _ _ _ _ _ _ 101 [_, _, _, _, _, _] _
  refine m_goto (t := 59) dX8_corners_101 (by decide) ?_
  refine m_iload dX8_corners_59 rfl ?_
  refine m_iconst (v := 5) dX8_corners_61 (by decide) ?_
  refine m_icmp_ge (t := 104) dX8_corners_62 (by decide) (fun q => absurd q (by decide)) (fun _ => ?_)
  refine m_aload_n dX8_corners_65 rfl ?_
  refine m_getfield dX8_corners_66 fl_X8_39 (by first | assumption | rfl | exact y1 _ | exact y2 _ | exact va_up_self _ _ _) (by first | assumption | rfl | exact y1 _ | exact y2 _ | exact va_up_self _ _ _) ?_
  show mW _ _ _ _ _ _ _ _ (.ref _ :: _)
  refine m_iload dX8_corners_69 rfl ?_
  refine m_aload_n dX8_corners_71 rfl ?_
  refine m_getfield dX8_corners_72 fl_X8_7 (by first | assumption | rfl | exact y1 _ | exact y2 _ | exact va_up_self _ _ _) (by first | assumption | rfl | exact y1 _ | exact y2 _ | exact va_up_self _ _ _) ?_
  show mW _ _ _ _ _ _ _ _ (.ref _ :: _)
  refine m_iload dX8_corners_75 rfl ?_
  refine m_iaload (k := 1) dX8_corners_77 (by first | assumption | rfl | exact y1 _ | exact y2 _ | exact va_up_self _ _ _) ⟨by decide, by decide⟩ ?_
  refine m_iload dX8_corners_78 rfl ?_
  refine m_iload dX8_corners_80 rfl ?_
  refine m_ishr dX8_corners_82 ?_
  refine m_ci (v := 9) (by decide) ?_
  refine m_iconst (v := 1) dX8_corners_83 (by decide) ?_
  refine m_iand dX8_corners_84 ?_
  refine m_ci (v := 1) (by decide) ?_
  refine m_iconst (v := 1) dX8_corners_85 (by decide) ?_
  refine m_icmp_ne (t := 93) dX8_corners_86 (by decide) (fun q => absurd rfl q) (fun _ => ?_)
  refine m_iload_n dX8_corners_89 rfl ?_
  refine m_goto (t := 95) dX8_corners_90 (by decide) ?_
  refine m_iadd dX8_corners_95 ?_
  refine m_i2l dX8_corners_96 ?_
  refine m_lastore (k := 1) dX8_corners_97 (by first | assumption | rfl | exact y1 _ | exact y2 _ | exact va_up_self _ _ _) ⟨by decide, by decide⟩ ?_
  try rw [va_uu]
  refine m_iinc (v := 2) dX8_corners_98 rfl (by decide) (by decide) ?_
  show mW _ _ _ _ _ _ 101 [_, _, _, _, _, _] _
  refine m_goto (t := 59) dX8_corners_101 (by decide) ?_
  refine m_iload dX8_corners_59 rfl ?_
  refine m_iconst (v := 5) dX8_corners_61 (by decide) ?_
  refine m_icmp_ge (t := 104) dX8_corners_62 (by decide) (fun q => absurd q (by decide)) (fun _ => ?_)
  refine m_aload_n dX8_corners_65 rfl ?_
  refine m_getfield dX8_corners_66 fl_X8_39 (by first | assumption | rfl | exact y1 _ | exact y2 _ | exact va_up_self _ _ _) (by first | assumption | rfl | exact y1 _ | exact y2 _ | exact va_up_self _ _ _) ?_
  show mW _ _ _ _ _ _ _ _ (.ref _ :: _)
  refine m_iload dX8_corners_69 rfl ?_
  refine m_aload_n dX8_corners_71 rfl ?_
  refine m_getfield dX8_corners_72 fl_X8_7 (by first | assumption | rfl | exact y1 _ | exact y2 _ | exact va_up_self _ _ _) (by first | assumption | rfl | exact y1 _ | exact y2 _ | exact va_up_self _ _ _) ?_
  show mW _ _ _ _ _ _ _ _ (.ref _ :: _)
  refine m_iload dX8_corners_75 rfl ?_
  refine m_iaload (k := 2) dX8_corners_77 (by first | assumption | rfl | exact y1 _ | exact y2 _ | exact va_up_self _ _ _) ⟨by decide, by decide⟩ ?_
  refine m_iload dX8_corners_78 rfl ?_
  refine m_iload dX8_corners_80 rfl ?_
  refine m_ishr dX8_corners_82 ?_
  refine m_ci (v := 4) (by decide) ?_
  refine m_iconst (v := 1) dX8_corners_83 (by decide) ?_
  refine m_iand dX8_corners_84 ?_
  refine m_ci (v := 0) (by decide) ?_
  refine m_iconst (v := 1) dX8_corners_85 (by decide) ?_
  refine m_icmp_ne (t := 93) dX8_corners_86 (by decide) (fun _ => ?_) (fun q => absurd q (by decide))
  refine m_iload_n dX8_corners_93 rfl ?_
  refine m_ineg dX8_corners_94 ?_
  refine m_iadd dX8_corners_95 ?_
  refine m_i2l dX8_corners_96 ?_
  refine m_lastore (k := 2) dX8_corners_97 (by first | assumption | rfl | exact y1 _ | exact y2 _ | exact va_up_self _ _ _) ⟨by decide, by decide⟩ ?_
  try rw [va_uu]
  refine m_iinc (v := 3) dX8_corners_98 rfl (by decide) (by decide) ?_
  show mW _ _ _ _ _ _ 101 [_, _, _, _, _, _] _
  refine m_goto (t := 59) dX8_corners_101 (by decide) ?_
  refine m_iload dX8_corners_59 rfl ?_
  refine m_iconst (v := 5) dX8_corners_61 (by decide) ?_
  refine m_icmp_ge (t := 104) dX8_corners_62 (by decide) (fun q => absurd q (by decide)) (fun _ => ?_)
  refine m_aload_n dX8_corners_65 rfl ?_
  refine m_getfield dX8_corners_66 fl_X8_39 (by first | assumption | rfl | exact y1 _ | exact y2 _ | exact va_up_self _ _ _) (by first | assumption | rfl | exact y1 _ | exact y2 _ | exact va_up_self _ _ _) ?_
  show mW _ _ _ _ _ _ _ _ (.ref _ :: _)
  refine m_iload dX8_corners_69 rfl ?_
  refine m_aload_n dX8_corners_71 rfl ?_
  refine m_getfield dX8_corners_72 fl_X8_7 (by first | assumption | rfl | exact y1 _ | exact y2 _ | exact va_up_self _ _ _) (by first | assumption | rfl | exact y1 _ | exact y2 _ | exact va_up_self _ _ _) ?_
  show mW _ _ _ _ _ _ _ _ (.ref _ :: _)
  refine m_iload dX8_corners_75 rfl ?_
  refine m_iaload (k := 3) dX8_corners_77 (by first | assumption | rfl | exact y1 _ | exact y2 _ | exact va_up_self _ _ _) ⟨by decide, by decide⟩ ?_
  refine m_iload dX8_corners_78 rfl ?_
  refine m_iload dX8_corners_80 rfl ?_
  refine m_ishr dX8_corners_82 ?_
  refine m_ci (v := 2) (by decide) ?_
  refine m_iconst (v := 1) dX8_corners_83 (by decide) ?_
  refine m_iand dX8_corners_84 ?_
  refine m_ci (v := 0) (by decide) ?_
  refine m_iconst (v := 1) dX8_corners_85 (by decide) ?_
  refine m_icmp_ne (t := 93) dX8_corners_86 (by decide) (fun _ => ?_) (fun q => absurd q (by decide))
  refine m_iload_n dX8_corners_93 rfl ?_
  refine m_ineg dX8_corners_94 ?_
  refine m_iadd dX8_corners_95 ?_
  refine m_i2l dX8_corners_96 ?_
  refine m_lastore (k := 3) dX8_corners_97 (by first | assumption | rfl | exact y1 _ | exact y2 _ | exact va_up_self _ _ _) ⟨by decide, by decide⟩ ?_
  try rw [va_uu]
  refine m_iinc (v := 4) dX8_corners_98 rfl (by decide) (by decide) ?_
  show mW _ _ _ _ _ _ 101 [_, _, _, _, _, _] _
  refine m_goto (t := 59) dX8_corners_101 (by decide) ?_
  refine m_iload dX8_corners_59 rfl ?_
  refine m_iconst (v := 5) dX8_corners_61 (by decide) ?_
  refine m_icmp_ge (t := 104) dX8_corners_62 (by decide) (fun q => absurd q (by decide)) (fun _ => ?_)
  refine m_aload_n dX8_corners_65 rfl ?_
  refine m_getfield dX8_corners_66 fl_X8_39 (by first | assumption | rfl | exact y1 _ | exact y2 _ | exact va_up_self _ _ _) (by first | assumption | rfl | exact y1 _ | exact y2 _ | exact va_up_self _ _ _) ?_
  show mW _ _ _ _ _ _ _ _ (.ref _ :: _)
  refine m_iload dX8_corners_69 rfl ?_
  refine m_aload_n dX8_corners_71 rfl ?_
  refine m_getfield dX8_corners_72 fl_X8_7 (by first | assumption | rfl | exact y1 _ | exact y2 _ | exact va_up_self _ _ _) (by first | assumption | rfl | exact y1 _ | exact y2 _ | exact va_up_self _ _ _) ?_
  show mW _ _ _ _ _ _ _ _ (.ref _ :: _)
  refine m_iload dX8_corners_75 rfl ?_
  refine m_iaload (k := 4) dX8_corners_77 (by first | assumption | rfl | exact y1 _ | exact y2 _ | exact va_up_self _ _ _) ⟨by decide, by decide⟩ ?_
  refine m_iload dX8_corners_78 rfl ?_
  refine m_iload dX8_corners_80 rfl ?_
  refine m_ishr dX8_corners_82 ?_
  refine m_ci (v := 1) (by decide) ?_
  refine m_iconst (v := 1) dX8_corners_83 (by decide) ?_
  refine m_iand dX8_corners_84 ?_
  refine m_ci (v := 1) (by decide) ?_
  refine m_iconst (v := 1) dX8_corners_85 (by decide) ?_
  refine m_icmp_ne (t := 93) dX8_corners_86 (by decide) (fun q => absurd rfl q) (fun _ => ?_)
  refine m_iload_n dX8_corners_89 rfl ?_
  refine m_goto (t := 95) dX8_corners_90 (by decide) ?_
  refine m_iadd dX8_corners_95 ?_
  refine m_i2l dX8_corners_96 ?_
  refine m_lastore (k := 4) dX8_corners_97 (by first | assumption | rfl | exact y1 _ | exact y2 _ | exact va_up_self _ _ _) ⟨by decide, by decide⟩ ?_
  try rw [va_uu]
  refine m_iinc (v := 5) dX8_corners_98 rfl (by decide) (by decide) ?_
  show mW _ _ _ _ _ _ 101 [_, _, _, _, _, _] _
  refine m_goto (t := 59) dX8_corners_101 (by decide) ?_
  refine m_iload dX8_corners_59 rfl ?_
  refine m_iconst (v := 5) dX8_corners_61 (by decide) ?_
  refine m_icmp_ge (t := 104) dX8_corners_62 (by decide) (fun _ => ?_) (fun q => absurd (by decide) q)
  refine m_iload_n dX8_corners_104 rfl ?_
  refine m_aload_n dX8_corners_105 rfl ?_
  refine m_iconst (v := 0) dX8_corners_106 (by decide) ?_
  refine m_invV dX8_corners_107 lk_X8_204 ar_X8_isSteady (ci := 8) rfl rfl (by first | assumption | rfl | exact y1 _ | exact y2 _ | exact va_up_self _ _ _) (t_st (b := 0) (Z := va_up (va_up (va_up (va_up (va_up Z0 0 (C 0 + ρ).toInt64) 1 (C 1 + ρ).toInt64) 2 (C 2 + -ρ).toInt64) 3 (C 3 + -ρ).toInt64) 4 (C 4 + ρ).toInt64) (hR.of (fun q r1 r2 => va_up_ne _ _ (by omega))) ⟨A0, T0, Pr, va_up_self _ _ _, (va_up_ne _ _ (by decide)).trans s2, (va_up_ne _ _ (by decide)).trans s3, (va_up_ne _ _ (by decide)).trans s4⟩ hTU hST (bL_eq (corP_b hC.1 hρ (i := 1) (by decide)) (cor_e1 h5)) (by decide)) rfl (Nat.le_of_ble_eq_true rfl) (by decide) (by decide) (by decide) (by decide) (fun v hp' q => ?_)
  obtain ⟨x, rfl, x01, xs, gR, gX, gO⟩ := q
  have e9 : stB 0 (va_up (va_up (va_up (va_up (va_up Z0 0 (C 0 + ρ).toInt64) 1 (C 1 + ρ).toInt64) 2 (C 2 + -ρ).toInt64) 3 (C 3 + -ρ).toInt64) 4 (C 4 + ρ).toInt64) = stA (corP S.1 ρ 1) := (stB_eq (b := 0) (cor_e1 h5)).trans stB_0
  rw [e9] at xs
  have gO' : offM hp hp' := fun q hq => (by rw [gO q hq, va_up_ne _ _ (by omega)])
  show mW K _ 0 0 n hp' 110 [.ref 67, .int ρ, .int t, .int (nI 1), .int 19, .int 5] [.int x, .int t]
  refine m_if_eq (t := 117) dX8_corners_110 (by decide) (fun c110 => ?_) (fun c110 => ?_)
  · rw [if_pos (xs.mp c110)] at hk9
    refine m_iconst (v := 0) dX8_corners_117 (by decide) ?_
    refine m_iadd dX8_corners_118 ?_
    refine m_ci (v := t) (Int32.add_zero t) ?_
    refine m_istore_n dX8_corners_119 (by decide) ?_
    show mW _ _ _ _ _ _ 120 [_, _, _, _, _, _] _
    refine m_iinc (v := nI (1 + 1)) dX8_corners_120 rfl (nI_1 1) (by decide) ?_
    show mW _ _ _ _ _ _ 123 [_, _, _, _, _, _] _
    refine m_goto (t := 18) dX8_corners_123 (by decide) ?_
    exact hk9 hp' _ gR gX rfl gO'
  rw [if_neg (fun y => c110 (xs.mpr y))] at hk9
  refine m_iconst (v := 1) dX8_corners_113 (by decide) ?_
  refine m_goto (t := 118) dX8_corners_114 (by decide) ?_
  refine m_iadd dX8_corners_118 ?_
  skip
  refine m_istore_n dX8_corners_119 (by decide) ?_
  show mW _ _ _ _ _ _ 120 [_, _, _, _, _, _] _
  refine m_iinc (v := nI (1 + 1)) dX8_corners_120 rfl (nI_1 1) (by decide) ?_
  show mW _ _ _ _ _ _ 123 [_, _, _, _, _, _] _
  refine m_goto (t := 18) dX8_corners_123 (by decide) ?_
  exact hk9 hp' _ gR gX rfl gO'

set_option maxHeartbeats 400000 in
set_option maxRecDepth 100000 in
theorem l_X8_corner2 {n : Nat} {hp : mHp} {S : TS} {ia tm ρ t : Int32} {vx vy : Value} (hρ : -9 ≤ ρ.toInt ∧ ρ.toInt ≤ 9) (hC : okC S.1) (hTU : TUK) (hST : STK) {K : mK} (h : mRep hp S ia tm) (hX : mScX hp) (hk9 : ∀ (hp' : mHp) (t' : Int32), mRep hp' S ia tm → mScX hp' → t' = (if stA (corP S.1 ρ 2) = 0 then t else t + 1) → offM hp hp' → mW K D_X8_corners 0 0 n hp' 18 [.ref 67, .int ρ, .int t', .int (nI (2 + 1)), .int 6, .int 5] []) : mW K D_X8_corners 0 0 n hp 23 [.ref 67, .int ρ, .int t, .int 2, vx, vy] [] := by
  have hR := h
  obtain ⟨ri, ev, le, ch, ls, rm, sm, ra, fa, C, PA, h1, h2, h3, h4, h5, h6⟩ := h
  obtain ⟨Z0, A0, T0, Pr, s1, s2, s3, s4⟩ := hX
  have y1 : ∀ f : mE, va_up hp 76 f 67 = _ := fun f => (va_up_ne _ _ (by decide)).trans h1
  have y2 : ∀ f : mE, va_up hp 76 f 68 = eI 12 C := fun f => (va_up_ne _ _ (by decide)).trans h2
  refine m_iload_n dX8_corners_23 rfl ?_
  refine m_if_ne (t := 32) dX8_corners_24 (by decide) (fun _ => ?_) (fun q => absurd q (by decide))
  refine m_iload_n dX8_corners_32 rfl ?_
  refine m_iconst (v := 1) dX8_corners_33 (by decide) ?_
  refine m_icmp_ne (t := 42) dX8_corners_34 (by decide) (fun _ => ?_) (fun q => absurd q (by decide))
  refine m_iload_n dX8_corners_42 rfl ?_
  refine m_iconst (v := 2) dX8_corners_43 (by decide) ?_
  refine m_icmp_ne (t := 52) dX8_corners_44 (by decide) (fun q => absurd rfl q) (fun _ => ?_)
  refine m_bipush (v := 6) dX8_corners_47 (by decide) ?_
  refine m_goto (t := 54) dX8_corners_49 (by decide) ?_
  refine m_istore dX8_corners_54 (by decide) ?_
  show mW _ _ _ _ _ _ 56 [_, _, _, _, _, _] _
  refine m_iconst (v := 0) dX8_corners_56 (by decide) ?_
  refine m_istore dX8_corners_57 (by decide) ?_
  show mW _ _ _ _ _ _ 59 [_, _, _, _, _, _] _
  refine m_iload dX8_corners_59 rfl ?_
  refine m_iconst (v := 5) dX8_corners_61 (by decide) ?_
  refine m_icmp_ge (t := 104) dX8_corners_62 (by decide) (fun q => absurd q (by decide)) (fun _ => ?_)
  refine m_aload_n dX8_corners_65 rfl ?_
  refine m_getfield dX8_corners_66 fl_X8_39 (by first | assumption | rfl | exact y1 _ | exact y2 _ | exact va_up_self _ _ _) (by first | assumption | rfl | exact y1 _ | exact y2 _ | exact va_up_self _ _ _) ?_
  show mW _ _ _ _ _ _ _ _ (.ref _ :: _)
  refine m_iload dX8_corners_69 rfl ?_
  refine m_aload_n dX8_corners_71 rfl ?_
  refine m_getfield dX8_corners_72 fl_X8_7 (by first | assumption | rfl | exact y1 _ | exact y2 _ | exact va_up_self _ _ _) (by first | assumption | rfl | exact y1 _ | exact y2 _ | exact va_up_self _ _ _) ?_
  show mW _ _ _ _ _ _ _ _ (.ref _ :: _)
  refine m_iload dX8_corners_75 rfl ?_
  refine m_iaload (k := 0) dX8_corners_77 (by first | assumption | rfl | exact y1 _ | exact y2 _ | exact va_up_self _ _ _) ⟨by decide, by decide⟩ ?_
  refine m_iload dX8_corners_78 rfl ?_
  refine m_iload dX8_corners_80 rfl ?_
  refine m_ishr dX8_corners_82 ?_
  refine m_ci (v := 6) (by decide) ?_
  refine m_iconst (v := 1) dX8_corners_83 (by decide) ?_
  refine m_iand dX8_corners_84 ?_
  refine m_ci (v := 0) (by decide) ?_
  refine m_iconst (v := 1) dX8_corners_85 (by decide) ?_
  refine m_icmp_ne (t := 93) dX8_corners_86 (by decide) (fun _ => ?_) (fun q => absurd q (by decide))
  refine m_iload_n dX8_corners_93 rfl ?_
  refine m_ineg dX8_corners_94 ?_
  refine m_iadd dX8_corners_95 ?_
  refine m_i2l dX8_corners_96 ?_
  refine m_lastore (k := 0) dX8_corners_97 (by first | assumption | rfl | exact y1 _ | exact y2 _ | exact va_up_self _ _ _) ⟨by decide, by decide⟩ ?_
  try rw [va_uu]
  refine m_iinc (v := 1) dX8_corners_98 rfl (by decide) (by decide) ?_
  show mW _ _ _ _ _ _ 101 [_, _, _, _, _, _] _
  refine m_goto (t := 59) dX8_corners_101 (by decide) ?_
  refine m_iload dX8_corners_59 rfl ?_
  refine m_iconst (v := 5) dX8_corners_61 (by decide) ?_
  refine m_icmp_ge (t := 104) dX8_corners_62 (by decide) (fun q => absurd q (by decide)) (fun _ => ?_)
  refine m_aload_n dX8_corners_65 rfl ?_
  refine m_getfield dX8_corners_66 fl_X8_39 (by first | assumption | rfl | exact y1 _ | exact y2 _ | exact va_up_self _ _ _) (by first | assumption | rfl | exact y1 _ | exact y2 _ | exact va_up_self _ _ _) ?_
  show mW _ _ _ _ _ _ _ _ (.ref _ :: _)
  refine m_iload dX8_corners_69 rfl ?_
  refine m_aload_n dX8_corners_71 rfl ?_
  refine m_getfield dX8_corners_72 fl_X8_7 (by first | assumption | rfl | exact y1 _ | exact y2 _ | exact va_up_self _ _ _) (by first | assumption | rfl | exact y1 _ | exact y2 _ | exact va_up_self _ _ _) ?_
  show mW _ _ _ _ _ _ _ _ (.ref _ :: _)
  refine m_iload dX8_corners_75 rfl ?_
  refine m_iaload (k := 1) dX8_corners_77 (by first | assumption | rfl | exact y1 _ | exact y2 _ | exact va_up_self _ _ _) ⟨by decide, by decide⟩ ?_
  refine m_iload dX8_corners_78 rfl ?_
  refine m_iload dX8_corners_80 rfl ?_
  refine m_ishr dX8_corners_82 ?_
  refine m_ci (v := 3) (by decide) ?_
  refine m_iconst (v := 1) dX8_corners_83 (by decide) ?_
  refine m_iand dX8_corners_84 ?_
  refine m_ci (v := 1) (by decide) ?_
  refine m_iconst (v := 1) dX8_corners_85 (by decide) ?_
  refine m_icmp_ne (t := 93) dX8_corners_86 (by decide) (fun q => absurd rfl q) (fun _ => ?_)
  refine m_iload_n dX8_corners_89 rfl ?_
  refine m_goto (t := 95) dX8_corners_90 (by decide) ?_
  refine m_iadd dX8_corners_95 ?_
  refine m_i2l dX8_corners_96 ?_
  refine m_lastore (k := 1) dX8_corners_97 (by first | assumption | rfl | exact y1 _ | exact y2 _ | exact va_up_self _ _ _) ⟨by decide, by decide⟩ ?_
  try rw [va_uu]
  refine m_iinc (v := 2) dX8_corners_98 rfl (by decide) (by decide) ?_
  show mW _ _ _ _ _ _ 101 [_, _, _, _, _, _] _
  refine m_goto (t := 59) dX8_corners_101 (by decide) ?_
  refine m_iload dX8_corners_59 rfl ?_
  refine m_iconst (v := 5) dX8_corners_61 (by decide) ?_
  refine m_icmp_ge (t := 104) dX8_corners_62 (by decide) (fun q => absurd q (by decide)) (fun _ => ?_)
  refine m_aload_n dX8_corners_65 rfl ?_
  refine m_getfield dX8_corners_66 fl_X8_39 (by first | assumption | rfl | exact y1 _ | exact y2 _ | exact va_up_self _ _ _) (by first | assumption | rfl | exact y1 _ | exact y2 _ | exact va_up_self _ _ _) ?_
  show mW _ _ _ _ _ _ _ _ (.ref _ :: _)
  refine m_iload dX8_corners_69 rfl ?_
  refine m_aload_n dX8_corners_71 rfl ?_
  refine m_getfield dX8_corners_72 fl_X8_7 (by first | assumption | rfl | exact y1 _ | exact y2 _ | exact va_up_self _ _ _) (by first | assumption | rfl | exact y1 _ | exact y2 _ | exact va_up_self _ _ _) ?_
  show mW _ _ _ _ _ _ _ _ (.ref _ :: _)
  refine m_iload dX8_corners_75 rfl ?_
  refine m_iaload (k := 2) dX8_corners_77 (by first | assumption | rfl | exact y1 _ | exact y2 _ | exact va_up_self _ _ _) ⟨by decide, by decide⟩ ?_
  refine m_iload dX8_corners_78 rfl ?_
  refine m_iload dX8_corners_80 rfl ?_
  refine m_ishr dX8_corners_82 ?_
  refine m_ci (v := 1) (by decide) ?_
  refine m_iconst (v := 1) dX8_corners_83 (by decide) ?_
  refine m_iand dX8_corners_84 ?_
  refine m_ci (v := 1) (by decide) ?_
  refine m_iconst (v := 1) dX8_corners_85 (by decide) ?_
  refine m_icmp_ne (t := 93) dX8_corners_86 (by decide) (fun q => absurd rfl q) (fun _ => ?_)
  refine m_iload_n dX8_corners_89 rfl ?_
  refine m_goto (t := 95) dX8_corners_90 (by decide) ?_
  refine m_iadd dX8_corners_95 ?_
  refine m_i2l dX8_corners_96 ?_
  refine m_lastore (k := 2) dX8_corners_97 (by first | assumption | rfl | exact y1 _ | exact y2 _ | exact va_up_self _ _ _) ⟨by decide, by decide⟩ ?_
  try rw [va_uu]
  refine m_iinc (v := 3) dX8_corners_98 rfl (by decide) (by decide) ?_
  show mW _ _ _ _ _ _ 101 [_, _, _, _, _, _] _
  refine m_goto (t := 59) dX8_corners_101 (by decide) ?_
  refine m_iload dX8_corners_59 rfl ?_
  refine m_iconst (v := 5) dX8_corners_61 (by decide) ?_
  refine m_icmp_ge (t := 104) dX8_corners_62 (by decide) (fun q => absurd q (by decide)) (fun _ => ?_)
  refine m_aload_n dX8_corners_65 rfl ?_
  refine m_getfield dX8_corners_66 fl_X8_39 (by first | assumption | rfl | exact y1 _ | exact y2 _ | exact va_up_self _ _ _) (by first | assumption | rfl | exact y1 _ | exact y2 _ | exact va_up_self _ _ _) ?_
  show mW _ _ _ _ _ _ _ _ (.ref _ :: _)
  refine m_iload dX8_corners_69 rfl ?_
  refine m_aload_n dX8_corners_71 rfl ?_
  refine m_getfield dX8_corners_72 fl_X8_7 (by first | assumption | rfl | exact y1 _ | exact y2 _ | exact va_up_self _ _ _) (by first | assumption | rfl | exact y1 _ | exact y2 _ | exact va_up_self _ _ _) ?_
  show mW _ _ _ _ _ _ _ _ (.ref _ :: _)
  refine m_iload dX8_corners_75 rfl ?_
  refine m_iaload (k := 3) dX8_corners_77 (by first | assumption | rfl | exact y1 _ | exact y2 _ | exact va_up_self _ _ _) ⟨by decide, by decide⟩ ?_
  refine m_iload dX8_corners_78 rfl ?_
  refine m_iload dX8_corners_80 rfl ?_
  refine m_ishr dX8_corners_82 ?_
  refine m_ci (v := 0) (by decide) ?_
  refine m_iconst (v := 1) dX8_corners_83 (by decide) ?_
  refine m_iand dX8_corners_84 ?_
  refine m_ci (v := 0) (by decide) ?_
  refine m_iconst (v := 1) dX8_corners_85 (by decide) ?_
  refine m_icmp_ne (t := 93) dX8_corners_86 (by decide) (fun _ => ?_) (fun q => absurd q (by decide))
  refine m_iload_n dX8_corners_93 rfl ?_
  refine m_ineg dX8_corners_94 ?_
  refine m_iadd dX8_corners_95 ?_
  refine m_i2l dX8_corners_96 ?_
  refine m_lastore (k := 3) dX8_corners_97 (by first | assumption | rfl | exact y1 _ | exact y2 _ | exact va_up_self _ _ _) ⟨by decide, by decide⟩ ?_
  try rw [va_uu]
  refine m_iinc (v := 4) dX8_corners_98 rfl (by decide) (by decide) ?_
  show mW _ _ _ _ _ _ 101 [_, _, _, _, _, _] _
  refine m_goto (t := 59) dX8_corners_101 (by decide) ?_
  refine m_iload dX8_corners_59 rfl ?_
  refine m_iconst (v := 5) dX8_corners_61 (by decide) ?_
  refine m_icmp_ge (t := 104) dX8_corners_62 (by decide) (fun q => absurd q (by decide)) (fun _ => ?_)
  refine m_aload_n dX8_corners_65 rfl ?_
  refine m_getfield dX8_corners_66 fl_X8_39 (by first | assumption | rfl | exact y1 _ | exact y2 _ | exact va_up_self _ _ _) (by first | assumption | rfl | exact y1 _ | exact y2 _ | exact va_up_self _ _ _) ?_
  show mW _ _ _ _ _ _ _ _ (.ref _ :: _)
  refine m_iload dX8_corners_69 rfl ?_
  refine m_aload_n dX8_corners_71 rfl ?_
  refine m_getfield dX8_corners_72 fl_X8_7 (by first | assumption | rfl | exact y1 _ | exact y2 _ | exact va_up_self _ _ _) (by first | assumption | rfl | exact y1 _ | exact y2 _ | exact va_up_self _ _ _) ?_
  show mW _ _ _ _ _ _ _ _ (.ref _ :: _)
  refine m_iload dX8_corners_75 rfl ?_
  refine m_iaload (k := 4) dX8_corners_77 (by first | assumption | rfl | exact y1 _ | exact y2 _ | exact va_up_self _ _ _) ⟨by decide, by decide⟩ ?_
  refine m_iload dX8_corners_78 rfl ?_
  refine m_iload dX8_corners_80 rfl ?_
  refine m_ishr dX8_corners_82 ?_
  refine m_ci (v := 0) (by decide) ?_
  refine m_iconst (v := 1) dX8_corners_83 (by decide) ?_
  refine m_iand dX8_corners_84 ?_
  refine m_ci (v := 0) (by decide) ?_
  refine m_iconst (v := 1) dX8_corners_85 (by decide) ?_
  refine m_icmp_ne (t := 93) dX8_corners_86 (by decide) (fun _ => ?_) (fun q => absurd q (by decide))
  refine m_iload_n dX8_corners_93 rfl ?_
  refine m_ineg dX8_corners_94 ?_
  refine m_iadd dX8_corners_95 ?_
  refine m_i2l dX8_corners_96 ?_
  refine m_lastore (k := 4) dX8_corners_97 (by first | assumption | rfl | exact y1 _ | exact y2 _ | exact va_up_self _ _ _) ⟨by decide, by decide⟩ ?_
  try rw [va_uu]
  refine m_iinc (v := 5) dX8_corners_98 rfl (by decide) (by decide) ?_
  show mW _ _ _ _ _ _ 101 [_, _, _, _, _, _] _
  refine m_goto (t := 59) dX8_corners_101 (by decide) ?_
  refine m_iload dX8_corners_59 rfl ?_
  refine m_iconst (v := 5) dX8_corners_61 (by decide) ?_
  refine m_icmp_ge (t := 104) dX8_corners_62 (by decide) (fun _ => ?_) (fun q => absurd (by decide) q)
  refine m_iload_n dX8_corners_104 rfl ?_
  refine m_aload_n dX8_corners_105 rfl ?_
  refine m_iconst (v := 0) dX8_corners_106 (by decide) ?_
  refine m_invV dX8_corners_107 lk_X8_204 ar_X8_isSteady (ci := 8) rfl rfl (by first | assumption | rfl | exact y1 _ | exact y2 _ | exact va_up_self _ _ _) (t_st (b := 0) (Z := va_up (va_up (va_up (va_up (va_up Z0 0 (C 0 + -ρ).toInt64) 1 (C 1 + ρ).toInt64) 2 (C 2 + ρ).toInt64) 3 (C 3 + -ρ).toInt64) 4 (C 4 + -ρ).toInt64) (hR.of (fun q r1 r2 => va_up_ne _ _ (by omega))) ⟨A0, T0, Pr, va_up_self _ _ _, (va_up_ne _ _ (by decide)).trans s2, (va_up_ne _ _ (by decide)).trans s3, (va_up_ne _ _ (by decide)).trans s4⟩ hTU hST (bL_eq (corP_b hC.1 hρ (i := 2) (by decide)) (cor_e2 h5)) (by decide)) rfl (Nat.le_of_ble_eq_true rfl) (by decide) (by decide) (by decide) (by decide) (fun v hp' q => ?_)
  obtain ⟨x, rfl, x01, xs, gR, gX, gO⟩ := q
  have e9 : stB 0 (va_up (va_up (va_up (va_up (va_up Z0 0 (C 0 + -ρ).toInt64) 1 (C 1 + ρ).toInt64) 2 (C 2 + ρ).toInt64) 3 (C 3 + -ρ).toInt64) 4 (C 4 + -ρ).toInt64) = stA (corP S.1 ρ 2) := (stB_eq (b := 0) (cor_e2 h5)).trans stB_0
  rw [e9] at xs
  have gO' : offM hp hp' := fun q hq => (by rw [gO q hq, va_up_ne _ _ (by omega)])
  show mW K _ 0 0 n hp' 110 [.ref 67, .int ρ, .int t, .int (nI 2), .int 6, .int 5] [.int x, .int t]
  refine m_if_eq (t := 117) dX8_corners_110 (by decide) (fun c110 => ?_) (fun c110 => ?_)
  · rw [if_pos (xs.mp c110)] at hk9
    refine m_iconst (v := 0) dX8_corners_117 (by decide) ?_
    refine m_iadd dX8_corners_118 ?_
    refine m_ci (v := t) (Int32.add_zero t) ?_
    refine m_istore_n dX8_corners_119 (by decide) ?_
    show mW _ _ _ _ _ _ 120 [_, _, _, _, _, _] _
    refine m_iinc (v := nI (2 + 1)) dX8_corners_120 rfl (nI_1 2) (by decide) ?_
    show mW _ _ _ _ _ _ 123 [_, _, _, _, _, _] _
    refine m_goto (t := 18) dX8_corners_123 (by decide) ?_
    exact hk9 hp' _ gR gX rfl gO'
  rw [if_neg (fun y => c110 (xs.mpr y))] at hk9
  refine m_iconst (v := 1) dX8_corners_113 (by decide) ?_
  refine m_goto (t := 118) dX8_corners_114 (by decide) ?_
  refine m_iadd dX8_corners_118 ?_
  skip
  refine m_istore_n dX8_corners_119 (by decide) ?_
  show mW _ _ _ _ _ _ 120 [_, _, _, _, _, _] _
  refine m_iinc (v := nI (2 + 1)) dX8_corners_120 rfl (nI_1 2) (by decide) ?_
  show mW _ _ _ _ _ _ 123 [_, _, _, _, _, _] _
  refine m_goto (t := 18) dX8_corners_123 (by decide) ?_
  exact hk9 hp' _ gR gX rfl gO'

set_option maxHeartbeats 400000 in
set_option maxRecDepth 100000 in
theorem l_X8_corner3 {n : Nat} {hp : mHp} {S : TS} {ia tm ρ t : Int32} {vx vy : Value} (hρ : -9 ≤ ρ.toInt ∧ ρ.toInt ≤ 9) (hC : okC S.1) (hTU : TUK) (hST : STK) {K : mK} (h : mRep hp S ia tm) (hX : mScX hp) (hk9 : ∀ (hp' : mHp) (t' : Int32), mRep hp' S ia tm → mScX hp' → t' = (if stA (corP S.1 ρ 3) = 0 then t else t + 1) → offM hp hp' → mW K D_X8_corners 0 0 n hp' 18 [.ref 67, .int ρ, .int t', .int (nI (3 + 1)), .int 25, .int 5] []) : mW K D_X8_corners 0 0 n hp 23 [.ref 67, .int ρ, .int t, .int 3, vx, vy] [] := by
  have hR := h
  obtain ⟨ri, ev, le, ch, ls, rm, sm, ra, fa, C, PA, h1, h2, h3, h4, h5, h6⟩ := h
  obtain ⟨Z0, A0, T0, Pr, s1, s2, s3, s4⟩ := hX
  have y1 : ∀ f : mE, va_up hp 76 f 67 = _ := fun f => (va_up_ne _ _ (by decide)).trans h1
  have y2 : ∀ f : mE, va_up hp 76 f 68 = eI 12 C := fun f => (va_up_ne _ _ (by decide)).trans h2
  refine m_iload_n dX8_corners_23 rfl ?_
  refine m_if_ne (t := 32) dX8_corners_24 (by decide) (fun _ => ?_) (fun q => absurd q (by decide))
  refine m_iload_n dX8_corners_32 rfl ?_
  refine m_iconst (v := 1) dX8_corners_33 (by decide) ?_
  refine m_icmp_ne (t := 42) dX8_corners_34 (by decide) (fun _ => ?_) (fun q => absurd q (by decide))
  refine m_iload_n dX8_corners_42 rfl ?_
  refine m_iconst (v := 2) dX8_corners_43 (by decide) ?_
  refine m_icmp_ne (t := 52) dX8_corners_44 (by decide) (fun _ => ?_) (fun q => absurd q (by decide))
  refine m_bipush (v := 25) dX8_corners_52 (by decide) ?_
  refine m_istore dX8_corners_54 (by decide) ?_
  show mW _ _ _ _ _ _ 56 [_, _, _, _, _, _] _
  refine m_iconst (v := 0) dX8_corners_56 (by decide) ?_
  refine m_istore dX8_corners_57 (by decide) ?_
  show mW _ _ _ _ _ _ 59 [_, _, _, _, _, _] _
  refine m_iload dX8_corners_59 rfl ?_
  refine m_iconst (v := 5) dX8_corners_61 (by decide) ?_
  refine m_icmp_ge (t := 104) dX8_corners_62 (by decide) (fun q => absurd q (by decide)) (fun _ => ?_)
  refine m_aload_n dX8_corners_65 rfl ?_
  refine m_getfield dX8_corners_66 fl_X8_39 (by first | assumption | rfl | exact y1 _ | exact y2 _ | exact va_up_self _ _ _) (by first | assumption | rfl | exact y1 _ | exact y2 _ | exact va_up_self _ _ _) ?_
  show mW _ _ _ _ _ _ _ _ (.ref _ :: _)
  refine m_iload dX8_corners_69 rfl ?_
  refine m_aload_n dX8_corners_71 rfl ?_
  refine m_getfield dX8_corners_72 fl_X8_7 (by first | assumption | rfl | exact y1 _ | exact y2 _ | exact va_up_self _ _ _) (by first | assumption | rfl | exact y1 _ | exact y2 _ | exact va_up_self _ _ _) ?_
  show mW _ _ _ _ _ _ _ _ (.ref _ :: _)
  refine m_iload dX8_corners_75 rfl ?_
  refine m_iaload (k := 0) dX8_corners_77 (by first | assumption | rfl | exact y1 _ | exact y2 _ | exact va_up_self _ _ _) ⟨by decide, by decide⟩ ?_
  refine m_iload dX8_corners_78 rfl ?_
  refine m_iload dX8_corners_80 rfl ?_
  refine m_ishr dX8_corners_82 ?_
  refine m_ci (v := 25) (by decide) ?_
  refine m_iconst (v := 1) dX8_corners_83 (by decide) ?_
  refine m_iand dX8_corners_84 ?_
  refine m_ci (v := 1) (by decide) ?_
  refine m_iconst (v := 1) dX8_corners_85 (by decide) ?_
  refine m_icmp_ne (t := 93) dX8_corners_86 (by decide) (fun q => absurd rfl q) (fun _ => ?_)
  refine m_iload_n dX8_corners_89 rfl ?_
  refine m_goto (t := 95) dX8_corners_90 (by decide) ?_
  refine m_iadd dX8_corners_95 ?_
  refine m_i2l dX8_corners_96 ?_
  refine m_lastore (k := 0) dX8_corners_97 (by first | assumption | rfl | exact y1 _ | exact y2 _ | exact va_up_self _ _ _) ⟨by decide, by decide⟩ ?_
  try rw [va_uu]
  refine m_iinc (v := 1) dX8_corners_98 rfl (by decide) (by decide) ?_
  show mW _ _ _ _ _ _ 101 [_, _, _, _, _, _] _
  refine m_goto (t := 59) dX8_corners_101 (by decide) ?_
  refine m_iload dX8_corners_59 rfl ?_
  refine m_iconst (v := 5) dX8_corners_61 (by decide) ?_
  refine m_icmp_ge (t := 104) dX8_corners_62 (by decide) (fun q => absurd q (by decide)) (fun _ => ?_)
  refine m_aload_n dX8_corners_65 rfl ?_
  refine m_getfield dX8_corners_66 fl_X8_39 (by first | assumption | rfl | exact y1 _ | exact y2 _ | exact va_up_self _ _ _) (by first | assumption | rfl | exact y1 _ | exact y2 _ | exact va_up_self _ _ _) ?_
  show mW _ _ _ _ _ _ _ _ (.ref _ :: _)
  refine m_iload dX8_corners_69 rfl ?_
  refine m_aload_n dX8_corners_71 rfl ?_
  refine m_getfield dX8_corners_72 fl_X8_7 (by first | assumption | rfl | exact y1 _ | exact y2 _ | exact va_up_self _ _ _) (by first | assumption | rfl | exact y1 _ | exact y2 _ | exact va_up_self _ _ _) ?_
  show mW _ _ _ _ _ _ _ _ (.ref _ :: _)
  refine m_iload dX8_corners_75 rfl ?_
  refine m_iaload (k := 1) dX8_corners_77 (by first | assumption | rfl | exact y1 _ | exact y2 _ | exact va_up_self _ _ _) ⟨by decide, by decide⟩ ?_
  refine m_iload dX8_corners_78 rfl ?_
  refine m_iload dX8_corners_80 rfl ?_
  refine m_ishr dX8_corners_82 ?_
  refine m_ci (v := 12) (by decide) ?_
  refine m_iconst (v := 1) dX8_corners_83 (by decide) ?_
  refine m_iand dX8_corners_84 ?_
  refine m_ci (v := 0) (by decide) ?_
  refine m_iconst (v := 1) dX8_corners_85 (by decide) ?_
  refine m_icmp_ne (t := 93) dX8_corners_86 (by decide) (fun _ => ?_) (fun q => absurd q (by decide))
  refine m_iload_n dX8_corners_93 rfl ?_
  refine m_ineg dX8_corners_94 ?_
  refine m_iadd dX8_corners_95 ?_
  refine m_i2l dX8_corners_96 ?_
  refine m_lastore (k := 1) dX8_corners_97 (by first | assumption | rfl | exact y1 _ | exact y2 _ | exact va_up_self _ _ _) ⟨by decide, by decide⟩ ?_
  try rw [va_uu]
  refine m_iinc (v := 2) dX8_corners_98 rfl (by decide) (by decide) ?_
  show mW _ _ _ _ _ _ 101 [_, _, _, _, _, _] _
  refine m_goto (t := 59) dX8_corners_101 (by decide) ?_
  refine m_iload dX8_corners_59 rfl ?_
  refine m_iconst (v := 5) dX8_corners_61 (by decide) ?_
  refine m_icmp_ge (t := 104) dX8_corners_62 (by decide) (fun q => absurd q (by decide)) (fun _ => ?_)
  refine m_aload_n dX8_corners_65 rfl ?_
  refine m_getfield dX8_corners_66 fl_X8_39 (by first | assumption | rfl | exact y1 _ | exact y2 _ | exact va_up_self _ _ _) (by first | assumption | rfl | exact y1 _ | exact y2 _ | exact va_up_self _ _ _) ?_
  show mW _ _ _ _ _ _ _ _ (.ref _ :: _)
  refine m_iload dX8_corners_69 rfl ?_
  refine m_aload_n dX8_corners_71 rfl ?_
  refine m_getfield dX8_corners_72 fl_X8_7 (by first | assumption | rfl | exact y1 _ | exact y2 _ | exact va_up_self _ _ _) (by first | assumption | rfl | exact y1 _ | exact y2 _ | exact va_up_self _ _ _) ?_
  show mW _ _ _ _ _ _ _ _ (.ref _ :: _)
  refine m_iload dX8_corners_75 rfl ?_
  refine m_iaload (k := 2) dX8_corners_77 (by first | assumption | rfl | exact y1 _ | exact y2 _ | exact va_up_self _ _ _) ⟨by decide, by decide⟩ ?_
  refine m_iload dX8_corners_78 rfl ?_
  refine m_iload dX8_corners_80 rfl ?_
  refine m_ishr dX8_corners_82 ?_
  refine m_ci (v := 6) (by decide) ?_
  refine m_iconst (v := 1) dX8_corners_83 (by decide) ?_
  refine m_iand dX8_corners_84 ?_
  refine m_ci (v := 0) (by decide) ?_
  refine m_iconst (v := 1) dX8_corners_85 (by decide) ?_
  refine m_icmp_ne (t := 93) dX8_corners_86 (by decide) (fun _ => ?_) (fun q => absurd q (by decide))
  refine m_iload_n dX8_corners_93 rfl ?_
  refine m_ineg dX8_corners_94 ?_
  refine m_iadd dX8_corners_95 ?_
  refine m_i2l dX8_corners_96 ?_
  refine m_lastore (k := 2) dX8_corners_97 (by first | assumption | rfl | exact y1 _ | exact y2 _ | exact va_up_self _ _ _) ⟨by decide, by decide⟩ ?_
  try rw [va_uu]
  refine m_iinc (v := 3) dX8_corners_98 rfl (by decide) (by decide) ?_
  show mW _ _ _ _ _ _ 101 [_, _, _, _, _, _] _
  refine m_goto (t := 59) dX8_corners_101 (by decide) ?_
  refine m_iload dX8_corners_59 rfl ?_
  refine m_iconst (v := 5) dX8_corners_61 (by decide) ?_
  refine m_icmp_ge (t := 104) dX8_corners_62 (by decide) (fun q => absurd q (by decide)) (fun _ => ?_)
  refine m_aload_n dX8_corners_65 rfl ?_
  refine m_getfield dX8_corners_66 fl_X8_39 (by first | assumption | rfl | exact y1 _ | exact y2 _ | exact va_up_self _ _ _) (by first | assumption | rfl | exact y1 _ | exact y2 _ | exact va_up_self _ _ _) ?_
  show mW _ _ _ _ _ _ _ _ (.ref _ :: _)
  refine m_iload dX8_corners_69 rfl ?_
  refine m_aload_n dX8_corners_71 rfl ?_
  refine m_getfield dX8_corners_72 fl_X8_7 (by first | assumption | rfl | exact y1 _ | exact y2 _ | exact va_up_self _ _ _) (by first | assumption | rfl | exact y1 _ | exact y2 _ | exact va_up_self _ _ _) ?_
  show mW _ _ _ _ _ _ _ _ (.ref _ :: _)
  refine m_iload dX8_corners_75 rfl ?_
  refine m_iaload (k := 3) dX8_corners_77 (by first | assumption | rfl | exact y1 _ | exact y2 _ | exact va_up_self _ _ _) ⟨by decide, by decide⟩ ?_
  refine m_iload dX8_corners_78 rfl ?_
  refine m_iload dX8_corners_80 rfl ?_
  refine m_ishr dX8_corners_82 ?_
  refine m_ci (v := 3) (by decide) ?_
  refine m_iconst (v := 1) dX8_corners_83 (by decide) ?_
  refine m_iand dX8_corners_84 ?_
  refine m_ci (v := 1) (by decide) ?_
  refine m_iconst (v := 1) dX8_corners_85 (by decide) ?_
  refine m_icmp_ne (t := 93) dX8_corners_86 (by decide) (fun q => absurd rfl q) (fun _ => ?_)
  refine m_iload_n dX8_corners_89 rfl ?_
  refine m_goto (t := 95) dX8_corners_90 (by decide) ?_
  refine m_iadd dX8_corners_95 ?_
  refine m_i2l dX8_corners_96 ?_
  refine m_lastore (k := 3) dX8_corners_97 (by first | assumption | rfl | exact y1 _ | exact y2 _ | exact va_up_self _ _ _) ⟨by decide, by decide⟩ ?_
  try rw [va_uu]
  refine m_iinc (v := 4) dX8_corners_98 rfl (by decide) (by decide) ?_
  show mW _ _ _ _ _ _ 101 [_, _, _, _, _, _] _
  refine m_goto (t := 59) dX8_corners_101 (by decide) ?_
  refine m_iload dX8_corners_59 rfl ?_
  refine m_iconst (v := 5) dX8_corners_61 (by decide) ?_
  refine m_icmp_ge (t := 104) dX8_corners_62 (by decide) (fun q => absurd q (by decide)) (fun _ => ?_)
  refine m_aload_n dX8_corners_65 rfl ?_
  refine m_getfield dX8_corners_66 fl_X8_39 (by first | assumption | rfl | exact y1 _ | exact y2 _ | exact va_up_self _ _ _) (by first | assumption | rfl | exact y1 _ | exact y2 _ | exact va_up_self _ _ _) ?_
  show mW _ _ _ _ _ _ _ _ (.ref _ :: _)
  refine m_iload dX8_corners_69 rfl ?_
  refine m_aload_n dX8_corners_71 rfl ?_
  refine m_getfield dX8_corners_72 fl_X8_7 (by first | assumption | rfl | exact y1 _ | exact y2 _ | exact va_up_self _ _ _) (by first | assumption | rfl | exact y1 _ | exact y2 _ | exact va_up_self _ _ _) ?_
  show mW _ _ _ _ _ _ _ _ (.ref _ :: _)
  refine m_iload dX8_corners_75 rfl ?_
  refine m_iaload (k := 4) dX8_corners_77 (by first | assumption | rfl | exact y1 _ | exact y2 _ | exact va_up_self _ _ _) ⟨by decide, by decide⟩ ?_
  refine m_iload dX8_corners_78 rfl ?_
  refine m_iload dX8_corners_80 rfl ?_
  refine m_ishr dX8_corners_82 ?_
  refine m_ci (v := 1) (by decide) ?_
  refine m_iconst (v := 1) dX8_corners_83 (by decide) ?_
  refine m_iand dX8_corners_84 ?_
  refine m_ci (v := 1) (by decide) ?_
  refine m_iconst (v := 1) dX8_corners_85 (by decide) ?_
  refine m_icmp_ne (t := 93) dX8_corners_86 (by decide) (fun q => absurd rfl q) (fun _ => ?_)
  refine m_iload_n dX8_corners_89 rfl ?_
  refine m_goto (t := 95) dX8_corners_90 (by decide) ?_
  refine m_iadd dX8_corners_95 ?_
  refine m_i2l dX8_corners_96 ?_
  refine m_lastore (k := 4) dX8_corners_97 (by first | assumption | rfl | exact y1 _ | exact y2 _ | exact va_up_self _ _ _) ⟨by decide, by decide⟩ ?_
  try rw [va_uu]
  refine m_iinc (v := 5) dX8_corners_98 rfl (by decide) (by decide) ?_
  show mW _ _ _ _ _ _ 101 [_, _, _, _, _, _] _
  refine m_goto (t := 59) dX8_corners_101 (by decide) ?_
  refine m_iload dX8_corners_59 rfl ?_
  refine m_iconst (v := 5) dX8_corners_61 (by decide) ?_
  refine m_icmp_ge (t := 104) dX8_corners_62 (by decide) (fun _ => ?_) (fun q => absurd (by decide) q)
  refine m_iload_n dX8_corners_104 rfl ?_
  refine m_aload_n dX8_corners_105 rfl ?_
  refine m_iconst (v := 0) dX8_corners_106 (by decide) ?_
  refine m_invV dX8_corners_107 lk_X8_204 ar_X8_isSteady (ci := 8) rfl rfl (by first | assumption | rfl | exact y1 _ | exact y2 _ | exact va_up_self _ _ _) (t_st (b := 0) (Z := va_up (va_up (va_up (va_up (va_up Z0 0 (C 0 + ρ).toInt64) 1 (C 1 + -ρ).toInt64) 2 (C 2 + -ρ).toInt64) 3 (C 3 + ρ).toInt64) 4 (C 4 + ρ).toInt64) (hR.of (fun q r1 r2 => va_up_ne _ _ (by omega))) ⟨A0, T0, Pr, va_up_self _ _ _, (va_up_ne _ _ (by decide)).trans s2, (va_up_ne _ _ (by decide)).trans s3, (va_up_ne _ _ (by decide)).trans s4⟩ hTU hST (bL_eq (corP_b hC.1 hρ (i := 3) (by decide)) (cor_e3 h5)) (by decide)) rfl (Nat.le_of_ble_eq_true rfl) (by decide) (by decide) (by decide) (by decide) (fun v hp' q => ?_)
  obtain ⟨x, rfl, x01, xs, gR, gX, gO⟩ := q
  have e9 : stB 0 (va_up (va_up (va_up (va_up (va_up Z0 0 (C 0 + ρ).toInt64) 1 (C 1 + -ρ).toInt64) 2 (C 2 + -ρ).toInt64) 3 (C 3 + ρ).toInt64) 4 (C 4 + ρ).toInt64) = stA (corP S.1 ρ 3) := (stB_eq (b := 0) (cor_e3 h5)).trans stB_0
  rw [e9] at xs
  have gO' : offM hp hp' := fun q hq => (by rw [gO q hq, va_up_ne _ _ (by omega)])
  show mW K _ 0 0 n hp' 110 [.ref 67, .int ρ, .int t, .int (nI 3), .int 25, .int 5] [.int x, .int t]
  refine m_if_eq (t := 117) dX8_corners_110 (by decide) (fun c110 => ?_) (fun c110 => ?_)
  · rw [if_pos (xs.mp c110)] at hk9
    refine m_iconst (v := 0) dX8_corners_117 (by decide) ?_
    refine m_iadd dX8_corners_118 ?_
    refine m_ci (v := t) (Int32.add_zero t) ?_
    refine m_istore_n dX8_corners_119 (by decide) ?_
    show mW _ _ _ _ _ _ 120 [_, _, _, _, _, _] _
    refine m_iinc (v := nI (3 + 1)) dX8_corners_120 rfl (nI_1 3) (by decide) ?_
    show mW _ _ _ _ _ _ 123 [_, _, _, _, _, _] _
    refine m_goto (t := 18) dX8_corners_123 (by decide) ?_
    exact hk9 hp' _ gR gX rfl gO'
  rw [if_neg (fun y => c110 (xs.mpr y))] at hk9
  refine m_iconst (v := 1) dX8_corners_113 (by decide) ?_
  refine m_goto (t := 118) dX8_corners_114 (by decide) ?_
  refine m_iadd dX8_corners_118 ?_
  skip
  refine m_istore_n dX8_corners_119 (by decide) ?_
  show mW _ _ _ _ _ _ 120 [_, _, _, _, _, _] _
  refine m_iinc (v := nI (3 + 1)) dX8_corners_120 rfl (nI_1 3) (by decide) ?_
  show mW _ _ _ _ _ _ 123 [_, _, _, _, _, _] _
  refine m_goto (t := 18) dX8_corners_123 (by decide) ?_
  exact hk9 hp' _ gR gX rfl gO'

theorem in09 {r : Int32} : inI r.toInt64 0 9 = 0 ↔ ¬ (¬ r < 0 ∧ r ≤ 9) := by
  rw [inI_iff (x := 0) (y := 9) (by decide) (by decide), Int32.lt_iff_toInt_lt, Int32.le_iff_toInt_le, show (0 : Int32).toInt = 0 by decide, show (9 : Int32).toInt = 9 by decide]
  omega
theorem sCor_no {S : TS} {r : Int32} (h : ¬ (¬ r < 0 ∧ r ≤ 9)) : sCorners S r = -1 := by
  unfold sCorners
  by_cases e : r < 0
  · rw [if_pos e]
  · rw [if_neg e, if_neg (fun y => h ⟨e, y⟩)]
theorem cntS_s {F : Nat → Int32} {r i : Nat} {t : Int32} : cntS F (r + 1) i t = cntS F r (i + 1) (if F i = 0 then t else t + 1) := by
  rw [cntS]
  by_cases e : F i = 0
  · rw [if_pos e, if_pos e]
  · rw [if_neg e, if_neg e]
set_option maxHeartbeats 400000 in
set_option maxRecDepth 100000 in
theorem t_X8_corners {n : Nat} {hp : mHp} {S : TS} {ia tm : Int32} (h : mRep hp S ia tm) (hX : mScX hp) (hC : okC S.1) (hTU : TUK) (hST : STK) {ρ : Int32} : mC D_X8_corners [.ref 67, .int ρ] n hp (qM hp S ia tm (sCorners S ρ)) := by
  refine m_enter rfl rfl (Nat.le_of_ble_eq_true rfl) (fun K hF => ?_)
  show mW K _ 0 0 _ _ 0 [.ref 67, .int ρ, .retAddr 0, .retAddr 0, .retAddr 0, .retAddr 0] []
  refine m_iload_n dX8_corners_0 rfl ?_
  refine m_i2l dX8_corners_1 ?_
  refine m_lconst (v := 0) dX8_corners_2 (by decide) ?_
  refine m_ldc2 dX8_corners_3 cl_X8_151 ?_
  refine m_invS_I dX8_corners_6 lk_X8_141 ar_X8_in (t_X8_in) rfl (Nat.le_of_ble_eq_true rfl) (by decide) (by decide) (by decide) (by decide) rfl rfl ?_
  try rw [va_uu]
  refine m_if_ne (t := 14) dX8_corners_9 (by decide) (fun c9 => ?_) (fun c9 => ?_)
  rotate_left
  · refine m_iconst (v := -1) dX8_corners_12 (by decide) ?_
    exact m_ireturn hF dX8_corners_13 rfl rfl rfl ⟨by rw [sCor_no (in09.mp c9)], h, hX, offM.rf⟩
  have hρ : ¬ ρ < 0 ∧ ρ ≤ 9 := Classical.not_not.mp (fun y => c9 (in09.mpr y))
  have hρ2 : -9 ≤ ρ.toInt ∧ ρ.toInt ≤ 9 := (by have a := hρ.1; have b := hρ.2; rw [Int32.lt_iff_toInt_lt, show (0 : Int32).toInt = 0 by decide] at a; rw [Int32.le_iff_toInt_le, show (9 : Int32).toInt = 9 by decide] at b; omega)
  refine m_iconst (v := 0) dX8_corners_14 (by decide) ?_
  refine m_istore_n dX8_corners_15 (by decide) ?_
  show mW _ _ _ _ _ _ 16 [_, _, _, _, _, _] _
  refine m_iconst (v := 0) dX8_corners_16 (by decide) ?_
  refine m_istore_n dX8_corners_17 (by decide) ?_
  show mW _ _ _ _ _ _ 18 [_, _, _, _, _, _] _
  refine m_iload_n dX8_corners_18 rfl ?_
  refine m_iconst (v := 4) dX8_corners_19 (by decide) ?_
  refine m_icmp_ge (t := 126) dX8_corners_20 (by decide) (fun q => absurd q (by decide)) (fun _ => ?_)
  show mW _ _ _ _ _ _ 23 [_, _, _, .int 0, _, _] _
  refine l_X8_corner0 hρ2 hC hTU hST h hX (fun hp1 t1 r1 x1 e1 o1 => ?_)
  refine m_iload_n dX8_corners_18 rfl ?_
  refine m_iconst (v := 4) dX8_corners_19 (by decide) ?_
  refine m_icmp_ge (t := 126) dX8_corners_20 (by decide) (fun q => absurd q (by decide)) (fun _ => ?_)
  show mW _ _ _ _ _ _ 23 [_, _, _, .int 1, _, _] _
  refine l_X8_corner1 hρ2 hC hTU hST r1 x1 (fun hp2 t2 r2 x2 e2 o2 => ?_)
  refine m_iload_n dX8_corners_18 rfl ?_
  refine m_iconst (v := 4) dX8_corners_19 (by decide) ?_
  refine m_icmp_ge (t := 126) dX8_corners_20 (by decide) (fun q => absurd q (by decide)) (fun _ => ?_)
  show mW _ _ _ _ _ _ 23 [_, _, _, .int 2, _, _] _
  refine l_X8_corner2 hρ2 hC hTU hST r2 x2 (fun hp3 t3 r3 x3 e3 o3 => ?_)
  refine m_iload_n dX8_corners_18 rfl ?_
  refine m_iconst (v := 4) dX8_corners_19 (by decide) ?_
  refine m_icmp_ge (t := 126) dX8_corners_20 (by decide) (fun q => absurd q (by decide)) (fun _ => ?_)
  show mW _ _ _ _ _ _ 23 [_, _, _, .int 3, _, _] _
  refine l_X8_corner3 hρ2 hC hTU hST r3 x3 (fun hp4 t4 r4 x4 e4 o4 => ?_)
  refine m_iload_n dX8_corners_18 rfl ?_
  refine m_iconst (v := 4) dX8_corners_19 (by decide) ?_
  refine m_icmp_ge (t := 126) dX8_corners_20 (by decide) (fun _ => ?_) (fun q => absurd (by decide) q)
  refine m_iload_n dX8_corners_126 rfl ?_
  exact m_ireturn hF dX8_corners_127 rfl rfl rfl ⟨by unfold sCorners; rw [if_neg hρ.1, if_pos hρ.2, cntS_s, ← e1, cntS_s, ← e2, cntS_s, ← e3, cntS_s, ← e4]; rfl, r4, x4, fun q hq => by rw [o4 q hq, o3 q hq, o2 q hq, o1 q hq]⟩

