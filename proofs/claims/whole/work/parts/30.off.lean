/-! ===== LoopJudge: off, judged ===== -/
abbrev us (x : Int32) (k : Int32) : Int32 := (x.toUInt32 >>> (k.toUInt32 &&& Int32.toUInt32 31)).toInt32
def bc1 (x : Int32) : Int32 := x - (us x 1 &&& 1431655765)
def bc2 (x : Int32) : Int32 := (x &&& 858993459) + (us x 2 &&& 858993459)
def bc3 (x : Int32) : Int32 := (x + us x 4) &&& 252645135
def bc4 (x : Int32) (k : Int32) : Int32 := x + us x k
def bcI (x : Int32) : Int32 := bc4 (bc4 (bc3 (bc2 (bc1 x))) 8) 16 &&& 63
set_option maxHeartbeats 400000 in
set_option maxRecDepth 100000 in
theorem t_J6_bitCount_0f7a4 {n : Nat} {hp : mHp} {x : Int32} : mC D_J6_bitCount_0f7a4 [.int x] n hp (rI (bcI x) hp) := by
  refine m_enter rfl rfl (Nat.le_of_ble_eq_true rfl) (fun K hF => ?_)
  show mW K _ 0 0 _ _ 0 [.int x] []
  refine m_iload_n dJ6_bitCount_0f7a4_0 rfl ?_
  refine m_iload_n dJ6_bitCount_0f7a4_1 rfl ?_
  refine m_iconst (v := 1) dJ6_bitCount_0f7a4_2 (by decide) ?_
  refine m_iushr dJ6_bitCount_0f7a4_3 ?_
  refine m_ldcw dJ6_bitCount_0f7a4_4 ct_J6_265 ?_
  refine m_iand dJ6_bitCount_0f7a4_7 ?_
  refine m_isub dJ6_bitCount_0f7a4_8 ?_
  refine m_istore_n dJ6_bitCount_0f7a4_9 (by decide) ?_
  show mW _ _ _ _ _ _ 10 [_] _
  refine m_iload_n dJ6_bitCount_0f7a4_10 rfl ?_
  refine m_ldcw dJ6_bitCount_0f7a4_11 ct_J6_266 ?_
  refine m_iand dJ6_bitCount_0f7a4_14 ?_
  refine m_iload_n dJ6_bitCount_0f7a4_15 rfl ?_
  refine m_iconst (v := 2) dJ6_bitCount_0f7a4_16 (by decide) ?_
  refine m_iushr dJ6_bitCount_0f7a4_17 ?_
  refine m_ldcw dJ6_bitCount_0f7a4_18 ct_J6_266 ?_
  refine m_iand dJ6_bitCount_0f7a4_21 ?_
  refine m_iadd dJ6_bitCount_0f7a4_22 ?_
  refine m_istore_n dJ6_bitCount_0f7a4_23 (by decide) ?_
  show mW _ _ _ _ _ _ 24 [_] _
  refine m_iload_n dJ6_bitCount_0f7a4_24 rfl ?_
  refine m_iload_n dJ6_bitCount_0f7a4_25 rfl ?_
  refine m_iconst (v := 4) dJ6_bitCount_0f7a4_26 (by decide) ?_
  refine m_iushr dJ6_bitCount_0f7a4_27 ?_
  refine m_iadd dJ6_bitCount_0f7a4_28 ?_
  refine m_ldcw dJ6_bitCount_0f7a4_29 ct_J6_267 ?_
  refine m_iand dJ6_bitCount_0f7a4_32 ?_
  refine m_istore_n dJ6_bitCount_0f7a4_33 (by decide) ?_
  show mW _ _ _ _ _ _ 34 [_] _
  refine m_iload_n dJ6_bitCount_0f7a4_34 rfl ?_
  refine m_iload_n dJ6_bitCount_0f7a4_35 rfl ?_
  refine m_bipush (v := 8) dJ6_bitCount_0f7a4_36 (by decide) ?_
  refine m_iushr dJ6_bitCount_0f7a4_38 ?_
  refine m_iadd dJ6_bitCount_0f7a4_39 ?_
  refine m_istore_n dJ6_bitCount_0f7a4_40 (by decide) ?_
  show mW _ _ _ _ _ _ 41 [_] _
  refine m_iload_n dJ6_bitCount_0f7a4_41 rfl ?_
  refine m_iload_n dJ6_bitCount_0f7a4_42 rfl ?_
  refine m_bipush (v := 16) dJ6_bitCount_0f7a4_43 (by decide) ?_
  refine m_iushr dJ6_bitCount_0f7a4_45 ?_
  refine m_iadd dJ6_bitCount_0f7a4_46 ?_
  refine m_istore_n dJ6_bitCount_0f7a4_47 (by decide) ?_
  show mW _ _ _ _ _ _ 48 [_] _
  refine m_iload_n dJ6_bitCount_0f7a4_48 rfl ?_
  refine m_bipush (v := 63) dJ6_bitCount_0f7a4_49 (by decide) ?_
  refine m_iand dJ6_bitCount_0f7a4_51 ?_
  exact m_ireturn hF dJ6_bitCount_0f7a4_52 rfl rfl rfl ⟨rfl, rfl⟩

def odF (c b : Int32) (k : Int32) : Int32 := if b ≤ k then 10 - c else c
def odI (c b : Int32) : Int32 := 1 * odF c b 0 * odF c b 1 * odF c b 2 * odF c b 3 * odF c b 4
def offP (c : Nat → Int32) (i t : Nat) : Int64 := (c t + nI (i / 2 ^ t % 2)).toInt64
def offS (F G : Nat → Int32) : Nat → Nat → Int32 → Int32
  | 0, _, t => t
  | r + 1, i, t => if F i = 0 then offS F G r (i + 1) t else offS F G r (i + 1) (t + G i)
def offC (a : Int32) : Int32 := if 1 ≤ (lZ ((Nat.gcd a.toInt.natAbs (100000 : Int).natAbs : Nat) : Int)).toInt32 then (lZ ((Nat.gcd a.toInt.natAbs (100000 : Int).natAbs : Nat) : Int)).toInt32 else 1
def offW (a w : Int32) : Int32 := if w = 0 then a / offC a else 100000 / offC a
def offA (S : TS) (c : Int32) : Int32 := offS (fun i => stA (offP S.1 i)) (fun i => odI c (bcI (nI i))) 32 0 0
def sOff (S : TS) (c w : Int32) : Int32 := if 0 ≤ c ∧ c ≤ 10 ∧ inC w 2 then offW (offA S c) w else -1
theorem offP_eq {P c : Nat → Int32} {i t : Nat} (h : ∀ t, t < 10 → P t = c t) (ht : t < 5) : offP P i t = offP c i t := by
  unfold offP
  rw [h t (by omega)]
theorem off_shr : ∀ i : Nat, i < 32 → ∀ k : Nat, k < 5 → nI i >>> (nI k &&& 31) = nI (i / 2 ^ k) := by decide
theorem off_and : ∀ i : Nat, i < 32 → nI i &&& 1 = nI (i % 2) := by decide
theorem div_lt32 {i k : Nat} (h : i < 32) : i / 2 ^ k < 32 := Nat.lt_of_le_of_lt (Nat.div_le_self _ _) h
theorem lZ_i {x : Int32} : x.toInt64 = lZ x.toInt := by
  unfold lZ
  apply Int64.toInt_inj.mp
  have a := Int32.toInt_lt x
  have b := Int32.le_toInt x
  rw [Int32.toInt_toInt64, Int64.toInt_ofInt_of_le (by omega) (by omega)]
theorem bdZ_i {x : Int32} : bdZ x.toInt := by
  have a := Int32.toInt_lt x
  have b := Int32.le_toInt x
  unfold bdZ
  omega
set_option maxHeartbeats 400000 in
set_option maxRecDepth 100000 in
theorem t_X7_oddsOf {n : Nat} {hp : mHp} {c b : Int32} : mC D_X7_oddsOf [.int c, .int b] n hp (rI (odI c b) hp) := by
  refine m_enter rfl rfl (Nat.le_of_ble_eq_true rfl) (fun K hF => ?_)
  show mW K _ 0 0 _ _ 0 [.int c, .int b, .retAddr 0, .retAddr 0] []
  refine m_iconst (v := 1) dX7_oddsOf_0 (by decide) ?_
  refine m_istore_n dX7_oddsOf_1 (by decide) ?_
  show mW _ _ _ _ _ _ 2 [_, _, _, _] _
  refine m_iconst (v := 0) dX7_oddsOf_2 (by decide) ?_
  refine m_istore_n dX7_oddsOf_3 (by decide) ?_
  show mW _ _ _ _ _ _ 4 [_, _, _, _] _
  refine m_iload_n dX7_oddsOf_4 rfl ?_
  refine m_iconst (v := 5) dX7_oddsOf_5 (by decide) ?_
  refine m_icmp_ge (t := 31) dX7_oddsOf_6 (by decide) (fun q => absurd q (by decide)) (fun _ => ?_)
  refine m_iload_n dX7_oddsOf_9 rfl ?_
  refine m_iload_n dX7_oddsOf_10 rfl ?_
  refine m_iload_n dX7_oddsOf_11 rfl ?_
  refine m_tern_I (J := 23) (x := 10 - c) (y := c) (m_icmp_ge (t := 19) dX7_oddsOf_12 (by decide)) (fun k9 => ?_) (fun k9 => ?_) ?_
  · refine m_bipush (v := 10) dX7_oddsOf_19 (by decide) ?_
    refine m_iload_n dX7_oddsOf_21 rfl ?_
    refine m_isub dX7_oddsOf_22 ?_
    exact k9
  · refine m_iload_n dX7_oddsOf_15 rfl ?_
    refine m_goto (t := 23) dX7_oddsOf_16 (by decide) ?_
    exact k9
  refine m_imul dX7_oddsOf_23 ?_
  refine m_istore_n dX7_oddsOf_24 (by decide) ?_
  show mW _ _ _ _ _ _ 25 [_, _, _, _] _
  refine m_iinc (v := 1) dX7_oddsOf_25 rfl (by decide) (by decide) ?_
  show mW _ _ _ _ _ _ 28 [_, _, _, _] _
  refine m_goto (t := 4) dX7_oddsOf_28 (by decide) ?_
  refine m_iload_n dX7_oddsOf_4 rfl ?_
  refine m_iconst (v := 5) dX7_oddsOf_5 (by decide) ?_
  refine m_icmp_ge (t := 31) dX7_oddsOf_6 (by decide) (fun q => absurd q (by decide)) (fun _ => ?_)
  refine m_iload_n dX7_oddsOf_9 rfl ?_
  refine m_iload_n dX7_oddsOf_10 rfl ?_
  refine m_iload_n dX7_oddsOf_11 rfl ?_
  refine m_tern_I (J := 23) (x := 10 - c) (y := c) (m_icmp_ge (t := 19) dX7_oddsOf_12 (by decide)) (fun k9 => ?_) (fun k9 => ?_) ?_
  · refine m_bipush (v := 10) dX7_oddsOf_19 (by decide) ?_
    refine m_iload_n dX7_oddsOf_21 rfl ?_
    refine m_isub dX7_oddsOf_22 ?_
    exact k9
  · refine m_iload_n dX7_oddsOf_15 rfl ?_
    refine m_goto (t := 23) dX7_oddsOf_16 (by decide) ?_
    exact k9
  refine m_imul dX7_oddsOf_23 ?_
  refine m_istore_n dX7_oddsOf_24 (by decide) ?_
  show mW _ _ _ _ _ _ 25 [_, _, _, _] _
  refine m_iinc (v := 2) dX7_oddsOf_25 rfl (by decide) (by decide) ?_
  show mW _ _ _ _ _ _ 28 [_, _, _, _] _
  refine m_goto (t := 4) dX7_oddsOf_28 (by decide) ?_
  refine m_iload_n dX7_oddsOf_4 rfl ?_
  refine m_iconst (v := 5) dX7_oddsOf_5 (by decide) ?_
  refine m_icmp_ge (t := 31) dX7_oddsOf_6 (by decide) (fun q => absurd q (by decide)) (fun _ => ?_)
  refine m_iload_n dX7_oddsOf_9 rfl ?_
  refine m_iload_n dX7_oddsOf_10 rfl ?_
  refine m_iload_n dX7_oddsOf_11 rfl ?_
  refine m_tern_I (J := 23) (x := 10 - c) (y := c) (m_icmp_ge (t := 19) dX7_oddsOf_12 (by decide)) (fun k9 => ?_) (fun k9 => ?_) ?_
  · refine m_bipush (v := 10) dX7_oddsOf_19 (by decide) ?_
    refine m_iload_n dX7_oddsOf_21 rfl ?_
    refine m_isub dX7_oddsOf_22 ?_
    exact k9
  · refine m_iload_n dX7_oddsOf_15 rfl ?_
    refine m_goto (t := 23) dX7_oddsOf_16 (by decide) ?_
    exact k9
  refine m_imul dX7_oddsOf_23 ?_
  refine m_istore_n dX7_oddsOf_24 (by decide) ?_
  show mW _ _ _ _ _ _ 25 [_, _, _, _] _
  refine m_iinc (v := 3) dX7_oddsOf_25 rfl (by decide) (by decide) ?_
  show mW _ _ _ _ _ _ 28 [_, _, _, _] _
  refine m_goto (t := 4) dX7_oddsOf_28 (by decide) ?_
  refine m_iload_n dX7_oddsOf_4 rfl ?_
  refine m_iconst (v := 5) dX7_oddsOf_5 (by decide) ?_
  refine m_icmp_ge (t := 31) dX7_oddsOf_6 (by decide) (fun q => absurd q (by decide)) (fun _ => ?_)
  refine m_iload_n dX7_oddsOf_9 rfl ?_
  refine m_iload_n dX7_oddsOf_10 rfl ?_
  refine m_iload_n dX7_oddsOf_11 rfl ?_
  refine m_tern_I (J := 23) (x := 10 - c) (y := c) (m_icmp_ge (t := 19) dX7_oddsOf_12 (by decide)) (fun k9 => ?_) (fun k9 => ?_) ?_
  · refine m_bipush (v := 10) dX7_oddsOf_19 (by decide) ?_
    refine m_iload_n dX7_oddsOf_21 rfl ?_
    refine m_isub dX7_oddsOf_22 ?_
    exact k9
  · refine m_iload_n dX7_oddsOf_15 rfl ?_
    refine m_goto (t := 23) dX7_oddsOf_16 (by decide) ?_
    exact k9
  refine m_imul dX7_oddsOf_23 ?_
  refine m_istore_n dX7_oddsOf_24 (by decide) ?_
  show mW _ _ _ _ _ _ 25 [_, _, _, _] _
  refine m_iinc (v := 4) dX7_oddsOf_25 rfl (by decide) (by decide) ?_
  show mW _ _ _ _ _ _ 28 [_, _, _, _] _
  refine m_goto (t := 4) dX7_oddsOf_28 (by decide) ?_
  refine m_iload_n dX7_oddsOf_4 rfl ?_
  refine m_iconst (v := 5) dX7_oddsOf_5 (by decide) ?_
  refine m_icmp_ge (t := 31) dX7_oddsOf_6 (by decide) (fun q => absurd q (by decide)) (fun _ => ?_)
  refine m_iload_n dX7_oddsOf_9 rfl ?_
  refine m_iload_n dX7_oddsOf_10 rfl ?_
  refine m_iload_n dX7_oddsOf_11 rfl ?_
  refine m_tern_I (J := 23) (x := 10 - c) (y := c) (m_icmp_ge (t := 19) dX7_oddsOf_12 (by decide)) (fun k9 => ?_) (fun k9 => ?_) ?_
  · refine m_bipush (v := 10) dX7_oddsOf_19 (by decide) ?_
    refine m_iload_n dX7_oddsOf_21 rfl ?_
    refine m_isub dX7_oddsOf_22 ?_
    exact k9
  · refine m_iload_n dX7_oddsOf_15 rfl ?_
    refine m_goto (t := 23) dX7_oddsOf_16 (by decide) ?_
    exact k9
  refine m_imul dX7_oddsOf_23 ?_
  refine m_istore_n dX7_oddsOf_24 (by decide) ?_
  show mW _ _ _ _ _ _ 25 [_, _, _, _] _
  refine m_iinc (v := 5) dX7_oddsOf_25 rfl (by decide) (by decide) ?_
  show mW _ _ _ _ _ _ 28 [_, _, _, _] _
  refine m_goto (t := 4) dX7_oddsOf_28 (by decide) ?_
  refine m_iload_n dX7_oddsOf_4 rfl ?_
  refine m_iconst (v := 5) dX7_oddsOf_5 (by decide) ?_
  refine m_icmp_ge (t := 31) dX7_oddsOf_6 (by decide) (fun _ => ?_) (fun q => absurd (by decide) q)
  refine m_iload_n dX7_oddsOf_31 rfl ?_
  exact m_ireturn hF dX7_oddsOf_32 rfl rfl rfl ⟨rfl, rfl⟩

set_option maxHeartbeats 400000 in
set_option maxRecDepth 100000 in
theorem l_X7_off {n : Nat} {hp0 : mHp} {kf : Int32} {S : TS} {c w V : Int32} (hV : V = offW (offA S c) w) {K : mK} (hF : mFin K D_X7_off n (qJ hp0 V)) : ∀ (r i : Nat) (hp : mHp) (t : Int32) (vx : Value), i + r = 32 → cTop hp kf → cTold hp S → cJudge hp → cPol hp → (∀ _ : Unit, offS (fun i => stA (offP S.1 i)) (fun i => odI c (bcI (nI i))) r i t = offA S c) → offJ hp0 hp → mW K D_X7_off 0 0 n hp 25 [.ref 0, .int c, .int w, .int t, .int (nI i), vx] [] := by
  intro r
  induction r using Nat.strongRecOn with
  | ind r ih =>
    intro i hp t vx hir h0 hS hJ hP hv ho
    have hS0 := hS
    have a0 : hp 0 = eO 7 (oTop kf) := h0
    obtain ⟨⟨P, g, d, p1, p2, p3⟩, hH⟩ := hS
    obtain ⟨v1, v2, v3⟩ := vec_set p3
    have hS1 : cSet hp 1 S.1 := ⟨P, g, d, p1, p2, p3⟩
    obtain ⟨w0, G0, D0, PP0, k1, k2, k3, -⟩ := id hH
    obtain ⟨L, hL⟩ := hP
    have y0 : ∀ f : mE, va_up hp 66 f 0 = eO 7 (oTop kf) := fun f => (va_up_ne _ _ (by decide)).trans a0
    have y1 : ∀ f : mE, va_up hp 66 f 1 = eO 3 (oSet 2 g d) := fun f => (va_up_ne _ _ (by decide)).trans p1
    have y2 : ∀ f : mE, va_up hp 66 f 2 = eI 10 P := fun f => (va_up_ne _ _ (by decide)).trans p2
    obtain ⟨-, -, -, rij, evj, lej, -, -, j2, -, -⟩ := id hJ
    have y4 : ∀ f : mE, va_up hp 66 f 44 = eO 1 (oJudge rij evj lej) := fun f => (va_up_ne _ _ (by decide)).trans j2
    refine m_iload dX7_off_25 rfl ?_
    refine m_bipush (v := 32) dX7_off_27 (by decide) ?_
    refine m_icmp_ge (t := 106) dX7_off_29 (by decide) (fun cc => ?_) (fun cc => ?_)
    · have hr : r = 0 := by have := nI_cmp' (b := 32) (by decide) (by omega) cc; omega
      subst hr
      have hv1 : t = offA S c := hv ()
      refine m_iload_n dX7_off_106 rfl ?_
      refine m_i2l dX7_off_107 ?_
      refine m_cl (v := lZ t.toInt) lZ_i ?_
      refine m_ldc2 dX7_off_108 cl_X7_178 ?_
      refine m_cl (v := lZ 100000) (by decide) ?_
      refine m_invS_L dX7_off_111 lk_X7_180 ar_X7_commonDivisor (t_X7_commonDivisor bdZ_i (by unfold bdZ; omega)) rfl (Nat.le_of_ble_eq_true rfl) (by decide) (by decide) (by decide) (by decide) rfl rfl ?_
      try rw [va_uu]
      refine m_l2i dX7_off_114 ?_
      refine m_istore dX7_off_115 (by decide) ?_
      show mW _ _ _ _ _ _ 117 [_, _, _, _, _, _] _
      show mW K _ 0 0 n hp 117 [.ref 0, .int c, .int w, .int t, .int _, vx] []
      refine m_iload dX7_off_117 rfl ?_
      refine m_iconst (v := 1) dX7_off_119 (by decide) ?_
      refine m_icmp_ge (t := 126) dX7_off_120 (by decide) (fun c120 => ?_) (fun c120 => ?_)
      · have hcn : ¬ (lZ ((Nat.gcd t.toInt.natAbs (100000 : Int).natAbs : Nat) : Int)).toInt32 = 0 := fun e => by rw [e] at c120; exact absurd c120 (by decide)
        refine m_iload_n dX7_off_126 rfl ?_
        refine m_if_ne (t := 137) dX7_off_127 (by decide) (fun c127 => ?_) (fun c127 => ?_)
        · refine m_ldc dX7_off_137 ct_X7_184 ?_
          refine m_iload dX7_off_139 rfl ?_
          refine m_idiv dX7_off_141 (by first | decide | exact hcn) ?_
          exact m_ireturn hF dX7_off_142 rfl rfl rfl ⟨by rw [hV, hv1.symm]; unfold offW offC; first | (simp only [if_pos c120, if_neg c127]; done) | (simp only [if_pos c120, if_neg c127]; rfl), hJ, ⟨L, hL⟩, ho⟩
        refine m_iload_n dX7_off_130 rfl ?_
        refine m_iload dX7_off_131 rfl ?_
        refine m_idiv dX7_off_133 (by first | decide | exact hcn) ?_
        refine m_goto (t := 142) dX7_off_134 (by decide) ?_
        exact m_ireturn hF dX7_off_142 rfl rfl rfl ⟨by rw [hV, hv1.symm]; unfold offW offC; first | (simp only [if_pos c120, if_pos c127]; done) | (simp only [if_pos c120, if_pos c127]; rfl), hJ, ⟨L, hL⟩, ho⟩
      refine m_iconst (v := 1) dX7_off_123 (by decide) ?_
      refine m_istore dX7_off_124 (by decide) ?_
      show mW _ _ _ _ _ _ 126 [_, _, _, _, _, _] _
      skip
      refine m_iload_n dX7_off_126 rfl ?_
      refine m_if_ne (t := 137) dX7_off_127 (by decide) (fun c127 => ?_) (fun c127 => ?_)
      · refine m_ldc dX7_off_137 ct_X7_184 ?_
        refine m_iload dX7_off_139 rfl ?_
        refine m_idiv dX7_off_141 (by first | decide | exact hcn) ?_
        refine m_ci (v := 100000) (by decide) ?_
        exact m_ireturn hF dX7_off_142 rfl rfl rfl ⟨by rw [hV, hv1.symm]; unfold offW offC; first | (simp only [if_neg c120, if_neg c127]; done) | (simp only [if_neg c120, if_neg c127]; rfl), hJ, ⟨L, hL⟩, ho⟩
      refine m_iload_n dX7_off_130 rfl ?_
      refine m_iload dX7_off_131 rfl ?_
      refine m_idiv dX7_off_133 (by first | decide | exact hcn) ?_
      refine m_goto (t := 142) dX7_off_134 (by decide) ?_
      exact m_ireturn hF dX7_off_142 rfl rfl rfl ⟨by rw [hV, hv1.symm]; unfold offW offC; first | (simp only [if_neg c120, if_pos c127]; done) | (simp only [if_neg c120, if_pos c127]; rfl), hJ, ⟨L, hL⟩, ho⟩
    have hi4 : i < 32 := nI_cmp (by decide) (by omega) cc
    obtain ⟨r, rfl⟩ : ∃ r', r = r' + 1 := ⟨r - 1, by omega⟩
    rw [offS] at hv
    refine m_iconst (v := 0) dX7_off_32 (by decide) ?_
    refine m_istore dX7_off_33 (by decide) ?_
    show mW _ _ _ _ _ _ 35 [_, _, _, _, _, _] _
    refine m_iload dX7_off_35 rfl ?_
    refine m_iconst (v := 5) dX7_off_37 (by decide) ?_
    refine m_icmp_ge (t := 73) dX7_off_38 (by decide) (fun q => absurd q (by decide)) (fun _ => ?_)
    skip
    refine m_aload_n dX7_off_41 rfl ?_
    refine m_getfield dX7_off_42 fl_X7_69 (by first | assumption | rfl | exact y0 _ | exact y1 _ | exact y2 _ | exact y4 _ | exact va_up_self _ _ _) (by first | assumption | rfl | exact y0 _ | exact y1 _ | exact y2 _ | exact y4 _ | exact va_up_self _ _ _) ?_
    show mW _ _ _ _ _ _ _ _ (.ref _ :: _)
    refine m_iload dX7_off_45 rfl ?_
    refine m_aload_n dX7_off_47 rfl ?_
    refine m_getfield dX7_off_48 fl_X7_12 (by first | assumption | rfl | exact y0 _ | exact y1 _ | exact y2 _ | exact y4 _ | exact va_up_self _ _ _) (by first | assumption | rfl | exact y0 _ | exact y1 _ | exact y2 _ | exact y4 _ | exact va_up_self _ _ _) ?_
    show mW _ _ _ _ _ _ _ _ (.ref _ :: _)
    refine m_getfield dX7_off_51 fl_X7_81 (by first | assumption | rfl | exact y0 _ | exact y1 _ | exact y2 _ | exact y4 _ | exact va_up_self _ _ _) (by first | assumption | rfl | exact y0 _ | exact y1 _ | exact y2 _ | exact y4 _ | exact va_up_self _ _ _) ?_
    show mW _ _ _ _ _ _ _ _ (.ref _ :: _)
    refine m_iload dX7_off_54 rfl ?_
    refine m_iaload (k := 0) dX7_off_56 (by first | assumption | rfl | exact y0 _ | exact y1 _ | exact y2 _ | exact y4 _ | exact va_up_self _ _ _) ⟨by decide, by decide⟩ ?_
    refine m_iload dX7_off_57 rfl ?_
    refine m_iload dX7_off_59 rfl ?_
    refine m_ishr dX7_off_61 ?_
    refine m_ci (v := nI (i / 2 ^ 0)) (off_shr i hi4 0 (by decide)) ?_
    refine m_iconst (v := 1) dX7_off_62 (by decide) ?_
    refine m_iand dX7_off_63 ?_
    refine m_ci (v := nI (i / 2 ^ 0 % 2)) (off_and _ (div_lt32 hi4)) ?_
    refine m_iadd dX7_off_64 ?_
    refine m_i2l dX7_off_65 ?_
    refine m_lastore (k := 0) dX7_off_66 (by first | assumption | rfl | exact y0 _ | exact y1 _ | exact y2 _ | exact y4 _ | exact va_up_self _ _ _) ⟨by decide, by decide⟩ ?_
    try rw [va_uu]
    refine m_iinc (v := 1) dX7_off_67 rfl (by decide) (by decide) ?_
    show mW _ _ _ _ _ _ 70 [_, _, _, _, _, _] _
    refine m_goto (t := 35) dX7_off_70 (by decide) ?_
    refine m_iload dX7_off_35 rfl ?_
    refine m_iconst (v := 5) dX7_off_37 (by decide) ?_
    refine m_icmp_ge (t := 73) dX7_off_38 (by decide) (fun q => absurd q (by decide)) (fun _ => ?_)
    skip
    refine m_aload_n dX7_off_41 rfl ?_
    refine m_getfield dX7_off_42 fl_X7_69 (by first | assumption | rfl | exact y0 _ | exact y1 _ | exact y2 _ | exact y4 _ | exact va_up_self _ _ _) (by first | assumption | rfl | exact y0 _ | exact y1 _ | exact y2 _ | exact y4 _ | exact va_up_self _ _ _) ?_
    show mW _ _ _ _ _ _ _ _ (.ref _ :: _)
    refine m_iload dX7_off_45 rfl ?_
    refine m_aload_n dX7_off_47 rfl ?_
    refine m_getfield dX7_off_48 fl_X7_12 (by first | assumption | rfl | exact y0 _ | exact y1 _ | exact y2 _ | exact y4 _ | exact va_up_self _ _ _) (by first | assumption | rfl | exact y0 _ | exact y1 _ | exact y2 _ | exact y4 _ | exact va_up_self _ _ _) ?_
    show mW _ _ _ _ _ _ _ _ (.ref _ :: _)
    refine m_getfield dX7_off_51 fl_X7_81 (by first | assumption | rfl | exact y0 _ | exact y1 _ | exact y2 _ | exact y4 _ | exact va_up_self _ _ _) (by first | assumption | rfl | exact y0 _ | exact y1 _ | exact y2 _ | exact y4 _ | exact va_up_self _ _ _) ?_
    show mW _ _ _ _ _ _ _ _ (.ref _ :: _)
    refine m_iload dX7_off_54 rfl ?_
    refine m_iaload (k := 1) dX7_off_56 (by first | assumption | rfl | exact y0 _ | exact y1 _ | exact y2 _ | exact y4 _ | exact va_up_self _ _ _) ⟨by decide, by decide⟩ ?_
    refine m_iload dX7_off_57 rfl ?_
    refine m_iload dX7_off_59 rfl ?_
    refine m_ishr dX7_off_61 ?_
    refine m_ci (v := nI (i / 2 ^ 1)) (off_shr i hi4 1 (by decide)) ?_
    refine m_iconst (v := 1) dX7_off_62 (by decide) ?_
    refine m_iand dX7_off_63 ?_
    refine m_ci (v := nI (i / 2 ^ 1 % 2)) (off_and _ (div_lt32 hi4)) ?_
    refine m_iadd dX7_off_64 ?_
    refine m_i2l dX7_off_65 ?_
    refine m_lastore (k := 1) dX7_off_66 (by first | assumption | rfl | exact y0 _ | exact y1 _ | exact y2 _ | exact y4 _ | exact va_up_self _ _ _) ⟨by decide, by decide⟩ ?_
    try rw [va_uu]
    refine m_iinc (v := 2) dX7_off_67 rfl (by decide) (by decide) ?_
    show mW _ _ _ _ _ _ 70 [_, _, _, _, _, _] _
    refine m_goto (t := 35) dX7_off_70 (by decide) ?_
    refine m_iload dX7_off_35 rfl ?_
    refine m_iconst (v := 5) dX7_off_37 (by decide) ?_
    refine m_icmp_ge (t := 73) dX7_off_38 (by decide) (fun q => absurd q (by decide)) (fun _ => ?_)
    skip
    refine m_aload_n dX7_off_41 rfl ?_
    refine m_getfield dX7_off_42 fl_X7_69 (by first | assumption | rfl | exact y0 _ | exact y1 _ | exact y2 _ | exact y4 _ | exact va_up_self _ _ _) (by first | assumption | rfl | exact y0 _ | exact y1 _ | exact y2 _ | exact y4 _ | exact va_up_self _ _ _) ?_
    show mW _ _ _ _ _ _ _ _ (.ref _ :: _)
    refine m_iload dX7_off_45 rfl ?_
    refine m_aload_n dX7_off_47 rfl ?_
    refine m_getfield dX7_off_48 fl_X7_12 (by first | assumption | rfl | exact y0 _ | exact y1 _ | exact y2 _ | exact y4 _ | exact va_up_self _ _ _) (by first | assumption | rfl | exact y0 _ | exact y1 _ | exact y2 _ | exact y4 _ | exact va_up_self _ _ _) ?_
    show mW _ _ _ _ _ _ _ _ (.ref _ :: _)
    refine m_getfield dX7_off_51 fl_X7_81 (by first | assumption | rfl | exact y0 _ | exact y1 _ | exact y2 _ | exact y4 _ | exact va_up_self _ _ _) (by first | assumption | rfl | exact y0 _ | exact y1 _ | exact y2 _ | exact y4 _ | exact va_up_self _ _ _) ?_
    show mW _ _ _ _ _ _ _ _ (.ref _ :: _)
    refine m_iload dX7_off_54 rfl ?_
    refine m_iaload (k := 2) dX7_off_56 (by first | assumption | rfl | exact y0 _ | exact y1 _ | exact y2 _ | exact y4 _ | exact va_up_self _ _ _) ⟨by decide, by decide⟩ ?_
    refine m_iload dX7_off_57 rfl ?_
    refine m_iload dX7_off_59 rfl ?_
    refine m_ishr dX7_off_61 ?_
    refine m_ci (v := nI (i / 2 ^ 2)) (off_shr i hi4 2 (by decide)) ?_
    refine m_iconst (v := 1) dX7_off_62 (by decide) ?_
    refine m_iand dX7_off_63 ?_
    refine m_ci (v := nI (i / 2 ^ 2 % 2)) (off_and _ (div_lt32 hi4)) ?_
    refine m_iadd dX7_off_64 ?_
    refine m_i2l dX7_off_65 ?_
    refine m_lastore (k := 2) dX7_off_66 (by first | assumption | rfl | exact y0 _ | exact y1 _ | exact y2 _ | exact y4 _ | exact va_up_self _ _ _) ⟨by decide, by decide⟩ ?_
    try rw [va_uu]
    refine m_iinc (v := 3) dX7_off_67 rfl (by decide) (by decide) ?_
    show mW _ _ _ _ _ _ 70 [_, _, _, _, _, _] _
    refine m_goto (t := 35) dX7_off_70 (by decide) ?_
    refine m_iload dX7_off_35 rfl ?_
    refine m_iconst (v := 5) dX7_off_37 (by decide) ?_
    refine m_icmp_ge (t := 73) dX7_off_38 (by decide) (fun q => absurd q (by decide)) (fun _ => ?_)
    skip
    refine m_aload_n dX7_off_41 rfl ?_
    refine m_getfield dX7_off_42 fl_X7_69 (by first | assumption | rfl | exact y0 _ | exact y1 _ | exact y2 _ | exact y4 _ | exact va_up_self _ _ _) (by first | assumption | rfl | exact y0 _ | exact y1 _ | exact y2 _ | exact y4 _ | exact va_up_self _ _ _) ?_
    show mW _ _ _ _ _ _ _ _ (.ref _ :: _)
    refine m_iload dX7_off_45 rfl ?_
    refine m_aload_n dX7_off_47 rfl ?_
    refine m_getfield dX7_off_48 fl_X7_12 (by first | assumption | rfl | exact y0 _ | exact y1 _ | exact y2 _ | exact y4 _ | exact va_up_self _ _ _) (by first | assumption | rfl | exact y0 _ | exact y1 _ | exact y2 _ | exact y4 _ | exact va_up_self _ _ _) ?_
    show mW _ _ _ _ _ _ _ _ (.ref _ :: _)
    refine m_getfield dX7_off_51 fl_X7_81 (by first | assumption | rfl | exact y0 _ | exact y1 _ | exact y2 _ | exact y4 _ | exact va_up_self _ _ _) (by first | assumption | rfl | exact y0 _ | exact y1 _ | exact y2 _ | exact y4 _ | exact va_up_self _ _ _) ?_
    show mW _ _ _ _ _ _ _ _ (.ref _ :: _)
    refine m_iload dX7_off_54 rfl ?_
    refine m_iaload (k := 3) dX7_off_56 (by first | assumption | rfl | exact y0 _ | exact y1 _ | exact y2 _ | exact y4 _ | exact va_up_self _ _ _) ⟨by decide, by decide⟩ ?_
    refine m_iload dX7_off_57 rfl ?_
    refine m_iload dX7_off_59 rfl ?_
    refine m_ishr dX7_off_61 ?_
    refine m_ci (v := nI (i / 2 ^ 3)) (off_shr i hi4 3 (by decide)) ?_
    refine m_iconst (v := 1) dX7_off_62 (by decide) ?_
    refine m_iand dX7_off_63 ?_
    refine m_ci (v := nI (i / 2 ^ 3 % 2)) (off_and _ (div_lt32 hi4)) ?_
    refine m_iadd dX7_off_64 ?_
    refine m_i2l dX7_off_65 ?_
    refine m_lastore (k := 3) dX7_off_66 (by first | assumption | rfl | exact y0 _ | exact y1 _ | exact y2 _ | exact y4 _ | exact va_up_self _ _ _) ⟨by decide, by decide⟩ ?_
    try rw [va_uu]
    refine m_iinc (v := 4) dX7_off_67 rfl (by decide) (by decide) ?_
    show mW _ _ _ _ _ _ 70 [_, _, _, _, _, _] _
    refine m_goto (t := 35) dX7_off_70 (by decide) ?_
    refine m_iload dX7_off_35 rfl ?_
    refine m_iconst (v := 5) dX7_off_37 (by decide) ?_
    refine m_icmp_ge (t := 73) dX7_off_38 (by decide) (fun q => absurd q (by decide)) (fun _ => ?_)
    skip
    refine m_aload_n dX7_off_41 rfl ?_
    refine m_getfield dX7_off_42 fl_X7_69 (by first | assumption | rfl | exact y0 _ | exact y1 _ | exact y2 _ | exact y4 _ | exact va_up_self _ _ _) (by first | assumption | rfl | exact y0 _ | exact y1 _ | exact y2 _ | exact y4 _ | exact va_up_self _ _ _) ?_
    show mW _ _ _ _ _ _ _ _ (.ref _ :: _)
    refine m_iload dX7_off_45 rfl ?_
    refine m_aload_n dX7_off_47 rfl ?_
    refine m_getfield dX7_off_48 fl_X7_12 (by first | assumption | rfl | exact y0 _ | exact y1 _ | exact y2 _ | exact y4 _ | exact va_up_self _ _ _) (by first | assumption | rfl | exact y0 _ | exact y1 _ | exact y2 _ | exact y4 _ | exact va_up_self _ _ _) ?_
    show mW _ _ _ _ _ _ _ _ (.ref _ :: _)
    refine m_getfield dX7_off_51 fl_X7_81 (by first | assumption | rfl | exact y0 _ | exact y1 _ | exact y2 _ | exact y4 _ | exact va_up_self _ _ _) (by first | assumption | rfl | exact y0 _ | exact y1 _ | exact y2 _ | exact y4 _ | exact va_up_self _ _ _) ?_
    show mW _ _ _ _ _ _ _ _ (.ref _ :: _)
    refine m_iload dX7_off_54 rfl ?_
    refine m_iaload (k := 4) dX7_off_56 (by first | assumption | rfl | exact y0 _ | exact y1 _ | exact y2 _ | exact y4 _ | exact va_up_self _ _ _) ⟨by decide, by decide⟩ ?_
    refine m_iload dX7_off_57 rfl ?_
    refine m_iload dX7_off_59 rfl ?_
    refine m_ishr dX7_off_61 ?_
    refine m_ci (v := nI (i / 2 ^ 4)) (off_shr i hi4 4 (by decide)) ?_
    refine m_iconst (v := 1) dX7_off_62 (by decide) ?_
    refine m_iand dX7_off_63 ?_
    refine m_ci (v := nI (i / 2 ^ 4 % 2)) (off_and _ (div_lt32 hi4)) ?_
    refine m_iadd dX7_off_64 ?_
    refine m_i2l dX7_off_65 ?_
    refine m_lastore (k := 4) dX7_off_66 (by first | assumption | rfl | exact y0 _ | exact y1 _ | exact y2 _ | exact y4 _ | exact va_up_self _ _ _) ⟨by decide, by decide⟩ ?_
    try rw [va_uu]
    refine m_iinc (v := 5) dX7_off_67 rfl (by decide) (by decide) ?_
    show mW _ _ _ _ _ _ 70 [_, _, _, _, _, _] _
    refine m_goto (t := 35) dX7_off_70 (by decide) ?_
    refine m_iload dX7_off_35 rfl ?_
    refine m_iconst (v := 5) dX7_off_37 (by decide) ?_
    refine m_icmp_ge (t := 73) dX7_off_38 (by decide) (fun _ => ?_) (fun q => absurd (by decide) q)
    refine m_aload_n dX7_off_73 rfl ?_
    refine m_getfield dX7_off_74 fl_X7_53 (by first | assumption | rfl | exact y0 _ | exact y1 _ | exact y2 _ | exact y4 _ | exact va_up_self _ _ _) (by first | assumption | rfl | exact y0 _ | exact y1 _ | exact y2 _ | exact y4 _ | exact va_up_self _ _ _) ?_
    show mW _ _ _ _ _ _ _ _ (.ref _ :: _)
    refine m_iconst (v := 0) dX7_off_77 (by decide) ?_
    refine m_aload_n dX7_off_78 rfl ?_
    refine m_getfield dX7_off_79 fl_X7_69 (by first | assumption | rfl | exact y0 _ | exact y1 _ | exact y2 _ | exact y4 _ | exact va_up_self _ _ _) (by first | assumption | rfl | exact y0 _ | exact y1 _ | exact y2 _ | exact y4 _ | exact va_up_self _ _ _) ?_
    show mW _ _ _ _ _ _ _ _ (.ref _ :: _)
    refine m_invV dX7_off_82 lk_X7_166 ar_X1_isSteady (ci := 1) rfl rfl (by first | assumption | rfl | exact y0 _ | exact y1 _ | exact y2 _ | exact y4 _ | exact va_up_self _ _ _) (t_steady (b := 0) (by decide) (hJ.of (fun q r1 r2 => va_up_ne _ _ (by omega))) (va_up_self _ _ _)) rfl (Nat.le_of_ble_eq_true rfl) (by decide) (by decide) (by decide) (by decide) (fun v hp' q => ?_)
    obtain ⟨rfl, gJ, gO⟩ := q
    have g0 : cTop hp' kf := (gO 0 (by decide)).trans (y0 _)
    have gT : cTold hp' S := hS0.of (fun q r1 r2 => by rw [gO q (by omega), va_up_ne _ _ (by omega)])
    have gP := (gO 66 (by decide)).trans (va_up_self hp 66 _)
    have e9 : stB 0 (fill5 (offP P i) L) = stA (offP S.1 i) := stB_eq (b := 0) (fun t ht => (fill5_at ht).trans (offP_eq v1 ht))
    show mW K _ 0 0 n hp' 85 [.ref 0, .int c, .int w, .int t, .int (nI i), .int 5] [.int (stB 0 (fill5 (offP P i) L))]
    rw [e9]
    refine m_if_eq (t := 100) dX7_off_85 (by decide) (fun c85 => ?_) (fun c85 => ?_)
    · rw [if_pos c85] at hv
      refine m_iinc (v := nI (i + 1)) dX7_off_100 rfl (nI_1 i) (by decide) ?_
      show mW _ _ _ _ _ _ 103 [_, _, _, _, _, _] _
      refine m_goto (t := 25) dX7_off_103 (by decide) ?_
      exact ih r (by omega) (i + 1) hp' _ _ (by omega) g0 gT gJ ⟨_, gP⟩ hv (fun q hq => by rw [gO q (by omega), va_up_ne _ _ (by omega)]; exact ho q hq)
    rw [if_neg c85] at hv
    refine m_iload_n dX7_off_88 rfl ?_
    refine m_iload_n dX7_off_89 rfl ?_
    refine m_iload dX7_off_90 rfl ?_
    refine m_invS_I dX7_off_92 lk_X7_170 ar_J6_bitCount_0f7a4 (t_J6_bitCount_0f7a4) rfl (Nat.le_of_ble_eq_true rfl) (by decide) (by decide) (by decide) (by decide) rfl rfl ?_
    try rw [va_uu]
    refine m_invS_I dX7_off_95 lk_X7_175 ar_X7_oddsOf (t_X7_oddsOf) rfl (Nat.le_of_ble_eq_true rfl) (by decide) (by decide) (by decide) (by decide) rfl rfl ?_
    try rw [va_uu]
    refine m_iadd dX7_off_98 ?_
    refine m_istore_n dX7_off_99 (by decide) ?_
    show mW _ _ _ _ _ _ 100 [_, _, _, _, _, _] _
    refine m_iinc (v := nI (i + 1)) dX7_off_100 rfl (nI_1 i) (by decide) ?_
    show mW _ _ _ _ _ _ 103 [_, _, _, _, _, _] _
    refine m_goto (t := 25) dX7_off_103 (by decide) ?_
    exact ih r (by omega) (i + 1) hp' _ _ (by omega) g0 gT gJ ⟨_, gP⟩ hv (fun q hq => by rw [gO q (by omega), va_up_ne _ _ (by omega)]; exact ho q hq)

set_option maxHeartbeats 400000 in
set_option maxRecDepth 100000 in
theorem t_X7_off {n : Nat} {hp : mHp} {S : TS} {kf : Int32} (h0 : cTop hp kf) (hS : cTold hp S) (hJ : cJudge hp) (hP : cPol hp) {c w : Int32} : mC D_X7_off [.ref 0, .int c, .int w] n hp (qJ hp (sOff S c w)) := by
  refine m_enter rfl rfl (Nat.le_of_ble_eq_true rfl) (fun K hF => ?_)
  show mW K _ 0 0 _ _ 0 [.ref 0, .int c, .int w, .retAddr 0, .retAddr 0, .retAddr 0] []
  refine m_iload_n dX7_off_0 rfl ?_
  refine m_if_lt (t := 18) dX7_off_1 (by decide) (fun c1 => ?_) (fun c1 => ?_)
  · refine m_iconst (v := -1) dX7_off_18 (by decide) ?_
    exact m_ireturn hF dX7_off_19 rfl rfl rfl ⟨by unfold sOff; rw [if_neg (by rintro ⟨y1, y2, y3⟩; first | exact absurd c1 (Int32.not_lt.mpr y1) | exact absurd c7 (Int32.not_lt.mpr y2) | exact ch_no (by decide) c15 y3)], hJ, hP, offJ.rf⟩
  refine m_iload_n dX7_off_4 rfl ?_
  refine m_bipush (v := 10) dX7_off_5 (by decide) ?_
  refine m_icmp_gt (t := 18) dX7_off_7 (by decide) (fun c7 => ?_) (fun c7 => ?_)
  · refine m_iconst (v := -1) dX7_off_18 (by decide) ?_
    exact m_ireturn hF dX7_off_19 rfl rfl rfl ⟨by unfold sOff; rw [if_neg (by rintro ⟨y1, y2, y3⟩; first | exact absurd c1 (Int32.not_lt.mpr y1) | exact absurd c7 (Int32.not_lt.mpr y2) | exact ch_no (by decide) c15 y3)], hJ, hP, offJ.rf⟩
  refine m_iload_n dX7_off_10 rfl ?_
  refine m_iconst (v := 2) dX7_off_11 (by decide) ?_
  refine m_invS_I dX7_off_12 lk_X7_73 ar_X7_isChoice (t_X7_isChoice) rfl (Nat.le_of_ble_eq_true rfl) (by decide) (by decide) (by decide) (by decide) rfl rfl ?_
  try rw [va_uu]
  refine m_if_ne (t := 20) dX7_off_15 (by decide) (fun c15 => ?_) (fun c15 => ?_)
  rotate_left
  · refine m_iconst (v := -1) dX7_off_18 (by decide) ?_
    exact m_ireturn hF dX7_off_19 rfl rfl rfl ⟨by unfold sOff; rw [if_neg (by rintro ⟨y1, y2, y3⟩; first | exact absurd c1 (Int32.not_lt.mpr y1) | exact absurd c7 (Int32.not_lt.mpr y2) | exact ch_no (by decide) c15 y3)], hJ, hP, offJ.rf⟩
  have hok : 0 ≤ c ∧ c ≤ 10 ∧ inC w 2 := ⟨Int32.not_lt.mp c1, Int32.not_lt.mp c7, ch_ok (by decide) c15⟩
  refine m_iconst (v := 0) dX7_off_20 (by decide) ?_
  refine m_istore_n dX7_off_21 (by decide) ?_
  show mW _ _ _ _ _ _ 22 [_, _, _, _, _, _] _
  refine m_iconst (v := 0) dX7_off_22 (by decide) ?_
  refine m_istore dX7_off_23 (by decide) ?_
  show mW _ _ _ _ _ _ 25 [_, _, _, _, _, _] _
  exact l_X7_off (V := sOff S c w) (by unfold sOff; rw [if_pos hok]) hF 32 0 hp 0 _ rfl h0 hS hJ hP (fun _ => rfl) offJ.rf

def jP (f : Nat → Int64) (a m t : Nat) : Int64 := f (a + 5 * m + t)
def jgT (x k t : Int32) : Int32 := if x = 0 then t else t ||| (1 <<< (k &&& 31))
def jgS (F G : Nat → Int32) : Nat → Nat → Int32 → Int32
  | 0, _, t => t
  | r + 1, m, t => jgS F G r (m + 1) (jgT (G m) (8 + nI m) (jgT (F m) (nI m) t))
def jgA (f : Nat → Int64) (a z : Nat) : Int32 := jgS (fun m => stA (jP f a m)) (fun m => stC (jP f a m)) z 0 0
def sJudged (X : SH) (s l i z : Int32) : Int32 := if inC s 4 ∧ inC l 4 ∧ 1 ≤ z ∧ z ≤ 4 then (if shRef X.1 X.2.1 (tN s) l i (5 * z) = 0 then (if allP (X.2.2 (tN s)) (tN i) (5 * tN z) = 0 then -2 else jgA (X.2.2 (tN s)) (tN i) (tN z)) else shRef X.1 X.2.1 (tN s) l i (5 * z)) else -1
theorem cpy_jP {f L : Nat → Int64} {a m t : Nat} (ht : t < 5) : va_cpy f L (a + 5 * m) 0 5 t = jP f a m t := by
  unfold va_cpy jP
  rw [if_pos (by omega)]
  rfl
set_option maxHeartbeats 400000 in
set_option maxRecDepth 100000 in
theorem l_X7_judged {n : Nat} {hp0 : mHp} {kf : Int32} {X : SH} {s a N : Nat} {l V v5 : Int32} (hs : s < 4) (hN : N ≤ 4) (haN : a + 5 * N ≤ 24) {K : mK} (hF : mFin K D_X7_judged n (qJ hp0 V)) : ∀ (r m : Nat) (hp : mHp) (t : Int32), m + r = N → cTop hp kf → cShelf hp X → cJudge hp → cPol hp → (∀ _ : Unit, jgS (fun m => stA (jP (X.2.2 s) a m)) (fun m => stC (jP (X.2.2 s) a m)) r m t = V) → offJ hp0 hp → mW K D_X7_judged 0 0 n hp 79 [.ref 0, .int (nI s), .int l, .int (nI a), .int (nI N), .int v5, .int t, .int (nI m)] [] := by
  intro r
  induction r using Nat.strongRecOn with
  | ind r ih =>
    intro m hp t hir h0 hX hJ hP hv ho
    have a0 : hp 0 = eO 7 (oTop kf) := h0
    have hX0 := hX
    have x1 := hX.1
    have x2 := hX.2.1
    have x3 := hX.2.2.1
    have x4 := hX.2.2.2.1
    have x5 := hX.2.2.2.2
    obtain ⟨L, hL⟩ := hP
    have y0 : ∀ f : mE, va_up hp 66 f 0 = eO 7 (oTop kf) := fun f => (va_up_ne _ _ (by decide)).trans a0
    obtain ⟨-, -, -, ri1, ev1, le1, -, -, j2, -, -⟩ := id hJ
    have y4 : ∀ f : mE, va_up hp 66 f 44 = eO 1 (oJudge ri1 ev1 le1) := fun f => (va_up_ne _ _ (by decide)).trans j2
    refine m_iload dX7_judged_79 rfl ?_
    refine m_iload dX7_judged_81 rfl ?_
    refine m_icmp_ge (t := 167) dX7_judged_83 (by decide) (fun cc => ?_) (fun cc => ?_)
    · have hr : r = 0 := by have := nI_cmp' (by omega) (by omega) cc; omega
      subst hr
      refine m_iload dX7_judged_167 rfl ?_
      exact m_ireturn hF dX7_judged_169 rfl rfl rfl ⟨by rw [← hv ()]; rfl, hJ, ⟨L, hL⟩, ho⟩
    have hm4 : m < N := nI_cmp (by omega) (by omega) cc
    obtain ⟨r, rfl⟩ : ∃ r', r = r' + 1 := ⟨r - 1, by omega⟩
    refine m_aload_n dX7_judged_86 rfl ?_
    refine m_getfield dX7_judged_87 fl_X7_46 (by first | assumption | rfl | exact x5 s hs | exact y0 _ | exact y4 _ | exact va_up_self _ _ _) (by first | assumption | rfl | exact x5 s hs | exact y0 _ | exact y4 _ | exact va_up_self _ _ _) ?_
    show mW _ _ _ _ _ _ _ _ (.ref _ :: _)
    refine m_getfield dX7_judged_90 fl_X7_226 (by first | assumption | rfl | exact x5 s hs | exact y0 _ | exact y4 _ | exact va_up_self _ _ _) (by first | assumption | rfl | exact x5 s hs | exact y0 _ | exact y4 _ | exact va_up_self _ _ _) ?_
    show mW _ _ _ _ _ _ _ _ (.ref _ :: _)
    refine m_iload_n dX7_judged_93 rfl ?_
    refine m_aaloadJ dX7_judged_94 (by first | assumption | rfl | exact x5 s hs | exact y0 _ | exact y4 _ | exact va_up_self _ _ _) (mIx_lit hs (by decide)) (rItems_at hs) ?_
    refine m_iload_n dX7_judged_95 rfl ?_
    refine m_iconst (v := 5) dX7_judged_96 (by decide) ?_
    refine m_iload dX7_judged_97 rfl ?_
    refine m_imul dX7_judged_99 ?_
    refine m_ci (v := nI (5 * m)) (nI_mulN 5 m) ?_
    refine m_iadd dX7_judged_100 ?_
    refine m_ci (v := nI (a + 5 * m)) (nI_add a (5 * m)) ?_
    refine m_aload_n dX7_judged_101 rfl ?_
    refine m_getfield dX7_judged_102 fl_X7_69 (by first | assumption | rfl | exact x5 s hs | exact y0 _ | exact y4 _ | exact va_up_self _ _ _) (by first | assumption | rfl | exact x5 s hs | exact y0 _ | exact y4 _ | exact va_up_self _ _ _) ?_
    show mW _ _ _ _ _ _ _ _ (.ref _ :: _)
    refine m_iconst (v := 0) dX7_judged_105 (by decide) ?_
    refine m_iconst (v := 5) dX7_judged_106 (by decide) ?_
    refine m_copyL (s0 := a + 5 * m) (d0 := 0) (k := 5) dX7_judged_107 lk_X7_197 (x5 s hs) hL (nI_toInt (by omega)) (by decide) (by decide) (by omega) (by decide) (Nat.le_of_ble_eq_true rfl) (by decide) ?_
    refine m_aload_n dX7_judged_110 rfl ?_
    refine m_getfield dX7_judged_111 fl_X7_53 (by first | assumption | rfl | exact x5 s hs | exact y0 _ | exact y4 _ | exact va_up_self _ _ _) (by first | assumption | rfl | exact x5 s hs | exact y0 _ | exact y4 _ | exact va_up_self _ _ _) ?_
    show mW _ _ _ _ _ _ _ _ (.ref _ :: _)
    refine m_iconst (v := 0) dX7_judged_114 (by decide) ?_
    refine m_aload_n dX7_judged_115 rfl ?_
    refine m_getfield dX7_judged_116 fl_X7_69 (by first | assumption | rfl | exact x5 s hs | exact y0 _ | exact y4 _ | exact va_up_self _ _ _) (by first | assumption | rfl | exact x5 s hs | exact y0 _ | exact y4 _ | exact va_up_self _ _ _) ?_
    show mW _ _ _ _ _ _ _ _ (.ref _ :: _)
    refine m_invV dX7_judged_119 lk_X7_166 ar_X1_isSteady (ci := 1) rfl rfl (by first | assumption | rfl | exact x5 s hs | exact y0 _ | exact y4 _ | exact va_up_self _ _ _) (t_steady (b := 0) (by decide) (hJ.of (fun q r1 r2 => va_up_ne _ _ (by omega))) (va_up_self _ _ _)) rfl (Nat.le_of_ble_eq_true rfl) (by decide) (by decide) (by decide) (by decide) (fun v hp' q => ?_)
    obtain ⟨rfl, gJ, gO⟩ := q
    have g0 : hp' 0 = eO 7 (oTop kf) := (gO 0 (by decide)).trans ((va_up_ne _ _ (by decide)).trans a0)
    have gP : hp' 66 = _ := (gO 66 (by decide)).trans (va_up_self hp 66 _)
    obtain ⟨-, -, -, rij, evj, lej, -, -, gj2, -, -⟩ := id gJ
    have e9 : stB 0 (va_cpy (X.2.2 s) L (a + 5 * m) 0 5) = stA (jP (X.2.2 s) a m) := stB_eq (b := 0) (fun t ht => cpy_jP ht)
    show mW K _ 0 0 n hp' 122 [.ref 0, .int (nI s), .int l, .int (nI a), .int (nI N), .int v5, .int t, .int (nI m)] [.int (stB 0 (va_cpy (X.2.2 s) L (a + 5 * m) 0 5))]
    rw [e9]
    clear e9
    refine m_if_eq (t := 134) dX7_judged_122 (by decide) (fun c122 => ?_) (fun c122 => ?_)
    · refine m_aload_n dX7_judged_134 rfl ?_
      refine m_getfield dX7_judged_135 fl_X7_53 (by first | assumption | rfl | exact x5 s hs | exact y0 _ | exact y4 _ | exact va_up_self _ _ _) (by first | assumption | rfl | exact x5 s hs | exact y0 _ | exact y4 _ | exact va_up_self _ _ _) ?_
      show mW _ _ _ _ _ _ _ _ (.ref _ :: _)
      refine m_iconst (v := 1) dX7_judged_138 (by decide) ?_
      refine m_aload_n dX7_judged_139 rfl ?_
      refine m_getfield dX7_judged_140 fl_X7_69 (by first | assumption | rfl | exact x5 s hs | exact y0 _ | exact y4 _ | exact va_up_self _ _ _) (by first | assumption | rfl | exact x5 s hs | exact y0 _ | exact y4 _ | exact va_up_self _ _ _) ?_
      show mW _ _ _ _ _ _ _ _ (.ref _ :: _)
      refine m_invV dX7_judged_143 lk_X7_166 ar_X1_isSteady (ci := 1) rfl rfl (by first | assumption | rfl | exact x5 s hs | exact y0 _ | exact y4 _ | exact va_up_self _ _ _) (t_steady (b := 1) (by decide) gJ gP) rfl (Nat.le_of_ble_eq_true rfl) (by decide) (by decide) (by decide) (by decide) (fun v hp2 q => ?_)
      obtain ⟨rfl, kJ, kO⟩ := q
      have e9 : stB 1 (va_cpy (X.2.2 s) L (a + 5 * m) 0 5) = stC (jP (X.2.2 s) a m) := stB_eq (b := 1) (fun t ht => cpy_jP ht)
      show mW K _ 0 0 n hp2 146 [.ref 0, .int (nI s), .int l, .int (nI a), .int (nI N), .int v5, .int _, .int (nI m)] [.int (stB 1 (va_cpy (X.2.2 s) L (a + 5 * m) 0 5))]
      rw [e9]
      clear e9
      refine m_if_eq (t := 161) dX7_judged_146 (by decide) (fun c146 => ?_) (fun c146 => ?_)
      · refine m_iinc (v := nI (m + 1)) dX7_judged_161 rfl (nI_1 m) (by decide) ?_
        show mW _ _ _ _ _ _ 164 [_, _, _, _, _, _, _, _] _
        refine m_goto (t := 79) dX7_judged_164 (by decide) ?_
        exact ih r (by omega) (m + 1) hp2 _ (by omega) ((kO 0 (by decide)).trans g0) (hX0.of (fun q r1 r2 => by rw [kO q (by omega), gO q (by omega), va_up_ne _ _ (by omega)])) kJ ⟨_, (kO 66 (by decide)).trans gP⟩ (fun _ => by have hw := hv (); rw [jgS] at hw; unfold jgT at hw; simp only [if_pos c122, if_pos c146] at hw; exact hw) (fun q hq => by rw [kO q (by omega), gO q (by omega), va_up_ne _ _ (by omega)]; exact ho q hq)
      refine m_iload dX7_judged_149 rfl ?_
      refine m_iconst (v := 1) dX7_judged_151 (by decide) ?_
      refine m_bipush (v := 8) dX7_judged_152 (by decide) ?_
      refine m_iload dX7_judged_154 rfl ?_
      refine m_iadd dX7_judged_156 ?_
      refine m_ishl dX7_judged_157 ?_
      refine m_ior dX7_judged_158 ?_
      refine m_istore dX7_judged_159 (by decide) ?_
      show mW _ _ _ _ _ _ 161 [_, _, _, _, _, _, _, _] _
      refine m_iinc (v := nI (m + 1)) dX7_judged_161 rfl (nI_1 m) (by decide) ?_
      show mW _ _ _ _ _ _ 164 [_, _, _, _, _, _, _, _] _
      refine m_goto (t := 79) dX7_judged_164 (by decide) ?_
      exact ih r (by omega) (m + 1) hp2 _ (by omega) ((kO 0 (by decide)).trans g0) (hX0.of (fun q r1 r2 => by rw [kO q (by omega), gO q (by omega), va_up_ne _ _ (by omega)])) kJ ⟨_, (kO 66 (by decide)).trans gP⟩ (fun _ => by have hw := hv (); rw [jgS] at hw; unfold jgT at hw; simp only [if_pos c122, if_neg c146] at hw; exact hw) (fun q hq => by rw [kO q (by omega), gO q (by omega), va_up_ne _ _ (by omega)]; exact ho q hq)
    refine m_iload dX7_judged_125 rfl ?_
    refine m_iconst (v := 1) dX7_judged_127 (by decide) ?_
    refine m_iload dX7_judged_128 rfl ?_
    refine m_ishl dX7_judged_130 ?_
    refine m_ior dX7_judged_131 ?_
    refine m_istore dX7_judged_132 (by decide) ?_
    show mW _ _ _ _ _ _ 134 [_, _, _, _, _, _, _, _] _
    refine m_aload_n dX7_judged_134 rfl ?_
    refine m_getfield dX7_judged_135 fl_X7_53 (by first | assumption | rfl | exact x5 s hs | exact y0 _ | exact y4 _ | exact va_up_self _ _ _) (by first | assumption | rfl | exact x5 s hs | exact y0 _ | exact y4 _ | exact va_up_self _ _ _) ?_
    show mW _ _ _ _ _ _ _ _ (.ref _ :: _)
    refine m_iconst (v := 1) dX7_judged_138 (by decide) ?_
    refine m_aload_n dX7_judged_139 rfl ?_
    refine m_getfield dX7_judged_140 fl_X7_69 (by first | assumption | rfl | exact x5 s hs | exact y0 _ | exact y4 _ | exact va_up_self _ _ _) (by first | assumption | rfl | exact x5 s hs | exact y0 _ | exact y4 _ | exact va_up_self _ _ _) ?_
    show mW _ _ _ _ _ _ _ _ (.ref _ :: _)
    refine m_invV dX7_judged_143 lk_X7_166 ar_X1_isSteady (ci := 1) rfl rfl (by first | assumption | rfl | exact x5 s hs | exact y0 _ | exact y4 _ | exact va_up_self _ _ _) (t_steady (b := 1) (by decide) gJ gP) rfl (Nat.le_of_ble_eq_true rfl) (by decide) (by decide) (by decide) (by decide) (fun v hp2 q => ?_)
    obtain ⟨rfl, kJ, kO⟩ := q
    have e9 : stB 1 (va_cpy (X.2.2 s) L (a + 5 * m) 0 5) = stC (jP (X.2.2 s) a m) := stB_eq (b := 1) (fun t ht => cpy_jP ht)
    show mW K _ 0 0 n hp2 146 [.ref 0, .int (nI s), .int l, .int (nI a), .int (nI N), .int v5, .int _, .int (nI m)] [.int (stB 1 (va_cpy (X.2.2 s) L (a + 5 * m) 0 5))]
    rw [e9]
    clear e9
    refine m_if_eq (t := 161) dX7_judged_146 (by decide) (fun c146 => ?_) (fun c146 => ?_)
    · refine m_iinc (v := nI (m + 1)) dX7_judged_161 rfl (nI_1 m) (by decide) ?_
      show mW _ _ _ _ _ _ 164 [_, _, _, _, _, _, _, _] _
      refine m_goto (t := 79) dX7_judged_164 (by decide) ?_
      exact ih r (by omega) (m + 1) hp2 _ (by omega) ((kO 0 (by decide)).trans g0) (hX0.of (fun q r1 r2 => by rw [kO q (by omega), gO q (by omega), va_up_ne _ _ (by omega)])) kJ ⟨_, (kO 66 (by decide)).trans gP⟩ (fun _ => by have hw := hv (); rw [jgS] at hw; unfold jgT at hw; simp only [if_neg c122, if_pos c146] at hw; exact hw) (fun q hq => by rw [kO q (by omega), gO q (by omega), va_up_ne _ _ (by omega)]; exact ho q hq)
    refine m_iload dX7_judged_149 rfl ?_
    refine m_iconst (v := 1) dX7_judged_151 (by decide) ?_
    refine m_bipush (v := 8) dX7_judged_152 (by decide) ?_
    refine m_iload dX7_judged_154 rfl ?_
    refine m_iadd dX7_judged_156 ?_
    refine m_ishl dX7_judged_157 ?_
    refine m_ior dX7_judged_158 ?_
    refine m_istore dX7_judged_159 (by decide) ?_
    show mW _ _ _ _ _ _ 161 [_, _, _, _, _, _, _, _] _
    refine m_iinc (v := nI (m + 1)) dX7_judged_161 rfl (nI_1 m) (by decide) ?_
    show mW _ _ _ _ _ _ 164 [_, _, _, _, _, _, _, _] _
    refine m_goto (t := 79) dX7_judged_164 (by decide) ?_
    exact ih r (by omega) (m + 1) hp2 _ (by omega) ((kO 0 (by decide)).trans g0) (hX0.of (fun q r1 r2 => by rw [kO q (by omega), gO q (by omega), va_up_ne _ _ (by omega)])) kJ ⟨_, (kO 66 (by decide)).trans gP⟩ (fun _ => by have hw := hv (); rw [jgS] at hw; unfold jgT at hw; simp only [if_neg c122, if_neg c146] at hw; exact hw) (fun q hq => by rw [kO q (by omega), gO q (by omega), va_up_ne _ _ (by omega)]; exact ho q hq)

set_option maxHeartbeats 400000 in
set_option maxRecDepth 100000 in
theorem t_X7_judged {n : Nat} {hp : mHp} {X : SH} {kf : Int32} (h0 : cTop hp kf) (hX : cShelf hp X) (hO : okS X) (hJ : cJudge hp) (hP : cPol hp) {s l i z : Int32} : mC D_X7_judged [.ref 0, .int s, .int l, .int i, .int z] n hp (qJ hp (sJudged X s l i z)) := by
  refine m_enter rfl rfl (Nat.le_of_ble_eq_true rfl) (fun K hF => ?_)
  show mW K _ 0 0 _ _ 0 [.ref 0, .int s, .int l, .int i, .int z, .retAddr 0, .retAddr 0, .retAddr 0] []
  have a0 : hp 0 = eO 7 (oTop kf) := h0
  have x1 := hX.1
  have x2 := hX.2.1
  have x3 := hX.2.2.1
  have x4 := hX.2.2.2.1
  have x5 := hX.2.2.2.2
  refine m_iload_n dX7_judged_0 rfl ?_
  refine m_iconst (v := 4) dX7_judged_1 (by decide) ?_
  refine m_invS_I dX7_judged_2 lk_X7_73 ar_X7_isChoice (t_X7_isChoice) rfl (Nat.le_of_ble_eq_true rfl) (by decide) (by decide) (by decide) (by decide) rfl rfl ?_
  try rw [va_uu]
  refine m_if_eq (t := 28) dX7_judged_5 (by decide) (fun c5 => ?_) (fun c5 => ?_)
  · refine m_iconst (v := -1) dX7_judged_28 (by decide) ?_
    exact m_ireturn hF dX7_judged_29 rfl rfl rfl ⟨by unfold sJudged; rw [if_neg (by rintro ⟨y0, y1, y2, y3⟩; first | exact ch_no (by decide) (by assumption : chI s (nI 4) = 0) y0 | exact ch_no (by decide) (by assumption : chI l (nI 4) = 0) y1 | exact absurd c19 (Int32.not_lt.mpr y2) | exact c25 y3)], hJ, hP, offJ.rf⟩
  refine m_iload_n dX7_judged_8 rfl ?_
  refine m_iconst (v := 4) dX7_judged_9 (by decide) ?_
  refine m_invS_I dX7_judged_10 lk_X7_73 ar_X7_isChoice (t_X7_isChoice) rfl (Nat.le_of_ble_eq_true rfl) (by decide) (by decide) (by decide) (by decide) rfl rfl ?_
  try rw [va_uu]
  refine m_if_eq (t := 28) dX7_judged_13 (by decide) (fun c13 => ?_) (fun c13 => ?_)
  · refine m_iconst (v := -1) dX7_judged_28 (by decide) ?_
    exact m_ireturn hF dX7_judged_29 rfl rfl rfl ⟨by unfold sJudged; rw [if_neg (by rintro ⟨y0, y1, y2, y3⟩; first | exact ch_no (by decide) (by assumption : chI s (nI 4) = 0) y0 | exact ch_no (by decide) (by assumption : chI l (nI 4) = 0) y1 | exact absurd c19 (Int32.not_lt.mpr y2) | exact c25 y3)], hJ, hP, offJ.rf⟩
  refine m_iload dX7_judged_16 rfl ?_
  refine m_iconst (v := 1) dX7_judged_18 (by decide) ?_
  refine m_icmp_lt (t := 28) dX7_judged_19 (by decide) (fun c19 => ?_) (fun c19 => ?_)
  · refine m_iconst (v := -1) dX7_judged_28 (by decide) ?_
    exact m_ireturn hF dX7_judged_29 rfl rfl rfl ⟨by unfold sJudged; rw [if_neg (by rintro ⟨y0, y1, y2, y3⟩; first | exact ch_no (by decide) (by assumption : chI s (nI 4) = 0) y0 | exact ch_no (by decide) (by assumption : chI l (nI 4) = 0) y1 | exact absurd c19 (Int32.not_lt.mpr y2) | exact c25 y3)], hJ, hP, offJ.rf⟩
  refine m_iload dX7_judged_22 rfl ?_
  refine m_iconst (v := 4) dX7_judged_24 (by decide) ?_
  refine m_icmp_le (t := 30) dX7_judged_25 (by decide) (fun c25 => ?_) (fun c25 => ?_)
  rotate_left
  · refine m_iconst (v := -1) dX7_judged_28 (by decide) ?_
    exact m_ireturn hF dX7_judged_29 rfl rfl rfl ⟨by unfold sJudged; rw [if_neg (by rintro ⟨y0, y1, y2, y3⟩; first | exact ch_no (by decide) (by assumption : chI s (nI 4) = 0) y0 | exact ch_no (by decide) (by assumption : chI l (nI 4) = 0) y1 | exact absurd c19 (Int32.not_lt.mpr y2) | exact c25 y3)], hJ, hP, offJ.rf⟩
  have hok : inC s 4 ∧ inC l 4 ∧ 1 ≤ z ∧ z ≤ 4 := ⟨ch_ok (by decide) c5, ch_ok (by decide) c13, Int32.not_lt.mp c19, c25⟩
  obtain ⟨s, hs, rfl, es⟩ := inC_n hok.1
  have hz1 : 1 ≤ z.toInt := Int32.le_iff_toInt_le.mp hok.2.2.1
  have hz4 : z.toInt ≤ 4 := Int32.le_iff_toInt_le.mp hok.2.2.2
  obtain ⟨N, hN, rfl, eN⟩ := inC_n (v := z) (C := 5) ⟨by omega, by omega⟩
  have e5 : (5 : Int32) * nI N = nI (5 * N) := nI_mulN 5 N
  refine m_aload_n dX7_judged_30 rfl ?_
  refine m_getfield dX7_judged_31 fl_X7_46 (by first | assumption | rfl) (by first | assumption | rfl) ?_
  show mW _ _ _ _ _ _ _ _ (.ref _ :: _)
  refine m_iload_n dX7_judged_34 rfl ?_
  refine m_iload_n dX7_judged_35 rfl ?_
  refine m_iload_n dX7_judged_36 rfl ?_
  refine m_iconst (v := 5) dX7_judged_37 (by decide) ?_
  refine m_iload dX7_judged_38 rfl ?_
  refine m_imul dX7_judged_40 ?_
  refine m_ci (v := nI (5 * N)) (nI_mulN 5 N) ?_
  refine m_invV_I dX7_judged_41 lk_X7_218 ar_X4_refusal (ci := 4) rfl rfl (by first | assumption | rfl) (t_X4_refusal x1 x2 x3 hs) rfl (Nat.le_of_ble_eq_true rfl) (by decide) (by decide) (by decide) (by decide) rfl rfl ?_
  try rw [va_uu]
  refine m_istore dX7_judged_44 (by decide) ?_
  show mW _ _ _ _ _ _ 46 [_, _, _, _, _, _, _, _] _
  refine m_iload dX7_judged_46 rfl ?_
  refine m_if_eq (t := 54) dX7_judged_48 (by decide) (fun c48 => ?_) (fun c48 => ?_)
  rotate_left
  · refine m_iload dX7_judged_51 rfl ?_
    exact m_ireturn hF dX7_judged_53 rfl rfl rfl ⟨by unfold sJudged; rw [if_pos hok, es, e5, if_neg c48], hJ, hP, offJ.rf⟩
  obtain ⟨a, b, rfl, eb, hab, ea, eb2⟩ := shHas_in (hO s hs) (shRef_has c48).1
  obtain rfl : b = 5 * N := by
    have h9 : (nI (5 * N)).toInt.toNat = 5 * N := by rw [nI_toInt (by omega)]; rfl
    exact eb2.symm.trans h9
  refine m_aload_n dX7_judged_54 rfl ?_
  refine m_getfield dX7_judged_55 fl_X7_46 (by first | assumption | rfl) (by first | assumption | rfl) ?_
  show mW _ _ _ _ _ _ _ _ (.ref _ :: _)
  refine m_iload_n dX7_judged_58 rfl ?_
  refine m_iload_n dX7_judged_59 rfl ?_
  refine m_iconst (v := 5) dX7_judged_60 (by decide) ?_
  refine m_iload dX7_judged_61 rfl ?_
  refine m_imul dX7_judged_63 ?_
  refine m_ci (v := nI (5 * N)) (nI_mulN 5 N) ?_
  refine m_invV_I dX7_judged_64 lk_X7_222 ar_X4_holdsParts (ci := 4) rfl rfl (by first | assumption | rfl) (t_X4_holdsParts x1 x4 (x5 s hs) hs hab) rfl (Nat.le_of_ble_eq_true rfl) (by decide) (by decide) (by decide) (by decide) rfl rfl ?_
  try rw [va_uu]
  refine m_if_ne (t := 73) dX7_judged_67 (by decide) (fun c67 => ?_) (fun c67 => ?_)
  rotate_left
  · refine m_bipush (v := -2) dX7_judged_70 (by decide) ?_
    exact m_ireturn hF dX7_judged_72 rfl rfl rfl ⟨by unfold sJudged; rw [if_pos hok, es, e5, if_pos c48, ea, eN, if_pos c67], hJ, hP, offJ.rf⟩
  refine m_iconst (v := 0) dX7_judged_73 (by decide) ?_
  refine m_istore dX7_judged_74 (by decide) ?_
  show mW _ _ _ _ _ _ 76 [_, _, _, _, _, _, _, _] _
  refine m_iconst (v := 0) dX7_judged_76 (by decide) ?_
  refine m_istore dX7_judged_77 (by decide) ?_
  show mW _ _ _ _ _ _ 79 [_, _, _, _, _, _, _, _] _
  exact l_X7_judged (V := sJudged X (nI s) l (nI a) (nI N)) hs (by omega) hab hF N 0 hp 0 (by omega) h0 hX hJ hP (fun _ => by unfold sJudged; rw [if_pos hok, es, e5, if_pos c48, ea, eN, if_neg c67]; rfl) offJ.rf

