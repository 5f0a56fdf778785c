/-! ===== LoopJudge: the sheets ===== -/
abbrev SH : Type := (Nat → Int32) × (Nat → Int32) × (Nat → Nat → Int64)
def cShelf (hp : mHp) (X : SH) : Prop := hp 36 = eO 4 oShelf ∧ hp 37 = eI 4 X.1 ∧ hp 38 = eI 4 X.2.1 ∧ hp 39 = eR tyJJ 4 rItems ∧ ∀ s, s < 4 → hp (40 + s) = eL 24 (X.2.2 s)
theorem cShelf.of {hp hp' : mHp} {X : SH} (h : cShelf hp X) (e : ∀ q, 36 ≤ q → q ≤ 43 → hp' q = hp q) : cShelf hp' X := ⟨(e 36 (by decide) (by decide)).trans h.1, (e 37 (by decide) (by decide)).trans h.2.1, (e 38 (by decide) (by decide)).trans h.2.2.1, (e 39 (by decide) (by decide)).trans h.2.2.2.1, fun s hs => (e (40 + s) (by omega) (by omega)).trans (h.2.2.2.2 s hs)⟩
theorem cShelf.it {hp : mHp} {X : SH} (h : cShelf hp X) {s : Nat} {f : Nat → Int64} (hs : s < 4) : cShelf (va_up hp (40 + s) (eL 24 f)) (X.1, X.2.1, va_up X.2.2 s f) := by
  refine ⟨(va_up_ne _ _ (by omega)).trans h.1, (va_up_ne _ _ (by omega)).trans h.2.1, (va_up_ne _ _ (by omega)).trans h.2.2.1, (va_up_ne _ _ (by omega)).trans h.2.2.2.1, fun t ht => ?_⟩
  by_cases e : t = s
  · subst e
    rw [va_up_self]
    show _ = eL 24 (va_up X.2.2 t f t)
    rw [va_up_self]
  · rw [va_up_ne _ _ (by omega)]
    show _ = eL 24 (va_up X.2.2 s f t)
    rw [va_up_ne _ _ e]
    exact h.2.2.2.2 t ht
/-- how many items a sheet has is from 0 to 24 -/
def okS (X : SH) : Prop := ∀ s, s < 4 → 0 ≤ (X.2.1 s).toInt ∧ (X.2.1 s).toInt ≤ 24
abbrev tN (x : Int32) : Nat := x.toInt.toNat
def sSheet (X : SH) (s l z : Int32) : Int32 × SH := if inC s 4 ∧ inC l 4 ∧ z ≤ 24 then (if 0 ≤ z then (z, va_up X.1 (tN s) l, va_up X.2.1 (tN s) z, va_up X.2.2 (tN s) (fillTo (X.2.2 (tN s)) 0 24)) else (-14, X)) else (-1, X)
def sDrop (X : SH) (s : Int32) : Int32 × SH := if inC s 4 then (if X.1 (tN s) = -1 then (-11, X) else (X.2.1 (tN s), va_up X.1 (tN s) (-1), va_up X.2.1 (tN s) 0, X.2.2)) else (-1, X)
def cutV (l : Int32) (v : Int64) : Int64 := if l = 0 then v.toInt32.toInt8.toInt32.toInt64 else if l = 1 then v.toInt32.toInt16.toInt32.toInt64 else if l = 2 then v.toInt32.toInt64 else v
def sItem (X : SH) (s l i : Int32) (v : Int64) : Int32 × SH := if inC s 4 ∧ inC l 4 then (if shRef X.1 X.2.1 (tN s) l i 1 = 0 then (1, X.1, X.2.1, va_up X.2.2 (tN s) (va_up (X.2.2 (tN s)) (tN i) (cutV l v))) else (shRef X.1 X.2.1 (tN s) l i 1, X)) else (-1, X)
def sCopy (X : SH) (s i t j z : Int32) : Int32 × SH := if inC s 4 ∧ inC t 4 then (if X.1 (tN s) = -1 ∨ X.1 (tN t) = -1 then (-11, X) else if X.1 (tN s) = X.1 (tN t) then (if shHas X.2.1 (tN s) i z = 0 ∨ shHas X.2.1 (tN t) j z = 0 then (-13, X) else (z, X.1, X.2.1, va_up X.2.2 (tN t) (va_cpy (X.2.2 (tN s)) (X.2.2 (tN t)) (tN i) (tN j) (tN z)))) else (-12, X)) else (-1, X)
def flmI (P : Nat → Int32) (b : Nat) (f : Nat → Int64) (i : Nat) : Nat → Int64 := fun t => if i ≤ t ∧ t < i + 5 then (P (b + (t - i))).toInt64 else f t
def sFilm (S : TS) (X : SH) (w s l i : Int32) : Int32 × SH := if inC w 2 ∧ inC s 4 ∧ inC l 4 then (if shRef X.1 X.2.1 (tN s) l i 5 = 0 then (5, X.1, X.2.1, va_up X.2.2 (tN s) (flmI S.1 (5 * tN w) (X.2.2 (tN s)) (tN i))) else (shRef X.1 X.2.1 (tN s) l i 5, X)) else (-1, X)
theorem shHas_in {SZ : Nat → Int32} {s : Nat} {i z : Int32} (h : 0 ≤ (SZ s).toInt ∧ (SZ s).toInt ≤ 24) (e : shHas SZ s i z ≠ 0) : ∃ a b : Nat, i = nI a ∧ z = nI b ∧ a + b ≤ 24 ∧ tN i = a ∧ tN z = b := by
  unfold shHas at e
  by_cases c1 : i < 0
  · rw [if_pos c1] at e
    exact absurd rfl e
  · rw [if_neg c1] at e
    by_cases c2 : z < 0
    · rw [if_pos c2] at e
      exact absurd rfl e
    · rw [if_neg c2] at e
      by_cases c3 : SZ s - z < i
      · rw [if_pos c3] at e
        exact absurd rfl e
      · rw [Int32.lt_iff_toInt_lt, show (0 : Int32).toInt = 0 by decide] at c1 c2
        obtain ⟨e1, l1⟩ := nI_of0 (x := i) (by omega)
        obtain ⟨e2, l2⟩ := nI_of0 (x := z) (by omega)
        rw [Int32.lt_iff_toInt_lt, Int32.toInt_sub, Int.bmod_eq_of_le (by omega) (by omega)] at c3
        exact ⟨tN i, tN z, e1, e2, by show i.toInt.toNat + z.toInt.toNat ≤ 24; omega, rfl, rfl⟩
theorem shRef_has {LN SZ : Nat → Int32} {s : Nat} {l i z : Int32} (e : shRef LN SZ s l i z = 0) : shHas SZ s i z ≠ 0 ∧ LN s = l ∧ LN s ≠ -1 := by
  unfold shRef at e
  by_cases c1 : LN s = -1
  · rw [if_pos c1] at e
    simp at e
  · rw [if_neg c1, if_pos rfl] at e
    by_cases c2 : LN s = l
    · rw [if_pos c2] at e
      by_cases c3 : shHas SZ s i z = 0
      · rw [if_pos c3] at e
        simp at e
      · exact ⟨c3, c2, c1⟩
    · rw [if_neg c2] at e
      simp at e
theorem inC_n {v : Int32} {C : Nat} (h : inC v C) : ∃ w : Nat, w < C ∧ v = nI w ∧ tN v = w := inC_N h
theorem ch_ok {v : Int32} {C : Nat} (hC : C < 2 ^ 31) (h : ¬ chI v (nI C) = 0) : inC v C := Classical.not_not.mp (fun z => h ((chI_iff hC).mpr z))
theorem ch_no {v : Int32} {C : Nat} (hC : C < 2 ^ 31) (h : chI v (nI C) = 0) : ¬ inC v C := (chI_iff hC).mp h
set_option maxHeartbeats 4000000 in
set_option maxRecDepth 100000 in
theorem t_X7_sheet {n : Nat} {hp : mHp} {X : SH} {kf : Int32} (h0 : cTop hp kf) (hX : cShelf hp X) {s l z : Int32} : mC D_X7_sheet [.ref 0, .int s, .int l, .int z] n hp (fun r hp' => r = some (.int (sSheet X s l z).1) ∧ cShelf hp' (sSheet X s l z).2 ∧ offR 36 43 hp hp') := by
  refine m_enter rfl rfl (Nat.le_of_ble_eq_true rfl) (fun K hF => ?_)
  show mW K _ 0 0 _ _ 0 [.ref 0, .int s, .int l, .int z] []
  have a0 : hp 0 = eO 7 (oTop kf) := h0
  have x1 := hX.1
  have x2 := hX.2.1
  have x3 := hX.2.2.1
  have x4 := hX.2.2.2.1
  have x5 := hX.2.2.2.2
  refine m_iload_n dX7_sheet_0 rfl ?_
  refine m_iconst (v := 4) dX7_sheet_1 (by decide) ?_
  refine m_invS_I dX7_sheet_2 lk_X7_73 ar_X7_isChoice (t_X7_isChoice) rfl (Nat.le_of_ble_eq_true rfl) (by decide) (by decide) (by decide) (by decide) rfl rfl ?_
  try rw [va_uu]
  refine m_if_eq (t := 22) dX7_sheet_5 (by decide) (fun c5 => ?_) (fun c5 => ?_)
  · refine m_iconst (v := -1) dX7_sheet_22 (by decide) ?_
    exact m_ireturn hF dX7_sheet_23 rfl rfl rfl ⟨by unfold sSheet; rw [if_neg (by rintro ⟨y0, y1, y2⟩; first | exact ch_no (by decide) (by assumption : chI s (nI 4) = 0) y0 | exact ch_no (by decide) (by assumption : chI l (nI 4) = 0) y1 | exact c19 y2)], by unfold sSheet; rw [if_neg (by rintro ⟨y0, y1, y2⟩; first | exact ch_no (by decide) (by assumption : chI s (nI 4) = 0) y0 | exact ch_no (by decide) (by assumption : chI l (nI 4) = 0) y1 | exact c19 y2)]; exact hX, offR.rf⟩
  refine m_iload_n dX7_sheet_8 rfl ?_
  refine m_iconst (v := 4) dX7_sheet_9 (by decide) ?_
  refine m_invS_I dX7_sheet_10 lk_X7_73 ar_X7_isChoice (t_X7_isChoice) rfl (Nat.le_of_ble_eq_true rfl) (by decide) (by decide) (by decide) (by decide) rfl rfl ?_
  try rw [va_uu]
  refine m_if_eq (t := 22) dX7_sheet_13 (by decide) (fun c13 => ?_) (fun c13 => ?_)
  · refine m_iconst (v := -1) dX7_sheet_22 (by decide) ?_
    exact m_ireturn hF dX7_sheet_23 rfl rfl rfl ⟨by unfold sSheet; rw [if_neg (by rintro ⟨y0, y1, y2⟩; first | exact ch_no (by decide) (by assumption : chI s (nI 4) = 0) y0 | exact ch_no (by decide) (by assumption : chI l (nI 4) = 0) y1 | exact c19 y2)], by unfold sSheet; rw [if_neg (by rintro ⟨y0, y1, y2⟩; first | exact ch_no (by decide) (by assumption : chI s (nI 4) = 0) y0 | exact ch_no (by decide) (by assumption : chI l (nI 4) = 0) y1 | exact c19 y2)]; exact hX, offR.rf⟩
  refine m_iload_n dX7_sheet_16 rfl ?_
  refine m_bipush (v := 24) dX7_sheet_17 (by decide) ?_
  refine m_icmp_le (t := 24) dX7_sheet_19 (by decide) (fun c19 => ?_) (fun c19 => ?_)
  rotate_left
  · refine m_iconst (v := -1) dX7_sheet_22 (by decide) ?_
    exact m_ireturn hF dX7_sheet_23 rfl rfl rfl ⟨by unfold sSheet; rw [if_neg (by rintro ⟨y0, y1, y2⟩; first | exact ch_no (by decide) (by assumption : chI s (nI 4) = 0) y0 | exact ch_no (by decide) (by assumption : chI l (nI 4) = 0) y1 | exact c19 y2)], by unfold sSheet; rw [if_neg (by rintro ⟨y0, y1, y2⟩; first | exact ch_no (by decide) (by assumption : chI s (nI 4) = 0) y0 | exact ch_no (by decide) (by assumption : chI l (nI 4) = 0) y1 | exact c19 y2)]; exact hX, offR.rf⟩
  have hok : inC s 4 ∧ inC l 4 ∧ z ≤ 24 := ⟨ch_ok (by decide) c5, ch_ok (by decide) c13, c19⟩
  refine m_iload_n dX7_sheet_24 rfl ?_
  refine m_if_ge (t := 31) dX7_sheet_25 (by decide) (fun c25 => ?_) (fun c25 => ?_)
  rotate_left
  · refine m_bipush (v := -14) dX7_sheet_28 (by decide) ?_
    exact m_ireturn hF dX7_sheet_30 rfl rfl rfl ⟨by unfold sSheet; rw [if_pos hok, if_neg c25], by unfold sSheet; rw [if_pos hok, if_neg c25]; exact hX, offR.rf⟩
  obtain ⟨t, ht, rfl, et⟩ := inC_n hok.1
  refine m_aload_n dX7_sheet_31 rfl ?_
  refine m_getfield dX7_sheet_32 fl_X7_46 (by first | assumption | rfl) (by first | assumption | rfl) ?_
  show mW _ _ _ _ _ _ _ _ (.ref _ :: _)
  refine m_iload_n dX7_sheet_35 rfl ?_
  refine m_iload_n dX7_sheet_36 rfl ?_
  refine m_iload_n dX7_sheet_37 rfl ?_
  refine m_invV_V dX7_sheet_38 lk_X7_229 ar_X4_renew (ci := 4) rfl rfl (by first | assumption | rfl) (t_X4_renew x1 x2 x3 x4 (x5 t ht) ht) rfl (Nat.le_of_ble_eq_true rfl) (by decide) (by decide) (by decide) (by decide) rfl rfl ?_
  try rw [va_uu]
  refine m_iload_n dX7_sheet_41 rfl ?_
  exact m_ireturn hF dX7_sheet_42 rfl rfl rfl ⟨by unfold sSheet; rw [if_pos hok, if_pos c25], by unfold sSheet; rw [if_pos hok, if_pos c25, et]; exact cShelf.it (hp := va_up (va_up hp 37 (eI 4 (va_up X.1 t l))) 38 (eI 4 (va_up X.2.1 t z))) (X := (va_up X.1 t l, va_up X.2.1 t z, X.2.2)) ⟨x1, rfl, rfl, x4, fun q hq => ((va_up_ne _ _ (by omega)).trans (va_up_ne _ _ (by omega))).trans (x5 q hq)⟩ ht, fun q hq => by rw [va_up_ne _ _ (by omega), va_up_ne _ _ (by omega), va_up_ne _ _ (by omega)]⟩

set_option maxHeartbeats 4000000 in
set_option maxRecDepth 100000 in
theorem t_X7_drop {n : Nat} {hp : mHp} {X : SH} {kf : Int32} (h0 : cTop hp kf) (hX : cShelf hp X) {s : Int32} : mC D_X7_drop [.ref 0, .int s] n hp (fun r hp' => r = some (.int (sDrop X s).1) ∧ cShelf hp' (sDrop X s).2 ∧ offR 36 43 hp hp') := by
  refine m_enter rfl rfl (Nat.le_of_ble_eq_true rfl) (fun K hF => ?_)
  show mW K _ 0 0 _ _ 0 [.ref 0, .int s, .retAddr 0] []
  have a0 : hp 0 = eO 7 (oTop kf) := h0
  have x1 := hX.1
  have x2 := hX.2.1
  have x3 := hX.2.2.1
  have x4 := hX.2.2.2.1
  have x5 := hX.2.2.2.2
  refine m_iload_n dX7_drop_0 rfl ?_
  refine m_iconst (v := 4) dX7_drop_1 (by decide) ?_
  refine m_invS_I dX7_drop_2 lk_X7_73 ar_X7_isChoice (t_X7_isChoice) rfl (Nat.le_of_ble_eq_true rfl) (by decide) (by decide) (by decide) (by decide) rfl rfl ?_
  try rw [va_uu]
  refine m_if_ne (t := 10) dX7_drop_5 (by decide) (fun c5 => ?_) (fun c5 => ?_)
  rotate_left
  · refine m_iconst (v := -1) dX7_drop_8 (by decide) ?_
    exact m_ireturn hF dX7_drop_9 rfl rfl rfl ⟨by unfold sDrop; rw [if_neg (ch_no (by decide) c5)], by unfold sDrop; rw [if_neg (ch_no (by decide) c5)]; exact hX, offR.rf⟩
  have hok : inC s 4 := ch_ok (by decide) c5
  obtain ⟨t, ht, rfl, et⟩ := inC_n hok
  refine m_aload_n dX7_drop_10 rfl ?_
  refine m_getfield dX7_drop_11 fl_X7_46 (by first | assumption | rfl) (by first | assumption | rfl) ?_
  show mW _ _ _ _ _ _ _ _ (.ref _ :: _)
  refine m_iload_n dX7_drop_14 rfl ?_
  refine m_invV_I dX7_drop_15 lk_X7_233 ar_X4_isMissing (ci := 4) rfl rfl (by first | assumption | rfl) (t_X4_isMissing x1 x2 ht) rfl (Nat.le_of_ble_eq_true rfl) (by decide) (by decide) (by decide) (by decide) rfl rfl ?_
  try rw [va_uu]
  refine m_if_eq (t := 24) dX7_drop_18 (by decide) (fun c18 => ?_) (fun c18 => ?_)
  rotate_left
  · refine m_bipush (v := -11) dX7_drop_21 (by decide) ?_
    exact m_ireturn hF dX7_drop_23 rfl rfl rfl ⟨by unfold sDrop; rw [if_pos hok, et, if_pos (by by_cases y : X.1 t = -1; exact y; exact absurd (if_neg y) c18)], by unfold sDrop; rw [if_pos hok, et, if_pos (by by_cases y : X.1 t = -1; exact y; exact absurd (if_neg y) c18)]; exact hX, offR.rf⟩
  refine m_aload_n dX7_drop_24 rfl ?_
  refine m_getfield dX7_drop_25 fl_X7_46 (by first | assumption | rfl) (by first | assumption | rfl) ?_
  show mW _ _ _ _ _ _ _ _ (.ref _ :: _)
  refine m_getfield dX7_drop_28 fl_X7_236 (by first | assumption | rfl) (by first | assumption | rfl) ?_
  show mW _ _ _ _ _ _ _ _ (.ref _ :: _)
  refine m_iload_n dX7_drop_31 rfl ?_
  refine m_iaload dX7_drop_32 (by first | assumption | rfl) (mIx_lit ht (by decide)) ?_
  refine m_istore_n dX7_drop_33 (by decide) ?_
  show mW _ _ _ _ _ _ 34 [_, _, _] _
  refine m_aload_n dX7_drop_34 rfl ?_
  refine m_getfield dX7_drop_35 fl_X7_46 (by first | assumption | rfl) (by first | assumption | rfl) ?_
  show mW _ _ _ _ _ _ _ _ (.ref _ :: _)
  refine m_iload_n dX7_drop_38 rfl ?_
  refine m_invV_V dX7_drop_39 lk_X7_239 ar_X4_remove (ci := 4) rfl rfl (by first | assumption | rfl) (t_X4_remove x1 x2 x3 ht) rfl (Nat.le_of_ble_eq_true rfl) (by decide) (by decide) (by decide) (by decide) rfl rfl ?_
  try rw [va_uu]
  refine m_iload_n dX7_drop_42 rfl ?_
  exact m_ireturn hF dX7_drop_43 rfl rfl rfl ⟨by unfold sDrop; rw [if_pos hok, et, if_neg (fun y => by rw [if_pos y] at c18; exact absurd c18 (by decide))], by unfold sDrop; rw [if_pos hok, et, if_neg (fun y => by rw [if_pos y] at c18; exact absurd c18 (by decide))]; exact ⟨x1, rfl, rfl, x4, fun q hq => ((va_up_ne _ _ (by omega)).trans (va_up_ne _ _ (by omega))).trans (x5 q hq)⟩, fun q hq => by rw [va_up_ne _ _ (by omega), va_up_ne _ _ (by omega)]⟩

set_option maxHeartbeats 4000000 in
set_option maxRecDepth 100000 in
theorem t_X7_cutTo {n : Nat} {hp : mHp} {l : Int32} {v : Int64} : mC D_X7_cutTo [.int l, .long v] n hp (rL (cutV l v) hp) := by
  refine m_enter rfl rfl (Nat.le_of_ble_eq_true rfl) (fun K hF => ?_)
  show mW K _ 0 0 _ _ 0 [.int l, .long v, .retAddr 0] []
  refine m_iload_n dX7_cutTo_0 rfl ?_
  refine m_tabCase (v := 0) (t := 28) dX7_cutTo_1 (by decide) (by decide) rfl (by decide) (fun w1_0 => ?_) (fun w1_0 => ?_)
  · refine m_lload_n dX7_cutTo_28 rfl ?_
    refine m_l2i dX7_cutTo_29 ?_
    refine m_i2b dX7_cutTo_30 ?_
    refine m_i2l dX7_cutTo_31 ?_
    exact m_lreturn hF dX7_cutTo_32 rfl rfl rfl ⟨by unfold cutV; rw [if_pos w1_0], rfl⟩
  refine m_tabCase (v := 1) (t := 33) dX7_cutTo_1 (by decide) (by decide) rfl (by decide) (fun w1_1 => ?_) (fun w1_1 => ?_)
  · refine m_lload_n dX7_cutTo_33 rfl ?_
    refine m_l2i dX7_cutTo_34 ?_
    refine m_i2s dX7_cutTo_35 ?_
    refine m_i2l dX7_cutTo_36 ?_
    exact m_lreturn hF dX7_cutTo_37 rfl rfl rfl ⟨by unfold cutV; rw [if_neg w1_0, if_pos w1_1], rfl⟩
  refine m_tabCase (v := 2) (t := 38) dX7_cutTo_1 (by decide) (by decide) rfl (by decide) (fun w1_2 => ?_) (fun w1_2 => ?_)
  · refine m_lload_n dX7_cutTo_38 rfl ?_
    refine m_l2i dX7_cutTo_39 ?_
    refine m_i2l dX7_cutTo_40 ?_
    exact m_lreturn hF dX7_cutTo_41 rfl rfl rfl ⟨by unfold cutV; rw [if_neg w1_0, if_neg w1_1, if_pos w1_2], rfl⟩
  refine m_tabOut (t := 42) dX7_cutTo_1 (by have q0 := tabNe (z := 0) (by decide) w1_0; have q1 := tabNe (z := 1) (by decide) w1_1; have q2 := tabNe (z := 2) (by decide) w1_2; omega) (by decide) ?_
  refine m_lload_n dX7_cutTo_42 rfl ?_
  exact m_lreturn hF dX7_cutTo_43 rfl rfl rfl ⟨by unfold cutV; rw [if_neg w1_0, if_neg w1_1, if_neg w1_2], rfl⟩

set_option maxHeartbeats 4000000 in
set_option maxRecDepth 100000 in
theorem t_X7_item {n : Nat} {hp : mHp} {X : SH} {kf : Int32} (h0 : cTop hp kf) (hX : cShelf hp X) (hO : okS X) {s l i : Int32} {v : Int64} : mC D_X7_item [.ref 0, .int s, .int l, .int i, .long v] n hp (fun r hp' => r = some (.int (sItem X s l i v).1) ∧ cShelf hp' (sItem X s l i v).2 ∧ offR 36 43 hp hp') := by
  refine m_enter rfl rfl (Nat.le_of_ble_eq_true rfl) (fun K hF => ?_)
  show mW K _ 0 0 _ _ 0 [.ref 0, .int s, .int l, .int i, .long v, .retAddr 0, .retAddr 0] []
  have a0 : hp 0 = eO 7 (oTop kf) := h0
  have x1 := hX.1
  have x2 := hX.2.1
  have x3 := hX.2.2.1
  have x4 := hX.2.2.2.1
  have x5 := hX.2.2.2.2
  refine m_iload_n dX7_item_0 rfl ?_
  refine m_iconst (v := 4) dX7_item_1 (by decide) ?_
  refine m_invS_I dX7_item_2 lk_X7_73 ar_X7_isChoice (t_X7_isChoice) rfl (Nat.le_of_ble_eq_true rfl) (by decide) (by decide) (by decide) (by decide) rfl rfl ?_
  try rw [va_uu]
  refine m_if_eq (t := 16) dX7_item_5 (by decide) (fun c5 => ?_) (fun c5 => ?_)
  · refine m_iconst (v := -1) dX7_item_16 (by decide) ?_
    exact m_ireturn hF dX7_item_17 rfl rfl rfl ⟨by unfold sItem; rw [if_neg (by rintro ⟨y0, y1⟩; first | exact ch_no (by decide) (by assumption : chI s (nI 4) = 0) y0 | exact ch_no (by decide) (by assumption : chI l (nI 4) = 0) y1)], by unfold sItem; rw [if_neg (by rintro ⟨y0, y1⟩; first | exact ch_no (by decide) (by assumption : chI s (nI 4) = 0) y0 | exact ch_no (by decide) (by assumption : chI l (nI 4) = 0) y1)]; exact hX, offR.rf⟩
  refine m_iload_n dX7_item_8 rfl ?_
  refine m_iconst (v := 4) dX7_item_9 (by decide) ?_
  refine m_invS_I dX7_item_10 lk_X7_73 ar_X7_isChoice (t_X7_isChoice) rfl (Nat.le_of_ble_eq_true rfl) (by decide) (by decide) (by decide) (by decide) rfl rfl ?_
  try rw [va_uu]
  refine m_if_ne (t := 18) dX7_item_13 (by decide) (fun c13 => ?_) (fun c13 => ?_)
  rotate_left
  · refine m_iconst (v := -1) dX7_item_16 (by decide) ?_
    exact m_ireturn hF dX7_item_17 rfl rfl rfl ⟨by unfold sItem; rw [if_neg (by rintro ⟨y0, y1⟩; first | exact ch_no (by decide) (by assumption : chI s (nI 4) = 0) y0 | exact ch_no (by decide) (by assumption : chI l (nI 4) = 0) y1)], by unfold sItem; rw [if_neg (by rintro ⟨y0, y1⟩; first | exact ch_no (by decide) (by assumption : chI s (nI 4) = 0) y0 | exact ch_no (by decide) (by assumption : chI l (nI 4) = 0) y1)]; exact hX, offR.rf⟩
  have hok : inC s 4 ∧ inC l 4 := ⟨ch_ok (by decide) c5, ch_ok (by decide) c13⟩
  obtain ⟨t, ht, rfl, et⟩ := inC_n hok.1
  refine m_aload_n dX7_item_18 rfl ?_
  refine m_getfield dX7_item_19 fl_X7_46 (by first | assumption | rfl | exact x5 t ht) (by first | assumption | rfl | exact x5 t ht) ?_
  show mW _ _ _ _ _ _ _ _ (.ref _ :: _)
  refine m_iload_n dX7_item_22 rfl ?_
  refine m_iload_n dX7_item_23 rfl ?_
  refine m_iload_n dX7_item_24 rfl ?_
  refine m_iconst (v := 1) dX7_item_25 (by decide) ?_
  refine m_invV_I dX7_item_26 lk_X7_218 ar_X4_refusal (ci := 4) rfl rfl (by first | assumption | rfl | exact x5 t ht) (t_X4_refusal x1 x2 x3 ht) rfl (Nat.le_of_ble_eq_true rfl) (by decide) (by decide) (by decide) (by decide) rfl rfl ?_
  try rw [va_uu]
  refine m_istore dX7_item_29 (by decide) ?_
  show mW _ _ _ _ _ _ 31 [_, _, _, _, _, _, _] _
  refine m_iload dX7_item_31 rfl ?_
  refine m_if_eq (t := 39) dX7_item_33 (by decide) (fun c33 => ?_) (fun c33 => ?_)
  rotate_left
  · refine m_iload dX7_item_36 rfl ?_
    exact m_ireturn hF dX7_item_38 rfl rfl rfl ⟨by unfold sItem; rw [if_pos hok, et, if_neg c33], by unfold sItem; rw [if_pos hok, et, if_neg c33]; exact hX, offR.rf⟩
  obtain ⟨a, b, rfl, eb, hab, ea, eb2⟩ := shHas_in (hO t ht) (shRef_has c33).1
  have hb1 : b = 1 := by rw [← eb2]; rfl
  refine m_aload_n dX7_item_39 rfl ?_
  refine m_getfield dX7_item_40 fl_X7_46 (by first | assumption | rfl | exact x5 t ht) (by first | assumption | rfl | exact x5 t ht) ?_
  show mW _ _ _ _ _ _ _ _ (.ref _ :: _)
  refine m_getfield dX7_item_43 fl_X7_226 (by first | assumption | rfl | exact x5 t ht) (by first | assumption | rfl | exact x5 t ht) ?_
  show mW _ _ _ _ _ _ _ _ (.ref _ :: _)
  refine m_iload_n dX7_item_46 rfl ?_
  refine m_aaloadJ dX7_item_47 (by first | assumption | rfl | exact x5 t ht) (mIx_lit ht (by decide)) (rItems_at ht) ?_
  refine m_iload_n dX7_item_48 rfl ?_
  refine m_iload_n dX7_item_49 rfl ?_
  refine m_lload dX7_item_50 rfl ?_
  refine m_invS_L dX7_item_52 lk_X7_242 ar_X7_cutTo t_X7_cutTo rfl (Nat.le_of_ble_eq_true rfl) (by decide) (by decide) (by decide) (by decide) rfl rfl ?_
  try rw [va_uu]
  refine m_lastore dX7_item_55 (by first | assumption | rfl | exact x5 t ht) (mIx_lit (show a < 24 by omega) (by decide)) ?_
  try rw [va_uu]
  refine m_iconst (v := 1) dX7_item_56 (by decide) ?_
  exact m_ireturn hF dX7_item_57 rfl rfl rfl ⟨by unfold sItem; rw [if_pos hok, et, if_pos c33], by unfold sItem; rw [if_pos hok, et, if_pos c33, ea]; exact hX.it ht, fun q hq => va_up_ne _ _ (by omega)⟩

set_option maxHeartbeats 4000000 in
set_option maxRecDepth 100000 in
theorem t_X7_copy {n : Nat} {hp : mHp} {X : SH} {kf : Int32} (h0 : cTop hp kf) (hX : cShelf hp X) (hO : okS X) {s i t j z : Int32} : mC D_X7_copy [.ref 0, .int s, .int i, .int t, .int j, .int z] n hp (fun r hp' => r = some (.int (sCopy X s i t j z).1) ∧ cShelf hp' (sCopy X s i t j z).2 ∧ offR 36 43 hp hp') := by
  refine m_enter rfl rfl (Nat.le_of_ble_eq_true rfl) (fun K hF => ?_)
  show mW K _ 0 0 _ _ 0 [.ref 0, .int s, .int i, .int t, .int j, .int z] []
  have a0 : hp 0 = eO 7 (oTop kf) := h0
  have x1 := hX.1
  have x2 := hX.2.1
  have x3 := hX.2.2.1
  have x4 := hX.2.2.2.1
  have x5 := hX.2.2.2.2
  refine m_iload_n dX7_copy_0 rfl ?_
  refine m_iconst (v := 4) dX7_copy_1 (by decide) ?_
  refine m_invS_I dX7_copy_2 lk_X7_73 ar_X7_isChoice (t_X7_isChoice) rfl (Nat.le_of_ble_eq_true rfl) (by decide) (by decide) (by decide) (by decide) rfl rfl ?_
  try rw [va_uu]
  refine m_if_eq (t := 16) dX7_copy_5 (by decide) (fun c5 => ?_) (fun c5 => ?_)
  · refine m_iconst (v := -1) dX7_copy_16 (by decide) ?_
    exact m_ireturn hF dX7_copy_17 rfl rfl rfl ⟨by unfold sCopy; rw [if_neg (by rintro ⟨y0, y1⟩; first | exact ch_no (by decide) (by assumption : chI s (nI 4) = 0) y0 | exact ch_no (by decide) (by assumption : chI t (nI 4) = 0) y1)], by unfold sCopy; rw [if_neg (by rintro ⟨y0, y1⟩; first | exact ch_no (by decide) (by assumption : chI s (nI 4) = 0) y0 | exact ch_no (by decide) (by assumption : chI t (nI 4) = 0) y1)]; exact hX, offR.rf⟩
  refine m_iload_n dX7_copy_8 rfl ?_
  refine m_iconst (v := 4) dX7_copy_9 (by decide) ?_
  refine m_invS_I dX7_copy_10 lk_X7_73 ar_X7_isChoice (t_X7_isChoice) rfl (Nat.le_of_ble_eq_true rfl) (by decide) (by decide) (by decide) (by decide) rfl rfl ?_
  try rw [va_uu]
  refine m_if_ne (t := 18) dX7_copy_13 (by decide) (fun c13 => ?_) (fun c13 => ?_)
  rotate_left
  · refine m_iconst (v := -1) dX7_copy_16 (by decide) ?_
    exact m_ireturn hF dX7_copy_17 rfl rfl rfl ⟨by unfold sCopy; rw [if_neg (by rintro ⟨y0, y1⟩; first | exact ch_no (by decide) (by assumption : chI s (nI 4) = 0) y0 | exact ch_no (by decide) (by assumption : chI t (nI 4) = 0) y1)], by unfold sCopy; rw [if_neg (by rintro ⟨y0, y1⟩; first | exact ch_no (by decide) (by assumption : chI s (nI 4) = 0) y0 | exact ch_no (by decide) (by assumption : chI t (nI 4) = 0) y1)]; exact hX, offR.rf⟩
  have hok : inC s 4 ∧ inC t 4 := ⟨ch_ok (by decide) c5, ch_ok (by decide) c13⟩
  obtain ⟨s, hs, rfl, es⟩ := inC_n hok.1
  obtain ⟨t, ht, rfl, et⟩ := inC_n hok.2
  refine m_aload_n dX7_copy_18 rfl ?_
  refine m_getfield dX7_copy_19 fl_X7_46 (by first | assumption | rfl) (by first | assumption | rfl) ?_
  show mW _ _ _ _ _ _ _ _ (.ref _ :: _)
  refine m_iload_n dX7_copy_22 rfl ?_
  refine m_invV_I dX7_copy_23 lk_X7_233 ar_X4_isMissing (ci := 4) rfl rfl (by first | assumption | rfl) (t_X4_isMissing x1 x2 hs) rfl (Nat.le_of_ble_eq_true rfl) (by decide) (by decide) (by decide) (by decide) rfl rfl ?_
  try rw [va_uu]
  refine m_if_ne (t := 40) dX7_copy_26 (by decide) (fun c26 => ?_) (fun c26 => ?_)
  · refine m_bipush (v := -11) dX7_copy_40 (by decide) ?_
    exact m_ireturn hF dX7_copy_42 rfl rfl rfl ⟨by unfold sCopy; rw [if_pos hok, es, et, if_pos (by first | exact Or.inl (Classical.not_not.mp (fun y => c26 (if_neg y))) | exact Or.inr (Classical.not_not.mp (fun y => c37 (if_neg y))))], by unfold sCopy; rw [if_pos hok, es, et, if_pos (by first | exact Or.inl (Classical.not_not.mp (fun y => c26 (if_neg y))) | exact Or.inr (Classical.not_not.mp (fun y => c37 (if_neg y))))]; exact hX, offR.rf⟩
  refine m_aload_n dX7_copy_29 rfl ?_
  refine m_getfield dX7_copy_30 fl_X7_46 (by first | assumption | rfl) (by first | assumption | rfl) ?_
  show mW _ _ _ _ _ _ _ _ (.ref _ :: _)
  refine m_iload_n dX7_copy_33 rfl ?_
  refine m_invV_I dX7_copy_34 lk_X7_233 ar_X4_isMissing (ci := 4) rfl rfl (by first | assumption | rfl) (t_X4_isMissing x1 x2 ht) rfl (Nat.le_of_ble_eq_true rfl) (by decide) (by decide) (by decide) (by decide) rfl rfl ?_
  try rw [va_uu]
  refine m_if_eq (t := 43) dX7_copy_37 (by decide) (fun c37 => ?_) (fun c37 => ?_)
  rotate_left
  · refine m_bipush (v := -11) dX7_copy_40 (by decide) ?_
    exact m_ireturn hF dX7_copy_42 rfl rfl rfl ⟨by unfold sCopy; rw [if_pos hok, es, et, if_pos (by first | exact Or.inl (Classical.not_not.mp (fun y => c26 (if_neg y))) | exact Or.inr (Classical.not_not.mp (fun y => c37 (if_neg y))))], by unfold sCopy; rw [if_pos hok, es, et, if_pos (by first | exact Or.inl (Classical.not_not.mp (fun y => c26 (if_neg y))) | exact Or.inr (Classical.not_not.mp (fun y => c37 (if_neg y))))]; exact hX, offR.rf⟩
  have hms : ¬ (X.1 s = -1 ∨ X.1 t = -1) := by
    rintro (y | y)
    · rw [if_pos y] at c26
      exact absurd c26 (by decide)
    · rw [if_pos y] at c37
      exact absurd c37 (by decide)
  refine m_aload_n dX7_copy_43 rfl ?_
  refine m_getfield dX7_copy_44 fl_X7_46 (by first | assumption | rfl) (by first | assumption | rfl) ?_
  show mW _ _ _ _ _ _ _ _ (.ref _ :: _)
  refine m_getfield dX7_copy_47 fl_X7_246 (by first | assumption | rfl) (by first | assumption | rfl) ?_
  show mW _ _ _ _ _ _ _ _ (.ref _ :: _)
  refine m_iload_n dX7_copy_50 rfl ?_
  refine m_iaload dX7_copy_51 (by first | assumption | rfl) (mIx_lit hs (by decide)) ?_
  refine m_aload_n dX7_copy_52 rfl ?_
  refine m_getfield dX7_copy_53 fl_X7_46 (by first | assumption | rfl) (by first | assumption | rfl) ?_
  show mW _ _ _ _ _ _ _ _ (.ref _ :: _)
  refine m_getfield dX7_copy_56 fl_X7_246 (by first | assumption | rfl) (by first | assumption | rfl) ?_
  show mW _ _ _ _ _ _ _ _ (.ref _ :: _)
  refine m_iload_n dX7_copy_59 rfl ?_
  refine m_iaload dX7_copy_60 (by first | assumption | rfl) (mIx_lit ht (by decide)) ?_
  refine m_icmp_eq (t := 67) dX7_copy_61 (by decide) (fun c61 => ?_) (fun c61 => ?_)
  rotate_left
  · refine m_bipush (v := -12) dX7_copy_64 (by decide) ?_
    exact m_ireturn hF dX7_copy_66 rfl rfl rfl ⟨by unfold sCopy; rw [if_pos hok, es, et, if_neg hms, if_neg c61], by unfold sCopy; rw [if_pos hok, es, et, if_neg hms, if_neg c61]; exact hX, offR.rf⟩
  refine m_aload_n dX7_copy_67 rfl ?_
  refine m_getfield dX7_copy_68 fl_X7_46 (by first | assumption | rfl) (by first | assumption | rfl) ?_
  show mW _ _ _ _ _ _ _ _ (.ref _ :: _)
  refine m_iload_n dX7_copy_71 rfl ?_
  refine m_iload_n dX7_copy_72 rfl ?_
  refine m_iload dX7_copy_73 rfl ?_
  refine m_invV_I dX7_copy_75 lk_X7_249 ar_X4_hasItems (ci := 4) rfl rfl (by first | assumption | rfl) (t_X4_hasItems x1 x3 hs) rfl (Nat.le_of_ble_eq_true rfl) (by decide) (by decide) (by decide) (by decide) rfl rfl ?_
  try rw [va_uu]
  refine m_if_eq (t := 96) dX7_copy_78 (by decide) (fun c78 => ?_) (fun c78 => ?_)
  · refine m_bipush (v := -13) dX7_copy_96 (by decide) ?_
    exact m_ireturn hF dX7_copy_98 rfl rfl rfl ⟨by unfold sCopy; rw [if_pos hok, es, et, if_neg hms, if_pos c61, if_pos (by first | exact Or.inl c78 | exact Or.inr c93)], by unfold sCopy; rw [if_pos hok, es, et, if_neg hms, if_pos c61, if_pos (by first | exact Or.inl c78 | exact Or.inr c93)]; exact hX, offR.rf⟩
  refine m_aload_n dX7_copy_81 rfl ?_
  refine m_getfield dX7_copy_82 fl_X7_46 (by first | assumption | rfl) (by first | assumption | rfl) ?_
  show mW _ _ _ _ _ _ _ _ (.ref _ :: _)
  refine m_iload_n dX7_copy_85 rfl ?_
  refine m_iload dX7_copy_86 rfl ?_
  refine m_iload dX7_copy_88 rfl ?_
  refine m_invV_I dX7_copy_90 lk_X7_249 ar_X4_hasItems (ci := 4) rfl rfl (by first | assumption | rfl) (t_X4_hasItems x1 x3 ht) rfl (Nat.le_of_ble_eq_true rfl) (by decide) (by decide) (by decide) (by decide) rfl rfl ?_
  try rw [va_uu]
  refine m_if_ne (t := 99) dX7_copy_93 (by decide) (fun c93 => ?_) (fun c93 => ?_)
  rotate_left
  · refine m_bipush (v := -13) dX7_copy_96 (by decide) ?_
    exact m_ireturn hF dX7_copy_98 rfl rfl rfl ⟨by unfold sCopy; rw [if_pos hok, es, et, if_neg hms, if_pos c61, if_pos (by first | exact Or.inl c78 | exact Or.inr c93)], by unfold sCopy; rw [if_pos hok, es, et, if_neg hms, if_pos c61, if_pos (by first | exact Or.inl c78 | exact Or.inr c93)]; exact hX, offR.rf⟩
  have hhs : ¬ (shHas X.2.1 s i z = 0 ∨ shHas X.2.1 t j z = 0) := by
    rintro (y | y)
    · exact c78 y
    · exact c93 y
  obtain ⟨a, c, rfl, rfl, hac, ea, ec⟩ := shHas_in (hO s hs) c78
  obtain ⟨b, c9, rfl, e9, hbc, eb, ec9⟩ := shHas_in (hO t ht) c93
  obtain rfl : c9 = c := ec9.symm.trans ec
  refine m_aload_n dX7_copy_99 rfl ?_
  refine m_getfield dX7_copy_100 fl_X7_46 (by first | assumption | rfl) (by first | assumption | rfl) ?_
  show mW _ _ _ _ _ _ _ _ (.ref _ :: _)
  refine m_getfield dX7_copy_103 fl_X7_226 (by first | assumption | rfl) (by first | assumption | rfl) ?_
  show mW _ _ _ _ _ _ _ _ (.ref _ :: _)
  refine m_iload_n dX7_copy_106 rfl ?_
  refine m_aaloadJ dX7_copy_107 (by first | assumption | rfl) (mIx_lit hs (by decide)) (rItems_at hs) ?_
  refine m_iload_n dX7_copy_108 rfl ?_
  refine m_aload_n dX7_copy_109 rfl ?_
  refine m_getfield dX7_copy_110 fl_X7_46 (by first | assumption | rfl) (by first | assumption | rfl) ?_
  show mW _ _ _ _ _ _ _ _ (.ref _ :: _)
  refine m_getfield dX7_copy_113 fl_X7_226 (by first | assumption | rfl) (by first | assumption | rfl) ?_
  show mW _ _ _ _ _ _ _ _ (.ref _ :: _)
  refine m_iload_n dX7_copy_116 rfl ?_
  refine m_aaloadJ dX7_copy_117 (by first | assumption | rfl) (mIx_lit ht (by decide)) (rItems_at ht) ?_
  refine m_iload dX7_copy_118 rfl ?_
  refine m_iload dX7_copy_120 rfl ?_
  refine m_copyL (s0 := a) (d0 := b) (k := c9) dX7_copy_122 lk_X7_197 (x5 s hs) (x5 t ht) (nI_toInt (by omega)) (nI_toInt (by omega)) (nI_toInt (by omega)) (by omega) (by omega) (Nat.le_of_ble_eq_true rfl) (by decide) ?_
  refine m_iload dX7_copy_125 rfl ?_
  exact m_ireturn hF dX7_copy_127 rfl rfl rfl ⟨by unfold sCopy; rw [if_pos hok, es, et, if_neg hms, if_pos c61, if_neg hhs], by unfold sCopy; rw [if_pos hok, es, et, if_neg hms, if_pos c61, if_neg hhs, ea, eb, ec]; exact hX.it ht, fun q hq => va_up_ne _ _ (by omega)⟩

theorem flm_up {P c : Nat → Int32} {w a : Nat} {f : Nat → Int64} (h : ∀ t, t < 10 → P t = c t) (hw : w < 2) : va_up (va_up (va_up (va_up (va_up f (a + 0) (P (5 * w + 0)).toInt64) (a + 1) (P (5 * w + 1)).toInt64) (a + 2) (P (5 * w + 2)).toInt64) (a + 3) (P (5 * w + 3)).toInt64) (a + 4) (P (5 * w + 4)).toInt64 = flmI c (5 * w) f a := by
  funext t
  unfold flmI
  by_cases e : a ≤ t ∧ t < a + 5
  · rw [if_pos e]
    obtain ⟨k, rfl⟩ : ∃ k, t = a + k := ⟨t - a, by omega⟩
    rw [show a + k - a = k by omega, ← h _ (by omega)]
    have hk : k < 5 := by omega
    match k with
    | 0 => rw [va_up_ne _ _ (by omega), va_up_ne _ _ (by omega), va_up_ne _ _ (by omega), va_up_ne _ _ (by omega), va_up_self]
    | 1 => rw [va_up_ne _ _ (by omega), va_up_ne _ _ (by omega), va_up_ne _ _ (by omega), va_up_self]
    | 2 => rw [va_up_ne _ _ (by omega), va_up_ne _ _ (by omega), va_up_self]
    | 3 => rw [va_up_ne _ _ (by omega), va_up_self]
    | 4 => rw [va_up_self]
  · rw [if_neg e, va_up_ne _ _ (by omega), va_up_ne _ _ (by omega), va_up_ne _ _ (by omega), va_up_ne _ _ (by omega), va_up_ne _ _ (by omega)]
set_option maxHeartbeats 4000000 in
set_option maxRecDepth 100000 in
theorem t_X7_film {n : Nat} {hp : mHp} {X : SH} (hX : cShelf hp X) (hO : okS X) {S : TS} {kf : Int32} (h0 : cTop hp kf) (hS : cTold hp S) {w s l i : Int32} : mC D_X7_film [.ref 0, .int w, .int s, .int l, .int i] n hp (fun r hp' => r = some (.int (sFilm S X w s l i).1) ∧ cShelf hp' (sFilm S X w s l i).2 ∧ offR 36 43 hp hp') := by
  refine m_enter rfl rfl (Nat.le_of_ble_eq_true rfl) (fun K hF => ?_)
  show mW K _ 0 0 _ _ 0 [.ref 0, .int w, .int s, .int l, .int i, .retAddr 0, .retAddr 0] []
  have x1 := hX.1
  have x2 := hX.2.1
  have x3 := hX.2.2.1
  have x4 := hX.2.2.2.1
  have x5 := hX.2.2.2.2
  have a0 : hp 0 = eO 7 (oTop kf) := h0
  obtain ⟨⟨P, g, d, p1, p2, p3⟩, hH⟩ := hS
  obtain ⟨v1, v2, v3⟩ := vec_set p3
  have hS1 : cSet hp 1 S.1 := ⟨P, g, d, p1, p2, p3⟩
  obtain ⟨w0, G0, D0, PP0, k1, k2, k3, -⟩ := id hH
  refine m_iload_n dX7_film_0 rfl ?_
  refine m_iconst (v := 2) dX7_film_1 (by decide) ?_
  refine m_invS_I dX7_film_2 lk_X7_73 ar_X7_isChoice (t_X7_isChoice) rfl (Nat.le_of_ble_eq_true rfl) (by decide) (by decide) (by decide) (by decide) rfl rfl ?_
  try rw [va_uu]
  refine m_if_eq (t := 24) dX7_film_5 (by decide) (fun c5 => ?_) (fun c5 => ?_)
  · refine m_iconst (v := -1) dX7_film_24 (by decide) ?_
    exact m_ireturn hF dX7_film_25 rfl rfl rfl ⟨by unfold sFilm; rw [if_neg (by rintro ⟨y0, y1, y2⟩; first | exact ch_no (by decide) (by assumption : chI w (nI 2) = 0) y0 | exact ch_no (by decide) (by assumption : chI s (nI 4) = 0) y1 | exact ch_no (by decide) (by assumption : chI l (nI 4) = 0) y2)], by unfold sFilm; rw [if_neg (by rintro ⟨y0, y1, y2⟩; first | exact ch_no (by decide) (by assumption : chI w (nI 2) = 0) y0 | exact ch_no (by decide) (by assumption : chI s (nI 4) = 0) y1 | exact ch_no (by decide) (by assumption : chI l (nI 4) = 0) y2)]; exact hX, offR.rf⟩
  refine m_iload_n dX7_film_8 rfl ?_
  refine m_iconst (v := 4) dX7_film_9 (by decide) ?_
  refine m_invS_I dX7_film_10 lk_X7_73 ar_X7_isChoice (t_X7_isChoice) rfl (Nat.le_of_ble_eq_true rfl) (by decide) (by decide) (by decide) (by decide) rfl rfl ?_
  try rw [va_uu]
  refine m_if_eq (t := 24) dX7_film_13 (by decide) (fun c13 => ?_) (fun c13 => ?_)
  · refine m_iconst (v := -1) dX7_film_24 (by decide) ?_
    exact m_ireturn hF dX7_film_25 rfl rfl rfl ⟨by unfold sFilm; rw [if_neg (by rintro ⟨y0, y1, y2⟩; first | exact ch_no (by decide) (by assumption : chI w (nI 2) = 0) y0 | exact ch_no (by decide) (by assumption : chI s (nI 4) = 0) y1 | exact ch_no (by decide) (by assumption : chI l (nI 4) = 0) y2)], by unfold sFilm; rw [if_neg (by rintro ⟨y0, y1, y2⟩; first | exact ch_no (by decide) (by assumption : chI w (nI 2) = 0) y0 | exact ch_no (by decide) (by assumption : chI s (nI 4) = 0) y1 | exact ch_no (by decide) (by assumption : chI l (nI 4) = 0) y2)]; exact hX, offR.rf⟩
  refine m_iload_n dX7_film_16 rfl ?_
  refine m_iconst (v := 4) dX7_film_17 (by decide) ?_
  refine m_invS_I dX7_film_18 lk_X7_73 ar_X7_isChoice (t_X7_isChoice) rfl (Nat.le_of_ble_eq_true rfl) (by decide) (by decide) (by decide) (by decide) rfl rfl ?_
  try rw [va_uu]
  refine m_if_ne (t := 26) dX7_film_21 (by decide) (fun c21 => ?_) (fun c21 => ?_)
  rotate_left
  · refine m_iconst (v := -1) dX7_film_24 (by decide) ?_
    exact m_ireturn hF dX7_film_25 rfl rfl rfl ⟨by unfold sFilm; rw [if_neg (by rintro ⟨y0, y1, y2⟩; first | exact ch_no (by decide) (by assumption : chI w (nI 2) = 0) y0 | exact ch_no (by decide) (by assumption : chI s (nI 4) = 0) y1 | exact ch_no (by decide) (by assumption : chI l (nI 4) = 0) y2)], by unfold sFilm; rw [if_neg (by rintro ⟨y0, y1, y2⟩; first | exact ch_no (by decide) (by assumption : chI w (nI 2) = 0) y0 | exact ch_no (by decide) (by assumption : chI s (nI 4) = 0) y1 | exact ch_no (by decide) (by assumption : chI l (nI 4) = 0) y2)]; exact hX, offR.rf⟩
  have hok : inC w 2 ∧ inC s 4 ∧ inC l 4 := ⟨ch_ok (by decide) c5, ch_ok (by decide) c13, ch_ok (by decide) c21⟩
  obtain ⟨w, hw, rfl, ew⟩ := inC_n hok.1
  obtain ⟨s, hs, rfl, es⟩ := inC_n hok.2.1
  refine m_aload_n dX7_film_26 rfl ?_
  refine m_getfield dX7_film_27 fl_X7_46 (by first | assumption | rfl | exact x5 s hs | exact y0 _ | exact y1 _ | exact y2 _ | exact y3 _ | exact y4 _ | exact va_up_self _ _ _) (by first | assumption | rfl | exact x5 s hs | exact y0 _ | exact y1 _ | exact y2 _ | exact y3 _ | exact y4 _ | exact va_up_self _ _ _) ?_
  show mW _ _ _ _ _ _ _ _ (.ref _ :: _)
  refine m_iload_n dX7_film_30 rfl ?_
  refine m_iload_n dX7_film_31 rfl ?_
  refine m_iload dX7_film_32 rfl ?_
  refine m_iconst (v := 5) dX7_film_34 (by decide) ?_
  refine m_invV_I dX7_film_35 lk_X7_218 ar_X4_refusal (ci := 4) rfl rfl (by first | assumption | rfl | exact x5 s hs | exact y0 _ | exact y1 _ | exact y2 _ | exact y3 _ | exact y4 _ | exact va_up_self _ _ _) (t_X4_refusal x1 x2 x3 hs) rfl (Nat.le_of_ble_eq_true rfl) (by decide) (by decide) (by decide) (by decide) rfl rfl ?_
  try rw [va_uu]
  refine m_istore dX7_film_38 (by decide) ?_
  show mW _ _ _ _ _ _ 40 [_, _, _, _, _, _, _] _
  refine m_iload dX7_film_40 rfl ?_
  refine m_if_eq (t := 48) dX7_film_42 (by decide) (fun c42 => ?_) (fun c42 => ?_)
  rotate_left
  · refine m_iload dX7_film_45 rfl ?_
    exact m_ireturn hF dX7_film_47 rfl rfl rfl ⟨by unfold sFilm; rw [if_pos hok, es, if_neg c42], by unfold sFilm; rw [if_pos hok, es, if_neg c42]; exact hX, offR.rf⟩
  obtain ⟨a, b, rfl, eb, hab, ea, eb2⟩ := shHas_in (hO s hs) (shRef_has c42).1
  have hb1 : b = 5 := by rw [← eb2]; rfl
  have y4 : ∀ f : mE, va_up hp (40 + s) f 39 = eR tyJJ 4 rItems := fun f => (va_up_ne _ _ (by omega)).trans x4
  have y0 : ∀ f : mE, va_up hp (40 + s) f 0 = eO 7 (oTop kf) := fun f => (va_up_ne _ _ (by omega)).trans a0
  have y1 : ∀ f : mE, va_up hp (40 + s) f 1 = eO 3 (oSet 2 g d) := fun f => (va_up_ne _ _ (by omega)).trans p1
  have y2 : ∀ f : mE, va_up hp (40 + s) f 2 = eI 10 P := fun f => (va_up_ne _ _ (by omega)).trans p2
  have y3 : ∀ f : mE, va_up hp (40 + s) f 36 = eO 4 oShelf := fun f => (va_up_ne _ _ (by omega)).trans x1
  refine m_iconst (v := 0) dX7_film_48 (by decide) ?_
  refine m_istore dX7_film_49 (by decide) ?_
  show mW _ _ _ _ _ _ 51 [_, _, _, _, _, _, _] _
  refine m_iload dX7_film_51 rfl ?_
  refine m_iconst (v := 5) dX7_film_53 (by decide) ?_
  refine m_icmp_ge (t := 93) dX7_film_54 (by decide) (fun q => absurd q (by decide)) (fun _ => ?_)
  refine m_aload_n dX7_film_57 rfl ?_
  refine m_getfield dX7_film_58 fl_X7_46 (by first | assumption | rfl | exact x5 s hs | exact y0 _ | exact y1 _ | exact y2 _ | exact y3 _ | exact y4 _ | exact va_up_self _ _ _) (by first | assumption | rfl | exact x5 s hs | exact y0 _ | exact y1 _ | exact y2 _ | exact y3 _ | exact y4 _ | exact va_up_self _ _ _) ?_
  show mW _ _ _ _ _ _ _ _ (.ref _ :: _)
  refine m_getfield dX7_film_61 fl_X7_226 (by first | assumption | rfl | exact x5 s hs | exact y0 _ | exact y1 _ | exact y2 _ | exact y3 _ | exact y4 _ | exact va_up_self _ _ _) (by first | assumption | rfl | exact x5 s hs | exact y0 _ | exact y1 _ | exact y2 _ | exact y3 _ | exact y4 _ | exact va_up_self _ _ _) ?_
  show mW _ _ _ _ _ _ _ _ (.ref _ :: _)
  refine m_iload_n dX7_film_64 rfl ?_
  refine m_aaloadJ dX7_film_65 (by first | assumption | rfl | exact x5 s hs | exact y0 _ | exact y1 _ | exact y2 _ | exact y3 _ | exact y4 _ | exact va_up_self _ _ _) (mIx_lit hs (by decide)) (rItems_at hs) ?_
  refine m_iload dX7_film_66 rfl ?_
  refine m_iload dX7_film_68 rfl ?_
  refine m_iadd dX7_film_70 ?_
  refine m_ci (v := nI (a + 0)) (by exact nI_add a 0) ?_
  refine m_aload_n dX7_film_71 rfl ?_
  refine m_getfield dX7_film_72 fl_X7_12 (by first | assumption | rfl | exact x5 s hs | exact y0 _ | exact y1 _ | exact y2 _ | exact y3 _ | exact y4 _ | exact va_up_self _ _ _) (by first | assumption | rfl | exact x5 s hs | exact y0 _ | exact y1 _ | exact y2 _ | exact y3 _ | exact y4 _ | exact va_up_self _ _ _) ?_
  show mW _ _ _ _ _ _ _ _ (.ref _ :: _)
  refine m_getfield dX7_film_75 fl_X7_81 (by first | assumption | rfl | exact x5 s hs | exact y0 _ | exact y1 _ | exact y2 _ | exact y3 _ | exact y4 _ | exact va_up_self _ _ _) (by first | assumption | rfl | exact x5 s hs | exact y0 _ | exact y1 _ | exact y2 _ | exact y3 _ | exact y4 _ | exact va_up_self _ _ _) ?_
  show mW _ _ _ _ _ _ _ _ (.ref _ :: _)
  refine m_iload_n dX7_film_78 rfl ?_
  refine m_iconst (v := 5) dX7_film_79 (by decide) ?_
  refine m_imul dX7_film_80 ?_
  refine m_ci (v := nI (5 * w)) (by rw [Nat.mul_comm]; exact nI_mulN w 5) ?_
  refine m_iload dX7_film_81 rfl ?_
  refine m_iadd dX7_film_83 ?_
  refine m_ci (v := nI (5 * w + 0)) (by exact nI_add (5 * w) 0) ?_
  refine m_iaload dX7_film_84 (by first | assumption | rfl | exact x5 s hs | exact y0 _ | exact y1 _ | exact y2 _ | exact y3 _ | exact y4 _ | exact va_up_self _ _ _) (mIx_lit (show 5 * w + 0 < 10 by omega) (by decide)) ?_
  refine m_i2l dX7_film_85 ?_
  refine m_lastore dX7_film_86 (by first | assumption | rfl | exact x5 s hs | exact y0 _ | exact y1 _ | exact y2 _ | exact y3 _ | exact y4 _ | exact va_up_self _ _ _) (mIx_lit (show a + 0 < 24 by omega) (by decide)) ?_
  try rw [va_uu]
  refine m_iinc (v := 1) dX7_film_87 rfl (by decide) (by decide) ?_
  show mW _ _ _ _ _ _ 90 [_, _, _, _, _, _, _] _
  refine m_goto (t := 51) dX7_film_90 (by decide) ?_
  refine m_iload dX7_film_51 rfl ?_
  refine m_iconst (v := 5) dX7_film_53 (by decide) ?_
  refine m_icmp_ge (t := 93) dX7_film_54 (by decide) (fun q => absurd q (by decide)) (fun _ => ?_)
  refine m_aload_n dX7_film_57 rfl ?_
  refine m_getfield dX7_film_58 fl_X7_46 (by first | assumption | rfl | exact x5 s hs | exact y0 _ | exact y1 _ | exact y2 _ | exact y3 _ | exact y4 _ | exact va_up_self _ _ _) (by first | assumption | rfl | exact x5 s hs | exact y0 _ | exact y1 _ | exact y2 _ | exact y3 _ | exact y4 _ | exact va_up_self _ _ _) ?_
  show mW _ _ _ _ _ _ _ _ (.ref _ :: _)
  refine m_getfield dX7_film_61 fl_X7_226 (by first | assumption | rfl | exact x5 s hs | exact y0 _ | exact y1 _ | exact y2 _ | exact y3 _ | exact y4 _ | exact va_up_self _ _ _) (by first | assumption | rfl | exact x5 s hs | exact y0 _ | exact y1 _ | exact y2 _ | exact y3 _ | exact y4 _ | exact va_up_self _ _ _) ?_
  show mW _ _ _ _ _ _ _ _ (.ref _ :: _)
  refine m_iload_n dX7_film_64 rfl ?_
  refine m_aaloadJ dX7_film_65 (by first | assumption | rfl | exact x5 s hs | exact y0 _ | exact y1 _ | exact y2 _ | exact y3 _ | exact y4 _ | exact va_up_self _ _ _) (mIx_lit hs (by decide)) (rItems_at hs) ?_
  refine m_iload dX7_film_66 rfl ?_
  refine m_iload dX7_film_68 rfl ?_
  refine m_iadd dX7_film_70 ?_
  refine m_ci (v := nI (a + 1)) (by exact nI_add a 1) ?_
  refine m_aload_n dX7_film_71 rfl ?_
  refine m_getfield dX7_film_72 fl_X7_12 (by first | assumption | rfl | exact x5 s hs | exact y0 _ | exact y1 _ | exact y2 _ | exact y3 _ | exact y4 _ | exact va_up_self _ _ _) (by first | assumption | rfl | exact x5 s hs | exact y0 _ | exact y1 _ | exact y2 _ | exact y3 _ | exact y4 _ | exact va_up_self _ _ _) ?_
  show mW _ _ _ _ _ _ _ _ (.ref _ :: _)
  refine m_getfield dX7_film_75 fl_X7_81 (by first | assumption | rfl | exact x5 s hs | exact y0 _ | exact y1 _ | exact y2 _ | exact y3 _ | exact y4 _ | exact va_up_self _ _ _) (by first | assumption | rfl | exact x5 s hs | exact y0 _ | exact y1 _ | exact y2 _ | exact y3 _ | exact y4 _ | exact va_up_self _ _ _) ?_
  show mW _ _ _ _ _ _ _ _ (.ref _ :: _)
  refine m_iload_n dX7_film_78 rfl ?_
  refine m_iconst (v := 5) dX7_film_79 (by decide) ?_
  refine m_imul dX7_film_80 ?_
  refine m_ci (v := nI (5 * w)) (by rw [Nat.mul_comm]; exact nI_mulN w 5) ?_
  refine m_iload dX7_film_81 rfl ?_
  refine m_iadd dX7_film_83 ?_
  refine m_ci (v := nI (5 * w + 1)) (by exact nI_add (5 * w) 1) ?_
  refine m_iaload dX7_film_84 (by first | assumption | rfl | exact x5 s hs | exact y0 _ | exact y1 _ | exact y2 _ | exact y3 _ | exact y4 _ | exact va_up_self _ _ _) (mIx_lit (show 5 * w + 1 < 10 by omega) (by decide)) ?_
  refine m_i2l dX7_film_85 ?_
  refine m_lastore dX7_film_86 (by first | assumption | rfl | exact x5 s hs | exact y0 _ | exact y1 _ | exact y2 _ | exact y3 _ | exact y4 _ | exact va_up_self _ _ _) (mIx_lit (show a + 1 < 24 by omega) (by decide)) ?_
  try rw [va_uu]
  refine m_iinc (v := 2) dX7_film_87 rfl (by decide) (by decide) ?_
  show mW _ _ _ _ _ _ 90 [_, _, _, _, _, _, _] _
  refine m_goto (t := 51) dX7_film_90 (by decide) ?_
  refine m_iload dX7_film_51 rfl ?_
  refine m_iconst (v := 5) dX7_film_53 (by decide) ?_
  refine m_icmp_ge (t := 93) dX7_film_54 (by decide) (fun q => absurd q (by decide)) (fun _ => ?_)
  refine m_aload_n dX7_film_57 rfl ?_
  refine m_getfield dX7_film_58 fl_X7_46 (by first | assumption | rfl | exact x5 s hs | exact y0 _ | exact y1 _ | exact y2 _ | exact y3 _ | exact y4 _ | exact va_up_self _ _ _) (by first | assumption | rfl | exact x5 s hs | exact y0 _ | exact y1 _ | exact y2 _ | exact y3 _ | exact y4 _ | exact va_up_self _ _ _) ?_
  show mW _ _ _ _ _ _ _ _ (.ref _ :: _)
  refine m_getfield dX7_film_61 fl_X7_226 (by first | assumption | rfl | exact x5 s hs | exact y0 _ | exact y1 _ | exact y2 _ | exact y3 _ | exact y4 _ | exact va_up_self _ _ _) (by first | assumption | rfl | exact x5 s hs | exact y0 _ | exact y1 _ | exact y2 _ | exact y3 _ | exact y4 _ | exact va_up_self _ _ _) ?_
  show mW _ _ _ _ _ _ _ _ (.ref _ :: _)
  refine m_iload_n dX7_film_64 rfl ?_
  refine m_aaloadJ dX7_film_65 (by first | assumption | rfl | exact x5 s hs | exact y0 _ | exact y1 _ | exact y2 _ | exact y3 _ | exact y4 _ | exact va_up_self _ _ _) (mIx_lit hs (by decide)) (rItems_at hs) ?_
  refine m_iload dX7_film_66 rfl ?_
  refine m_iload dX7_film_68 rfl ?_
  refine m_iadd dX7_film_70 ?_
  refine m_ci (v := nI (a + 2)) (by exact nI_add a 2) ?_
  refine m_aload_n dX7_film_71 rfl ?_
  refine m_getfield dX7_film_72 fl_X7_12 (by first | assumption | rfl | exact x5 s hs | exact y0 _ | exact y1 _ | exact y2 _ | exact y3 _ | exact y4 _ | exact va_up_self _ _ _) (by first | assumption | rfl | exact x5 s hs | exact y0 _ | exact y1 _ | exact y2 _ | exact y3 _ | exact y4 _ | exact va_up_self _ _ _) ?_
  show mW _ _ _ _ _ _ _ _ (.ref _ :: _)
  refine m_getfield dX7_film_75 fl_X7_81 (by first | assumption | rfl | exact x5 s hs | exact y0 _ | exact y1 _ | exact y2 _ | exact y3 _ | exact y4 _ | exact va_up_self _ _ _) (by first | assumption | rfl | exact x5 s hs | exact y0 _ | exact y1 _ | exact y2 _ | exact y3 _ | exact y4 _ | exact va_up_self _ _ _) ?_
  show mW _ _ _ _ _ _ _ _ (.ref _ :: _)
  refine m_iload_n dX7_film_78 rfl ?_
  refine m_iconst (v := 5) dX7_film_79 (by decide) ?_
  refine m_imul dX7_film_80 ?_
  refine m_ci (v := nI (5 * w)) (by rw [Nat.mul_comm]; exact nI_mulN w 5) ?_
  refine m_iload dX7_film_81 rfl ?_
  refine m_iadd dX7_film_83 ?_
  refine m_ci (v := nI (5 * w + 2)) (by exact nI_add (5 * w) 2) ?_
  refine m_iaload dX7_film_84 (by first | assumption | rfl | exact x5 s hs | exact y0 _ | exact y1 _ | exact y2 _ | exact y3 _ | exact y4 _ | exact va_up_self _ _ _) (mIx_lit (show 5 * w + 2 < 10 by omega) (by decide)) ?_
  refine m_i2l dX7_film_85 ?_
  refine m_lastore dX7_film_86 (by first | assumption | rfl | exact x5 s hs | exact y0 _ | exact y1 _ | exact y2 _ | exact y3 _ | exact y4 _ | exact va_up_self _ _ _) (mIx_lit (show a + 2 < 24 by omega) (by decide)) ?_
  try rw [va_uu]
  refine m_iinc (v := 3) dX7_film_87 rfl (by decide) (by decide) ?_
  show mW _ _ _ _ _ _ 90 [_, _, _, _, _, _, _] _
  refine m_goto (t := 51) dX7_film_90 (by decide) ?_
  refine m_iload dX7_film_51 rfl ?_
  refine m_iconst (v := 5) dX7_film_53 (by decide) ?_
  refine m_icmp_ge (t := 93) dX7_film_54 (by decide) (fun q => absurd q (by decide)) (fun _ => ?_)
  refine m_aload_n dX7_film_57 rfl ?_
  refine m_getfield dX7_film_58 fl_X7_46 (by first | assumption | rfl | exact x5 s hs | exact y0 _ | exact y1 _ | exact y2 _ | exact y3 _ | exact y4 _ | exact va_up_self _ _ _) (by first | assumption | rfl | exact x5 s hs | exact y0 _ | exact y1 _ | exact y2 _ | exact y3 _ | exact y4 _ | exact va_up_self _ _ _) ?_
  show mW _ _ _ _ _ _ _ _ (.ref _ :: _)
  refine m_getfield dX7_film_61 fl_X7_226 (by first | assumption | rfl | exact x5 s hs | exact y0 _ | exact y1 _ | exact y2 _ | exact y3 _ | exact y4 _ | exact va_up_self _ _ _) (by first | assumption | rfl | exact x5 s hs | exact y0 _ | exact y1 _ | exact y2 _ | exact y3 _ | exact y4 _ | exact va_up_self _ _ _) ?_
  show mW _ _ _ _ _ _ _ _ (.ref _ :: _)
  refine m_iload_n dX7_film_64 rfl ?_
  refine m_aaloadJ dX7_film_65 (by first | assumption | rfl | exact x5 s hs | exact y0 _ | exact y1 _ | exact y2 _ | exact y3 _ | exact y4 _ | exact va_up_self _ _ _) (mIx_lit hs (by decide)) (rItems_at hs) ?_
  refine m_iload dX7_film_66 rfl ?_
  refine m_iload dX7_film_68 rfl ?_
  refine m_iadd dX7_film_70 ?_
  refine m_ci (v := nI (a + 3)) (by exact nI_add a 3) ?_
  refine m_aload_n dX7_film_71 rfl ?_
  refine m_getfield dX7_film_72 fl_X7_12 (by first | assumption | rfl | exact x5 s hs | exact y0 _ | exact y1 _ | exact y2 _ | exact y3 _ | exact y4 _ | exact va_up_self _ _ _) (by first | assumption | rfl | exact x5 s hs | exact y0 _ | exact y1 _ | exact y2 _ | exact y3 _ | exact y4 _ | exact va_up_self _ _ _) ?_
  show mW _ _ _ _ _ _ _ _ (.ref _ :: _)
  refine m_getfield dX7_film_75 fl_X7_81 (by first | assumption | rfl | exact x5 s hs | exact y0 _ | exact y1 _ | exact y2 _ | exact y3 _ | exact y4 _ | exact va_up_self _ _ _) (by first | assumption | rfl | exact x5 s hs | exact y0 _ | exact y1 _ | exact y2 _ | exact y3 _ | exact y4 _ | exact va_up_self _ _ _) ?_
  show mW _ _ _ _ _ _ _ _ (.ref _ :: _)
  refine m_iload_n dX7_film_78 rfl ?_
  refine m_iconst (v := 5) dX7_film_79 (by decide) ?_
  refine m_imul dX7_film_80 ?_
  refine m_ci (v := nI (5 * w)) (by rw [Nat.mul_comm]; exact nI_mulN w 5) ?_
  refine m_iload dX7_film_81 rfl ?_
  refine m_iadd dX7_film_83 ?_
  refine m_ci (v := nI (5 * w + 3)) (by exact nI_add (5 * w) 3) ?_
  refine m_iaload dX7_film_84 (by first | assumption | rfl | exact x5 s hs | exact y0 _ | exact y1 _ | exact y2 _ | exact y3 _ | exact y4 _ | exact va_up_self _ _ _) (mIx_lit (show 5 * w + 3 < 10 by omega) (by decide)) ?_
  refine m_i2l dX7_film_85 ?_
  refine m_lastore dX7_film_86 (by first | assumption | rfl | exact x5 s hs | exact y0 _ | exact y1 _ | exact y2 _ | exact y3 _ | exact y4 _ | exact va_up_self _ _ _) (mIx_lit (show a + 3 < 24 by omega) (by decide)) ?_
  try rw [va_uu]
  refine m_iinc (v := 4) dX7_film_87 rfl (by decide) (by decide) ?_
  show mW _ _ _ _ _ _ 90 [_, _, _, _, _, _, _] _
  refine m_goto (t := 51) dX7_film_90 (by decide) ?_
  refine m_iload dX7_film_51 rfl ?_
  refine m_iconst (v := 5) dX7_film_53 (by decide) ?_
  refine m_icmp_ge (t := 93) dX7_film_54 (by decide) (fun q => absurd q (by decide)) (fun _ => ?_)
  refine m_aload_n dX7_film_57 rfl ?_
  refine m_getfield dX7_film_58 fl_X7_46 (by first | assumption | rfl | exact x5 s hs | exact y0 _ | exact y1 _ | exact y2 _ | exact y3 _ | exact y4 _ | exact va_up_self _ _ _) (by first | assumption | rfl | exact x5 s hs | exact y0 _ | exact y1 _ | exact y2 _ | exact y3 _ | exact y4 _ | exact va_up_self _ _ _) ?_
  show mW _ _ _ _ _ _ _ _ (.ref _ :: _)
  refine m_getfield dX7_film_61 fl_X7_226 (by first | assumption | rfl | exact x5 s hs | exact y0 _ | exact y1 _ | exact y2 _ | exact y3 _ | exact y4 _ | exact va_up_self _ _ _) (by first | assumption | rfl | exact x5 s hs | exact y0 _ | exact y1 _ | exact y2 _ | exact y3 _ | exact y4 _ | exact va_up_self _ _ _) ?_
  show mW _ _ _ _ _ _ _ _ (.ref _ :: _)
  refine m_iload_n dX7_film_64 rfl ?_
  refine m_aaloadJ dX7_film_65 (by first | assumption | rfl | exact x5 s hs | exact y0 _ | exact y1 _ | exact y2 _ | exact y3 _ | exact y4 _ | exact va_up_self _ _ _) (mIx_lit hs (by decide)) (rItems_at hs) ?_
  refine m_iload dX7_film_66 rfl ?_
  refine m_iload dX7_film_68 rfl ?_
  refine m_iadd dX7_film_70 ?_
  refine m_ci (v := nI (a + 4)) (by exact nI_add a 4) ?_
  refine m_aload_n dX7_film_71 rfl ?_
  refine m_getfield dX7_film_72 fl_X7_12 (by first | assumption | rfl | exact x5 s hs | exact y0 _ | exact y1 _ | exact y2 _ | exact y3 _ | exact y4 _ | exact va_up_self _ _ _) (by first | assumption | rfl | exact x5 s hs | exact y0 _ | exact y1 _ | exact y2 _ | exact y3 _ | exact y4 _ | exact va_up_self _ _ _) ?_
  show mW _ _ _ _ _ _ _ _ (.ref _ :: _)
  refine m_getfield dX7_film_75 fl_X7_81 (by first | assumption | rfl | exact x5 s hs | exact y0 _ | exact y1 _ | exact y2 _ | exact y3 _ | exact y4 _ | exact va_up_self _ _ _) (by first | assumption | rfl | exact x5 s hs | exact y0 _ | exact y1 _ | exact y2 _ | exact y3 _ | exact y4 _ | exact va_up_self _ _ _) ?_
  show mW _ _ _ _ _ _ _ _ (.ref _ :: _)
  refine m_iload_n dX7_film_78 rfl ?_
  refine m_iconst (v := 5) dX7_film_79 (by decide) ?_
  refine m_imul dX7_film_80 ?_
  refine m_ci (v := nI (5 * w)) (by rw [Nat.mul_comm]; exact nI_mulN w 5) ?_
  refine m_iload dX7_film_81 rfl ?_
  refine m_iadd dX7_film_83 ?_
  refine m_ci (v := nI (5 * w + 4)) (by exact nI_add (5 * w) 4) ?_
  refine m_iaload dX7_film_84 (by first | assumption | rfl | exact x5 s hs | exact y0 _ | exact y1 _ | exact y2 _ | exact y3 _ | exact y4 _ | exact va_up_self _ _ _) (mIx_lit (show 5 * w + 4 < 10 by omega) (by decide)) ?_
  refine m_i2l dX7_film_85 ?_
  refine m_lastore dX7_film_86 (by first | assumption | rfl | exact x5 s hs | exact y0 _ | exact y1 _ | exact y2 _ | exact y3 _ | exact y4 _ | exact va_up_self _ _ _) (mIx_lit (show a + 4 < 24 by omega) (by decide)) ?_
  try rw [va_uu]
  refine m_iinc (v := 5) dX7_film_87 rfl (by decide) (by decide) ?_
  show mW _ _ _ _ _ _ 90 [_, _, _, _, _, _, _] _
  refine m_goto (t := 51) dX7_film_90 (by decide) ?_
  refine m_iload dX7_film_51 rfl ?_
  refine m_iconst (v := 5) dX7_film_53 (by decide) ?_
  refine m_icmp_ge (t := 93) dX7_film_54 (by decide) (fun _ => ?_) (fun q => absurd (by decide) q)
  refine m_iconst (v := 5) dX7_film_93 (by decide) ?_
  exact m_ireturn hF dX7_film_94 rfl rfl rfl ⟨by unfold sFilm; rw [if_pos hok, es, if_pos c42], by unfold sFilm; rw [if_pos hok, es, if_pos c42, ea, ew]; rw [← flm_up v1 hw]; exact hX.it hs, fun q hq => va_up_ne _ _ (by omega)⟩

