/-! ===== the reference: rows ===== -/
def rwOk (z : Nat → Int) : Prop := ∀ i, i < 4 → (∀ j, j < i + 2 → dgZ (rowZ z j) ≠ -1) → stepOk (rowZ z i) (rowZ z (i + 1)) ∧ (i = 3 → dgZ (rowZ z 5) = -1)
def RWK : Prop := ∀ z : Nat → Int, bnd7 z → rwOk z
theorem stepOk_bd {A B : Nat → Int} (h : stepOk A B) : ∀ j, j < 5 → bdZ (remZ A B (dN A) (dN B) j) := by
  obtain ⟨-, -, -, ⟨-, -, h3, h4⟩, -⟩ := h
  unfold remZ
  by_cases e : dN A = dN B + 3
  · rw [if_pos e]
    exact low5_bd (h4 e)
  · rw [if_neg e]
    exact low5_bd h3
theorem remZ_low {A B : Nat → Int} {a b : Nat} (j : Nat) (hj : j < 5) : low5 (remZ A B a b) j = remZ A B a b j := by
  unfold remZ
  by_cases e : a = b + 3
  · rw [if_pos e]
    exact low5_low5 j hj
  · rw [if_neg e]
    exact low5_low5 j hj
theorem adR_at {R W : Nat → Int64} {q j : Nat} (hj : j < 5) : adR R q W (5 * q + j) = W j := by
  unfold adR va_up
  rcases lt5 hj with rfl | rfl | rfl | rfl | rfl
  · rw [if_neg (by omega), if_neg (by omega), if_neg (by omega), if_neg (by omega), if_pos rfl]
  · rw [if_neg (by omega), if_neg (by omega), if_neg (by omega), if_pos rfl]
  · rw [if_neg (by omega), if_neg (by omega), if_pos rfl]
  · rw [if_neg (by omega), if_pos rfl]
  · rw [if_pos rfl]
theorem adR_lt {R W : Nat → Int64} {q x : Nat} (hx : x < 5 * q) : adR R q W x = R x := by
  unfold adR
  rw [va_up_ne _ _ (by omega), va_up_ne _ _ (by omega), va_up_ne _ _ (by omega), va_up_ne _ _ (by omega), va_up_ne _ _ (by omega)]
theorem orN_4 {z : Nat → Int} : orN (dgZ z) = -4 ↔ dgZ z = -1 := by
  by_cases h : dgZ z = -1
  · rw [h]
    decide
  · rw [dgZ_N h, orN_N (dN_le z)]
    exact ⟨fun y => absurd y (nI_n4 (dN_le z)), fun y => absurd ((dgZ_N h).trans y) h⟩
theorem half_0 {z : Nat → Int} {d k : Nat} {x : Int64} (hx : x = lZ (z k)) : (if nI ((k + d + 0) % 2) = 0 then x else 0) = lZ (halfZ z (d % 2) k) := by
  unfold halfZ
  by_cases e : k % 2 = d % 2
  · rw [if_pos e, show (k + d + 0) % 2 = 0 by omega]
    exact (if_pos rfl).trans hx
  · rw [if_neg e, show (k + d + 0) % 2 = 1 by omega]
    exact if_neg (by decide)
theorem half_1 {z : Nat → Int} {d k : Nat} {x : Int64} (hx : x = lZ (z k)) : (if nI ((k + d + 1) % 2) = 0 then x else 0) = lZ (halfZ z (1 - d % 2) k) := by
  unfold halfZ
  by_cases e : k % 2 = 1 - d % 2
  · rw [if_pos e, show (k + d + 1) % 2 = 0 by omega]
    exact (if_pos rfl).trans hx
  · rw [if_neg e, show (k + d + 1) % 2 = 1 by omega]
    exact if_neg (by decide)
theorem sub10 (i : Nat) : nI (5 * (i + 2)) - 10 = nI (5 * i) := by
  have e := nI_subN (a := 5 * (i + 2)) (b := 10) (by omega)
  rw [show 5 * (i + 2) - 10 = 5 * i by omega] at e
  exact e
theorem sub5 (i : Nat) : nI (5 * (i + 2)) - 5 = nI (5 * (i + 1)) := by
  have e := nI_subN (a := 5 * (i + 2)) (b := 5) (by omega)
  rw [show 5 * (i + 2) - 5 = 5 * (i + 1) by omega] at e
  exact e
set_option maxHeartbeats 400000 in
set_option maxRecDepth 100000 in
theorem l_X8_lay0 {n : Nat} {hp : mHp} {ac ia tm ri ev le ch ls sm ra fa : Int32} {q d : Nat} {P R U : Nat → Int64} {z : Nat → Int} (h1 : hp 67 = eO 8 (oMod ac ia tm ri ev le ch ls (nI q) sm ra fa)) (h2 : hp 76 = eL 5 P) (h3 : hp 80 = eL 40 R) (h4 : hp 81 = eL 5 U) (hq : q < 8) (hd : d ≤ 4) (hP : ∀ j, j < 5 → P j = lZ (z j)) (hb : ∀ j, j < 5 → bdZ (z j)) {K : mK} {v3 : Value} (hk9 : ∀ (hp' : mHp) (R' U' : Nat → Int64) (q' : Nat), hp' 67 = eO 8 (oMod ac ia tm ri ev le ch ls (nI q') sm ra fa) → hp' 80 = eL 40 R' → hp' 81 = eL 5 U' → (∀ x, x ≠ 67 → x ≠ 80 → x ≠ 81 → hp' x = hp x) → ((dgZ (halfZ z (d % 2)) = -1 ∧ q' = q ∧ R' = R) ∨ (dgZ (halfZ z (d % 2)) ≠ -1 ∧ q' = q + 1 ∧ (∀ j, j < 5 → R' (5 * q + j) = lZ ((halfZ z (d % 2)) j)) ∧ ∀ x, x < 5 * q → R' x = R x)) → mW K D_X8_laysRows 0 0 n hp' 27 [.ref 67, .int (nI d), .int 1, .int 5] []) : mW K D_X8_laysRows 0 0 n hp 38 [.ref 67, .int (nI d), .int 0, v3] [] := by
  have y1 : ∀ f : mE, va_up hp 81 f 67 = _ := fun f => (va_up_ne _ _ (by decide)).trans h1
  have y2 : ∀ f : mE, va_up hp 81 f 76 = eL 5 P := fun f => (va_up_ne _ _ (by decide)).trans h2
  have y3 : ∀ f : mE, va_up hp 81 f 80 = eL 40 R := fun f => (va_up_ne _ _ (by decide)).trans h3
  refine m_iconst (v := 0) dX8_laysRows_38 (by decide) ?_
  refine m_istore_n dX8_laysRows_39 (by decide) ?_
  show mW _ _ _ _ _ _ 40 [_, _, _, _] _
  refine m_iload_n dX8_laysRows_40 rfl ?_
  refine m_iconst (v := 5) dX8_laysRows_41 (by decide) ?_
  refine m_icmp_ge (t := 77) dX8_laysRows_42 (by decide) (fun q => absurd q (by decide)) (fun _ => ?_)
  skip
  refine m_aload_n dX8_laysRows_45 rfl ?_
  refine m_getfield dX8_laysRows_46 fl_X8_54 (by first | assumption | rfl | exact y1 _ | exact y2 _ | exact y3 _ | exact va_up_self _ _ _) (by first | assumption | rfl | exact y1 _ | exact y2 _ | exact y3 _ | exact va_up_self _ _ _) ?_
  show mW _ _ _ _ _ _ _ _ (.ref _ :: _)
  refine m_iload_n dX8_laysRows_49 rfl ?_
  refine m_iload_n dX8_laysRows_50 rfl ?_
  refine m_iload_n dX8_laysRows_51 rfl ?_
  refine m_iadd dX8_laysRows_52 ?_
  refine m_ci (v := nI (0 + d)) (by exact nI_add 0 d) ?_
  refine m_iload_n dX8_laysRows_53 rfl ?_
  refine m_iadd dX8_laysRows_54 ?_
  refine m_ci (v := nI (0 + d + 0)) (by exact nI_add (0 + d) 0) ?_
  refine m_iconst (v := 2) dX8_laysRows_55 (by decide) ?_
  refine m_irem dX8_laysRows_56 (by decide) ?_
  refine m_ci (v := nI ((0 + d + 0) % 2)) (nI_rem (b := 2) (by omega) (by decide)) ?_
  refine m_ternN_L (J := 70) (x := 0) (y := (P 0)) (m_if_ne (t := 69) dX8_laysRows_57 (by decide)) (fun k9 => ?_) (fun k9 => ?_) ?_
  · refine m_lconst (v := 0) dX8_laysRows_69 (by decide) ?_
    exact k9
  · refine m_aload_n dX8_laysRows_60 rfl ?_
    refine m_getfield dX8_laysRows_61 fl_X8_39 (by first | assumption | rfl | exact y1 _ | exact y2 _ | exact y3 _ | exact va_up_self _ _ _) (by first | assumption | rfl | exact y1 _ | exact y2 _ | exact y3 _ | exact va_up_self _ _ _) ?_
    show mW _ _ _ _ _ _ _ _ (.ref _ :: _)
    refine m_iload_n dX8_laysRows_64 rfl ?_
    refine m_laload (k := 0) dX8_laysRows_65 (by first | assumption | rfl | exact y1 _ | exact y2 _ | exact y3 _ | exact va_up_self _ _ _) ⟨by decide, by decide⟩ ?_
    refine m_goto (t := 70) dX8_laysRows_66 (by decide) ?_
    exact k9
  refine m_cl (v := lZ ((halfZ z (d % 2)) 0)) (half_0 (hP 0 (by decide))) ?_
  refine m_lastore (k := 0) dX8_laysRows_70 (by first | assumption | rfl | exact y1 _ | exact y2 _ | exact y3 _ | exact va_up_self _ _ _) ⟨by decide, by decide⟩ ?_
  try rw [va_uu]
  refine m_iinc (v := 1) dX8_laysRows_71 rfl (by decide) (by decide) ?_
  show mW _ _ _ _ _ _ 74 [_, _, _, _] _
  refine m_goto (t := 40) dX8_laysRows_74 (by decide) ?_
  refine m_iload_n dX8_laysRows_40 rfl ?_
  refine m_iconst (v := 5) dX8_laysRows_41 (by decide) ?_
  refine m_icmp_ge (t := 77) dX8_laysRows_42 (by decide) (fun q => absurd q (by decide)) (fun _ => ?_)
  skip
  refine m_aload_n dX8_laysRows_45 rfl ?_
  refine m_getfield dX8_laysRows_46 fl_X8_54 (by first | assumption | rfl | exact y1 _ | exact y2 _ | exact y3 _ | exact va_up_self _ _ _) (by first | assumption | rfl | exact y1 _ | exact y2 _ | exact y3 _ | exact va_up_self _ _ _) ?_
  show mW _ _ _ _ _ _ _ _ (.ref _ :: _)
  refine m_iload_n dX8_laysRows_49 rfl ?_
  refine m_iload_n dX8_laysRows_50 rfl ?_
  refine m_iload_n dX8_laysRows_51 rfl ?_
  refine m_iadd dX8_laysRows_52 ?_
  refine m_ci (v := nI (1 + d)) (by exact nI_add 1 d) ?_
  refine m_iload_n dX8_laysRows_53 rfl ?_
  refine m_iadd dX8_laysRows_54 ?_
  refine m_ci (v := nI (1 + d + 0)) (by exact nI_add (1 + d) 0) ?_
  refine m_iconst (v := 2) dX8_laysRows_55 (by decide) ?_
  refine m_irem dX8_laysRows_56 (by decide) ?_
  refine m_ci (v := nI ((1 + d + 0) % 2)) (nI_rem (b := 2) (by omega) (by decide)) ?_
  refine m_ternN_L (J := 70) (x := 0) (y := (P 1)) (m_if_ne (t := 69) dX8_laysRows_57 (by decide)) (fun k9 => ?_) (fun k9 => ?_) ?_
  · refine m_lconst (v := 0) dX8_laysRows_69 (by decide) ?_
    exact k9
  · refine m_aload_n dX8_laysRows_60 rfl ?_
    refine m_getfield dX8_laysRows_61 fl_X8_39 (by first | assumption | rfl | exact y1 _ | exact y2 _ | exact y3 _ | exact va_up_self _ _ _) (by first | assumption | rfl | exact y1 _ | exact y2 _ | exact y3 _ | exact va_up_self _ _ _) ?_
    show mW _ _ _ _ _ _ _ _ (.ref _ :: _)
    refine m_iload_n dX8_laysRows_64 rfl ?_
    refine m_laload (k := 1) dX8_laysRows_65 (by first | assumption | rfl | exact y1 _ | exact y2 _ | exact y3 _ | exact va_up_self _ _ _) ⟨by decide, by decide⟩ ?_
    refine m_goto (t := 70) dX8_laysRows_66 (by decide) ?_
    exact k9
  refine m_cl (v := lZ ((halfZ z (d % 2)) 1)) (half_0 (hP 1 (by decide))) ?_
  refine m_lastore (k := 1) dX8_laysRows_70 (by first | assumption | rfl | exact y1 _ | exact y2 _ | exact y3 _ | exact va_up_self _ _ _) ⟨by decide, by decide⟩ ?_
  try rw [va_uu]
  refine m_iinc (v := 2) dX8_laysRows_71 rfl (by decide) (by decide) ?_
  show mW _ _ _ _ _ _ 74 [_, _, _, _] _
  refine m_goto (t := 40) dX8_laysRows_74 (by decide) ?_
  refine m_iload_n dX8_laysRows_40 rfl ?_
  refine m_iconst (v := 5) dX8_laysRows_41 (by decide) ?_
  refine m_icmp_ge (t := 77) dX8_laysRows_42 (by decide) (fun q => absurd q (by decide)) (fun _ => ?_)
  skip
  refine m_aload_n dX8_laysRows_45 rfl ?_
  refine m_getfield dX8_laysRows_46 fl_X8_54 (by first | assumption | rfl | exact y1 _ | exact y2 _ | exact y3 _ | exact va_up_self _ _ _) (by first | assumption | rfl | exact y1 _ | exact y2 _ | exact y3 _ | exact va_up_self _ _ _) ?_
  show mW _ _ _ _ _ _ _ _ (.ref _ :: _)
  refine m_iload_n dX8_laysRows_49 rfl ?_
  refine m_iload_n dX8_laysRows_50 rfl ?_
  refine m_iload_n dX8_laysRows_51 rfl ?_
  refine m_iadd dX8_laysRows_52 ?_
  refine m_ci (v := nI (2 + d)) (by exact nI_add 2 d) ?_
  refine m_iload_n dX8_laysRows_53 rfl ?_
  refine m_iadd dX8_laysRows_54 ?_
  refine m_ci (v := nI (2 + d + 0)) (by exact nI_add (2 + d) 0) ?_
  refine m_iconst (v := 2) dX8_laysRows_55 (by decide) ?_
  refine m_irem dX8_laysRows_56 (by decide) ?_
  refine m_ci (v := nI ((2 + d + 0) % 2)) (nI_rem (b := 2) (by omega) (by decide)) ?_
  refine m_ternN_L (J := 70) (x := 0) (y := (P 2)) (m_if_ne (t := 69) dX8_laysRows_57 (by decide)) (fun k9 => ?_) (fun k9 => ?_) ?_
  · refine m_lconst (v := 0) dX8_laysRows_69 (by decide) ?_
    exact k9
  · refine m_aload_n dX8_laysRows_60 rfl ?_
    refine m_getfield dX8_laysRows_61 fl_X8_39 (by first | assumption | rfl | exact y1 _ | exact y2 _ | exact y3 _ | exact va_up_self _ _ _) (by first | assumption | rfl | exact y1 _ | exact y2 _ | exact y3 _ | exact va_up_self _ _ _) ?_
    show mW _ _ _ _ _ _ _ _ (.ref _ :: _)
    refine m_iload_n dX8_laysRows_64 rfl ?_
    refine m_laload (k := 2) dX8_laysRows_65 (by first | assumption | rfl | exact y1 _ | exact y2 _ | exact y3 _ | exact va_up_self _ _ _) ⟨by decide, by decide⟩ ?_
    refine m_goto (t := 70) dX8_laysRows_66 (by decide) ?_
    exact k9
  refine m_cl (v := lZ ((halfZ z (d % 2)) 2)) (half_0 (hP 2 (by decide))) ?_
  refine m_lastore (k := 2) dX8_laysRows_70 (by first | assumption | rfl | exact y1 _ | exact y2 _ | exact y3 _ | exact va_up_self _ _ _) ⟨by decide, by decide⟩ ?_
  try rw [va_uu]
  refine m_iinc (v := 3) dX8_laysRows_71 rfl (by decide) (by decide) ?_
  show mW _ _ _ _ _ _ 74 [_, _, _, _] _
  refine m_goto (t := 40) dX8_laysRows_74 (by decide) ?_
  refine m_iload_n dX8_laysRows_40 rfl ?_
  refine m_iconst (v := 5) dX8_laysRows_41 (by decide) ?_
  refine m_icmp_ge (t := 77) dX8_laysRows_42 (by decide) (fun q => absurd q (by decide)) (fun _ => ?_)
  skip
  refine m_aload_n dX8_laysRows_45 rfl ?_
  refine m_getfield dX8_laysRows_46 fl_X8_54 (by first | assumption | rfl | exact y1 _ | exact y2 _ | exact y3 _ | exact va_up_self _ _ _) (by first | assumption | rfl | exact y1 _ | exact y2 _ | exact y3 _ | exact va_up_self _ _ _) ?_
  show mW _ _ _ _ _ _ _ _ (.ref _ :: _)
  refine m_iload_n dX8_laysRows_49 rfl ?_
  refine m_iload_n dX8_laysRows_50 rfl ?_
  refine m_iload_n dX8_laysRows_51 rfl ?_
  refine m_iadd dX8_laysRows_52 ?_
  refine m_ci (v := nI (3 + d)) (by exact nI_add 3 d) ?_
  refine m_iload_n dX8_laysRows_53 rfl ?_
  refine m_iadd dX8_laysRows_54 ?_
  refine m_ci (v := nI (3 + d + 0)) (by exact nI_add (3 + d) 0) ?_
  refine m_iconst (v := 2) dX8_laysRows_55 (by decide) ?_
  refine m_irem dX8_laysRows_56 (by decide) ?_
  refine m_ci (v := nI ((3 + d + 0) % 2)) (nI_rem (b := 2) (by omega) (by decide)) ?_
  refine m_ternN_L (J := 70) (x := 0) (y := (P 3)) (m_if_ne (t := 69) dX8_laysRows_57 (by decide)) (fun k9 => ?_) (fun k9 => ?_) ?_
  · refine m_lconst (v := 0) dX8_laysRows_69 (by decide) ?_
    exact k9
  · refine m_aload_n dX8_laysRows_60 rfl ?_
    refine m_getfield dX8_laysRows_61 fl_X8_39 (by first | assumption | rfl | exact y1 _ | exact y2 _ | exact y3 _ | exact va_up_self _ _ _) (by first | assumption | rfl | exact y1 _ | exact y2 _ | exact y3 _ | exact va_up_self _ _ _) ?_
    show mW _ _ _ _ _ _ _ _ (.ref _ :: _)
    refine m_iload_n dX8_laysRows_64 rfl ?_
    refine m_laload (k := 3) dX8_laysRows_65 (by first | assumption | rfl | exact y1 _ | exact y2 _ | exact y3 _ | exact va_up_self _ _ _) ⟨by decide, by decide⟩ ?_
    refine m_goto (t := 70) dX8_laysRows_66 (by decide) ?_
    exact k9
  refine m_cl (v := lZ ((halfZ z (d % 2)) 3)) (half_0 (hP 3 (by decide))) ?_
  refine m_lastore (k := 3) dX8_laysRows_70 (by first | assumption | rfl | exact y1 _ | exact y2 _ | exact y3 _ | exact va_up_self _ _ _) ⟨by decide, by decide⟩ ?_
  try rw [va_uu]
  refine m_iinc (v := 4) dX8_laysRows_71 rfl (by decide) (by decide) ?_
  show mW _ _ _ _ _ _ 74 [_, _, _, _] _
  refine m_goto (t := 40) dX8_laysRows_74 (by decide) ?_
  refine m_iload_n dX8_laysRows_40 rfl ?_
  refine m_iconst (v := 5) dX8_laysRows_41 (by decide) ?_
  refine m_icmp_ge (t := 77) dX8_laysRows_42 (by decide) (fun q => absurd q (by decide)) (fun _ => ?_)
  skip
  refine m_aload_n dX8_laysRows_45 rfl ?_
  refine m_getfield dX8_laysRows_46 fl_X8_54 (by first | assumption | rfl | exact y1 _ | exact y2 _ | exact y3 _ | exact va_up_self _ _ _) (by first | assumption | rfl | exact y1 _ | exact y2 _ | exact y3 _ | exact va_up_self _ _ _) ?_
  show mW _ _ _ _ _ _ _ _ (.ref _ :: _)
  refine m_iload_n dX8_laysRows_49 rfl ?_
  refine m_iload_n dX8_laysRows_50 rfl ?_
  refine m_iload_n dX8_laysRows_51 rfl ?_
  refine m_iadd dX8_laysRows_52 ?_
  refine m_ci (v := nI (4 + d)) (by exact nI_add 4 d) ?_
  refine m_iload_n dX8_laysRows_53 rfl ?_
  refine m_iadd dX8_laysRows_54 ?_
  refine m_ci (v := nI (4 + d + 0)) (by exact nI_add (4 + d) 0) ?_
  refine m_iconst (v := 2) dX8_laysRows_55 (by decide) ?_
  refine m_irem dX8_laysRows_56 (by decide) ?_
  refine m_ci (v := nI ((4 + d + 0) % 2)) (nI_rem (b := 2) (by omega) (by decide)) ?_
  refine m_ternN_L (J := 70) (x := 0) (y := (P 4)) (m_if_ne (t := 69) dX8_laysRows_57 (by decide)) (fun k9 => ?_) (fun k9 => ?_) ?_
  · refine m_lconst (v := 0) dX8_laysRows_69 (by decide) ?_
    exact k9
  · refine m_aload_n dX8_laysRows_60 rfl ?_
    refine m_getfield dX8_laysRows_61 fl_X8_39 (by first | assumption | rfl | exact y1 _ | exact y2 _ | exact y3 _ | exact va_up_self _ _ _) (by first | assumption | rfl | exact y1 _ | exact y2 _ | exact y3 _ | exact va_up_self _ _ _) ?_
    show mW _ _ _ _ _ _ _ _ (.ref _ :: _)
    refine m_iload_n dX8_laysRows_64 rfl ?_
    refine m_laload (k := 4) dX8_laysRows_65 (by first | assumption | rfl | exact y1 _ | exact y2 _ | exact y3 _ | exact va_up_self _ _ _) ⟨by decide, by decide⟩ ?_
    refine m_goto (t := 70) dX8_laysRows_66 (by decide) ?_
    exact k9
  refine m_cl (v := lZ ((halfZ z (d % 2)) 4)) (half_0 (hP 4 (by decide))) ?_
  refine m_lastore (k := 4) dX8_laysRows_70 (by first | assumption | rfl | exact y1 _ | exact y2 _ | exact y3 _ | exact va_up_self _ _ _) ⟨by decide, by decide⟩ ?_
  try rw [va_uu]
  refine m_iinc (v := 5) dX8_laysRows_71 rfl (by decide) (by decide) ?_
  show mW _ _ _ _ _ _ 74 [_, _, _, _] _
  refine m_goto (t := 40) dX8_laysRows_74 (by decide) ?_
  refine m_iload_n dX8_laysRows_40 rfl ?_
  refine m_iconst (v := 5) dX8_laysRows_41 (by decide) ?_
  refine m_icmp_ge (t := 77) dX8_laysRows_42 (by decide) (fun _ => ?_) (fun q => absurd (by decide) q)
  have hU : ∀ j, j < 5 → (va_up (va_up (va_up (va_up (va_up U 0 (lZ ((halfZ z (d % 2)) 0))) 1 (lZ ((halfZ z (d % 2)) 1))) 2 (lZ ((halfZ z (d % 2)) 2))) 3 (lZ ((halfZ z (d % 2)) 3))) 4 (lZ ((halfZ z (d % 2)) 4))) j = lZ ((halfZ z (d % 2)) j) := fun j hj => (by rcases lt5 hj with rfl | rfl | rfl | rfl | rfl <;> rfl)
  have hbH : ∀ j, j < 5 → bdZ ((halfZ z (d % 2)) j) := fun j hj => halfZ_bd (hb j hj)
  refine m_aload_n dX8_laysRows_77 rfl ?_
  refine m_getfield dX8_laysRows_78 fl_X8_54 (by first | assumption | rfl | exact y1 _ | exact y2 _ | exact y3 _ | exact va_up_self _ _ _) (by first | assumption | rfl | exact y1 _ | exact y2 _ | exact y3 _ | exact va_up_self _ _ _) ?_
  show mW _ _ _ _ _ _ _ _ (.ref _ :: _)
  refine m_iconst (v := 0) dX8_laysRows_81 (by decide) ?_
  refine m_invS_I dX8_laysRows_82 lk_X8_118 ar_X8_degree (t_X8_degree (at_ := 0) (va_up_self _ _ _) (by decide) (by decide)) rfl (Nat.le_of_ble_eq_true rfl) (by decide) (by decide) (by decide) (by decide) rfl rfl ?_
  try rw [va_uu]
  refine m_ci (v := orN (dgZ (halfZ z (d % 2)))) (by rw [deg5_Z (z := (halfZ z (d % 2))) (fun j hj => by rw [Nat.zero_add]; exact hU j hj) hbH]) ?_
  refine m_bipush (v := -4) dX8_laysRows_85 (by decide) ?_
  refine m_icmp_eq (t := 94) dX8_laysRows_87 (by decide) (fun c87 => ?_) (fun c87 => ?_)
  · refine m_iinc (v := 1) dX8_laysRows_94 rfl (by decide) (by decide) ?_
    show mW _ _ _ _ _ _ 97 [_, _, _, _] _
    refine m_goto (t := 27) dX8_laysRows_97 (by decide) ?_
    exact hk9 _ R _ q (y1 _) (y3 _) (va_up_self _ _ _) (fun x a b c => va_up_ne _ _ c) (Or.inl ⟨orN_4.mp c87, rfl, rfl⟩)
  refine m_aload_n dX8_laysRows_90 rfl ?_
  refine m_invV_V dX8_laysRows_91 lk_X8_186 ar_X8_addsRow (ci := 8) rfl rfl (by first | assumption | rfl | exact y1 _ | exact y2 _ | exact y3 _ | exact va_up_self _ _ _) (t_X8_addsRow (y1 _) (y3 _) (va_up_self _ _ _) hq) rfl (Nat.le_of_ble_eq_true rfl) (by decide) (by decide) (by decide) (by decide) rfl rfl ?_
  try rw [va_uu]
  refine m_iinc (v := 1) dX8_laysRows_94 rfl (by decide) (by decide) ?_
  show mW _ _ _ _ _ _ 97 [_, _, _, _] _
  refine m_goto (t := 27) dX8_laysRows_97 (by decide) ?_
  exact hk9 _ _ _ (q + 1) (va_up_self _ _ _) ((va_up_ne _ _ (by decide)).trans (va_up_self _ _ _)) ((va_up_ne _ _ (by decide)).trans ((va_up_ne _ _ (by decide)).trans (va_up_self _ _ _))) (fun x a b c => by rw [va_up_ne _ _ a, va_up_ne _ _ b, va_up_ne _ _ c]) (Or.inr ⟨fun y => c87 (orN_4.mpr y), rfl, fun j hj => (adR_at hj).trans (hU j hj), fun x hx => adR_lt hx⟩)

set_option maxHeartbeats 400000 in
set_option maxRecDepth 100000 in
theorem l_X8_lay1 {n : Nat} {hp : mHp} {ac ia tm ri ev le ch ls sm ra fa : Int32} {q d : Nat} {P R U : Nat → Int64} {z : Nat → Int} (h1 : hp 67 = eO 8 (oMod ac ia tm ri ev le ch ls (nI q) sm ra fa)) (h2 : hp 76 = eL 5 P) (h3 : hp 80 = eL 40 R) (h4 : hp 81 = eL 5 U) (hq : q < 8) (hd : d ≤ 4) (hP : ∀ j, j < 5 → P j = lZ (z j)) (hb : ∀ j, j < 5 → bdZ (z j)) {K : mK} {v3 : Value} (hk9 : ∀ (hp' : mHp) (R' U' : Nat → Int64) (q' : Nat), hp' 67 = eO 8 (oMod ac ia tm ri ev le ch ls (nI q') sm ra fa) → hp' 80 = eL 40 R' → hp' 81 = eL 5 U' → (∀ x, x ≠ 67 → x ≠ 80 → x ≠ 81 → hp' x = hp x) → ((dgZ (halfZ z (1 - d % 2)) = -1 ∧ q' = q ∧ R' = R) ∨ (dgZ (halfZ z (1 - d % 2)) ≠ -1 ∧ q' = q + 1 ∧ (∀ j, j < 5 → R' (5 * q + j) = lZ ((halfZ z (1 - d % 2)) j)) ∧ ∀ x, x < 5 * q → R' x = R x)) → mW K D_X8_laysRows 0 0 n hp' 27 [.ref 67, .int (nI d), .int 2, .int 5] []) : mW K D_X8_laysRows 0 0 n hp 38 [.ref 67, .int (nI d), .int 1, v3] [] := by
  have y1 : ∀ f : mE, va_up hp 81 f 67 = _ := fun f => (va_up_ne _ _ (by decide)).trans h1
  have y2 : ∀ f : mE, va_up hp 81 f 76 = eL 5 P := fun f => (va_up_ne _ _ (by decide)).trans h2
  have y3 : ∀ f : mE, va_up hp 81 f 80 = eL 40 R := fun f => (va_up_ne _ _ (by decide)).trans h3
  refine m_iconst (v := 0) dX8_laysRows_38 (by decide) ?_
  refine m_istore_n dX8_laysRows_39 (by decide) ?_
  show mW _ _ _ _ _ _ 40 [_, _, _, _] _
  refine m_iload_n dX8_laysRows_40 rfl ?_
  refine m_iconst (v := 5) dX8_laysRows_41 (by decide) ?_
  refine m_icmp_ge (t := 77) dX8_laysRows_42 (by decide) (fun q => absurd q (by decide)) (fun _ => ?_)
  skip
  refine m_aload_n dX8_laysRows_45 rfl ?_
  refine m_getfield dX8_laysRows_46 fl_X8_54 (by first | assumption | rfl | exact y1 _ | exact y2 _ | exact y3 _ | exact va_up_self _ _ _) (by first | assumption | rfl | exact y1 _ | exact y2 _ | exact y3 _ | exact va_up_self _ _ _) ?_
  show mW _ _ _ _ _ _ _ _ (.ref _ :: _)
  refine m_iload_n dX8_laysRows_49 rfl ?_
  refine m_iload_n dX8_laysRows_50 rfl ?_
  refine m_iload_n dX8_laysRows_51 rfl ?_
  refine m_iadd dX8_laysRows_52 ?_
  refine m_ci (v := nI (0 + d)) (by exact nI_add 0 d) ?_
  refine m_iload_n dX8_laysRows_53 rfl ?_
  refine m_iadd dX8_laysRows_54 ?_
  refine m_ci (v := nI (0 + d + 1)) (by exact nI_add (0 + d) 1) ?_
  refine m_iconst (v := 2) dX8_laysRows_55 (by decide) ?_
  refine m_irem dX8_laysRows_56 (by decide) ?_
  refine m_ci (v := nI ((0 + d + 1) % 2)) (nI_rem (b := 2) (by omega) (by decide)) ?_
  refine m_ternN_L (J := 70) (x := 0) (y := (P 0)) (m_if_ne (t := 69) dX8_laysRows_57 (by decide)) (fun k9 => ?_) (fun k9 => ?_) ?_
  · refine m_lconst (v := 0) dX8_laysRows_69 (by decide) ?_
    exact k9
  · refine m_aload_n dX8_laysRows_60 rfl ?_
    refine m_getfield dX8_laysRows_61 fl_X8_39 (by first | assumption | rfl | exact y1 _ | exact y2 _ | exact y3 _ | exact va_up_self _ _ _) (by first | assumption | rfl | exact y1 _ | exact y2 _ | exact y3 _ | exact va_up_self _ _ _) ?_
    show mW _ _ _ _ _ _ _ _ (.ref _ :: _)
    refine m_iload_n dX8_laysRows_64 rfl ?_
    refine m_laload (k := 0) dX8_laysRows_65 (by first | assumption | rfl | exact y1 _ | exact y2 _ | exact y3 _ | exact va_up_self _ _ _) ⟨by decide, by decide⟩ ?_
    refine m_goto (t := 70) dX8_laysRows_66 (by decide) ?_
    exact k9
  refine m_cl (v := lZ ((halfZ z (1 - d % 2)) 0)) (half_1 (hP 0 (by decide))) ?_
  refine m_lastore (k := 0) dX8_laysRows_70 (by first | assumption | rfl | exact y1 _ | exact y2 _ | exact y3 _ | exact va_up_self _ _ _) ⟨by decide, by decide⟩ ?_
  try rw [va_uu]
  refine m_iinc (v := 1) dX8_laysRows_71 rfl (by decide) (by decide) ?_
  show mW _ _ _ _ _ _ 74 [_, _, _, _] _
  refine m_goto (t := 40) dX8_laysRows_74 (by decide) ?_
  refine m_iload_n dX8_laysRows_40 rfl ?_
  refine m_iconst (v := 5) dX8_laysRows_41 (by decide) ?_
  refine m_icmp_ge (t := 77) dX8_laysRows_42 (by decide) (fun q => absurd q (by decide)) (fun _ => ?_)
  skip
  refine m_aload_n dX8_laysRows_45 rfl ?_
  refine m_getfield dX8_laysRows_46 fl_X8_54 (by first | assumption | rfl | exact y1 _ | exact y2 _ | exact y3 _ | exact va_up_self _ _ _) (by first | assumption | rfl | exact y1 _ | exact y2 _ | exact y3 _ | exact va_up_self _ _ _) ?_
  show mW _ _ _ _ _ _ _ _ (.ref _ :: _)
  refine m_iload_n dX8_laysRows_49 rfl ?_
  refine m_iload_n dX8_laysRows_50 rfl ?_
  refine m_iload_n dX8_laysRows_51 rfl ?_
  refine m_iadd dX8_laysRows_52 ?_
  refine m_ci (v := nI (1 + d)) (by exact nI_add 1 d) ?_
  refine m_iload_n dX8_laysRows_53 rfl ?_
  refine m_iadd dX8_laysRows_54 ?_
  refine m_ci (v := nI (1 + d + 1)) (by exact nI_add (1 + d) 1) ?_
  refine m_iconst (v := 2) dX8_laysRows_55 (by decide) ?_
  refine m_irem dX8_laysRows_56 (by decide) ?_
  refine m_ci (v := nI ((1 + d + 1) % 2)) (nI_rem (b := 2) (by omega) (by decide)) ?_
  refine m_ternN_L (J := 70) (x := 0) (y := (P 1)) (m_if_ne (t := 69) dX8_laysRows_57 (by decide)) (fun k9 => ?_) (fun k9 => ?_) ?_
  · refine m_lconst (v := 0) dX8_laysRows_69 (by decide) ?_
    exact k9
  · refine m_aload_n dX8_laysRows_60 rfl ?_
    refine m_getfield dX8_laysRows_61 fl_X8_39 (by first | assumption | rfl | exact y1 _ | exact y2 _ | exact y3 _ | exact va_up_self _ _ _) (by first | assumption | rfl | exact y1 _ | exact y2 _ | exact y3 _ | exact va_up_self _ _ _) ?_
    show mW _ _ _ _ _ _ _ _ (.ref _ :: _)
    refine m_iload_n dX8_laysRows_64 rfl ?_
    refine m_laload (k := 1) dX8_laysRows_65 (by first | assumption | rfl | exact y1 _ | exact y2 _ | exact y3 _ | exact va_up_self _ _ _) ⟨by decide, by decide⟩ ?_
    refine m_goto (t := 70) dX8_laysRows_66 (by decide) ?_
    exact k9
  refine m_cl (v := lZ ((halfZ z (1 - d % 2)) 1)) (half_1 (hP 1 (by decide))) ?_
  refine m_lastore (k := 1) dX8_laysRows_70 (by first | assumption | rfl | exact y1 _ | exact y2 _ | exact y3 _ | exact va_up_self _ _ _) ⟨by decide, by decide⟩ ?_
  try rw [va_uu]
  refine m_iinc (v := 2) dX8_laysRows_71 rfl (by decide) (by decide) ?_
  show mW _ _ _ _ _ _ 74 [_, _, _, _] _
  refine m_goto (t := 40) dX8_laysRows_74 (by decide) ?_
  refine m_iload_n dX8_laysRows_40 rfl ?_
  refine m_iconst (v := 5) dX8_laysRows_41 (by decide) ?_
  refine m_icmp_ge (t := 77) dX8_laysRows_42 (by decide) (fun q => absurd q (by decide)) (fun _ => ?_)
  skip
  refine m_aload_n dX8_laysRows_45 rfl ?_
  refine m_getfield dX8_laysRows_46 fl_X8_54 (by first | assumption | rfl | exact y1 _ | exact y2 _ | exact y3 _ | exact va_up_self _ _ _) (by first | assumption | rfl | exact y1 _ | exact y2 _ | exact y3 _ | exact va_up_self _ _ _) ?_
  show mW _ _ _ _ _ _ _ _ (.ref _ :: _)
  refine m_iload_n dX8_laysRows_49 rfl ?_
  refine m_iload_n dX8_laysRows_50 rfl ?_
  refine m_iload_n dX8_laysRows_51 rfl ?_
  refine m_iadd dX8_laysRows_52 ?_
  refine m_ci (v := nI (2 + d)) (by exact nI_add 2 d) ?_
  refine m_iload_n dX8_laysRows_53 rfl ?_
  refine m_iadd dX8_laysRows_54 ?_
  refine m_ci (v := nI (2 + d + 1)) (by exact nI_add (2 + d) 1) ?_
  refine m_iconst (v := 2) dX8_laysRows_55 (by decide) ?_
  refine m_irem dX8_laysRows_56 (by decide) ?_
  refine m_ci (v := nI ((2 + d + 1) % 2)) (nI_rem (b := 2) (by omega) (by decide)) ?_
  refine m_ternN_L (J := 70) (x := 0) (y := (P 2)) (m_if_ne (t := 69) dX8_laysRows_57 (by decide)) (fun k9 => ?_) (fun k9 => ?_) ?_
  · refine m_lconst (v := 0) dX8_laysRows_69 (by decide) ?_
    exact k9
  · refine m_aload_n dX8_laysRows_60 rfl ?_
    refine m_getfield dX8_laysRows_61 fl_X8_39 (by first | assumption | rfl | exact y1 _ | exact y2 _ | exact y3 _ | exact va_up_self _ _ _) (by first | assumption | rfl | exact y1 _ | exact y2 _ | exact y3 _ | exact va_up_self _ _ _) ?_
    show mW _ _ _ _ _ _ _ _ (.ref _ :: _)
    refine m_iload_n dX8_laysRows_64 rfl ?_
    refine m_laload (k := 2) dX8_laysRows_65 (by first | assumption | rfl | exact y1 _ | exact y2 _ | exact y3 _ | exact va_up_self _ _ _) ⟨by decide, by decide⟩ ?_
    refine m_goto (t := 70) dX8_laysRows_66 (by decide) ?_
    exact k9
  refine m_cl (v := lZ ((halfZ z (1 - d % 2)) 2)) (half_1 (hP 2 (by decide))) ?_
  refine m_lastore (k := 2) dX8_laysRows_70 (by first | assumption | rfl | exact y1 _ | exact y2 _ | exact y3 _ | exact va_up_self _ _ _) ⟨by decide, by decide⟩ ?_
  try rw [va_uu]
  refine m_iinc (v := 3) dX8_laysRows_71 rfl (by decide) (by decide) ?_
  show mW _ _ _ _ _ _ 74 [_, _, _, _] _
  refine m_goto (t := 40) dX8_laysRows_74 (by decide) ?_
  refine m_iload_n dX8_laysRows_40 rfl ?_
  refine m_iconst (v := 5) dX8_laysRows_41 (by decide) ?_
  refine m_icmp_ge (t := 77) dX8_laysRows_42 (by decide) (fun q => absurd q (by decide)) (fun _ => ?_)
  skip
  refine m_aload_n dX8_laysRows_45 rfl ?_
  refine m_getfield dX8_laysRows_46 fl_X8_54 (by first | assumption | rfl | exact y1 _ | exact y2 _ | exact y3 _ | exact va_up_self _ _ _) (by first | assumption | rfl | exact y1 _ | exact y2 _ | exact y3 _ | exact va_up_self _ _ _) ?_
  show mW _ _ _ _ _ _ _ _ (.ref _ :: _)
  refine m_iload_n dX8_laysRows_49 rfl ?_
  refine m_iload_n dX8_laysRows_50 rfl ?_
  refine m_iload_n dX8_laysRows_51 rfl ?_
  refine m_iadd dX8_laysRows_52 ?_
  refine m_ci (v := nI (3 + d)) (by exact nI_add 3 d) ?_
  refine m_iload_n dX8_laysRows_53 rfl ?_
  refine m_iadd dX8_laysRows_54 ?_
  refine m_ci (v := nI (3 + d + 1)) (by exact nI_add (3 + d) 1) ?_
  refine m_iconst (v := 2) dX8_laysRows_55 (by decide) ?_
  refine m_irem dX8_laysRows_56 (by decide) ?_
  refine m_ci (v := nI ((3 + d + 1) % 2)) (nI_rem (b := 2) (by omega) (by decide)) ?_
  refine m_ternN_L (J := 70) (x := 0) (y := (P 3)) (m_if_ne (t := 69) dX8_laysRows_57 (by decide)) (fun k9 => ?_) (fun k9 => ?_) ?_
  · refine m_lconst (v := 0) dX8_laysRows_69 (by decide) ?_
    exact k9
  · refine m_aload_n dX8_laysRows_60 rfl ?_
    refine m_getfield dX8_laysRows_61 fl_X8_39 (by first | assumption | rfl | exact y1 _ | exact y2 _ | exact y3 _ | exact va_up_self _ _ _) (by first | assumption | rfl | exact y1 _ | exact y2 _ | exact y3 _ | exact va_up_self _ _ _) ?_
    show mW _ _ _ _ _ _ _ _ (.ref _ :: _)
    refine m_iload_n dX8_laysRows_64 rfl ?_
    refine m_laload (k := 3) dX8_laysRows_65 (by first | assumption | rfl | exact y1 _ | exact y2 _ | exact y3 _ | exact va_up_self _ _ _) ⟨by decide, by decide⟩ ?_
    refine m_goto (t := 70) dX8_laysRows_66 (by decide) ?_
    exact k9
  refine m_cl (v := lZ ((halfZ z (1 - d % 2)) 3)) (half_1 (hP 3 (by decide))) ?_
  refine m_lastore (k := 3) dX8_laysRows_70 (by first | assumption | rfl | exact y1 _ | exact y2 _ | exact y3 _ | exact va_up_self _ _ _) ⟨by decide, by decide⟩ ?_
  try rw [va_uu]
  refine m_iinc (v := 4) dX8_laysRows_71 rfl (by decide) (by decide) ?_
  show mW _ _ _ _ _ _ 74 [_, _, _, _] _
  refine m_goto (t := 40) dX8_laysRows_74 (by decide) ?_
  refine m_iload_n dX8_laysRows_40 rfl ?_
  refine m_iconst (v := 5) dX8_laysRows_41 (by decide) ?_
  refine m_icmp_ge (t := 77) dX8_laysRows_42 (by decide) (fun q => absurd q (by decide)) (fun _ => ?_)
  skip
  refine m_aload_n dX8_laysRows_45 rfl ?_
  refine m_getfield dX8_laysRows_46 fl_X8_54 (by first | assumption | rfl | exact y1 _ | exact y2 _ | exact y3 _ | exact va_up_self _ _ _) (by first | assumption | rfl | exact y1 _ | exact y2 _ | exact y3 _ | exact va_up_self _ _ _) ?_
  show mW _ _ _ _ _ _ _ _ (.ref _ :: _)
  refine m_iload_n dX8_laysRows_49 rfl ?_
  refine m_iload_n dX8_laysRows_50 rfl ?_
  refine m_iload_n dX8_laysRows_51 rfl ?_
  refine m_iadd dX8_laysRows_52 ?_
  refine m_ci (v := nI (4 + d)) (by exact nI_add 4 d) ?_
  refine m_iload_n dX8_laysRows_53 rfl ?_
  refine m_iadd dX8_laysRows_54 ?_
  refine m_ci (v := nI (4 + d + 1)) (by exact nI_add (4 + d) 1) ?_
  refine m_iconst (v := 2) dX8_laysRows_55 (by decide) ?_
  refine m_irem dX8_laysRows_56 (by decide) ?_
  refine m_ci (v := nI ((4 + d + 1) % 2)) (nI_rem (b := 2) (by omega) (by decide)) ?_
  refine m_ternN_L (J := 70) (x := 0) (y := (P 4)) (m_if_ne (t := 69) dX8_laysRows_57 (by decide)) (fun k9 => ?_) (fun k9 => ?_) ?_
  · refine m_lconst (v := 0) dX8_laysRows_69 (by decide) ?_
    exact k9
  · refine m_aload_n dX8_laysRows_60 rfl ?_
    refine m_getfield dX8_laysRows_61 fl_X8_39 (by first | assumption | rfl | exact y1 _ | exact y2 _ | exact y3 _ | exact va_up_self _ _ _) (by first | assumption | rfl | exact y1 _ | exact y2 _ | exact y3 _ | exact va_up_self _ _ _) ?_
    show mW _ _ _ _ _ _ _ _ (.ref _ :: _)
    refine m_iload_n dX8_laysRows_64 rfl ?_
    refine m_laload (k := 4) dX8_laysRows_65 (by first | assumption | rfl | exact y1 _ | exact y2 _ | exact y3 _ | exact va_up_self _ _ _) ⟨by decide, by decide⟩ ?_
    refine m_goto (t := 70) dX8_laysRows_66 (by decide) ?_
    exact k9
  refine m_cl (v := lZ ((halfZ z (1 - d % 2)) 4)) (half_1 (hP 4 (by decide))) ?_
  refine m_lastore (k := 4) dX8_laysRows_70 (by first | assumption | rfl | exact y1 _ | exact y2 _ | exact y3 _ | exact va_up_self _ _ _) ⟨by decide, by decide⟩ ?_
  try rw [va_uu]
  refine m_iinc (v := 5) dX8_laysRows_71 rfl (by decide) (by decide) ?_
  show mW _ _ _ _ _ _ 74 [_, _, _, _] _
  refine m_goto (t := 40) dX8_laysRows_74 (by decide) ?_
  refine m_iload_n dX8_laysRows_40 rfl ?_
  refine m_iconst (v := 5) dX8_laysRows_41 (by decide) ?_
  refine m_icmp_ge (t := 77) dX8_laysRows_42 (by decide) (fun _ => ?_) (fun q => absurd (by decide) q)
  have hU : ∀ j, j < 5 → (va_up (va_up (va_up (va_up (va_up U 0 (lZ ((halfZ z (1 - d % 2)) 0))) 1 (lZ ((halfZ z (1 - d % 2)) 1))) 2 (lZ ((halfZ z (1 - d % 2)) 2))) 3 (lZ ((halfZ z (1 - d % 2)) 3))) 4 (lZ ((halfZ z (1 - d % 2)) 4))) j = lZ ((halfZ z (1 - d % 2)) j) := fun j hj => (by rcases lt5 hj with rfl | rfl | rfl | rfl | rfl <;> rfl)
  have hbH : ∀ j, j < 5 → bdZ ((halfZ z (1 - d % 2)) j) := fun j hj => halfZ_bd (hb j hj)
  refine m_aload_n dX8_laysRows_77 rfl ?_
  refine m_getfield dX8_laysRows_78 fl_X8_54 (by first | assumption | rfl | exact y1 _ | exact y2 _ | exact y3 _ | exact va_up_self _ _ _) (by first | assumption | rfl | exact y1 _ | exact y2 _ | exact y3 _ | exact va_up_self _ _ _) ?_
  show mW _ _ _ _ _ _ _ _ (.ref _ :: _)
  refine m_iconst (v := 0) dX8_laysRows_81 (by decide) ?_
  refine m_invS_I dX8_laysRows_82 lk_X8_118 ar_X8_degree (t_X8_degree (at_ := 0) (va_up_self _ _ _) (by decide) (by decide)) rfl (Nat.le_of_ble_eq_true rfl) (by decide) (by decide) (by decide) (by decide) rfl rfl ?_
  try rw [va_uu]
  refine m_ci (v := orN (dgZ (halfZ z (1 - d % 2)))) (by rw [deg5_Z (z := (halfZ z (1 - d % 2))) (fun j hj => by rw [Nat.zero_add]; exact hU j hj) hbH]) ?_
  refine m_bipush (v := -4) dX8_laysRows_85 (by decide) ?_
  refine m_icmp_eq (t := 94) dX8_laysRows_87 (by decide) (fun c87 => ?_) (fun c87 => ?_)
  · refine m_iinc (v := 2) dX8_laysRows_94 rfl (by decide) (by decide) ?_
    show mW _ _ _ _ _ _ 97 [_, _, _, _] _
    refine m_goto (t := 27) dX8_laysRows_97 (by decide) ?_
    exact hk9 _ R _ q (y1 _) (y3 _) (va_up_self _ _ _) (fun x a b c => va_up_ne _ _ c) (Or.inl ⟨orN_4.mp c87, rfl, rfl⟩)
  refine m_aload_n dX8_laysRows_90 rfl ?_
  refine m_invV_V dX8_laysRows_91 lk_X8_186 ar_X8_addsRow (ci := 8) rfl rfl (by first | assumption | rfl | exact y1 _ | exact y2 _ | exact y3 _ | exact va_up_self _ _ _) (t_X8_addsRow (y1 _) (y3 _) (va_up_self _ _ _) hq) rfl (Nat.le_of_ble_eq_true rfl) (by decide) (by decide) (by decide) (by decide) rfl rfl ?_
  try rw [va_uu]
  refine m_iinc (v := 2) dX8_laysRows_94 rfl (by decide) (by decide) ?_
  show mW _ _ _ _ _ _ 97 [_, _, _, _] _
  refine m_goto (t := 27) dX8_laysRows_97 (by decide) ?_
  exact hk9 _ _ _ (q + 1) (va_up_self _ _ _) ((va_up_ne _ _ (by decide)).trans (va_up_self _ _ _)) ((va_up_ne _ _ (by decide)).trans ((va_up_ne _ _ (by decide)).trans (va_up_self _ _ _))) (fun x a b c => by rw [va_up_ne _ _ a, va_up_ne _ _ b, va_up_ne _ _ c]) (Or.inr ⟨fun y => c87 (orN_4.mpr y), rfl, fun j hj => (adR_at hj).trans (hU j hj), fun x hx => adR_lt hx⟩)

