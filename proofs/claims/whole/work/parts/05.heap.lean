/-! ===== rules that read and write cells ===== -/
theorem vwCl_99 : vwCl[99]? = none := rfl
theorem mN_of {ci : Nat} {q : vw_C} (h : vwCl[ci]? = some q) : mN ci = q.2.2 := by
  unfold mN
  rw [h]
theorem mlt_a {K : mK} {cs n : Nat} {hp : mHp} {H : Heap} {locs : List Loc} (hR : mRel K cs n hp H locs) {h : Nat} {a : FieldType × vp_A} (hc : hp h = .inl a) : h < n := by
  rcases Nat.lt_or_ge h n with q | q
  · exact q
  · rw [hR.2.2.2.1 h q] at hc
    cases hc
theorem mlt_o {K : mK} {cs n : Nat} {hp : mHp} {H : Heap} {locs : List Loc} (hR : mRel K cs n hp H locs) {h : Nat} {ci : Nat} {f : Nat → Value} (hc : hp h = .inr (ci, f)) {q : vw_C} (hq : vwCl[ci]? = some q) : h < n := by
  rcases Nat.lt_or_ge h n with z | z
  · exact z
  · rw [hR.2.2.2.1 h z] at hc
    have e : ci = 99 := by
      unfold mJ at hc
      have := Sum.inr.inj hc
      exact (congrArg Prod.fst this).symm
    rw [e, vwCl_99] at hq
    cases hq
theorem m_apart {dA : FieldType → ClassId} {ad : Nat → Nat} {n base : Nat} {hp : mHp} (had : ∀ h, h < mSC → ad h = base + h) (hn : n ≤ mSC) : va_D (mAc base) (mws dA ad n hp) := by
  refine ⟨fun i j p q hi hj e => ?_, fun k q hk => ?_⟩
  · by_cases h1 : i < n
    · by_cases h2 : j < n
      · rw [mws_at h1] at hi
        rw [mws_at h2] at hj
        cases hi
        cases hj
        have e : ad i = ad j := e
        rw [had i (by omega), had j (by omega)] at e
        omega
      · rw [mws_no h2] at hj
        cases hj
    · rw [mws_no h1] at hi
      cases hi
  · by_cases h1 : k < n
    · rw [mws_at h1] at hk
      cases hk
      show base ≤ ad k
      rw [had k (by omega)]
      omega
    · rw [mws_no h1] at hk
      cases hk
theorem range_set {α : Type} {N k : Nat} {g : Nat → α} {x : α} : ((List.range N).map g).set k x = (List.range N).map (va_up g k x) := by
  apply List.ext_getElem?
  intro i
  rw [List.getElem?_set, List.length_map, List.length_range, List.getElem?_map, List.getElem?_map]
  by_cases hi : i < N
  · rw [List.getElem?_range hi]
    by_cases e : k = i
    · subst e
      rw [if_pos rfl, if_pos hi]
      simp [va_up_self]
    · rw [if_neg e]
      simp [va_up_ne _ _ (fun q => e q.symm : ¬ i = k)]
  · have h0 : (List.range N)[i]? = none := List.getElem?_eq_none (by rw [List.length_range]; omega)
    rw [h0]
    by_cases e : k = i
    · subst e
      rw [if_pos rfl, if_neg hi]
      rfl
    · rw [if_neg e]
      rfl
theorem mv_up {ad : Nat → Nat} {f : Nat → Value} {k : Nat} {v : Value} : (fun j => mv ad (va_up f k v j)) = va_up (fun j => mv ad (f j)) k (mv ad v) := by
  funext j
  by_cases e : j = k
  · subst e
    rw [va_up_self, va_up_self]
  · rw [va_up_ne _ _ e, va_up_ne _ _ e]
/-- what a field's entry in the pool says -/
def mFL (own : String) (ix ci k : Nat) (ty : FieldType) (fin : Bool) : Prop := ∃ (C : String) (T : u_T) (N : Nat) (tys : Nat → FieldType), vwCl[ci]? = some (C, T, N) ∧ k < N ∧ (∀ w ∈ u_ws C T N, w ∈ TB) ∧ Cond.fieldLink own ix (T k).1 (T k).2.1 (T k).2.2.1 ∈ TB ∧ (∀ k, k < N → parseFieldDescriptor (T k).2.2.1 = some (tys k)) ∧ (∀ a, a < N → ∀ b, b < N → a ≠ b → (T a).2.1 ≠ (T b).2.1) ∧ tys k = ty ∧ (T k).2.2.2 = fin
def mFD (own : String) (ci k : Nat) : Prop := ∃ (C : String) (T : u_T) (N : Nat), vwCl[ci]? = some (C, T, N) ∧ (T k).1 = own
/-- an index: its number, within the length -/
def mIx (i : Int32) (k len : Nat) : Prop := i.toInt = (k : Int) ∧ k < len
theorem mIx.nn {i : Int32} {k len : Nat} (h : mIx i k len) : ¬ i < 0 := by
  rw [Int32.lt_iff_toInt_lt, h.1, Int32.toInt_zero]
  omega
theorem mIx.cl {i : Int32} {k len : Nat} (h : mIx i k len) : i.toNatClampNeg = k := by
  have : i.toNatClampNeg = i.toInt.toNat := rfl
  rw [this, h.1]
  rfl
theorem mIx.vp {i : Int32} {k len : Nat} (h : mIx i k len) : vp_in i len := by
  intro q
  rcases q with q | q
  · exact h.nn q
  · rw [h.cl] at q
    exact absurd h.2 (by omega)
section MH
variable {K : mK} {M : MD} {cs sl n : Nat} {hp : mHp} {pc : Nat} {lv st : List Value}
theorem m_getfield {ix ci k h : Nat} {ty : FieldType} {fin : Bool} {f : Nat → Value} {v : Value} (hd : decode (dC M) pc = .ok (.getfield ix, 3)) (hl : mFL (dOwn M) ix ci k ty fin) (hc : hp h = .inr (ci, f)) (hv : f k = v) (kk : mW K M cs sl n hp (pc + 3) lv (v :: st)) : mW K M cs sl n hp pc lv (.ref h :: st) := fun hk H locs ls hR hlv => by
  obtain ⟨C, T, N, tys, h1, h2, h3, h4, -⟩ := hl
  have hh : h < n := mlt_o hR hc h1
  refine va_get hk.1 hk.2.1 hk.2.2.2.2.1 h3 hk.2.2.2.1 hk.2.2.2.2.2.1 hR.1 h (fs := (List.range (mN ci)).map fun k => mv K.2.2.1.2.2.1 (f k)) (by rw [mws_at hh, hc]; rfl) h1 k h2 (hk.2.2.2.2.1 _ h4) (fun _ q => q) (v := mv K.2.2.1.2.2.1 v) ?_ hd (kk hk H locs ls hR hlv)
  rw [List.getElem?_map, List.getElem?_range (by rw [mN_of h1]; exact h2)]
  simp [hv]
theorem mRel.up {H1 : Heap} {locs1 : List Loc} {H : Heap} {locs : List Loc} (hR : mRel K cs n hp H locs) {h : Nat} {c : mE} (hh : h < n) (hP : va_P K.2.2.1.1 vwCl ((mws K.2.2.1.2.1 K.2.2.1.2.2.1 n hp).set h (K.2.2.1.2.2.1 h, mcell K.2.2.1.2.1 K.2.2.1.2.2.1 c)) H1) (hS : va_S (mAc K.2.2.1.2.2.2) K.1.2.2.2.2.1.heap H1 locs1) : mRel K cs n (va_up hp h c) H1 locs1 := by
  rw [mws_set] at hP
  exact ⟨hP, hR.2.1, hS, fun q hq => by rw [va_up_ne _ _ (by omega)]; exact hR.2.2.2.1 q hq, hR.2.2.2.2⟩
theorem m_putfield {ix ci k h : Nat} {ty : FieldType} {f : Nat → Value} {v : Value} (hd : decode (dC M) pc = .ok (.putfield ix, 3)) (hl : mFL (dOwn M) ix ci k ty false) (hc : hp h = .inr (ci, f)) (hn : ∀ ad, narrow ty (mv ad v) = mv ad v) (hf : ∀ ad, fits ty (mv ad v) = true) (kk : mW K M cs sl n (va_up hp h (.inr (ci, va_up f k v))) (pc + 3) lv st) : mW K M cs sl n hp pc lv (v :: .ref h :: st) := fun hk H locs ls hR hlv => by
  obtain ⟨C, T, N, tys, h1, h2, h3, h4, h5, h6, h7, h8⟩ := hl
  have hh : h < n := mlt_o hR hc h1
  refine va_put hk.1 hk.2.1 hk.2.2.2.2.1 h3 tys h5 h6 hk.2.2.2.1 hk.2.2.2.2.2.1 hR.1 (m_apart hk.2.2.2.2.2.2.2.1 hR.2.2.2.2) hR.2.2.1 h (fs := (List.range (mN ci)).map fun k => mv K.2.2.1.2.2.1 (f k)) (by rw [mws_at hh, hc]; rfl) h1 k h2 (hk.2.2.2.2.1 _ h4) (fun _ q => q) h8 (ty := ty) (by rw [h5 k h2, h7]) (hn _) (hf _) (by rw [List.length_map, List.length_range, mN_of h1]; exact h2) hd (fun H1 locs1 hP1 hD1 hS1 => ?_)
  refine kk hk H1 locs1 ls (hR.up hh ?_ hS1) hlv
  have e : mcell K.2.2.1.2.1 K.2.2.1.2.2.1 (.inr (ci, va_up f k v)) = .inr (ci, ((List.range (mN ci)).map fun k => mv K.2.2.1.2.2.1 (f k)).set k (mv K.2.2.1.2.2.1 v)) := by
    rw [range_set, ← mv_up]
    rfl
  rw [e]
  exact hP1
theorem m_putfieldF {ix ci k h : Nat} {ty : FieldType} {f : Nat → Value} {v : Value} (hd : decode (dC M) pc = .ok (.putfield ix, 3)) (hl : mFL (dOwn M) ix ci k ty true) (hD : mFD (dOwn M) ci k) (hc : hp h = .inr (ci, f)) (hin : K.2.1.2.2.1.name = "<init>") (hn : ∀ ad, narrow ty (mv ad v) = mv ad v) (hf : ∀ ad, fits ty (mv ad v) = true) (kk : mW K M cs sl n (va_up hp h (.inr (ci, va_up f k v))) (pc + 3) lv st) : mW K M cs sl n hp pc lv (v :: .ref h :: st) := fun hk H locs ls hR hlv => by
  obtain ⟨C, T, N, tys, h1, h2, h3, h4, h5, h6, h7, h8⟩ := hl
  obtain ⟨C', T', N', g1, g2⟩ := hD
  cases h1.symm.trans g1
  have hh : h < n := mlt_o hR hc h1
  refine va_putF hk.1 hk.2.1 hk.2.2.2.2.1 h3 tys h5 h6 hk.2.2.2.1 hk.2.2.2.2.2.1 hR.1 (m_apart hk.2.2.2.2.2.2.2.1 hR.2.2.2.2) hR.2.2.1 h (fs := (List.range (mN ci)).map fun k => mv K.2.2.1.2.2.1 (f k)) (by rw [mws_at hh, hc]; rfl) h1 k h2 (hk.2.2.2.2.1 _ h4) (fun _ q => q) h8 hin g2 (ty := ty) (by rw [h5 k h2, h7]) (hn _) (hf _) (by rw [List.length_map, List.length_range, mN_of h1]; exact h2) hd (fun H1 locs1 hP1 hD1 hS1 => ?_)
  refine kk hk H1 locs1 ls (hR.up hh ?_ hS1) hlv
  have e : mcell K.2.2.1.2.1 K.2.2.1.2.2.1 (.inr (ci, va_up f k v)) = .inr (ci, ((List.range (mN ci)).map fun k => mv K.2.2.1.2.2.1 (f k)).set k (mv K.2.2.1.2.2.1 v)) := by
    rw [range_set, ← mv_up]
    rfl
  rw [e]
  exact hP1
theorem m_iaload {h len k : Nat} {f : Nat → Int32} {i : Int32} (hd : decode (dC M) pc = .ok (.iaload, 1)) (hc : hp h = eI len f) (hi : mIx i k len) (kk : mW K M cs sl n hp (pc + 1) lv (.int (f k) :: st)) : mW K M cs sl n hp pc lv (.int i :: .ref h :: st) := fun hk H locs ls hR hlv => by
  have hh : h < n := mlt_a hR hc
  refine va_iald hk.1 hk.2.1 hk.2.2.2.2.2.1 hR.1 h 0 (n := len) (f := f) (by rw [mws_at hh, hc]; rfl) rfl hi.vp hd ?_
  rw [hi.cl]
  exact kk hk H locs ls hR hlv
theorem m_baload {h len k : Nat} {f : Nat → Int32} {i : Int32} (hd : decode (dC M) pc = .ok (.baload, 1)) (hc : hp h = eB len f) (hi : mIx i k len) (kk : mW K M cs sl n hp (pc + 1) lv (.int (f k) :: st)) : mW K M cs sl n hp pc lv (.int i :: .ref h :: st) := fun hk H locs ls hR hlv => by
  have hh : h < n := mlt_a hR hc
  refine va_bald hk.1 hk.2.1 hk.2.2.2.2.2.1 hR.1 h 2 (n := len) (f := f) (by rw [mws_at hh, hc]; rfl) rfl hi.vp hd ?_
  rw [hi.cl]
  exact kk hk H locs ls hR hlv
theorem m_laload {h len k : Nat} {f : Nat → Int64} {i : Int32} (hd : decode (dC M) pc = .ok (.laload, 1)) (hc : hp h = eL len f) (hi : mIx i k len) (kk : mW K M cs sl n hp (pc + 1) lv (.long (f k) :: st)) : mW K M cs sl n hp pc lv (.int i :: .ref h :: st) := fun hk H locs ls hR hlv => by
  have hh : h < n := mlt_a hR hc
  refine va_lald hk.1 hk.2.1 hk.2.2.2.2.2.1 hR.1 h 1 (n := len) (f := f) (by rw [mws_at hh, hc]; rfl) rfl hi.vp hd ?_
  rw [hi.cl]
  exact kk hk H locs ls hR hlv
theorem m_iastore {h len k : Nat} {f : Nat → Int32} {i x : Int32} (hd : decode (dC M) pc = .ok (.iastore, 1)) (hc : hp h = eI len f) (hi : mIx i k len) (kk : mW K M cs sl n (va_up hp h (eI len (va_up f k x))) (pc + 1) lv st) : mW K M cs sl n hp pc lv (.int x :: .int i :: .ref h :: st) := fun hk H locs ls hR hlv => by
  have hh : h < n := mlt_a hR hc
  refine va_iast hk.1 hk.2.1 hk.2.2.2.2.2.1 hR.1 (m_apart hk.2.2.2.2.2.2.2.1 hR.2.2.2.2) hR.2.2.1 h 0 (n := len) (f := f) (by rw [mws_at hh, hc]; rfl) rfl hi.vp hd (fun H1 locs1 hP1 hD1 hS1 => ?_)
  rw [hi.cl] at hP1
  exact kk hk H1 locs1 ls (hR.up hh hP1 hS1) hlv
theorem m_bastore {h len k : Nat} {f : Nat → Int32} {i x : Int32} (hd : decode (dC M) pc = .ok (.bastore, 1)) (hc : hp h = eB len f) (hi : mIx i k len) (kk : mW K M cs sl n (va_up hp h (eB len (va_up f k (vp_nar .byte x)))) (pc + 1) lv st) : mW K M cs sl n hp pc lv (.int x :: .int i :: .ref h :: st) := fun hk H locs ls hR hlv => by
  have hh : h < n := mlt_a hR hc
  refine va_bast hk.1 hk.2.1 hk.2.2.2.2.2.1 hR.1 (m_apart hk.2.2.2.2.2.2.2.1 hR.2.2.2.2) hR.2.2.1 h 2 (n := len) (f := f) (by rw [mws_at hh, hc]; rfl) rfl hi.vp hd (fun H1 locs1 hP1 hD1 hS1 => ?_)
  rw [hi.cl] at hP1
  exact kk hk H1 locs1 ls (hR.up hh hP1 hS1) hlv
theorem m_lastore {h len k : Nat} {f : Nat → Int64} {i : Int32} {x : Int64} (hd : decode (dC M) pc = .ok (.lastore, 1)) (hc : hp h = eL len f) (hi : mIx i k len) (kk : mW K M cs sl n (va_up hp h (eL len (va_up f k x))) (pc + 1) lv st) : mW K M cs sl n hp pc lv (.long x :: .int i :: .ref h :: st) := fun hk H locs ls hR hlv => by
  have hh : h < n := mlt_a hR hc
  refine va_last hk.1 hk.2.1 hk.2.2.2.2.2.1 hR.1 (m_apart hk.2.2.2.2.2.2.2.1 hR.2.2.2.2) hR.2.2.1 h 1 (n := len) (f := f) (by rw [mws_at hh, hc]; rfl) rfl hi.vp hd (fun H1 locs1 hP1 hD1 hS1 => ?_)
  rw [hi.cl] at hP1
  exact kk hk H1 locs1 ls (hR.up hh hP1 hS1) hlv
theorem mv_rf {ad : Nat → Nat} (r : Option Nat) : va_rf (r.map ad) = mv ad (va_rf r) := by cases r <;> rfl
/-- a place of an array of objects -/
theorem m_aaload {h len k : Nat} {f : Nat → Option Nat} {i : Int32} {v : Value} (hd : decode (dC M) pc = .ok (.aaload, 1)) (hc : hp h = eR tyS len f) (hi : mIx i k len) (hv : va_rf (f k) = v) (kk : mW K M cs sl n hp (pc + 1) lv (v :: st)) : mW K M cs sl n hp pc lv (.int i :: .ref h :: st) := fun hk H locs ls hR hlv => by
  have hh : h < n := mlt_a hR hc
  refine va_aldq hk.1 hk.2.1 hk.2.2.2.2.2.1 hR.1 h 4 (n := len) (f := fun i => (f i).map K.2.2.1.2.2.1) (C := "LoopJudge$Setting") (by rw [mws_at hh, hc]; rfl) rfl hi.vp hd ?_
  rw [hi.cl, mv_rf, hv]
  exact kk hk H locs ls hR hlv
/-- .. of an array of rows of longs -/
theorem m_aaloadJ {h len k : Nat} {f : Nat → Option Nat} {i : Int32} {v : Value} (hd : decode (dC M) pc = .ok (.aaload, 1)) (hc : hp h = eR tyJJ len f) (hi : mIx i k len) (hv : va_rf (f k) = v) (kk : mW K M cs sl n hp (pc + 1) lv (v :: st)) : mW K M cs sl n hp pc lv (.int i :: .ref h :: st) := fun hk H locs ls hR hlv => by
  have hh : h < n := mlt_a hR hc
  have hcell : H[K.2.2.1.2.2.1 h]? = some (vp_cell (K.2.2.1.2.1 tyJJ) (len, .inr (.inr (.inr (.inr (fun i => (f i).map K.2.2.1.2.2.1)))))) := hR.1 h (K.2.2.1.2.2.1 h, .inl (K.2.2.1.2.1 tyJJ, len, .inr (.inr (.inr (.inr (fun i => (f i).map K.2.2.1.2.2.1)))))) (by rw [mws_at hh, hc]; rfl)
  rw [vp_cell_q] at hcell
  have harr := (hk.2.2.2.2.2.1.2 3 (K.2.2.1.2.1 tyJJ, tyJJ) rfl).1 len (fun j => va_rf ((f j).map K.2.2.1.2.2.1))
  intro T hT X
  obtain ⟨t, a1, b1⟩ := kk hk H locs ls hR hlv T hT X
  refine ⟨t, X.aaload hk.1 (by rw [hT]; exact hcell) harr rfl (fun q => by cases q) (by show ¬ (i < 0 ∨ (arrV _ _ _).slots.size ≤ _); rw [arrV_size]; exact hi.vp) (v := mv K.2.2.1.2.2.1 v) (by rw [hi.cl, arrV_read _ _ hi.2, mv_rf, hv]) rfl rfl (by rw [hk.2.1]; exact hd) t a1, b1⟩
theorem m_aastore {h len k w ci : Nat} {f : Nat → Option Nat} {g : Nat → Value} {i : Int32} (hd : decode (dC M) pc = .ok (.aastore, 1)) (hc : hp h = eR tyS len f) (hi : mIx i k len) (hw : hp w = .inr (3, g)) (kk : mW K M cs sl n (va_up hp h (eR tyS len (va_up f k (some w)))) (pc + 1) lv st) : mW K M cs sl n hp pc lv (.ref w :: .int i :: .ref h :: st) := fun hk H locs ls hR hlv => by
  have hh : h < n := mlt_a hR hc
  have hhw : w < n := mlt_o hR hw (q := (RX3, TX3, 3)) rfl
  refine va_astq hk.1 hk.2.1 hk.2.2.2.2.2.1 hR.1 (m_apart hk.2.2.2.2.2.2.2.1 hR.2.2.2.2) hR.2.2.1 h 4 w 3 (n := len) (f := fun i => (f i).map K.2.2.1.2.2.1) (r := (RX3, TX3, 3)) (vs := (List.range (mN 3)).map fun k => mv K.2.2.1.2.2.1 (g k)) (by rw [mws_at hh, hc]; rfl) rfl (by rw [mws_at hhw, hw]; rfl) rfl hi.vp hd (fun H1 locs1 hP1 hD1 hS1 => ?_)
  rw [hi.cl] at hP1
  refine kk hk H1 locs1 ls (hR.up hh ?_ hS1) hlv
  have e : mcell K.2.2.1.2.1 K.2.2.1.2.2.1 (eR tyS len (va_up f k (some w))) = .inl (K.2.2.1.2.1 tyS, len, .inr (.inr (.inr (.inr (va_up (fun i => (f i).map K.2.2.1.2.2.1) k (some (K.2.2.1.2.2.1 w))))))) := by
    show Sum.inl (K.2.2.1.2.1 tyS, len, Sum.inr (Sum.inr (Sum.inr (Sum.inr (fun i => (va_up f k (some w) i).map K.2.2.1.2.2.1))))) = _
    congr 7
    funext j
    by_cases e : j = k
    · subst e
      rw [va_up_self, va_up_self]
      rfl
    · rw [va_up_ne _ _ e, va_up_ne _ _ e]
  rw [e]
  exact hP1
theorem m_arraylength {h : Nat} {ty : FieldType} {a : vp_A} {t0 : Nat} {v : Int32} (hd : decode (dC M) pc = .ok (.arraylength, 1)) (hc : hp h = .inl (ty, a)) (ht : ∀ dA, (mty dA)[t0]? = some (dA ty, ty)) (hv : Int32.ofNat a.1 = v) (kk : mW K M cs sl n hp (pc + 1) lv (.int v :: st)) : mW K M cs sl n hp pc lv (.ref h :: st) := fun hk H locs ls hR hlv => by
  have hh : h < n := mlt_a hR hc
  refine va_alen hk.1 hk.2.1 hk.2.2.2.2.2.1 hR.1 h t0 (x := mA K.2.2.1.2.2.1 a) (by rw [mws_at hh, hc]; rfl) (ht _) (v := v) ?_ hd (kk hk H locs ls hR hlv)
  rw [← hv]
  congr 1
  unfold mA
  split <;> rfl
theorem m_getstatic {ix : Nat} (hd : decode (dC M) pc = .ok (.getstatic ix, 3)) (hl : Cond.fieldLink (dOwn M) ix "LoopJudge" "CORNER_SIDES" "[I" ∈ TB) (kk : mW K M cs sl n hp (pc + 3) lv (.ref (mSC + 1) :: st)) : mW K M cs sl n hp pc lv st := fun hk H locs ls hR hlv =>
  va_gets hk.1 hk.2.1 hk.2.2.2.2.2.2.2.2.1.2.2.2.1 hR.2.2.1 hk.2.2.2.1 (hk.2.2.2.2.1 _ hl) (fun _ q => q) hd (kk hk H locs ls hR hlv)
theorem m_staload {i : Int32} {k : Nat} (hd : decode (dC M) pc = .ok (.iaload, 1)) (hi : mIx i k 20) (kk : mW K M cs sl n hp (pc + 1) lv (.int (mCS.getD k 0) :: st)) : mW K M cs sl n hp pc lv (.int i :: .ref (mSC + 1) :: st) := fun hk H locs ls hR hlv =>
  va_ti hk.1 hk.2.1 hk.2.2.2.2.2.2.2.2.1.2.2.2.2 hR.2.2.1 hi.vp (v := .int (mCS.getD k 0)) (by rw [hi.cl]) hd (kk hk H locs ls hR hlv)
end MH
