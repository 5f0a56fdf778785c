/-! ===== the small machine: handles instead of addresses, a heap that is a function of handles ===== -/
def TB : List Cond := lw_tbl.filter goodWord
theorem tb_of {w : Cond} (h : w ∈ lw_tbl) (g : goodWord w = true) : w ∈ TB := List.mem_filter.mpr ⟨h, g⟩
theorem tb_in {w : Cond} (h : w ∈ TB) : w ∈ lw_tbl := (List.mem_filter.mp h).1
theorem tb_good {w : Cond} (h : w ∈ TB) : (w.onTables && w.keeps) = true ∨ ∃ ty, w = .arrayClass ty := good_of_word (List.mem_filter.mp h).2
abbrev mE : Type := (FieldType × vp_A) ⊕ (Nat × (Nat → Value))
abbrev mHp : Type := Nat → mE
/-- an array of ints, of longs, of bytes, of references -/
abbrev eI (n : Nat) (f : Nat → Int32) : mE := .inl (.int, n, .inl f)
abbrev eB (n : Nat) (f : Nat → Int32) : mE := .inl (.byte, n, .inl f)
abbrev eL (n : Nat) (f : Nat → Int64) : mE := .inl (.long, n, .inr (.inl f))
abbrev eR (ty : FieldType) (n : Nat) (f : Nat → Option Nat) : mE := .inl (ty, n, .inr (.inr (.inr (.inr f))))
abbrev eO (ci : Nat) (f : Nat → Value) : mE := .inr (ci, f)
/-- handles from here on stand for cells that are not the system's: the script, a static array -/
def mSC : Nat := 1000000
def mJ : mE := .inr (99, fun _ => .null)
def mv (ad : Nat → Nat) (v : Value) : Value := match v with
  | .ref h => .ref (ad h)
  | w => w
def mA (ad : Nat → Nat) (a : vp_A) : vp_A := match a with
  | (n, .inr (.inr (.inr (.inr f)))) => (n, .inr (.inr (.inr (.inr (fun i => (f i).map ad)))))
  | b => b
def mN (ci : Nat) : Nat := match vwCl[ci]? with
  | some q => q.2.2
  | none => 0
def mcell (dA : FieldType → ClassId) (ad : Nat → Nat) (c : mE) : va_E := match c with
  | .inl a => .inl (dA a.1, mA ad a.2)
  | .inr o => .inr (o.1, (List.range (mN o.1)).map fun k => mv ad (o.2 k))
def mws (dA : FieldType → ClassId) (ad : Nat → Nat) (n : Nat) (hp : mHp) : va_W := (List.range n).map fun h => (ad h, mcell dA ad (hp h))
theorem mws_at {dA : FieldType → ClassId} {ad : Nat → Nat} {n : Nat} {hp : mHp} {h : Nat} (hl : h < n) : (mws dA ad n hp)[h]? = some (ad h, mcell dA ad (hp h)) := by
  unfold mws
  rw [List.getElem?_map, List.getElem?_range hl]
  rfl
theorem mws_no {dA : FieldType → ClassId} {ad : Nat → Nat} {n : Nat} {hp : mHp} {h : Nat} (hl : ¬ h < n) : (mws dA ad n hp)[h]? = none := by
  apply List.getElem?_eq_none
  unfold mws
  rw [List.length_map, List.length_range]
  omega
theorem mws_len {dA : FieldType → ClassId} {ad : Nat → Nat} {n : Nat} {hp : mHp} : (mws dA ad n hp).length = n := by
  unfold mws
  rw [List.length_map, List.length_range]
theorem mws_set {dA : FieldType → ClassId} {ad : Nat → Nat} {n : Nat} {hp : mHp} {h : Nat} {c : mE} : (mws dA ad n hp).set h (ad h, mcell dA ad c) = mws dA ad n (va_up hp h c) := by
  apply List.ext_getElem?
  intro i
  rw [List.getElem?_set, mws_len]
  by_cases hi : i < n
  · rw [mws_at hi, mws_at hi]
    by_cases e : h = i
    · subst e
      rw [if_pos rfl, if_pos hi, va_up_self]
    · rw [if_neg e, va_up_ne _ _ (fun q => e q.symm)]
  · rw [mws_no hi, mws_no hi]
    by_cases e : h = i
    · subst e
      rw [if_pos rfl, if_neg hi]
    · rw [if_neg e]
theorem mws_push {dA : FieldType → ClassId} {ad : Nat → Nat} {n : Nat} {hp : mHp} {c : mE} : mws dA ad n hp ++ [(ad n, mcell dA ad c)] = mws dA ad (n + 1) (va_up hp n c) := by
  unfold mws
  rw [List.range_succ, List.map_append]
  congr 1
  · apply List.map_congr_left
    intro a ha
    rw [va_up_ne _ _ (Nat.ne_of_lt (List.mem_range.mp ha))]
  · rw [List.map_singleton, va_up_self]
abbrev mK : Type := (Program × Launch × Env × Room × State × MethodId) × (Array Value × List Frame × Method × Code) × (va_G × (FieldType → ClassId) × (Nat → Nat) × Nat) × (State → Prop)
/-- a method: its class, name, code, locals, what it returns; its level, how many cells and slots it makes -/
abbrev MD : Type := String × MethodName × ByteArray × Nat × Option FieldType × Nat × Nat × Nat
abbrev dOwn (M : MD) : String := M.1
abbrev dY (M : MD) : MethodName := M.2.1
abbrev dC (M : MD) : ByteArray := M.2.2.1
abbrev dL (M : MD) : Nat := M.2.2.2.1
abbrev dR (M : MD) : Option FieldType := M.2.2.2.2.1
abbrev dV (M : MD) : Nat := M.2.2.2.2.2.1
abbrev dMc (M : MD) : Nat := M.2.2.2.2.2.2.1
abbrev dMs (M : MD) : Nat := M.2.2.2.2.2.2.2
def mRm (v mc ms : Nat) : Room := { frames := v, cells := mc, slots := ms, locals := 40 * v }
/-- the static array's places -/
def mCS : List Int32 := [-1, -1, 1, 1, -1, 1, 1, -1, -1, 1, -1, 1, 1, -1, -1, 1, -1, -1, 1, 1]
abbrev tyS : FieldType := .object "LoopJudge$Setting"
abbrev tyJJ : FieldType := .array .long
abbrev mty (dA : FieldType → ClassId) : List (ClassId × FieldType) := [(dA .int, .int), (dA .long, .long), (dA .byte, .byte), (dA tyJJ, tyJJ), (dA tyS, tyS)]
abbrev mAc (base : Nat) : Nat → Prop := fun q => base ≤ q
def mAOA (U : State) : Prop := (Cond.arrayOver (.array .long)).before #[] U = true
/-- words that are not among the tables' good ones, and the static array -/
def mEnv (ad : Nat → Nat) (base : Nat) (U : State) (H : Heap) : Prop :=
  (va_Nw (.methodLinkNest RX0 24 yX7_degreeOf RX7) U ∧ va_Nw (.methodLinkNest RX0 59 yX7_commonDivisor RX7) U ∧ va_Nw (.methodLinkNest RX1 42 yX7_degreeOf RX7) U ∧ va_Nw (.methodLinkNest RX4 37 yX7_isPart RX7) U) ∧ va_AO "LoopJudge$Setting" U ∧ mAOA U ∧
  va_Z "LoopJudge" "CORNER_SIDES" "[I" (.ref (ad (mSC + 1))) (mAc base) U H ∧ va_T .int (ad (mSC + 1)) 20 (fun j => .int (mCS.getD j 0)) (mAc base) U H
def mOk (K : mK) (M : MD) : Prop :=
  K.1.1.tables.exec = Jvm.exec ∧ K.2.1.2.2.2.code = dC M ∧ K.2.1.2.2.2.maxLocals = dL M ∧ K.1.2.2.2.2.1.vm.findClass (dOwn M) = some K.1.2.2.2.2.2.cls ∧ (∀ w ∈ TB, w.before K.2.1.1 K.1.2.2.2.2.1 = true) ∧
  va_K K.2.2.1.1 vwCl (mty K.2.2.1.2.1) K.1.2.2.2.2.1 ∧ K.2.2.1.2.2.2 ≤ K.1.2.2.2.2.1.heap.size ∧ (∀ h, h < mSC → K.2.2.1.2.2.1 h = K.2.2.1.2.2.2 + h) ∧ mEnv K.2.2.1.2.2.1 K.2.2.1.2.2.2 K.1.2.2.2.2.1 K.1.2.2.2.2.1.heap ∧ K.1.2.2.2.1 = mRm (dV M) (dMc M) (dMs M)
def mRel (K : mK) (cs n : Nat) (hp : mHp) (H : Heap) (locs : List Loc) : Prop :=
  va_P K.2.2.1.1 vwCl (mws K.2.2.1.2.1 K.2.2.1.2.2.1 n hp) H ∧ K.2.2.1.2.2.2 + n = K.1.2.2.2.2.1.heap.size + cs ∧ va_S (mAc K.2.2.1.2.2.2) K.1.2.2.2.2.1.heap H locs ∧ (∀ h, n ≤ h → hp h = mJ) ∧ n ≤ mSC
/-- the known locals: what isn't known is a .retAddr -/
def mlv (ad : Nat → Nat) (lv : List Value) : List (Nat × Value) := lv.zipIdx.filterMap fun q => match q.1 with
  | .retAddr _ => none
  | v => some (q.2, mv ad v)
def mW (K : mK) (M : MD) (cells slots n : Nat) (hp : mHp) (pc : Nat) (lv st : List Value) : Prop :=
  mOk K M → ∀ (H : Heap) (locs : List Loc) (ls : Array Slot), mRel K cells n hp H locs → lv_has ls (dL M) (mlv K.2.2.1.2.2.1 lv) →
    W K.1.1 K.1.2.1 K.1.2.2.1 K.1.2.2.2.1 K.1.2.2.2.2.1 K.1.2.2.2.2.2 K.2.1.1 K.2.1.2.1 K.2.1.2.2.1 K.2.1.2.2.2 H locs cells slots K.2.2.2 (F0 K.1.2.2.2.2.2 pc ls (st.map (mv K.2.2.1.2.2.1)))
theorem mlv_mem {ad : Nat → Nat} {lv : List Value} {i : Nat} {v : Value} (h : lv[i]? = some v) (hv : ∀ k, v ≠ .retAddr k) : (i, mv ad v) ∈ mlv ad lv := by
  unfold mlv
  refine List.mem_filterMap.mpr ⟨(v, i), List.mem_of_getElem? (i := i) ?_, ?_⟩
  · rw [List.getElem?_zipIdx, h]
    simp
  · cases v <;> first | rfl | exact absurd rfl (hv _)
theorem mlv_of {ad : Nat → Nat} {lv : List Value} {i : Nat} {w : Value} (h : (i, w) ∈ mlv ad lv) : ∃ v, lv[i]? = some v ∧ (∀ k, v ≠ .retAddr k) ∧ w = mv ad v := by
  unfold mlv at h
  obtain ⟨⟨v, j⟩, h1, h2⟩ := List.mem_filterMap.mp h
  obtain ⟨k, hk⟩ := List.getElem?_of_mem h1
  rw [List.getElem?_zipIdx] at hk
  cases hv : lv[k]? with
  | none => rw [hv] at hk; cases hk
  | some u =>
    rw [hv] at hk
    simp at hk
    obtain ⟨rfl, rfl⟩ := hk
    cases u <;> first | (simp at h2; obtain ⟨rfl, rfl⟩ := h2; exact ⟨_, hv, fun k q => (by cases q), rfl⟩) | (simp at h2)
theorem mls_at {ad : Nat → Nat} {nL : Nat} {ls : Array Slot} {lv : List Value} (h : lv_has ls nL (mlv ad lv)) {i : Nat} {v : Value} (hv : lv[i]? = some v) (hn : ∀ k, v ≠ .retAddr k) : ls[i]? = some (.val (mv ad v)) := h.2.2 _ (mlv_mem hv hn)
/-- a store: an older long's first half is lost where its second one is written -/
def mst (lv : List Value) (i : Nat) (v : Value) : List Value := match i with
  | 0 => lv.set 0 v
  | k + 1 => match lv[k]? with
    | some (.long _) => (lv.set (k + 1) v).set k (.retAddr 0)
    | some (.double _) => (lv.set (k + 1) v).set k (.retAddr 0)
    | _ => lv.set (k + 1) v
def mst2 (lv : List Value) (i : Nat) (v : Value) : List Value := (mst lv i v).set (i + 1) (.retAddr 0)
theorem mv_cat (ad : Nat → Nat) (v : Value) : (mv ad v).category = v.category := by cases v <;> rfl
theorem mst_get {lv : List Value} {i : Nat} {v u : Value} {j : Nat} (h : (mst lv i v)[j]? = some u) (hu : ∀ k, u ≠ .retAddr k) : (j = i ∧ u = v) ∨ (j ≠ i ∧ lv[j]? = some u ∧ ¬ (j + 1 = i ∧ u.category = 2)) := by
  unfold mst at h
  cases i with
  | zero =>
    dsimp only at h
    rw [List.getElem?_set] at h
    by_cases e : 0 = j
    · rw [if_pos e] at h
      split at h
      · exact Or.inl ⟨e.symm, (Option.some.inj h).symm⟩
      · cases h
    · rw [if_neg e] at h
      exact Or.inr ⟨fun q => e q.symm, h, fun q => by omega⟩
  | succ k =>
    dsimp only at h
    have base : ∀ z : Option Value, (lv.set (k + 1) v)[j]? = some u → lv[k]? = z → (∀ x, z = some x → x.category ≠ 2) → (j = k + 1 ∧ u = v) ∨ (j ≠ k + 1 ∧ lv[j]? = some u ∧ ¬ (j + 1 = k + 1 ∧ u.category = 2)) := by
      intro z h0 hz hc
      rw [List.getElem?_set] at h0
      by_cases e : k + 1 = j
      · rw [if_pos e] at h0
        split at h0
        · exact Or.inl ⟨e.symm, (Option.some.inj h0).symm⟩
        · cases h0
      · rw [if_neg e] at h0
        refine Or.inr ⟨fun q => e q.symm, h0, fun q => ?_⟩
        have e2 : j = k := by omega
        rw [e2] at h0
        exact hc u (by rw [← hz, h0]) q.2
    have two : ((lv.set (k + 1) v).set k (.retAddr 0))[j]? = some u → (j = k + 1 ∧ u = v) ∨ (j ≠ k + 1 ∧ lv[j]? = some u ∧ ¬ (j + 1 = k + 1 ∧ u.category = 2)) := by
      intro h0
      rw [List.getElem?_set] at h0
      by_cases e : k = j
      · rw [if_pos e] at h0
        split at h0
        · exact absurd (Option.some.inj h0).symm (hu 0)
        · cases h0
      · rw [if_neg e, List.getElem?_set] at h0
        by_cases e1 : k + 1 = j
        · rw [if_pos e1] at h0
          split at h0
          · exact Or.inl ⟨e1.symm, (Option.some.inj h0).symm⟩
          · cases h0
        · rw [if_neg e1] at h0
          exact Or.inr ⟨fun q => e1 q.symm, h0, fun q => by omega⟩
    cases hz : lv[k]? with
    | none =>
      rw [hz] at h
      exact base _ h hz (fun x q => by cases q)
    | some z =>
      rw [hz] at h
      cases z with
      | long _ => exact two h
      | double _ => exact two h
      | int _ => exact base _ h hz (fun x q => by cases q; simp [Value.category])
      | float _ => exact base _ h hz (fun x q => by cases q; simp [Value.category])
      | null => exact base _ h hz (fun x q => by cases q; simp [Value.category])
      | ref _ => exact base _ h hz (fun x q => by cases q; simp [Value.category])
      | retAddr _ => exact base _ h hz (fun x q => by cases q; simp [Value.category])
theorem mls_st {ad : Nat → Nat} {nL i : Nat} {ls : Array Slot} {lv : List Value} {v : Value} (h : lv_has ls nL ((i, mv ad v) :: (mlv ad lv).filter (fun q => !(q.1 == i) && !(q.1 + 1 == i && q.2.category == 2)))) : lv_has ls nL (mlv ad (mst lv i v)) := by
  refine ⟨h.1, h.2.1, fun q hq => h.2.2 q ?_⟩
  obtain ⟨j, w⟩ := q
  obtain ⟨u, h1, h2, rfl⟩ := mlv_of hq
  rcases mst_get h1 h2 with ⟨rfl, rfl⟩ | ⟨hj, h3, h4⟩
  · exact List.mem_cons_self
  · refine List.mem_cons_of_mem _ (List.mem_filter.mpr ⟨mlv_mem h3 h2, ?_⟩)
    rw [mv_cat]
    simp only [Bool.and_eq_true, Bool.not_eq_true', beq_eq_false_iff_ne, ne_eq, Bool.and_eq_false_iff]
    refine ⟨hj, ?_⟩
    by_cases e : j + 1 = i
    · exact Or.inr (fun q => h4 ⟨e, q⟩)
    · exact Or.inl e
theorem mls_st2 {ad : Nat → Nat} {nL i : Nat} {ls : Array Slot} {lv : List Value} {v : Value} (h : lv_has ls nL ((i, mv ad v) :: (mlv ad lv).filter (fun q => !(q.1 == i) && (!(q.1 == i + 1) && !(q.1 + 1 == i && q.2.category == 2))))) : lv_has ls nL (mlv ad (mst2 lv i v)) := by
  refine ⟨h.1, h.2.1, fun q hq => h.2.2 q ?_⟩
  obtain ⟨j, w⟩ := q
  obtain ⟨u, h1, h2, rfl⟩ := mlv_of hq
  unfold mst2 at h1
  rw [List.getElem?_set] at h1
  by_cases e1 : i + 1 = j
  · rw [if_pos e1] at h1
    split at h1
    · exact absurd (Option.some.inj h1).symm (h2 0)
    · cases h1
  · rw [if_neg e1] at h1
    rcases mst_get h1 h2 with ⟨rfl, rfl⟩ | ⟨hj, h3, h4⟩
    · exact List.mem_cons_self
    · refine List.mem_cons_of_mem _ (List.mem_filter.mpr ⟨mlv_mem h3 h2, ?_⟩)
      rw [mv_cat]
      simp only [Bool.and_eq_true, Bool.not_eq_true', beq_eq_false_iff_ne, ne_eq, Bool.and_eq_false_iff]
      refine ⟨hj, fun q => e1 q.symm, ?_⟩
      by_cases e : j + 1 = i
      · exact Or.inr (fun q => h4 ⟨e, q⟩)
      · exact Or.inl e
