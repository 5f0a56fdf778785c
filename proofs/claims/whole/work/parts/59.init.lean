/-! ===== constructors ===== -/
/-- rows of a new array of arrays of longs -/
def hpM (hp : mHp) (n N N2 : Nat) : mHp := fun q => if q = n then eR tyJJ N (fun i => if i < N then some (n + 1 + i) else none) else if n < q ∧ q ≤ n + N then eL N2 (fun _ => 0) else hp q
/-! new long[N][N2]: the rows are made one by one, each is laid into the outer array at once -/
section
variable {E : CtlPost} {e : Env} {d : Bool} {acts : List Action} {S : State} {cA cB cC : ClassId} {kA kB : Class} {Q : Addr → Pre}
theorem na_wp {ty : FieldType} {len : Nat} {x : Value} (hA : S.vm.classes[cA]? = some kA) (hkA : kA.kind = .array cB ty) (hl : len ≤ e.platform.arrayLengthLimit) (hh : len * componentBytes ty ≤ e.platform.maxHeapBytes) (hf : fits ty x = true) (hx : x.isDefault = true)
    (h1 : S.heap.size < e.platform.maxCells) (h2 : S.slotsUsed + len ≤ e.platform.maxSlots) (hq : ∀ acts', Q S.heap.size d acts' (S.pushCell (arrV cA len fun _ => x))) : wp (Jvm.newArray cA len x) Q E e d acts S := by
  have g1 : ¬ len > e.platform.arrayLengthLimit := Nat.not_lt.mpr hl
  have g2 : ¬ len * componentBytes ty > e.platform.maxHeapBytes := Nat.not_lt.mpr hh
  have g3 : ¬ S.heap.size ≥ e.platform.maxCells := Nat.not_le.mpr h1
  simp only [Jvm.newArray, Jvm.arrayFits, wp_bind', W.ask, W.ite, g1, g2, if_false, wp_pure', W.theClass, hA, hkA, W.alloc, W.stop, Option.some.injEq, exists_eq_left', Array.size_replicate]
  rw [if_neg (by omega)]
  refine ⟨h1, h2, fun i v hv => ?_, ?_⟩
  · rw [Array.getElem?_replicate] at hv
    by_cases c : i < len
    · rw [if_pos c] at hv
      cases hv
      simp [State.fitsSlot, State.slotType?, hA, hkA, hf]
    · rw [if_neg c] at hv
      cases hv
  · rw [arrV_new]
    exact hq _
def mnF (h0 i : Nat) : Nat → Value := fun j => if j < i then .ref (h0 + 1 + j) else .null
theorem mnF_s (h0 i : Nat) : updV (mnF h0 i) i (.ref (h0 + 1 + i)) = mnF h0 (i + 1) := by
  funext j
  unfold updV mnF
  by_cases e : j = i
  · rw [if_pos e, if_pos (by omega), e]
  · rw [if_neg e]
    by_cases q : j < i
    · rw [if_pos q, if_pos (by omega)]
    · rw [if_neg q, if_neg (by omega)]
/-- where i rows stand -/
def mnU (S : State) (cA cB : ClassId) (N N2 : Nat) : Nat → State
  | 0 => S.pushCell (arrV cA N fun _ => .null)
  | i + 1 => ((mnU S cA cB N N2 i).pushCell (arrV cB N2 fun _ => .long 0)).setCell S.heap.size (arrV cA N (mnF S.heap.size (i + 1)))
theorem mnU_at (S : State) (cA cB : ClassId) (N N2 : Nat) : ∀ i, (mnU S cA cB N N2 i).vm = S.vm ∧ (mnU S cA cB N N2 i).heap.size = S.heap.size + 1 + i ∧ (mnU S cA cB N N2 i).slotsUsed = S.slotsUsed + N + i * N2 ∧ (mnU S cA cB N N2 i).heap[S.heap.size]? = some (arrV cA N (mnF S.heap.size i)) ∧
    (∀ j, j < i → (mnU S cA cB N N2 i).heap[S.heap.size + 1 + j]? = some (arrV cB N2 fun _ => .long 0)) ∧ ∀ a : Nat, a < S.heap.size → (mnU S cA cB N N2 i).heap[a]? = S.heap[a]?
  | 0 => ⟨rfl, by simp [mnU], by simp [mnU, arrV_size], State.heap_pushCell_size _ _, fun j h => absurd h (Nat.not_lt_zero _), fun a h => State.heap_pushCell_of_lt _ _ h⟩
  | i + 1 => by
    obtain ⟨a, b, c, f, g, o⟩ := mnU_at S cA cB N N2 i
    have hlt : S.heap.size < (mnU S cA cB N N2 i).heap.size := by omega
    have f1 : ((mnU S cA cB N N2 i).pushCell (arrV cB N2 fun _ => .long 0)).heap[S.heap.size]? = some (arrV cA N (mnF S.heap.size i)) := (State.heap_pushCell_of_lt _ _ hlt).trans f
    refine ⟨by simp [mnU, a], by simp [mnU, State.setCell, b]; omega, by simp [mnU, c, arrV_size, Nat.succ_mul]; omega, State.heap_setCell_self f1, fun j hj => ?_, fun q hq => ?_⟩
    · refine (State.heap_setCell_other (show S.heap.size ≠ S.heap.size + 1 + j by omega)).trans ?_
      by_cases c : j < i
      · exact (State.heap_pushCell_of_lt _ _ (show S.heap.size + 1 + j < (mnU S cA cB N N2 i).heap.size by omega)).trans (g j c)
      · rw [show S.heap.size + 1 + j = (mnU S cA cB N N2 i).heap.size by omega]
        exact State.heap_pushCell_size _ _
    · exact (State.heap_setCell_other (show S.heap.size ≠ q by omega)).trans ((State.heap_pushCell_of_lt _ _ (show q < (mnU S cA cB N N2 i).heap.size by omega)).trans (o q hq))
theorem mnU_top (S : State) (g : JFrame) (cA cB : ClassId) (N N2 : Nat) : ∀ i, mnU (S.setTop g) cA cB N N2 i = (mnU S cA cB N N2 i).setTop g
  | 0 => rfl
  | i + 1 => by
    rw [mnU, mnU_top S g cA cB N N2 i]
    rfl
theorem mk1_wp {z : Int32} (hB : S.vm.classes[cB]? = some kB) (hkB : kB.kind = .array cC .long) (hz : ¬ z < 0) (hl : z.toNatClampNeg ≤ e.platform.arrayLengthLimit) (hh : z.toNatClampNeg * 8 ≤ e.platform.maxHeapBytes)
    (h1 : S.heap.size < e.platform.maxCells) (h2 : S.slotsUsed + z.toNatClampNeg ≤ e.platform.maxSlots) (hq : ∀ acts', Q S.heap.size d acts' (S.pushCell (arrV cB z.toNatClampNeg fun _ => .long 0))) : wp (multianewarray.make cB [z]) Q E e d acts S := by
  rw [multianewarray.make]
  simp only [wp_bind', W.ite, hz, if_false, wp_pure', W.theClass, hB, hkB, Option.some.injEq, exists_eq_left']
  exact na_wp hB hkB hl hh rfl rfl h1 h2 hq
theorem mk2_wp {z1 z2 : Int32} (hA : S.vm.classes[cA]? = some kA) (hkA : kA.kind = .array cB (.array .long)) (hB : S.vm.classes[cB]? = some kB) (hkB : kB.kind = .array cC .long) (n1 : ¬ z1 < 0) (n2 : ¬ z2 < 0)
    (l1 : z1.toNatClampNeg ≤ e.platform.arrayLengthLimit) (b1 : z1.toNatClampNeg * 4 ≤ e.platform.maxHeapBytes) (l2 : z2.toNatClampNeg ≤ e.platform.arrayLengthLimit) (b2 : z2.toNatClampNeg * 8 ≤ e.platform.maxHeapBytes)
    (hc : S.heap.size + (1 + z1.toNatClampNeg) ≤ e.platform.maxCells) (hs : S.slotsUsed + (z1.toNatClampNeg + z1.toNatClampNeg * z2.toNatClampNeg) ≤ e.platform.maxSlots)
    (hq : ∀ d' acts', Q S.heap.size d' acts' (mnU S cA cB z1.toNatClampNeg z2.toNatClampNeg z1.toNatClampNeg)) : wp (multianewarray.make cA [z1, z2]) Q E e d acts S := by
  have hno : ([z2].find? (· < 0)) = none := by simp [n2]
  rw [multianewarray.make]
  simp only [wp_bind', W.ite, n1, if_false, wp_pure', W.theClass, hA, hkA, Option.some.injEq, exists_eq_left']
  generalize hN : z1.toNatClampNeg = N at *
  refine na_wp hA hkA l1 b1 rfl rfl (by omega) (by omega) (fun acts' => ?_)
  simp only [hno]
  rw [ite_self, wp_bind', Std.Legacy.Range.forIn_eq_forIn_range', show ([:N] : Std.Legacy.Range).size = N by simp [Std.Legacy.Range.size]]
  refine wp_forIn_inv (fun rest S' => ∃ i k, i + k = N ∧ rest = List.range' i k ∧ S' = mnU S cA cB N z2.toNatClampNeg i) _ _ ⟨0, N, by omega, rfl, rfl⟩ ?_ ?_
  · rintro x rest S' d' acts'' Q' ⟨i, k, hik, hr, rfl⟩ next
    match k, hik, hr with
    | 0, _, hr => exact absurd hr (by simp)
    | k + 1, hik, hr =>
      rw [List.range'_succ] at hr
      obtain ⟨rfl, rfl⟩ := List.cons.inj hr
      obtain ⟨a, b, c, f, -, -⟩ := mnU_at S cA cB N z2.toNatClampNeg x
      have hm : (x + 1) * z2.toNatClampNeg ≤ N * z2.toNatClampNeg := Nat.mul_le_mul_right _ (by omega)
      rw [Nat.succ_mul] at hm
      simp only [wp_bind']
      refine mk1_wp (by rw [a]; exact hB) hkB n2 l2 b2 (by omega) (by omega) (fun acts3 => ?_)
      simp only [wp_bind', W.writeLoc, wp_pure']
      refine ⟨arrV cA N (mnF S.heap.size x), (State.heap_pushCell_of_lt _ _ (show S.heap.size < (mnU S cA cB N z2.toNatClampNeg x).heap.size by omega)).trans f, by simp [arrV], by rw [arrV_size]; omega, ?_, next _ _ _ ⟨x + 1, k, by omega, rfl, ?_⟩⟩
      · show State.fitsSlot _ cA .none x _ = true
        simp [State.fitsSlot, State.slotType?, a, hA, hkA]
        rfl
      · rw [arrV_store, b, mnF_s]
        rfl
  · rintro S' d' acts'' ⟨i, k, hik, hr, rfl⟩
    match k, hik, hr with
    | 0, hik, _ =>
      rw [show i = N by omega]
      simp only [wp_pure']
      exact hq _ _
    | k + 1, _, hr => exact absurd hr (by simp [List.range'_succ])
end
theorem mn_st {p : Program} {l : Launch} {e : Env} {R : Room} {s : State} {m : MethodId} {args : Array Value} {below : List Frame} {meth : Method} {c : Code} {T : State} {locs : List Loc} {cells slots : Nat} (X : Stand p l e R s m args below meth c T locs cells slots) (cA cB : ClassId) (N N2 : Nat) :
    ∀ i, ∃ L : List Loc, Stand p l e R s m args below meth c (mnU T cA cB N N2 i) L (cells + 1 + i) (slots + N + i * N2) ∧ ∀ q ∈ L, q ∈ locs ∨ q.base = T.heap.size
  | 0 => by
    have h := X.pushed (arrV cA N fun _ => .null)
    rw [arrV_size] at h
    refine ⟨locs, ?_, fun q hq => Or.inl hq⟩
    rw [Nat.zero_mul]
    exact h
  | i + 1 => by
    obtain ⟨L, Y, hL⟩ := mn_st X cA cB N N2 i
    obtain ⟨a, b, -, f, -, -⟩ := mnU_at T cA cB N N2 i
    have h := (Y.pushed (arrV cB N2 fun _ => .long 0)).stored ((State.heap_pushCell_of_lt _ _ (show T.heap.size < (mnU T cA cB N N2 i).heap.size by omega)).trans f) i (.ref (T.heap.size + 1 + i))
    rw [arrV_size, arrV_store, mnF_s] at h
    refine ⟨L ++ [⟨T.heap.size, i⟩], ?_, fun q hq => ?_⟩
    · rw [Nat.succ_mul, ← Nat.add_assoc (slots + N)]
      exact h
    · rcases List.mem_append.mp hq with y | y
      · exact hL q y
      · rw [List.mem_singleton.mp y]
        exact Or.inr rfl
/-- the step itself -/
theorem mn_step {p : Program} {l : Launch} {e : Env} {R : Room} {s : State} {m : MethodId} {args : Array Value} {below : List Frame} {meth : Method} {c : Code} {T : State} {locs : List Loc} {cells slots : Nat} (X : Stand p l e R s m args below meth c T locs cells slots) (hexec : p.tables.exec = Jvm.exec) {own : String} {ix : Nat}
    (hown : s.vm.findClass own = some m.cls) (hlink : (Cond.classLink own ix "[[J").before args s = true) (hover : (Cond.arrayOver (.array .long)).before args s = true) (harr : (Cond.arrayClass .long).before args s = true)
    {g : JFrame} (hg : g.method = m) (hdg : decode c.code g.pc = .ok (.multianewarray ix 2, 4)) {z1 z2 : Int32} {rest : List Value} (hst : g.stack = .int z2 :: .int z1 :: rest) (n1 : ¬ z1 < 0) (n2 : ¬ z2 < 0) (h1 : z1.toNatClampNeg ≤ 65536) (h2 : z2.toNatClampNeg ≤ 65536)
    (hc : cells + (1 + z1.toNatClampNeg) ≤ R.cells) (hs : slots + (z1.toNatClampNeg + z1.toNatClampNeg * z2.toNatClampNeg) ≤ R.slots) :
    ∃ (vm1 : Vm) (cA cB : ClassId) (L : List Loc), s.vm.findClass "[[J" = some cA ∧ s.vm.findClass "[J" = some cB ∧ Stand p l e R s m args below meth c (mnU (T.setVm vm1) cA cB z1.toNatClampNeg z2.toNatClampNeg z1.toNatClampNeg) L (cells + 1 + z1.toNatClampNeg) (slots + z1.toNatClampNeg + z1.toNatClampNeg * z2.toNatClampNeg) ∧ (∀ q ∈ L, q ∈ locs ∨ q.base = T.heap.size) ∧
      ∀ t, Steps p.tables e below ((mnU (T.setVm vm1) cA cB z1.toNatClampNeg z2.toNatClampNeg z1.toNatClampNeg).setTop { g with pc := g.pc + 4, stack := .ref T.heap.size :: rest }) t → Steps p.tables e below (T.setTop g) t := by
  subst hg
  obtain ⟨cB, cA, kA, fB, -, hA, hkA, fA⟩ := arrayOverA_spec hover
  obtain ⟨cB', kB, cC, fB', hB, hkB⟩ := Cond.arrayClass_spec harr
  cases Option.some.inj (fB'.symm.trans fB)
  rw [show "[" ++ (FieldType.array .long).toString = "[[J" by decide] at fA
  rw [show (FieldType.array .long).toString = "[J" by decide] at fB
  obtain ⟨cX, fX, hcl⟩ := Cond.classLink_spec hown hlink e.platform (by rw [X.admits.platform])
  cases Option.some.inj (fX.symm.trans fA)
  obtain ⟨hg1, hw1, -⟩ := State.classEntry (e := e) X.warmed hcl
  generalize T.vm.noted g.method.cls ix (.cls cA) = vm1 at hg1 hw1
  obtain ⟨kA1, hA1, eA⟩ := hw1.alike.2.2 _ _ hA
  obtain ⟨kB1, hB1, eB⟩ := hw1.alike.2.2 _ _ hB
  have X1 := X.noted hw1
  obtain ⟨r1, r2⟩ := X.roomAbove hc hs
  obtain ⟨L, Y, hL⟩ := mn_st X1 cA cB z1.toNatClampNeg z2.toNatClampNeg z1.toNatClampNeg
  refine ⟨vm1, cA, cB, L, fA, fB, Y, hL, fun t ht => ?_⟩
  have la := Launch.admits_arrayLengthLimit X.admits
  have lb := Launch.admits_maxHeapBytes X.admits
  jvm_step X.here [hexec, hdg]
  simp only [multianewarray.sem, wp_bind', W.resolveClassAt_links (State.method?_setTop g X.here.top) hg1]
  rw [W.popN, if_neg (by decide)]
  refine ⟨g, State.topJava?_setTop' (s := T.setVm vm1) g X.here.top, [.int z1, .int z2], rest, rfl, hst, ?_⟩
  simp only [List.mapM_cons, List.mapM_nil, wp_bind', wp_pure']
  rw [show ((T.setTop g).setVm vm1).setTop { g with stack := rest } = (T.setVm vm1).setTop { g with stack := rest } from State.setTop_setTop (T.setVm vm1) g _]
  refine mk2_wp hA1 (by rw [eA]; exact hkA) hB1 (by rw [eB]; exact hkB) n1 n2 (by omega) (by omega) (by omega) (by omega) r1 r2 (fun d' acts' => ?_)
  rw [mnU_top]
  simp only [wp_bind', W.mark, W.pushRef, State.topJava?_setTop' _ Y.here.top, Option.some.injEq, exists_eq_left', State.setTop_setTop, State.heap_setTop]
  intro acts
  simp [jvm, Y.here.top]
  exact ht
theorem hpM_lt {hp : mHp} {n N N2 q : Nat} (h : q < n) : hpM hp n N N2 q = hp q := (if_neg (by omega)).trans (if_neg (by omega))
theorem hpM_n {hp : mHp} {n N N2 : Nat} : hpM hp n N N2 n = eR tyJJ N (fun i => if i < N then some (n + 1 + i) else none) := if_pos rfl
theorem hpM_i {hp : mHp} {n N N2 j : Nat} (h : j < N) : hpM hp n N N2 (n + 1 + j) = eL N2 (fun _ => 0) := (if_neg (by omega)).trans (if_pos ⟨by omega, by omega⟩)
theorem hpM_gt {hp : mHp} {n N N2 q : Nat} (h : n + 1 + N ≤ q) : hpM hp n N N2 q = hp q := (if_neg (by omega)).trans (if_neg (by omega))
theorem m_mna {K : mK} {M : MD} {cs sl n : Nat} {hp : mHp} {pc : Nat} {lv st : List Value} {ix N N2 : Nat} {z1 z2 : Int32} (hd : decode (dC M) pc = .ok (.multianewarray ix 2, 4)) (hl : Cond.classLink (dOwn M) ix "[[J" ∈ TB) (hz1 : mIx z1 N 65536) (hz2 : mIx z2 N2 65536) (hn : n + N < mSC) (hc : cs + (1 + N) ≤ dMc M) (hs : sl + (N + N * N2) ≤ dMs M)
    (kk : mW K M (cs + 1 + N) (sl + N + N * N2) (n + 1 + N) (hpM hp n N N2) (pc + 4) lv (.ref n :: st)) : mW K M cs sl n hp pc lv (.int z2 :: .int z1 :: st) := fun hk H locs ls hR hlv => by
  intro T hT X
  have h9 := hk.2.2.2.2.2.2.2.2.1
  have hov : (Cond.arrayOver (.array .long)).before K.2.1.1 K.1.2.2.2.2.1 = true := h9.2.2.1
  have hcell := hk.2.2.2.2.2.2.2.2.2
  obtain ⟨vm1, cA, cB, L, fA, fB, X1, hL, step⟩ := mn_step X hk.1 (own := dOwn M) (ix := ix) hk.2.2.2.1 (hk.2.2.2.2.1 _ hl) hov (hk.2.2.2.2.1 _ w_1_120) (g := F0 K.1.2.2.2.2.2 pc ls (.int z2 :: .int z1 :: st.map (mv K.2.2.1.2.2.1))) rfl (by rw [hk.2.1]; exact hd) (z1 := z1) (z2 := z2) (rest := st.map (mv K.2.2.1.2.2.1)) rfl hz1.nn hz2.nn (by rw [hz1.cl]; have := hz1.2; omega) (by rw [hz2.cl]; have := hz2.2; omega) (by rw [hz1.cl, hcell]; exact hc) (by rw [hz1.cl, hz2.cl, hcell]; exact hs)
  rw [hz1.cl, hz2.cl] at X1 step
  have sz := mRel.size hk hR hT X
  have had := hk.2.2.2.2.2.2.2.1
  have zT : T.heap.size = K.2.2.1.2.2.1 n := by rw [hT, sz, had n (by omega)]
  obtain ⟨-, f1, -, f2, fi, fo⟩ := mnU_at (T.setVm vm1) cA cB N N2 N
  have zV : (T.setVm vm1).heap.size = K.2.2.1.2.2.1 n := zT
  have fo : ∀ a : Nat, a < H.size → (mnU (T.setVm vm1) cA cB N N2 N).heap[a]? = H[a]? := fun a ha => by
    rw [fo a (by show a < T.heap.size; rw [hT]; exact ha)]
    show T.heap[a]? = _
    rw [hT]
  rw [zV] at f1 f2 fi
  rw [zT] at step hL
  have eA : cA = K.2.2.1.2.1 tyJJ := Option.some.inj (fA.symm.trans (hk.2.2.2.2.2.1.2 3 (K.2.2.1.2.1 tyJJ, tyJJ) rfl).2)
  have eB : cB = K.2.2.1.2.1 .long := Option.some.inj (fB.symm.trans (hk.2.2.2.2.2.1.2 1 (K.2.2.1.2.1 .long, .long) rfl).2)
  subst eA eB
  generalize mnU (T.setVm vm1) (K.2.2.1.2.1 tyJJ) (K.2.2.1.2.1 .long) N N2 N = T1 at X1 step f1 f2 fo fi
  have hR1 : mRel K (cs + 1 + N) (n + 1 + N) (hpM hp n N N2) T1.heap L := by
    obtain ⟨r1, r2, r3, r4, r5⟩ := hR
    refine ⟨fun k q hq => ?_, by omega, ⟨?_, fun q h1 h2 => ?_, fun q hq => ?_⟩, fun h hh => ?_, by omega⟩
    · by_cases hkl : k < n + 1 + N
      · rw [mws_at hkl] at hq
        cases hq
        rcases Nat.lt_trichotomy k n with c | c | c
        · rw [hpM_lt c]
          have w := r1 k _ (mws_at c)
          exact w.kept (fo _ w.lt)
        · subst c
          rw [hpM_n]
          show T1.heap[K.2.2.1.2.2.1 k]? = some (arrV (K.2.2.1.2.1 tyJJ) N (fun j => va_rf ((if j < N then some (k + 1 + j) else none).map K.2.2.1.2.2.1)))
          rw [f2]
          congr 2
          funext j
          unfold mnF
          by_cases c : j < N
          · rw [if_pos c, if_pos c, had k (by omega)]
            show _ = Value.ref (K.2.2.1.2.2.1 (k + 1 + j))
            rw [had (k + 1 + j) (by omega)]
            congr 1
            exact (by omega : K.2.2.1.2.2.2 + k + 1 + j = K.2.2.1.2.2.2 + (k + 1 + j))
          · rw [if_neg c, if_neg c]
            rfl
        · obtain ⟨j, rfl⟩ : ∃ j, k = n + 1 + j := ⟨k - n - 1, by omega⟩
          rw [hpM_i (by omega)]
          show T1.heap[K.2.2.1.2.2.1 (n + 1 + j)]? = some (arrV (K.2.2.1.2.1 .long) N2 (fun _ => .long 0))
          rw [← fi j (by omega), had n (by omega), had (n + 1 + j) (by omega)]
          congr 1
          omega
      · rw [mws_no hkl] at hq
        cases hq
    · have := r3.1
      rw [f1, had n (by omega)]
      omega
    · rw [fo q (Nat.lt_of_lt_of_le h1 r3.1)]
      exact r3.2.1 q h1 h2
    · rcases hL q hq with y | y
      · exact r3.2.2 q y
      · show _ ≤ q.base
        rw [y, had n (by omega)]
        exact Nat.le_add_right _ _
    · rw [hpM_gt hh]
      exact r4 h (by omega)
  obtain ⟨t, a, b⟩ := kk hk T1.heap L ls hR1 hlv T1 rfl X1
  exact ⟨t, step t a, b⟩
def iX0 : Nat → Value := fun k => match k with
  | 0 => .null
  | 1 => .null
  | 2 => .int 0
  | _ => .null
theorem iX0_ok : ∀ j, j < 3 → ∀ ad, defaultValue (tyX0 j) = mv ad (iX0 j) := fun j hj ad => by
  match j, hj with
  | 0, _ => rfl
  | 1, _ => rfl
  | 2, _ => rfl
  | j + 3, h => exact absurd h (by omega)
def iX1 : Nat → Value := fun k => match k with
  | 0 => .null
  | 1 => .null
  | 2 => .int 0
  | 3 => .int 0
  | 4 => .int 0
  | _ => .null
theorem iX1_ok : ∀ j, j < 5 → ∀ ad, defaultValue (tyX1 j) = mv ad (iX1 j) := fun j hj ad => by
  match j, hj with
  | 0, _ => rfl
  | 1, _ => rfl
  | 2, _ => rfl
  | 3, _ => rfl
  | 4, _ => rfl
  | j + 5, h => exact absurd h (by omega)
def iX2 : Nat → Value := fun k => match k with
  | 0 => .null
  | 1 => .int 0
  | 2 => .int 0
  | _ => .null
theorem iX2_ok : ∀ j, j < 3 → ∀ ad, defaultValue (tyX2 j) = mv ad (iX2 j) := fun j hj ad => by
  match j, hj with
  | 0, _ => rfl
  | 1, _ => rfl
  | 2, _ => rfl
  | j + 3, h => exact absurd h (by omega)
def iX3 : Nat → Value := fun k => match k with
  | 0 => .null
  | 1 => .int 0
  | 2 => .int 0
  | _ => .null
theorem iX3_ok : ∀ j, j < 3 → ∀ ad, defaultValue (tyX3 j) = mv ad (iX3 j) := fun j hj ad => by
  match j, hj with
  | 0, _ => rfl
  | 1, _ => rfl
  | 2, _ => rfl
  | j + 3, h => exact absurd h (by omega)
def iX4 : Nat → Value := fun k => match k with
  | 0 => .null
  | 1 => .null
  | 2 => .null
  | _ => .null
theorem iX4_ok : ∀ j, j < 3 → ∀ ad, defaultValue (tyX4 j) = mv ad (iX4 j) := fun j hj ad => by
  match j, hj with
  | 0, _ => rfl
  | 1, _ => rfl
  | 2, _ => rfl
  | j + 3, h => exact absurd h (by omega)
def iX5 : Nat → Value := fun k => match k with
  | 0 => .int 0
  | 1 => .null
  | 2 => .null
  | 3 => .null
  | 4 => .null
  | 5 => .null
  | 6 => .int 0
  | 7 => .int 0
  | 8 => .int 0
  | _ => .null
theorem iX5_ok : ∀ j, j < 9 → ∀ ad, defaultValue (tyX5 j) = mv ad (iX5 j) := fun j hj ad => by
  match j, hj with
  | 0, _ => rfl
  | 1, _ => rfl
  | 2, _ => rfl
  | 3, _ => rfl
  | 4, _ => rfl
  | 5, _ => rfl
  | 6, _ => rfl
  | 7, _ => rfl
  | 8, _ => rfl
  | j + 9, h => exact absurd h (by omega)
def iX6 : Nat → Value := fun k => match k with
  | 0 => .null
  | 1 => .null
  | 2 => .int 0
  | 3 => .int 0
  | 4 => .int 0
  | 5 => .int 0
  | 6 => .int 0
  | _ => .null
theorem iX6_ok : ∀ j, j < 7 → ∀ ad, defaultValue (tyX6 j) = mv ad (iX6 j) := fun j hj ad => by
  match j, hj with
  | 0, _ => rfl
  | 1, _ => rfl
  | 2, _ => rfl
  | 3, _ => rfl
  | 4, _ => rfl
  | 5, _ => rfl
  | 6, _ => rfl
  | j + 7, h => exact absurd h (by omega)
def iX7 : Nat → Value := fun k => match k with
  | 0 => .null
  | 1 => .null
  | 2 => .null
  | 3 => .null
  | 4 => .int 0
  | 5 => .null
  | 6 => .null
  | 7 => .null
  | 8 => .null
  | 9 => .null
  | 10 => .null
  | _ => .null
theorem iX7_ok : ∀ j, j < 11 → ∀ ad, defaultValue (tyX7 j) = mv ad (iX7 j) := fun j hj ad => by
  match j, hj with
  | 0, _ => rfl
  | 1, _ => rfl
  | 2, _ => rfl
  | 3, _ => rfl
  | 4, _ => rfl
  | 5, _ => rfl
  | 6, _ => rfl
  | 7, _ => rfl
  | 8, _ => rfl
  | 9, _ => rfl
  | 10, _ => rfl
  | j + 11, h => exact absurd h (by omega)
def iX8 : Nat → Value := fun k => match k with
  | 0 => .null
  | 1 => .null
  | 2 => .int 0
  | 3 => .null
  | 4 => .null
  | 5 => .int 0
  | 6 => .null
  | 7 => .int 0
  | 8 => .null
  | 9 => .null
  | 10 => .null
  | 11 => .null
  | 12 => .int 0
  | 13 => .int 0
  | 14 => .int 0
  | 15 => .null
  | 16 => .int 0
  | 17 => .int 0
  | 18 => .null
  | 19 => .null
  | 20 => .null
  | 21 => .int 0
  | 22 => .null
  | 23 => .null
  | 24 => .null
  | 25 => .int 0
  | 26 => .int 0
  | 27 => .int 0
  | 28 => .null
  | _ => .null
theorem iX8_ok : ∀ j, j < 29 → ∀ ad, defaultValue (tyX8 j) = mv ad (iX8 j) := fun j hj ad => by
  match j, hj with
  | 0, _ => rfl
  | 1, _ => rfl
  | 2, _ => rfl
  | 3, _ => rfl
  | 4, _ => rfl
  | 5, _ => rfl
  | 6, _ => rfl
  | 7, _ => rfl
  | 8, _ => rfl
  | 9, _ => rfl
  | 10, _ => rfl
  | 11, _ => rfl
  | 12, _ => rfl
  | 13, _ => rfl
  | 14, _ => rfl
  | 15, _ => rfl
  | 16, _ => rfl
  | 17, _ => rfl
  | 18, _ => rfl
  | 19, _ => rfl
  | 20, _ => rfl
  | 21, _ => rfl
  | 22, _ => rfl
  | 23, _ => rfl
  | 24, _ => rfl
  | 25, _ => rfl
  | 26, _ => rfl
  | 27, _ => rfl
  | 28, _ => rfl
  | j + 29, h => exact absurd h (by omega)
theorem iX3_fin (q : Nat) (a b : Int32) : va_up (va_up (va_up iX3 0 (.ref q)) 1 (.int a)) 2 (.int b) = oSet q a b := by
  funext k
  match k with
  | 0 => rfl
  | 1 => rfl
  | 2 => rfl
  | k + 3 => simp [va_up, oSet, iX3]
set_option maxHeartbeats 400000 in
set_option maxRecDepth 100000 in
theorem t_X3_init {n : Nat} {hp : mHp} {h : Nat} (h1 : hp h = eO 3 iX3) (hh : h < n) (hnn : n + 50 < mSC) : mC D_X3_init [.ref h] n hp (rV (va_up (va_up hp n (eI 10 (fun _ => 0))) h (eO 3 (oSet n 0 1)))) := by
  refine m_enter rfl rfl (Nat.le_of_ble_eq_true rfl) (fun K hF => ?_)
  have hin := hF.2.2.2.1
  show mW K _ 0 0 _ _ 0 [.ref h] []
  refine m_aload_n dX3_init_0 rfl ?_
  refine m_objInit dX3_init_1 lk_X3_3 (Nat.le_of_ble_eq_true rfl) (by decide) ?_
  refine m_aload_n dX3_init_4 rfl ?_
  refine m_bipush (v := 10) dX3_init_5 (by decide) ?_
  refine m_newarray (ty := .int) (a0 := (10, .inl (fun _ => 0))) (N := 10) dX3_init_7 rfl w_1_42 (fun _ _ => rfl) ⟨0, fun _ => rfl⟩ (fun _ q => by cases q) ⟨by decide, by decide⟩ (by decide) (by omega) (by decide) (by decide) ?_
  show mW _ _ _ _ (n + 1) _ _ _ (.ref n :: _)
  refine m_putfieldF dX3_init_9 fl_X3_9 ⟨RX3, TX3, 3, rfl, rfl⟩ (by first | exact va_up_self _ _ _ | rfl | assumption | exact (va_up_ne _ _ (by omega)).trans h1) hin (fun _ => rfl) (fun _ => rfl) ?_
  try rw [va_uu]
  refine m_aload_n dX3_init_12 rfl ?_
  refine m_iconst (v := 0) dX3_init_13 (by decide) ?_
  refine m_putfield dX3_init_14 fl_X3_15 (by first | exact va_up_self _ _ _ | rfl | assumption | exact (va_up_ne _ _ (by omega)).trans h1) (fun _ => rfl) (fun _ => rfl) ?_
  try rw [va_uu]
  refine m_aload_n dX3_init_17 rfl ?_
  refine m_iconst (v := 1) dX3_init_18 (by decide) ?_
  refine m_putfield dX3_init_19 fl_X3_19 (by first | exact va_up_self _ _ _ | rfl | assumption | exact (va_up_ne _ _ (by omega)).trans h1) (fun _ => rfl) (fun _ => rfl) ?_
  try rw [va_uu]
  exact m_return hF dX3_init_22 rfl rfl rfl ⟨rfl, by rw [iX3_fin]⟩

theorem iX2_fin (q : Nat) (a b : Int32) : va_up (va_up (va_up iX2 0 (.ref q)) 1 (.int a)) 2 (.int b) = oPast q a b := by
  funext k
  match k with
  | 0 => rfl
  | 1 => rfl
  | 2 => rfl
  | k + 3 => simp [va_up, oPast, iX2]
theorem rSet_up (b : Nat) : va_up (va_up (va_up (va_up (va_up (va_up (fun _ => none) 0 (some (b + 0))) 1 (some (b + 2))) 2 (some (b + 4))) 3 (some (b + 6))) 4 (some (b + 8))) 5 (some (b + 10)) = rSet b := by
  funext k
  match k with
  | 0 => rfl
  | 1 => rfl
  | 2 => rfl
  | 3 => rfl
  | 4 => rfl
  | 5 => rfl
  | k + 6 => simp [va_up, rSet]
set_option maxHeartbeats 400000 in
set_option maxRecDepth 100000 in
theorem t_X2_init_3 {hp : mHp} (h1 : hp 3 = eO 2 iX2) {H : Nat → Nat → Int32} : mC D_X2_init [.ref 3] 4 hp (fun v hp' => v = none ∧ cHist hp' 3 0 H ∧ ∀ q, (q < 3 ∨ 16 < q) → hp' q = hp q) := by
  refine m_enter rfl rfl (Nat.le_of_ble_eq_true rfl) (fun K hF => ?_)
  have hin := hF.2.2.2.1
  show mW K _ 0 0 _ _ 0 [.ref 3, .retAddr 0] []
  refine m_aload_n dX2_init_0 rfl ?_
  refine m_objInit dX2_init_1 lk_X2_1 (Nat.le_of_ble_eq_true rfl) (by decide) ?_
  refine m_aload_n dX2_init_4 rfl ?_
  refine m_bipush (v := 6) dX2_init_5 (by decide) ?_
  refine m_anewarray (N := 6) dX2_init_7 w_1_53 ⟨by decide, by decide⟩ (by decide) (by decide) (by decide) ?_
  show mW _ _ _ _ 5 _ _ _ (.ref 4 :: _)
  refine m_putfieldF dX2_init_10 fl_X2_11 ⟨RX2, TX2, 3, rfl, rfl⟩ (by first | exact va_up_self _ _ _ | rfl | exact h1) hin (fun _ => rfl) (fun _ => rfl) ?_
  try rw [va_uu]
  refine m_iconst (v := 0) dX2_init_13 (by decide) ?_
  refine m_istore_n dX2_init_14 (by decide) ?_
  show mW _ _ _ _ _ _ 15 [_, _] _
  refine m_iload_n dX2_init_15 rfl ?_
  refine m_bipush (v := 6) dX2_init_16 (by decide) ?_
  refine m_icmp_ge (t := 40) dX2_init_18 (by decide) (fun q => absurd q (by decide)) (fun _ => ?_)
  refine m_aload_n dX2_init_21 rfl ?_
  refine m_getfield dX2_init_22 fl_X2_11 (by first | exact va_up_self _ _ _ | rfl | exact h1) (by first | exact va_up_self _ _ _ | rfl | exact h1) ?_
  show mW _ _ _ _ _ _ _ _ (.ref _ :: _)
  refine m_iload_n dX2_init_25 rfl ?_
  refine m_new (ci := 3) (f := iX3) dX2_init_26 rfl inT3 tyX3_ok w_1_53 w_1_23 w_1_2 iX3_ok (by decide) (by decide) (by decide) ?_
  show mW _ _ _ _ 6 _ _ _ (.ref 5 :: _)
  refine m_dup dX2_init_29 rfl ?_
  refine m_invI dX2_init_30 lk_X2_15 ar_X3_init rfl (t_X3_init (h := 5) (va_up_self _ _ _) (by decide) (by decide)) rfl (Nat.le_of_ble_eq_true rfl) (by decide) (by decide) (by decide) (by decide) (fun v hp' q => ?_)
  obtain ⟨rfl, rfl⟩ := q
  show mW K _ _ _ 7 _ 33 _ (.ref 5 :: _)
  refine m_aastore (ci := 3) (k := 0) dX2_init_33 (by first | exact va_up_self _ _ _ | rfl | exact h1) ⟨by decide, by decide⟩ (by first | exact va_up_self _ _ _ | rfl | exact h1) ?_
  try rw [va_uu]
  refine m_iinc (v := 1) dX2_init_34 rfl (by decide) (by decide) ?_
  show mW _ _ _ _ _ _ 37 [_, _] _
  refine m_goto (t := 15) dX2_init_37 (by decide) ?_
  refine m_iload_n dX2_init_15 rfl ?_
  refine m_bipush (v := 6) dX2_init_16 (by decide) ?_
  refine m_icmp_ge (t := 40) dX2_init_18 (by decide) (fun q => absurd q (by decide)) (fun _ => ?_)
  refine m_aload_n dX2_init_21 rfl ?_
  refine m_getfield dX2_init_22 fl_X2_11 (by first | exact va_up_self _ _ _ | rfl | exact h1) (by first | exact va_up_self _ _ _ | rfl | exact h1) ?_
  show mW _ _ _ _ _ _ _ _ (.ref _ :: _)
  refine m_iload_n dX2_init_25 rfl ?_
  refine m_new (ci := 3) (f := iX3) dX2_init_26 rfl inT3 tyX3_ok w_1_53 w_1_23 w_1_2 iX3_ok (by decide) (by decide) (by decide) ?_
  show mW _ _ _ _ 8 _ _ _ (.ref 7 :: _)
  refine m_dup dX2_init_29 rfl ?_
  refine m_invI dX2_init_30 lk_X2_15 ar_X3_init rfl (t_X3_init (h := 7) (va_up_self _ _ _) (by decide) (by decide)) rfl (Nat.le_of_ble_eq_true rfl) (by decide) (by decide) (by decide) (by decide) (fun v hp' q => ?_)
  obtain ⟨rfl, rfl⟩ := q
  show mW K _ _ _ 9 _ 33 _ (.ref 7 :: _)
  refine m_aastore (ci := 3) (k := 1) dX2_init_33 (by first | exact va_up_self _ _ _ | rfl | exact h1) ⟨by decide, by decide⟩ (by first | exact va_up_self _ _ _ | rfl | exact h1) ?_
  try rw [va_uu]
  refine m_iinc (v := 2) dX2_init_34 rfl (by decide) (by decide) ?_
  show mW _ _ _ _ _ _ 37 [_, _] _
  refine m_goto (t := 15) dX2_init_37 (by decide) ?_
  refine m_iload_n dX2_init_15 rfl ?_
  refine m_bipush (v := 6) dX2_init_16 (by decide) ?_
  refine m_icmp_ge (t := 40) dX2_init_18 (by decide) (fun q => absurd q (by decide)) (fun _ => ?_)
  refine m_aload_n dX2_init_21 rfl ?_
  refine m_getfield dX2_init_22 fl_X2_11 (by first | exact va_up_self _ _ _ | rfl | exact h1) (by first | exact va_up_self _ _ _ | rfl | exact h1) ?_
  show mW _ _ _ _ _ _ _ _ (.ref _ :: _)
  refine m_iload_n dX2_init_25 rfl ?_
  refine m_new (ci := 3) (f := iX3) dX2_init_26 rfl inT3 tyX3_ok w_1_53 w_1_23 w_1_2 iX3_ok (by decide) (by decide) (by decide) ?_
  show mW _ _ _ _ 10 _ _ _ (.ref 9 :: _)
  refine m_dup dX2_init_29 rfl ?_
  refine m_invI dX2_init_30 lk_X2_15 ar_X3_init rfl (t_X3_init (h := 9) (va_up_self _ _ _) (by decide) (by decide)) rfl (Nat.le_of_ble_eq_true rfl) (by decide) (by decide) (by decide) (by decide) (fun v hp' q => ?_)
  obtain ⟨rfl, rfl⟩ := q
  show mW K _ _ _ 11 _ 33 _ (.ref 9 :: _)
  refine m_aastore (ci := 3) (k := 2) dX2_init_33 (by first | exact va_up_self _ _ _ | rfl | exact h1) ⟨by decide, by decide⟩ (by first | exact va_up_self _ _ _ | rfl | exact h1) ?_
  try rw [va_uu]
  refine m_iinc (v := 3) dX2_init_34 rfl (by decide) (by decide) ?_
  show mW _ _ _ _ _ _ 37 [_, _] _
  refine m_goto (t := 15) dX2_init_37 (by decide) ?_
  refine m_iload_n dX2_init_15 rfl ?_
  refine m_bipush (v := 6) dX2_init_16 (by decide) ?_
  refine m_icmp_ge (t := 40) dX2_init_18 (by decide) (fun q => absurd q (by decide)) (fun _ => ?_)
  refine m_aload_n dX2_init_21 rfl ?_
  refine m_getfield dX2_init_22 fl_X2_11 (by first | exact va_up_self _ _ _ | rfl | exact h1) (by first | exact va_up_self _ _ _ | rfl | exact h1) ?_
  show mW _ _ _ _ _ _ _ _ (.ref _ :: _)
  refine m_iload_n dX2_init_25 rfl ?_
  refine m_new (ci := 3) (f := iX3) dX2_init_26 rfl inT3 tyX3_ok w_1_53 w_1_23 w_1_2 iX3_ok (by decide) (by decide) (by decide) ?_
  show mW _ _ _ _ 12 _ _ _ (.ref 11 :: _)
  refine m_dup dX2_init_29 rfl ?_
  refine m_invI dX2_init_30 lk_X2_15 ar_X3_init rfl (t_X3_init (h := 11) (va_up_self _ _ _) (by decide) (by decide)) rfl (Nat.le_of_ble_eq_true rfl) (by decide) (by decide) (by decide) (by decide) (fun v hp' q => ?_)
  obtain ⟨rfl, rfl⟩ := q
  show mW K _ _ _ 13 _ 33 _ (.ref 11 :: _)
  refine m_aastore (ci := 3) (k := 3) dX2_init_33 (by first | exact va_up_self _ _ _ | rfl | exact h1) ⟨by decide, by decide⟩ (by first | exact va_up_self _ _ _ | rfl | exact h1) ?_
  try rw [va_uu]
  refine m_iinc (v := 4) dX2_init_34 rfl (by decide) (by decide) ?_
  show mW _ _ _ _ _ _ 37 [_, _] _
  refine m_goto (t := 15) dX2_init_37 (by decide) ?_
  refine m_iload_n dX2_init_15 rfl ?_
  refine m_bipush (v := 6) dX2_init_16 (by decide) ?_
  refine m_icmp_ge (t := 40) dX2_init_18 (by decide) (fun q => absurd q (by decide)) (fun _ => ?_)
  refine m_aload_n dX2_init_21 rfl ?_
  refine m_getfield dX2_init_22 fl_X2_11 (by first | exact va_up_self _ _ _ | rfl | exact h1) (by first | exact va_up_self _ _ _ | rfl | exact h1) ?_
  show mW _ _ _ _ _ _ _ _ (.ref _ :: _)
  refine m_iload_n dX2_init_25 rfl ?_
  refine m_new (ci := 3) (f := iX3) dX2_init_26 rfl inT3 tyX3_ok w_1_53 w_1_23 w_1_2 iX3_ok (by decide) (by decide) (by decide) ?_
  show mW _ _ _ _ 14 _ _ _ (.ref 13 :: _)
  refine m_dup dX2_init_29 rfl ?_
  refine m_invI dX2_init_30 lk_X2_15 ar_X3_init rfl (t_X3_init (h := 13) (va_up_self _ _ _) (by decide) (by decide)) rfl (Nat.le_of_ble_eq_true rfl) (by decide) (by decide) (by decide) (by decide) (fun v hp' q => ?_)
  obtain ⟨rfl, rfl⟩ := q
  show mW K _ _ _ 15 _ 33 _ (.ref 13 :: _)
  refine m_aastore (ci := 3) (k := 4) dX2_init_33 (by first | exact va_up_self _ _ _ | rfl | exact h1) ⟨by decide, by decide⟩ (by first | exact va_up_self _ _ _ | rfl | exact h1) ?_
  try rw [va_uu]
  refine m_iinc (v := 5) dX2_init_34 rfl (by decide) (by decide) ?_
  show mW _ _ _ _ _ _ 37 [_, _] _
  refine m_goto (t := 15) dX2_init_37 (by decide) ?_
  refine m_iload_n dX2_init_15 rfl ?_
  refine m_bipush (v := 6) dX2_init_16 (by decide) ?_
  refine m_icmp_ge (t := 40) dX2_init_18 (by decide) (fun q => absurd q (by decide)) (fun _ => ?_)
  refine m_aload_n dX2_init_21 rfl ?_
  refine m_getfield dX2_init_22 fl_X2_11 (by first | exact va_up_self _ _ _ | rfl | exact h1) (by first | exact va_up_self _ _ _ | rfl | exact h1) ?_
  show mW _ _ _ _ _ _ _ _ (.ref _ :: _)
  refine m_iload_n dX2_init_25 rfl ?_
  refine m_new (ci := 3) (f := iX3) dX2_init_26 rfl inT3 tyX3_ok w_1_53 w_1_23 w_1_2 iX3_ok (by decide) (by decide) (by decide) ?_
  show mW _ _ _ _ 16 _ _ _ (.ref 15 :: _)
  refine m_dup dX2_init_29 rfl ?_
  refine m_invI dX2_init_30 lk_X2_15 ar_X3_init rfl (t_X3_init (h := 15) (va_up_self _ _ _) (by decide) (by decide)) rfl (Nat.le_of_ble_eq_true rfl) (by decide) (by decide) (by decide) (by decide) (fun v hp' q => ?_)
  obtain ⟨rfl, rfl⟩ := q
  show mW K _ _ _ 17 _ 33 _ (.ref 15 :: _)
  refine m_aastore (ci := 3) (k := 5) dX2_init_33 (by first | exact va_up_self _ _ _ | rfl | exact h1) ⟨by decide, by decide⟩ (by first | exact va_up_self _ _ _ | rfl | exact h1) ?_
  try rw [va_uu]
  refine m_iinc (v := 6) dX2_init_34 rfl (by decide) (by decide) ?_
  show mW _ _ _ _ _ _ 37 [_, _] _
  refine m_goto (t := 15) dX2_init_37 (by decide) ?_
  refine m_iload_n dX2_init_15 rfl ?_
  refine m_bipush (v := 6) dX2_init_16 (by decide) ?_
  refine m_icmp_ge (t := 40) dX2_init_18 (by decide) (fun _ => ?_) (fun q => absurd (by decide) q)
  refine m_aload_n dX2_init_40 rfl ?_
  refine m_iconst (v := 0) dX2_init_41 (by decide) ?_
  refine m_putfield dX2_init_42 fl_X2_16 (by first | exact va_up_self _ _ _ | rfl | exact h1) (fun _ => rfl) (fun _ => rfl) ?_
  try rw [va_uu]
  refine m_aload_n dX2_init_45 rfl ?_
  refine m_iconst (v := 0) dX2_init_46 (by decide) ?_
  refine m_putfield dX2_init_47 fl_X2_20 (by first | exact va_up_self _ _ _ | rfl | exact h1) (fun _ => rfl) (fun _ => rfl) ?_
  try rw [va_uu]
  exact m_return hF dX2_init_50 rfl rfl rfl ⟨rfl, ⟨0, fun _ => 0, fun _ => 1, fun _ _ => 0, by decide, by decide, congrArg (eO 2) (iX2_fin 4 0 0), congrArg (eR tyS 6) (rSet_up 5), fun i hi => (by
    match i, hi with
    | 0, _ => exact ⟨rfl, rfl⟩
    | 1, _ => exact ⟨rfl, rfl⟩
    | 2, _ => exact ⟨rfl, rfl⟩
    | 3, _ => exact ⟨rfl, rfl⟩
    | 4, _ => exact ⟨rfl, rfl⟩
    | 5, _ => exact ⟨rfl, rfl⟩), fun j hj => absurd hj (Nat.not_lt_zero _)⟩, fun q hq => by repeat rw [va_up_ne _ _ (by omega)]⟩

set_option maxHeartbeats 400000 in
set_option maxRecDepth 100000 in
theorem t_X2_init_19 {hp : mHp} (h1 : hp 19 = eO 2 iX2) {H : Nat → Nat → Int32} : mC D_X2_init [.ref 19] 20 hp (fun v hp' => v = none ∧ cHist hp' 19 0 H ∧ ∀ q, (q < 19 ∨ 32 < q) → hp' q = hp q) := by
  refine m_enter rfl rfl (Nat.le_of_ble_eq_true rfl) (fun K hF => ?_)
  have hin := hF.2.2.2.1
  show mW K _ 0 0 _ _ 0 [.ref 19, .retAddr 0] []
  refine m_aload_n dX2_init_0 rfl ?_
  refine m_objInit dX2_init_1 lk_X2_1 (Nat.le_of_ble_eq_true rfl) (by decide) ?_
  refine m_aload_n dX2_init_4 rfl ?_
  refine m_bipush (v := 6) dX2_init_5 (by decide) ?_
  refine m_anewarray (N := 6) dX2_init_7 w_1_53 ⟨by decide, by decide⟩ (by decide) (by decide) (by decide) ?_
  show mW _ _ _ _ 21 _ _ _ (.ref 20 :: _)
  refine m_putfieldF dX2_init_10 fl_X2_11 ⟨RX2, TX2, 3, rfl, rfl⟩ (by first | exact va_up_self _ _ _ | rfl | exact h1) hin (fun _ => rfl) (fun _ => rfl) ?_
  try rw [va_uu]
  refine m_iconst (v := 0) dX2_init_13 (by decide) ?_
  refine m_istore_n dX2_init_14 (by decide) ?_
  show mW _ _ _ _ _ _ 15 [_, _] _
  refine m_iload_n dX2_init_15 rfl ?_
  refine m_bipush (v := 6) dX2_init_16 (by decide) ?_
  refine m_icmp_ge (t := 40) dX2_init_18 (by decide) (fun q => absurd q (by decide)) (fun _ => ?_)
  refine m_aload_n dX2_init_21 rfl ?_
  refine m_getfield dX2_init_22 fl_X2_11 (by first | exact va_up_self _ _ _ | rfl | exact h1) (by first | exact va_up_self _ _ _ | rfl | exact h1) ?_
  show mW _ _ _ _ _ _ _ _ (.ref _ :: _)
  refine m_iload_n dX2_init_25 rfl ?_
  refine m_new (ci := 3) (f := iX3) dX2_init_26 rfl inT3 tyX3_ok w_1_53 w_1_23 w_1_2 iX3_ok (by decide) (by decide) (by decide) ?_
  show mW _ _ _ _ 22 _ _ _ (.ref 21 :: _)
  refine m_dup dX2_init_29 rfl ?_
  refine m_invI dX2_init_30 lk_X2_15 ar_X3_init rfl (t_X3_init (h := 21) (va_up_self _ _ _) (by decide) (by decide)) rfl (Nat.le_of_ble_eq_true rfl) (by decide) (by decide) (by decide) (by decide) (fun v hp' q => ?_)
  obtain ⟨rfl, rfl⟩ := q
  show mW K _ _ _ 23 _ 33 _ (.ref 21 :: _)
  refine m_aastore (ci := 3) (k := 0) dX2_init_33 (by first | exact va_up_self _ _ _ | rfl | exact h1) ⟨by decide, by decide⟩ (by first | exact va_up_self _ _ _ | rfl | exact h1) ?_
  try rw [va_uu]
  refine m_iinc (v := 1) dX2_init_34 rfl (by decide) (by decide) ?_
  show mW _ _ _ _ _ _ 37 [_, _] _
  refine m_goto (t := 15) dX2_init_37 (by decide) ?_
  refine m_iload_n dX2_init_15 rfl ?_
  refine m_bipush (v := 6) dX2_init_16 (by decide) ?_
  refine m_icmp_ge (t := 40) dX2_init_18 (by decide) (fun q => absurd q (by decide)) (fun _ => ?_)
  refine m_aload_n dX2_init_21 rfl ?_
  refine m_getfield dX2_init_22 fl_X2_11 (by first | exact va_up_self _ _ _ | rfl | exact h1) (by first | exact va_up_self _ _ _ | rfl | exact h1) ?_
  show mW _ _ _ _ _ _ _ _ (.ref _ :: _)
  refine m_iload_n dX2_init_25 rfl ?_
  refine m_new (ci := 3) (f := iX3) dX2_init_26 rfl inT3 tyX3_ok w_1_53 w_1_23 w_1_2 iX3_ok (by decide) (by decide) (by decide) ?_
  show mW _ _ _ _ 24 _ _ _ (.ref 23 :: _)
  refine m_dup dX2_init_29 rfl ?_
  refine m_invI dX2_init_30 lk_X2_15 ar_X3_init rfl (t_X3_init (h := 23) (va_up_self _ _ _) (by decide) (by decide)) rfl (Nat.le_of_ble_eq_true rfl) (by decide) (by decide) (by decide) (by decide) (fun v hp' q => ?_)
  obtain ⟨rfl, rfl⟩ := q
  show mW K _ _ _ 25 _ 33 _ (.ref 23 :: _)
  refine m_aastore (ci := 3) (k := 1) dX2_init_33 (by first | exact va_up_self _ _ _ | rfl | exact h1) ⟨by decide, by decide⟩ (by first | exact va_up_self _ _ _ | rfl | exact h1) ?_
  try rw [va_uu]
  refine m_iinc (v := 2) dX2_init_34 rfl (by decide) (by decide) ?_
  show mW _ _ _ _ _ _ 37 [_, _] _
  refine m_goto (t := 15) dX2_init_37 (by decide) ?_
  refine m_iload_n dX2_init_15 rfl ?_
  refine m_bipush (v := 6) dX2_init_16 (by decide) ?_
  refine m_icmp_ge (t := 40) dX2_init_18 (by decide) (fun q => absurd q (by decide)) (fun _ => ?_)
  refine m_aload_n dX2_init_21 rfl ?_
  refine m_getfield dX2_init_22 fl_X2_11 (by first | exact va_up_self _ _ _ | rfl | exact h1) (by first | exact va_up_self _ _ _ | rfl | exact h1) ?_
  show mW _ _ _ _ _ _ _ _ (.ref _ :: _)
  refine m_iload_n dX2_init_25 rfl ?_
  refine m_new (ci := 3) (f := iX3) dX2_init_26 rfl inT3 tyX3_ok w_1_53 w_1_23 w_1_2 iX3_ok (by decide) (by decide) (by decide) ?_
  show mW _ _ _ _ 26 _ _ _ (.ref 25 :: _)
  refine m_dup dX2_init_29 rfl ?_
  refine m_invI dX2_init_30 lk_X2_15 ar_X3_init rfl (t_X3_init (h := 25) (va_up_self _ _ _) (by decide) (by decide)) rfl (Nat.le_of_ble_eq_true rfl) (by decide) (by decide) (by decide) (by decide) (fun v hp' q => ?_)
  obtain ⟨rfl, rfl⟩ := q
  show mW K _ _ _ 27 _ 33 _ (.ref 25 :: _)
  refine m_aastore (ci := 3) (k := 2) dX2_init_33 (by first | exact va_up_self _ _ _ | rfl | exact h1) ⟨by decide, by decide⟩ (by first | exact va_up_self _ _ _ | rfl | exact h1) ?_
  try rw [va_uu]
  refine m_iinc (v := 3) dX2_init_34 rfl (by decide) (by decide) ?_
  show mW _ _ _ _ _ _ 37 [_, _] _
  refine m_goto (t := 15) dX2_init_37 (by decide) ?_
  refine m_iload_n dX2_init_15 rfl ?_
  refine m_bipush (v := 6) dX2_init_16 (by decide) ?_
  refine m_icmp_ge (t := 40) dX2_init_18 (by decide) (fun q => absurd q (by decide)) (fun _ => ?_)
  refine m_aload_n dX2_init_21 rfl ?_
  refine m_getfield dX2_init_22 fl_X2_11 (by first | exact va_up_self _ _ _ | rfl | exact h1) (by first | exact va_up_self _ _ _ | rfl | exact h1) ?_
  show mW _ _ _ _ _ _ _ _ (.ref _ :: _)
  refine m_iload_n dX2_init_25 rfl ?_
  refine m_new (ci := 3) (f := iX3) dX2_init_26 rfl inT3 tyX3_ok w_1_53 w_1_23 w_1_2 iX3_ok (by decide) (by decide) (by decide) ?_
  show mW _ _ _ _ 28 _ _ _ (.ref 27 :: _)
  refine m_dup dX2_init_29 rfl ?_
  refine m_invI dX2_init_30 lk_X2_15 ar_X3_init rfl (t_X3_init (h := 27) (va_up_self _ _ _) (by decide) (by decide)) rfl (Nat.le_of_ble_eq_true rfl) (by decide) (by decide) (by decide) (by decide) (fun v hp' q => ?_)
  obtain ⟨rfl, rfl⟩ := q
  show mW K _ _ _ 29 _ 33 _ (.ref 27 :: _)
  refine m_aastore (ci := 3) (k := 3) dX2_init_33 (by first | exact va_up_self _ _ _ | rfl | exact h1) ⟨by decide, by decide⟩ (by first | exact va_up_self _ _ _ | rfl | exact h1) ?_
  try rw [va_uu]
  refine m_iinc (v := 4) dX2_init_34 rfl (by decide) (by decide) ?_
  show mW _ _ _ _ _ _ 37 [_, _] _
  refine m_goto (t := 15) dX2_init_37 (by decide) ?_
  refine m_iload_n dX2_init_15 rfl ?_
  refine m_bipush (v := 6) dX2_init_16 (by decide) ?_
  refine m_icmp_ge (t := 40) dX2_init_18 (by decide) (fun q => absurd q (by decide)) (fun _ => ?_)
  refine m_aload_n dX2_init_21 rfl ?_
  refine m_getfield dX2_init_22 fl_X2_11 (by first | exact va_up_self _ _ _ | rfl | exact h1) (by first | exact va_up_self _ _ _ | rfl | exact h1) ?_
  show mW _ _ _ _ _ _ _ _ (.ref _ :: _)
  refine m_iload_n dX2_init_25 rfl ?_
  refine m_new (ci := 3) (f := iX3) dX2_init_26 rfl inT3 tyX3_ok w_1_53 w_1_23 w_1_2 iX3_ok (by decide) (by decide) (by decide) ?_
  show mW _ _ _ _ 30 _ _ _ (.ref 29 :: _)
  refine m_dup dX2_init_29 rfl ?_
  refine m_invI dX2_init_30 lk_X2_15 ar_X3_init rfl (t_X3_init (h := 29) (va_up_self _ _ _) (by decide) (by decide)) rfl (Nat.le_of_ble_eq_true rfl) (by decide) (by decide) (by decide) (by decide) (fun v hp' q => ?_)
  obtain ⟨rfl, rfl⟩ := q
  show mW K _ _ _ 31 _ 33 _ (.ref 29 :: _)
  refine m_aastore (ci := 3) (k := 4) dX2_init_33 (by first | exact va_up_self _ _ _ | rfl | exact h1) ⟨by decide, by decide⟩ (by first | exact va_up_self _ _ _ | rfl | exact h1) ?_
  try rw [va_uu]
  refine m_iinc (v := 5) dX2_init_34 rfl (by decide) (by decide) ?_
  show mW _ _ _ _ _ _ 37 [_, _] _
  refine m_goto (t := 15) dX2_init_37 (by decide) ?_
  refine m_iload_n dX2_init_15 rfl ?_
  refine m_bipush (v := 6) dX2_init_16 (by decide) ?_
  refine m_icmp_ge (t := 40) dX2_init_18 (by decide) (fun q => absurd q (by decide)) (fun _ => ?_)
  refine m_aload_n dX2_init_21 rfl ?_
  refine m_getfield dX2_init_22 fl_X2_11 (by first | exact va_up_self _ _ _ | rfl | exact h1) (by first | exact va_up_self _ _ _ | rfl | exact h1) ?_
  show mW _ _ _ _ _ _ _ _ (.ref _ :: _)
  refine m_iload_n dX2_init_25 rfl ?_
  refine m_new (ci := 3) (f := iX3) dX2_init_26 rfl inT3 tyX3_ok w_1_53 w_1_23 w_1_2 iX3_ok (by decide) (by decide) (by decide) ?_
  show mW _ _ _ _ 32 _ _ _ (.ref 31 :: _)
  refine m_dup dX2_init_29 rfl ?_
  refine m_invI dX2_init_30 lk_X2_15 ar_X3_init rfl (t_X3_init (h := 31) (va_up_self _ _ _) (by decide) (by decide)) rfl (Nat.le_of_ble_eq_true rfl) (by decide) (by decide) (by decide) (by decide) (fun v hp' q => ?_)
  obtain ⟨rfl, rfl⟩ := q
  show mW K _ _ _ 33 _ 33 _ (.ref 31 :: _)
  refine m_aastore (ci := 3) (k := 5) dX2_init_33 (by first | exact va_up_self _ _ _ | rfl | exact h1) ⟨by decide, by decide⟩ (by first | exact va_up_self _ _ _ | rfl | exact h1) ?_
  try rw [va_uu]
  refine m_iinc (v := 6) dX2_init_34 rfl (by decide) (by decide) ?_
  show mW _ _ _ _ _ _ 37 [_, _] _
  refine m_goto (t := 15) dX2_init_37 (by decide) ?_
  refine m_iload_n dX2_init_15 rfl ?_
  refine m_bipush (v := 6) dX2_init_16 (by decide) ?_
  refine m_icmp_ge (t := 40) dX2_init_18 (by decide) (fun _ => ?_) (fun q => absurd (by decide) q)
  refine m_aload_n dX2_init_40 rfl ?_
  refine m_iconst (v := 0) dX2_init_41 (by decide) ?_
  refine m_putfield dX2_init_42 fl_X2_16 (by first | exact va_up_self _ _ _ | rfl | exact h1) (fun _ => rfl) (fun _ => rfl) ?_
  try rw [va_uu]
  refine m_aload_n dX2_init_45 rfl ?_
  refine m_iconst (v := 0) dX2_init_46 (by decide) ?_
  refine m_putfield dX2_init_47 fl_X2_20 (by first | exact va_up_self _ _ _ | rfl | exact h1) (fun _ => rfl) (fun _ => rfl) ?_
  try rw [va_uu]
  exact m_return hF dX2_init_50 rfl rfl rfl ⟨rfl, ⟨0, fun _ => 0, fun _ => 1, fun _ _ => 0, by decide, by decide, congrArg (eO 2) (iX2_fin 20 0 0), congrArg (eR tyS 6) (rSet_up 21), fun i hi => (by
    match i, hi with
    | 0, _ => exact ⟨rfl, rfl⟩
    | 1, _ => exact ⟨rfl, rfl⟩
    | 2, _ => exact ⟨rfl, rfl⟩
    | 3, _ => exact ⟨rfl, rfl⟩
    | 4, _ => exact ⟨rfl, rfl⟩
    | 5, _ => exact ⟨rfl, rfl⟩), fun j hj => absurd hj (Nat.not_lt_zero _)⟩, fun q hq => by repeat rw [va_up_ne _ _ (by omega)]⟩

theorem iX6_fin : va_up (va_up (va_up (va_up (va_up (va_up (va_up (iX6) 0 (.ref 34)) 1 (.ref 35)) 2 (.int 0)) 3 (.int 0)) 4 (.int 0)) 5 (.int 0)) 6 (.int 0) = oTape 0 0 0 0 0 := by
  funext k
  match k with
  | 0 => rfl
  | 1 => rfl
  | 2 => rfl
  | 3 => rfl
  | 4 => rfl
  | 5 => rfl
  | 6 => rfl
  | k + 7 => simp [va_up, oTape, iX6]
set_option maxHeartbeats 400000 in
set_option maxRecDepth 100000 in
theorem t_X6_init {hp : mHp} (h1 : hp 33 = eO 6 iX6) : mC D_X6_init [.ref 33] 34 hp (fun v hp' => v = none ∧ cTape hp' 0 (fun _ => 0) ∧ ∀ q, (q < 33 ∨ 35 < q) → hp' q = hp q) := by
  refine m_enter rfl rfl (Nat.le_of_ble_eq_true rfl) (fun K hF => ?_)
  have hin := hF.2.2.2.1
  show mW K _ 0 0 _ _ 0 [.ref 33] []
  refine m_aload_n dX6_init_0 rfl ?_
  refine m_objInit dX6_init_1 lk_X6_3 (Nat.le_of_ble_eq_true rfl) (by decide) ?_
  refine m_aload_n dX6_init_4 rfl ?_
  refine m_bipush (v := 60) dX6_init_5 (by decide) ?_
  refine m_newarray (ty := .byte) (a0 := (60, .inl (fun _ => 0))) (N := 60) dX6_init_7 rfl w_1_98 (fun _ _ => rfl) ⟨2, fun _ => rfl⟩ (fun _ q => by cases q) ⟨by decide, by decide⟩ (by decide) (by decide) (by decide) (by decide) ?_
  show mW _ _ _ _ 35 _ _ _ (.ref 34 :: _)
  refine m_putfieldF dX6_init_9 fl_X6_11 ⟨RX6, TX6, 7, rfl, rfl⟩ (by first | exact va_up_self _ _ _ | rfl | exact h1) hin (fun _ => rfl) (fun _ => rfl) ?_
  try rw [va_uu]
  refine m_aload_n dX6_init_12 rfl ?_
  refine m_bipush (v := 10) dX6_init_13 (by decide) ?_
  refine m_newarray (ty := .int) (a0 := (10, .inl (fun _ => 0))) (N := 10) dX6_init_15 rfl w_1_42 (fun _ _ => rfl) ⟨0, fun _ => rfl⟩ (fun _ q => by cases q) ⟨by decide, by decide⟩ (by decide) (by decide) (by decide) (by decide) ?_
  show mW _ _ _ _ 36 _ _ _ (.ref 35 :: _)
  refine m_putfieldF dX6_init_17 fl_X6_15 ⟨RX6, TX6, 7, rfl, rfl⟩ (by first | exact va_up_self _ _ _ | rfl | exact h1) hin (fun _ => rfl) (fun _ => rfl) ?_
  try rw [va_uu]
  refine m_aload_n dX6_init_20 rfl ?_
  refine m_iconst (v := 0) dX6_init_21 (by decide) ?_
  refine m_putfield dX6_init_22 fl_X6_19 (by first | exact va_up_self _ _ _ | rfl | exact h1) (fun _ => rfl) (fun _ => rfl) ?_
  try rw [va_uu]
  refine m_aload_n dX6_init_25 rfl ?_
  refine m_iconst (v := 0) dX6_init_26 (by decide) ?_
  refine m_putfield dX6_init_27 fl_X6_23 (by first | exact va_up_self _ _ _ | rfl | exact h1) (fun _ => rfl) (fun _ => rfl) ?_
  try rw [va_uu]
  refine m_aload_n dX6_init_30 rfl ?_
  refine m_iconst (v := 0) dX6_init_31 (by decide) ?_
  refine m_putfield dX6_init_32 fl_X6_27 (by first | exact va_up_self _ _ _ | rfl | exact h1) (fun _ => rfl) (fun _ => rfl) ?_
  try rw [va_uu]
  refine m_aload_n dX6_init_35 rfl ?_
  refine m_iconst (v := 0) dX6_init_36 (by decide) ?_
  refine m_putfield dX6_init_37 fl_X6_30 (by first | exact va_up_self _ _ _ | rfl | exact h1) (fun _ => rfl) (fun _ => rfl) ?_
  try rw [va_uu]
  refine m_aload_n dX6_init_40 rfl ?_
  refine m_iconst (v := 0) dX6_init_41 (by decide) ?_
  refine m_putfield dX6_init_42 fl_X6_33 (by first | exact va_up_self _ _ _ | rfl | exact h1) (fun _ => rfl) (fun _ => rfl) ?_
  try rw [va_uu]
  exact m_return hF dX6_init_45 rfl rfl rfl ⟨rfl, ⟨by decide, 0, 0, 0, 0, fun _ => 0, congrArg (eO 6) iX6_fin, rfl, rfl⟩, fun q hq => by repeat rw [va_up_ne _ _ (by omega)]⟩

theorem iX4_fin : va_up (va_up (va_up (iX4) 0 (.ref 37)) 1 (.ref 38)) 2 (.ref 39) = oShelf := by
  funext k
  match k with
  | 0 => rfl
  | 1 => rfl
  | 2 => rfl
  | k + 3 => simp [va_up, oShelf, iX4]
def LN0 : Nat → Int32 := va_up (va_up (va_up (va_up (fun _ => 0) 0 (-1)) 1 (-1)) 2 (-1)) 3 (-1)
def SH0 : SH := (LN0, fun _ => 0, fun _ _ => 0)
set_option maxHeartbeats 400000 in
set_option maxRecDepth 100000 in
theorem t_X4_init {hp : mHp} (h1 : hp 36 = eO 4 iX4) : mC D_X4_init [.ref 36] 37 hp (fun v hp' => v = none ∧ cShelf hp' SH0 ∧ ∀ q, (q < 36 ∨ 43 < q) → hp' q = hp q) := by
  refine m_enter rfl rfl (Nat.le_of_ble_eq_true rfl) (fun K hF => ?_)
  have hin := hF.2.2.2.1
  show mW K _ 0 0 _ _ 0 [.ref 36, .retAddr 0] []
  refine m_aload_n dX4_init_0 rfl ?_
  refine m_objInit dX4_init_1 lk_X4_3 (Nat.le_of_ble_eq_true rfl) (by decide) ?_
  refine m_aload_n dX4_init_4 rfl ?_
  refine m_iconst (v := 4) dX4_init_5 (by decide) ?_
  refine m_newarray (ty := .int) (a0 := (4, .inl (fun _ => 0))) (N := 4) dX4_init_6 rfl w_1_42 (fun _ _ => rfl) ⟨0, fun _ => rfl⟩ (fun _ q => by cases q) ⟨by decide, by decide⟩ (by decide) (by decide) (by decide) (by decide) ?_
  show mW _ _ _ _ 38 _ _ _ (.ref 37 :: _)
  refine m_putfieldF dX4_init_8 fl_X4_9 ⟨RX4, TX4, 3, rfl, rfl⟩ (by first | exact va_up_self _ _ _ | rfl | exact h1) hin (fun _ => rfl) (fun _ => rfl) ?_
  try rw [va_uu]
  refine m_aload_n dX4_init_11 rfl ?_
  refine m_iconst (v := 4) dX4_init_12 (by decide) ?_
  refine m_newarray (ty := .int) (a0 := (4, .inl (fun _ => 0))) (N := 4) dX4_init_13 rfl w_1_42 (fun _ _ => rfl) ⟨0, fun _ => rfl⟩ (fun _ q => by cases q) ⟨by decide, by decide⟩ (by decide) (by decide) (by decide) (by decide) ?_
  show mW _ _ _ _ 39 _ _ _ (.ref 38 :: _)
  refine m_putfieldF dX4_init_15 fl_X4_15 ⟨RX4, TX4, 3, rfl, rfl⟩ (by first | exact va_up_self _ _ _ | rfl | exact h1) hin (fun _ => rfl) (fun _ => rfl) ?_
  try rw [va_uu]
  refine m_aload_n dX4_init_18 rfl ?_
  refine m_iconst (v := 4) dX4_init_19 (by decide) ?_
  refine m_bipush (v := 24) dX4_init_20 (by decide) ?_
  refine m_mna (N := 4) (N2 := 24) dX4_init_22 w_1_105 ⟨by decide, by decide⟩ ⟨by decide, by decide⟩ (by decide) (by decide) (by decide) ?_
  show mW _ _ _ _ 44 _ _ _ (.ref 39 :: _)
  refine m_putfieldF dX4_init_26 fl_X4_20 ⟨RX4, TX4, 3, rfl, rfl⟩ (by first | exact va_up_self _ _ _ | rfl | exact h1) hin (fun _ => rfl) (fun _ => rfl) ?_
  try rw [va_uu]
  refine m_iconst (v := 0) dX4_init_29 (by decide) ?_
  refine m_istore_n dX4_init_30 (by decide) ?_
  show mW _ _ _ _ _ _ 31 [_, _] _
  refine m_iload_n dX4_init_31 rfl ?_
  refine m_iconst (v := 4) dX4_init_32 (by decide) ?_
  refine m_icmp_ge (t := 49) dX4_init_33 (by decide) (fun q => absurd q (by decide)) (fun _ => ?_)
  refine m_aload_n dX4_init_36 rfl ?_
  refine m_getfield dX4_init_37 fl_X4_9 (by first | exact va_up_self _ _ _ | rfl | exact h1) (by first | exact va_up_self _ _ _ | rfl | exact h1) ?_
  show mW _ _ _ _ _ _ _ _ (.ref _ :: _)
  refine m_iload_n dX4_init_40 rfl ?_
  refine m_iconst (v := -1) dX4_init_41 (by decide) ?_
  refine m_iastore (k := 0) dX4_init_42 (by first | exact va_up_self _ _ _ | rfl | exact h1) ⟨by decide, by decide⟩ ?_
  try rw [va_uu]
  refine m_iinc (v := 1) dX4_init_43 rfl (by decide) (by decide) ?_
  show mW _ _ _ _ _ _ 46 [_, _] _
  refine m_goto (t := 31) dX4_init_46 (by decide) ?_
  refine m_iload_n dX4_init_31 rfl ?_
  refine m_iconst (v := 4) dX4_init_32 (by decide) ?_
  refine m_icmp_ge (t := 49) dX4_init_33 (by decide) (fun q => absurd q (by decide)) (fun _ => ?_)
  refine m_aload_n dX4_init_36 rfl ?_
  refine m_getfield dX4_init_37 fl_X4_9 (by first | exact va_up_self _ _ _ | rfl | exact h1) (by first | exact va_up_self _ _ _ | rfl | exact h1) ?_
  show mW _ _ _ _ _ _ _ _ (.ref _ :: _)
  refine m_iload_n dX4_init_40 rfl ?_
  refine m_iconst (v := -1) dX4_init_41 (by decide) ?_
  refine m_iastore (k := 1) dX4_init_42 (by first | exact va_up_self _ _ _ | rfl | exact h1) ⟨by decide, by decide⟩ ?_
  try rw [va_uu]
  refine m_iinc (v := 2) dX4_init_43 rfl (by decide) (by decide) ?_
  show mW _ _ _ _ _ _ 46 [_, _] _
  refine m_goto (t := 31) dX4_init_46 (by decide) ?_
  refine m_iload_n dX4_init_31 rfl ?_
  refine m_iconst (v := 4) dX4_init_32 (by decide) ?_
  refine m_icmp_ge (t := 49) dX4_init_33 (by decide) (fun q => absurd q (by decide)) (fun _ => ?_)
  refine m_aload_n dX4_init_36 rfl ?_
  refine m_getfield dX4_init_37 fl_X4_9 (by first | exact va_up_self _ _ _ | rfl | exact h1) (by first | exact va_up_self _ _ _ | rfl | exact h1) ?_
  show mW _ _ _ _ _ _ _ _ (.ref _ :: _)
  refine m_iload_n dX4_init_40 rfl ?_
  refine m_iconst (v := -1) dX4_init_41 (by decide) ?_
  refine m_iastore (k := 2) dX4_init_42 (by first | exact va_up_self _ _ _ | rfl | exact h1) ⟨by decide, by decide⟩ ?_
  try rw [va_uu]
  refine m_iinc (v := 3) dX4_init_43 rfl (by decide) (by decide) ?_
  show mW _ _ _ _ _ _ 46 [_, _] _
  refine m_goto (t := 31) dX4_init_46 (by decide) ?_
  refine m_iload_n dX4_init_31 rfl ?_
  refine m_iconst (v := 4) dX4_init_32 (by decide) ?_
  refine m_icmp_ge (t := 49) dX4_init_33 (by decide) (fun q => absurd q (by decide)) (fun _ => ?_)
  refine m_aload_n dX4_init_36 rfl ?_
  refine m_getfield dX4_init_37 fl_X4_9 (by first | exact va_up_self _ _ _ | rfl | exact h1) (by first | exact va_up_self _ _ _ | rfl | exact h1) ?_
  show mW _ _ _ _ _ _ _ _ (.ref _ :: _)
  refine m_iload_n dX4_init_40 rfl ?_
  refine m_iconst (v := -1) dX4_init_41 (by decide) ?_
  refine m_iastore (k := 3) dX4_init_42 (by first | exact va_up_self _ _ _ | rfl | exact h1) ⟨by decide, by decide⟩ ?_
  try rw [va_uu]
  refine m_iinc (v := 4) dX4_init_43 rfl (by decide) (by decide) ?_
  show mW _ _ _ _ _ _ 46 [_, _] _
  refine m_goto (t := 31) dX4_init_46 (by decide) ?_
  refine m_iload_n dX4_init_31 rfl ?_
  refine m_iconst (v := 4) dX4_init_32 (by decide) ?_
  refine m_icmp_ge (t := 49) dX4_init_33 (by decide) (fun _ => ?_) (fun q => absurd (by decide) q)
  exact m_return hF dX4_init_49 rfl rfl rfl ⟨rfl, ⟨congrArg (eO 4) iX4_fin, rfl, rfl, rfl, fun s hs => (by
    match s, hs with
    | 0, _ => rfl
    | 1, _ => rfl
    | 2, _ => rfl
    | 3, _ => rfl)⟩, fun q hq => by repeat (first | rw [va_up_ne _ _ (by omega)] | rw [show ∀ hp : mHp, hpM hp 39 4 24 q = hp q from fun hp => (if_neg (by omega)).trans (if_neg (by omega))])⟩

theorem iX0_fin : va_up (va_up (va_up (iX0) 0 (.ref 46)) 1 (.ref 52)) 2 (.int 0) = oChain (nI 0) := by
  funext k
  match k with
  | 0 => rfl
  | 1 => rfl
  | 2 => rfl
  | k + 3 => simp [va_up, oChain, iX0]
set_option maxHeartbeats 400000 in
set_option maxRecDepth 100000 in
theorem t_X0_init {hp : mHp} (h1 : hp 45 = eO 0 iX0) : mC D_X0_init [.ref 45] 46 hp (fun v hp' => v = none ∧ hp' 45 = eO 0 (oChain (nI 0)) ∧ hp' 46 = eR tyJJ 5 rLines ∧ (∀ i, i < 5 → hp' (47 + i) = eL 5 (fun _ => 0)) ∧ hp' 52 = eI 5 (fun _ => 0) ∧ ∀ q, (q < 45 ∨ 52 < q) → hp' q = hp q) := by
  refine m_enter rfl rfl (Nat.le_of_ble_eq_true rfl) (fun K hF => ?_)
  have hin := hF.2.2.2.1
  show mW K _ 0 0 _ _ 0 [.ref 45] []
  refine m_aload_n dX0_init_0 rfl ?_
  refine m_objInit dX0_init_1 lk_X0_3 (Nat.le_of_ble_eq_true rfl) (by decide) ?_
  refine m_aload_n dX0_init_4 rfl ?_
  refine m_iconst (v := 5) dX0_init_5 (by decide) ?_
  refine m_iconst (v := 5) dX0_init_6 (by decide) ?_
  refine m_mna (N := 5) (N2 := 5) dX0_init_7 w_1_133 ⟨by decide, by decide⟩ ⟨by decide, by decide⟩ (by decide) (by decide) (by decide) ?_
  show mW _ _ _ _ 52 _ _ _ (.ref 46 :: _)
  refine m_putfieldF dX0_init_11 fl_X0_11 ⟨RX0, TX0, 3, rfl, rfl⟩ (by first | exact va_up_self _ _ _ | rfl | exact h1) hin (fun _ => rfl) (fun _ => rfl) ?_
  try rw [va_uu]
  refine m_aload_n dX0_init_14 rfl ?_
  refine m_iconst (v := 5) dX0_init_15 (by decide) ?_
  refine m_newarray (ty := .int) (a0 := (5, .inl (fun _ => 0))) (N := 5) dX0_init_16 rfl w_1_42 (fun _ _ => rfl) ⟨0, fun _ => rfl⟩ (fun _ q => by cases q) ⟨by decide, by decide⟩ (by decide) (by decide) (by decide) (by decide) ?_
  show mW _ _ _ _ 53 _ _ _ (.ref 52 :: _)
  refine m_putfieldF dX0_init_18 fl_X0_16 ⟨RX0, TX0, 3, rfl, rfl⟩ (by first | exact va_up_self _ _ _ | rfl | exact h1) hin (fun _ => rfl) (fun _ => rfl) ?_
  try rw [va_uu]
  refine m_aload_n dX0_init_21 rfl ?_
  refine m_iconst (v := 0) dX0_init_22 (by decide) ?_
  refine m_putfield dX0_init_23 fl_X0_20 (by first | exact va_up_self _ _ _ | rfl | exact h1) (fun _ => rfl) (fun _ => rfl) ?_
  try rw [va_uu]
  exact m_return hF dX0_init_26 rfl rfl rfl ⟨rfl, congrArg (eO 0) iX0_fin, rfl, fun i hi => (by
    match i, hi with
    | 0, _ => rfl
    | 1, _ => rfl
    | 2, _ => rfl
    | 3, _ => rfl
    | 4, _ => rfl), rfl, fun q hq => by repeat (first | rw [va_up_ne _ _ (by omega)] | rw [show ∀ hp : mHp, hpM hp 46 5 5 q = hp q from fun hp => (if_neg (by omega)).trans (if_neg (by omega))])⟩

theorem iX1_fin : va_up (va_up (va_up (va_up (va_up (iX1) 0 (.ref 45)) 1 (.ref 53)) 2 (.int 0)) 3 (.int 0)) 4 (.int 0) = oJudge 0 0 0 := by
  funext k
  match k with
  | 0 => rfl
  | 1 => rfl
  | 2 => rfl
  | 3 => rfl
  | 4 => rfl
  | k + 5 => simp [va_up, oJudge, iX1]
theorem hpC_mk {hp : mHp} (h1 : hp 45 = eO 0 (oChain (nI 0))) (h2 : ∀ i, i < 5 → hp (47 + i) = eL 5 (fun _ => 0)) (h3 : hp 52 = eI 5 (fun _ => 0)) : hp = hpC hp (fun _ _ => 0) (fun _ => 0) 0 := by
  funext q
  unfold hpC
  by_cases e1 : q = 45
  · rw [if_pos e1, e1]
    exact h1
  · rw [if_neg e1]
    by_cases e2 : q = 52
    · rw [if_pos e2, e2]
      exact h3
    · rw [if_neg e2]
      by_cases e3 : 47 ≤ q ∧ q < 52
      · rw [if_pos e3]
        have := h2 (q - 47) (by omega)
        rw [show 47 + (q - 47) = q by omega] at this
        exact this
      · rw [if_neg e3]
set_option maxHeartbeats 400000 in
set_option maxRecDepth 100000 in
theorem t_X1_init {hp : mHp} (h1 : hp 44 = eO 1 iX1) : mC D_X1_init [.ref 44] 45 hp (fun v hp' => v = none ∧ cJudge hp' ∧ ∀ q, (q < 44 ∨ 53 < q) → hp' q = hp q) := by
  refine m_enter rfl rfl (Nat.le_of_ble_eq_true rfl) (fun K hF => ?_)
  have hin := hF.2.2.2.1
  show mW K _ 0 0 _ _ 0 [.ref 44] []
  refine m_aload_n dX1_init_0 rfl ?_
  refine m_objInit dX1_init_1 lk_X1_3 (Nat.le_of_ble_eq_true rfl) (by decide) ?_
  refine m_aload_n dX1_init_4 rfl ?_
  refine m_new (ci := 0) (f := iX0) dX1_init_5 rfl inT0 tyX0_ok w_1_127 w_1_128 w_1_7 iX0_ok (by decide) (by decide) (by decide) ?_
  show mW _ _ _ _ 46 _ _ _ (.ref 45 :: _)
  refine m_dup dX1_init_8 rfl ?_
  refine m_invI dX1_init_9 lk_X1_11 ar_X0_init rfl (t_X0_init (va_up_self _ _ _)) rfl (Nat.le_of_ble_eq_true rfl) (by decide) (by decide) (by decide) (by decide) (fun v hp1 q => ?_)
  obtain ⟨rfl, k1, k2, k3, k4, kO⟩ := q
  have k0 : hp1 44 = eO 1 iX1 := (kO 44 (by decide)).trans h1
  show mW K _ _ _ 53 _ 12 _ (.ref 45 :: _)
  refine m_putfieldF dX1_init_12 fl_X1_12 ⟨RX1, TX1, 5, rfl, rfl⟩ (by first | exact va_up_self _ _ _ | rfl | exact k0 | exact (va_up_ne _ _ (by decide)).trans (va_up_self _ _ _)) hin (fun _ => rfl) (fun _ => rfl) ?_
  try rw [va_uu]
  refine m_aload_n dX1_init_15 rfl ?_
  refine m_iconst (v := 5) dX1_init_16 (by decide) ?_
  refine m_newarray (ty := .long) (a0 := (5, .inr (.inl (fun _ => 0)))) (N := 5) dX1_init_17 rfl w_1_120 (fun _ _ => rfl) ⟨1, fun _ => rfl⟩ (fun _ q => by cases q) ⟨by decide, by decide⟩ (by decide) (by decide) (by decide) (by decide) ?_
  show mW _ _ _ _ 54 _ _ _ (.ref 53 :: _)
  refine m_putfieldF dX1_init_19 fl_X1_18 ⟨RX1, TX1, 5, rfl, rfl⟩ (by first | exact va_up_self _ _ _ | rfl | exact k0 | exact (va_up_ne _ _ (by decide)).trans (va_up_self _ _ _)) hin (fun _ => rfl) (fun _ => rfl) ?_
  try rw [va_uu]
  refine m_aload_n dX1_init_22 rfl ?_
  refine m_iconst (v := 0) dX1_init_23 (by decide) ?_
  refine m_putfield dX1_init_24 fl_X1_22 (by first | exact va_up_self _ _ _ | rfl | exact k0 | exact (va_up_ne _ _ (by decide)).trans (va_up_self _ _ _)) (fun _ => rfl) (fun _ => rfl) ?_
  try rw [va_uu]
  refine m_aload_n dX1_init_27 rfl ?_
  refine m_iconst (v := 0) dX1_init_28 (by decide) ?_
  refine m_putfield dX1_init_29 fl_X1_26 (by first | exact va_up_self _ _ _ | rfl | exact k0 | exact (va_up_ne _ _ (by decide)).trans (va_up_self _ _ _)) (fun _ => rfl) (fun _ => rfl) ?_
  try rw [va_uu]
  refine m_aload_n dX1_init_32 rfl ?_
  refine m_iconst (v := 0) dX1_init_33 (by decide) ?_
  refine m_putfield dX1_init_34 fl_X1_29 (by first | exact va_up_self _ _ _ | rfl | exact k0 | exact (va_up_ne _ _ (by decide)).trans (va_up_self _ _ _)) (fun _ => rfl) (fun _ => rfl) ?_
  try rw [va_uu]
  exact m_return hF dX1_init_37 rfl rfl rfl ⟨rfl, ⟨fun _ _ => 0, fun _ => 0, 0, 0, 0, 0, fun _ => 0, hpC_mk k1 (fun i hi => by rw [va_up_ne _ _ (by omega), va_up_ne _ _ (by omega), va_up_ne _ _ (by omega)]; exact k3 i hi) k4, congrArg (eO 1) iX1_fin, k2, rfl⟩, fun q hq => by rw [va_up_ne _ _ (by omega), va_up_ne _ _ (by omega), va_up_ne _ _ (by omega), kO q (by omega), va_up_ne _ _ (by omega)]⟩

theorem iX5_fin54 : va_up (va_up (va_up (va_up (va_up (va_up (va_up (va_up (va_up (iX5) 0 (.int 0)) 1 (.ref 55)) 2 (.ref 56)) 3 (.ref 57)) 4 (.ref 58)) 5 (.ref 59)) 6 (.int 0)) 7 (.int 0)) 8 (.int 0) = oBk54 0 (nI 0) 0 := by
  funext k
  match k with
  | 0 => rfl
  | 1 => rfl
  | 2 => rfl
  | 3 => rfl
  | 4 => rfl
  | 5 => rfl
  | 6 => rfl
  | 7 => rfl
  | 8 => rfl
  | k + 9 => simp [va_up, oBk54, iX5]
set_option maxHeartbeats 400000 in
set_option maxRecDepth 100000 in
theorem t_X5_init_54 {hp : mHp} (h1 : hp 54 = eO 5 iX5) : mC D_X5_init [.ref 54, .int 0] 55 hp (fun v hp' => v = none ∧ cBk54 hp' ∧ ∀ q, (q < 54 ∨ 59 < q) → hp' q = hp q) := by
  refine m_enter rfl rfl (Nat.le_of_ble_eq_true rfl) (fun K hF => ?_)
  have hin := hF.2.2.2.1
  show mW K _ 0 0 _ _ 0 [.ref 54, .int 0] []
  refine m_aload_n dX5_init_0 rfl ?_
  refine m_objInit dX5_init_1 lk_X5_3 (Nat.le_of_ble_eq_true rfl) (by decide) ?_
  refine m_aload_n dX5_init_4 rfl ?_
  refine m_iload_n dX5_init_5 rfl ?_
  refine m_putfieldF dX5_init_6 fl_X5_9 ⟨RX5, TX5, 9, rfl, rfl⟩ (by first | exact va_up_self _ _ _ | rfl | exact h1) hin (fun _ => rfl) (fun _ => rfl) ?_
  try rw [va_uu]
  refine m_aload_n dX5_init_9 rfl ?_
  refine m_bipush (v := 10) dX5_init_10 (by decide) ?_
  refine m_newarray (ty := .int) (a0 := (10, .inl (fun _ => 0))) (N := 10) dX5_init_12 rfl w_1_42 (fun _ _ => rfl) ⟨0, fun _ => rfl⟩ (fun _ q => by cases q) ⟨by decide, by decide⟩ (by decide) (by decide) (by decide) (by decide) ?_
  show mW _ _ _ _ 56 _ _ _ (.ref 55 :: _)
  refine m_putfieldF dX5_init_14 fl_X5_15 ⟨RX5, TX5, 9, rfl, rfl⟩ (by first | exact va_up_self _ _ _ | rfl | exact h1) hin (fun _ => rfl) (fun _ => rfl) ?_
  try rw [va_uu]
  refine m_aload_n dX5_init_17 rfl ?_
  refine m_iconst (v := 5) dX5_init_18 (by decide) ?_
  refine m_newarray (ty := .long) (a0 := (5, .inr (.inl (fun _ => 0)))) (N := 5) dX5_init_19 rfl w_1_120 (fun _ _ => rfl) ⟨1, fun _ => rfl⟩ (fun _ q => by cases q) ⟨by decide, by decide⟩ (by decide) (by decide) (by decide) (by decide) ?_
  show mW _ _ _ _ 57 _ _ _ (.ref 56 :: _)
  refine m_putfieldF dX5_init_21 fl_X5_19 ⟨RX5, TX5, 9, rfl, rfl⟩ (by first | exact va_up_self _ _ _ | rfl | exact h1) hin (fun _ => rfl) (fun _ => rfl) ?_
  try rw [va_uu]
  refine m_aload_n dX5_init_24 rfl ?_
  refine m_bipush (v := 32) dX5_init_25 (by decide) ?_
  refine m_newarray (ty := .int) (a0 := (32, .inl (fun _ => 0))) (N := 32) dX5_init_27 rfl w_1_42 (fun _ _ => rfl) ⟨0, fun _ => rfl⟩ (fun _ q => by cases q) ⟨by decide, by decide⟩ (by decide) (by decide) (by decide) (by decide) ?_
  show mW _ _ _ _ 58 _ _ _ (.ref 57 :: _)
  refine m_putfieldF dX5_init_29 fl_X5_23 ⟨RX5, TX5, 9, rfl, rfl⟩ (by first | exact va_up_self _ _ _ | rfl | exact h1) hin (fun _ => rfl) (fun _ => rfl) ?_
  try rw [va_uu]
  refine m_aload_n dX5_init_32 rfl ?_
  refine m_bipush (v := 32) dX5_init_33 (by decide) ?_
  refine m_newarray (ty := .int) (a0 := (32, .inl (fun _ => 0))) (N := 32) dX5_init_35 rfl w_1_42 (fun _ _ => rfl) ⟨0, fun _ => rfl⟩ (fun _ q => by cases q) ⟨by decide, by decide⟩ (by decide) (by decide) (by decide) (by decide) ?_
  show mW _ _ _ _ 59 _ _ _ (.ref 58 :: _)
  refine m_putfieldF dX5_init_37 fl_X5_26 ⟨RX5, TX5, 9, rfl, rfl⟩ (by first | exact va_up_self _ _ _ | rfl | exact h1) hin (fun _ => rfl) (fun _ => rfl) ?_
  try rw [va_uu]
  refine m_aload_n dX5_init_40 rfl ?_
  refine m_bipush (v := 32) dX5_init_41 (by decide) ?_
  refine m_newarray (ty := .int) (a0 := (32, .inl (fun _ => 0))) (N := 32) dX5_init_43 rfl w_1_42 (fun _ _ => rfl) ⟨0, fun _ => rfl⟩ (fun _ q => by cases q) ⟨by decide, by decide⟩ (by decide) (by decide) (by decide) (by decide) ?_
  show mW _ _ _ _ 60 _ _ _ (.ref 59 :: _)
  refine m_putfieldF dX5_init_45 fl_X5_29 ⟨RX5, TX5, 9, rfl, rfl⟩ (by first | exact va_up_self _ _ _ | rfl | exact h1) hin (fun _ => rfl) (fun _ => rfl) ?_
  try rw [va_uu]
  refine m_aload_n dX5_init_48 rfl ?_
  refine m_iconst (v := 0) dX5_init_49 (by decide) ?_
  refine m_putfield dX5_init_50 fl_X5_32 (by first | exact va_up_self _ _ _ | rfl | exact h1) (fun _ => rfl) (fun _ => rfl) ?_
  try rw [va_uu]
  refine m_aload_n dX5_init_53 rfl ?_
  refine m_iconst (v := 0) dX5_init_54 (by decide) ?_
  refine m_putfield dX5_init_55 fl_X5_36 (by first | exact va_up_self _ _ _ | rfl | exact h1) (fun _ => rfl) (fun _ => rfl) ?_
  try rw [va_uu]
  refine m_aload_n dX5_init_58 rfl ?_
  refine m_iconst (v := 0) dX5_init_59 (by decide) ?_
  refine m_putfield dX5_init_60 fl_X5_39 (by first | exact va_up_self _ _ _ | rfl | exact h1) (fun _ => rfl) (fun _ => rfl) ?_
  try rw [va_uu]
  exact m_return hF dX5_init_63 rfl rfl rfl ⟨rfl, ⟨0, 0, 0, fun _ => 0, fun _ => 0, fun _ => 0, fun _ => 0, fun _ => 0, congrArg (eO 5) iX5_fin54, rfl, rfl, rfl, rfl, rfl, by decide, Or.inl rfl⟩, fun q hq => by repeat rw [va_up_ne _ _ (by omega)]⟩

theorem iX5_fin60 : va_up (va_up (va_up (va_up (va_up (va_up (va_up (va_up (va_up (iX5) 0 (.int 1)) 1 (.ref 61)) 2 (.ref 62)) 3 (.ref 63)) 4 (.ref 64)) 5 (.ref 65)) 6 (.int 0)) 7 (.int 0)) 8 (.int 0) = oBk60 0 (nI 0) 0 := by
  funext k
  match k with
  | 0 => rfl
  | 1 => rfl
  | 2 => rfl
  | 3 => rfl
  | 4 => rfl
  | 5 => rfl
  | 6 => rfl
  | 7 => rfl
  | 8 => rfl
  | k + 9 => simp [va_up, oBk60, iX5]
set_option maxHeartbeats 400000 in
set_option maxRecDepth 100000 in
theorem t_X5_init_60 {hp : mHp} (h1 : hp 60 = eO 5 iX5) : mC D_X5_init [.ref 60, .int 1] 61 hp (fun v hp' => v = none ∧ cBk60 hp' ∧ ∀ q, (q < 60 ∨ 65 < q) → hp' q = hp q) := by
  refine m_enter rfl rfl (Nat.le_of_ble_eq_true rfl) (fun K hF => ?_)
  have hin := hF.2.2.2.1
  show mW K _ 0 0 _ _ 0 [.ref 60, .int 1] []
  refine m_aload_n dX5_init_0 rfl ?_
  refine m_objInit dX5_init_1 lk_X5_3 (Nat.le_of_ble_eq_true rfl) (by decide) ?_
  refine m_aload_n dX5_init_4 rfl ?_
  refine m_iload_n dX5_init_5 rfl ?_
  refine m_putfieldF dX5_init_6 fl_X5_9 ⟨RX5, TX5, 9, rfl, rfl⟩ (by first | exact va_up_self _ _ _ | rfl | exact h1) hin (fun _ => rfl) (fun _ => rfl) ?_
  try rw [va_uu]
  refine m_aload_n dX5_init_9 rfl ?_
  refine m_bipush (v := 10) dX5_init_10 (by decide) ?_
  refine m_newarray (ty := .int) (a0 := (10, .inl (fun _ => 0))) (N := 10) dX5_init_12 rfl w_1_42 (fun _ _ => rfl) ⟨0, fun _ => rfl⟩ (fun _ q => by cases q) ⟨by decide, by decide⟩ (by decide) (by decide) (by decide) (by decide) ?_
  show mW _ _ _ _ 62 _ _ _ (.ref 61 :: _)
  refine m_putfieldF dX5_init_14 fl_X5_15 ⟨RX5, TX5, 9, rfl, rfl⟩ (by first | exact va_up_self _ _ _ | rfl | exact h1) hin (fun _ => rfl) (fun _ => rfl) ?_
  try rw [va_uu]
  refine m_aload_n dX5_init_17 rfl ?_
  refine m_iconst (v := 5) dX5_init_18 (by decide) ?_
  refine m_newarray (ty := .long) (a0 := (5, .inr (.inl (fun _ => 0)))) (N := 5) dX5_init_19 rfl w_1_120 (fun _ _ => rfl) ⟨1, fun _ => rfl⟩ (fun _ q => by cases q) ⟨by decide, by decide⟩ (by decide) (by decide) (by decide) (by decide) ?_
  show mW _ _ _ _ 63 _ _ _ (.ref 62 :: _)
  refine m_putfieldF dX5_init_21 fl_X5_19 ⟨RX5, TX5, 9, rfl, rfl⟩ (by first | exact va_up_self _ _ _ | rfl | exact h1) hin (fun _ => rfl) (fun _ => rfl) ?_
  try rw [va_uu]
  refine m_aload_n dX5_init_24 rfl ?_
  refine m_bipush (v := 32) dX5_init_25 (by decide) ?_
  refine m_newarray (ty := .int) (a0 := (32, .inl (fun _ => 0))) (N := 32) dX5_init_27 rfl w_1_42 (fun _ _ => rfl) ⟨0, fun _ => rfl⟩ (fun _ q => by cases q) ⟨by decide, by decide⟩ (by decide) (by decide) (by decide) (by decide) ?_
  show mW _ _ _ _ 64 _ _ _ (.ref 63 :: _)
  refine m_putfieldF dX5_init_29 fl_X5_23 ⟨RX5, TX5, 9, rfl, rfl⟩ (by first | exact va_up_self _ _ _ | rfl | exact h1) hin (fun _ => rfl) (fun _ => rfl) ?_
  try rw [va_uu]
  refine m_aload_n dX5_init_32 rfl ?_
  refine m_bipush (v := 32) dX5_init_33 (by decide) ?_
  refine m_newarray (ty := .int) (a0 := (32, .inl (fun _ => 0))) (N := 32) dX5_init_35 rfl w_1_42 (fun _ _ => rfl) ⟨0, fun _ => rfl⟩ (fun _ q => by cases q) ⟨by decide, by decide⟩ (by decide) (by decide) (by decide) (by decide) ?_
  show mW _ _ _ _ 65 _ _ _ (.ref 64 :: _)
  refine m_putfieldF dX5_init_37 fl_X5_26 ⟨RX5, TX5, 9, rfl, rfl⟩ (by first | exact va_up_self _ _ _ | rfl | exact h1) hin (fun _ => rfl) (fun _ => rfl) ?_
  try rw [va_uu]
  refine m_aload_n dX5_init_40 rfl ?_
  refine m_bipush (v := 32) dX5_init_41 (by decide) ?_
  refine m_newarray (ty := .int) (a0 := (32, .inl (fun _ => 0))) (N := 32) dX5_init_43 rfl w_1_42 (fun _ _ => rfl) ⟨0, fun _ => rfl⟩ (fun _ q => by cases q) ⟨by decide, by decide⟩ (by decide) (by decide) (by decide) (by decide) ?_
  show mW _ _ _ _ 66 _ _ _ (.ref 65 :: _)
  refine m_putfieldF dX5_init_45 fl_X5_29 ⟨RX5, TX5, 9, rfl, rfl⟩ (by first | exact va_up_self _ _ _ | rfl | exact h1) hin (fun _ => rfl) (fun _ => rfl) ?_
  try rw [va_uu]
  refine m_aload_n dX5_init_48 rfl ?_
  refine m_iconst (v := 0) dX5_init_49 (by decide) ?_
  refine m_putfield dX5_init_50 fl_X5_32 (by first | exact va_up_self _ _ _ | rfl | exact h1) (fun _ => rfl) (fun _ => rfl) ?_
  try rw [va_uu]
  refine m_aload_n dX5_init_53 rfl ?_
  refine m_iconst (v := 0) dX5_init_54 (by decide) ?_
  refine m_putfield dX5_init_55 fl_X5_36 (by first | exact va_up_self _ _ _ | rfl | exact h1) (fun _ => rfl) (fun _ => rfl) ?_
  try rw [va_uu]
  refine m_aload_n dX5_init_58 rfl ?_
  refine m_iconst (v := 0) dX5_init_59 (by decide) ?_
  refine m_putfield dX5_init_60 fl_X5_39 (by first | exact va_up_self _ _ _ | rfl | exact h1) (fun _ => rfl) (fun _ => rfl) ?_
  try rw [va_uu]
  exact m_return hF dX5_init_63 rfl rfl rfl ⟨rfl, ⟨0, 0, 0, fun _ => 0, fun _ => 0, fun _ => 0, fun _ => 0, fun _ => 0, congrArg (eO 5) iX5_fin60, rfl, rfl, rfl, rfl, rfl, by decide, Or.inl rfl⟩, fun q hq => by repeat rw [va_up_ne _ _ (by omega)]⟩

theorem iX7_fin : va_up (va_up (va_up (va_up (va_up (va_up (va_up (va_up (va_up (va_up (va_up (iX7) 0 (.ref 1)) 1 (.ref 3)) 2 (.ref 17)) 3 (.ref 19)) 4 (.int 0)) 5 (.ref 33)) 6 (.ref 36)) 7 (.ref 44)) 8 (.ref 54)) 9 (.ref 60)) 10 (.ref 66) = oTop 0 := by
  funext k
  match k with
  | 0 => rfl
  | 1 => rfl
  | 2 => rfl
  | 3 => rfl
  | 4 => rfl
  | 5 => rfl
  | 6 => rfl
  | 7 => rfl
  | 8 => rfl
  | 9 => rfl
  | 10 => rfl
  | k + 11 => simp [va_up, oTop, iX7]
def c0P : Nat → Int32 := va_up (va_up (va_up (fun _ => 0) 0 1) 1 1) 5 1
def TS0 : TS := (vec c0P 0 1, 0, fun _ _ => 0)
def TK0 : TS := (vec (fun _ => 0) 0 1, 0, fun _ _ => 0)
def cAll (hp : mHp) (kf : Int32) (S T : TS) (z : Nat) (LT : Nat → Int32) (X : SH) : Prop := cTop hp kf ∧ cTold hp S ∧ cKept hp T ∧ cTape hp z LT ∧ cShelf hp X ∧ cJudge hp ∧ cBk54 hp ∧ cBk60 hp ∧ cPol hp
set_option maxHeartbeats 400000 in
set_option maxRecDepth 100000 in
theorem t_X7_init {hp : mHp} (h1 : hp 0 = eO 7 iX7) : mC D_X7_init [.ref 0] 1 hp (fun v hp' => v = none ∧ cAll hp' 0 TS0 TK0 0 (fun _ => 0) SH0 ∧ ∀ q, 66 < q → hp' q = hp q) := by
  refine m_enter rfl rfl (Nat.le_of_ble_eq_true rfl) (fun K hF => ?_)
  have hin := hF.2.2.2.1
  show mW K _ 0 0 _ _ 0 [.ref 0] []
  refine m_aload_n dX7_init_0 rfl ?_
  refine m_objInit dX7_init_1 lk_X7_3 (Nat.le_of_ble_eq_true rfl) (by decide) ?_
  refine m_aload_n dX7_init_4 rfl ?_
  refine m_new (ci := 3) (f := iX3) dX7_init_5 rfl inT3 tyX3_ok w_1_22 w_1_23 w_1_2 iX3_ok (by decide) (by decide) (by decide) ?_
  show mW _ _ _ _ 2 _ _ _ (.ref 1 :: _)
  refine m_dup dX7_init_8 rfl ?_
  refine m_invI dX7_init_9 lk_X7_11 ar_X3_init rfl (t_X3_init (h := 1) (va_up_self _ _ _) (by decide) (by decide)) rfl (Nat.le_of_ble_eq_true rfl) (by decide) (by decide) (by decide) (by decide) (fun v hp' q => ?_)
  obtain ⟨rfl, rfl⟩ := q
  show mW K _ _ _ 3 _ 12 _ (.ref 1 :: _)
  refine m_putfieldF dX7_init_12 fl_X7_12 ⟨RX7, TX7, 11, rfl, rfl⟩ (by first | exact va_up_self _ _ _ | exact o7 | exact o6 | exact o5 | exact o4 | exact o3 | exact o2 | exact o1 | exact h1 | rfl) hin (fun _ => rfl) (fun _ => rfl) ?_
  try rw [va_uu]
  refine m_aload_n dX7_init_15 rfl ?_
  refine m_getfield dX7_init_16 fl_X7_12 (by first | exact va_up_self _ _ _ | exact o7 | exact o6 | exact o5 | exact o4 | exact o3 | exact o2 | exact o1 | exact h1 | rfl) (by first | exact va_up_self _ _ _ | exact o7 | exact o6 | exact o5 | exact o4 | exact o3 | exact o2 | exact o1 | exact h1 | rfl) ?_
  show mW _ _ _ _ _ _ _ _ (.ref _ :: _)
  refine m_invV_V dX7_init_19 lk_X7_16 ar_X3_begin (ci := 3) rfl rfl (by first | exact va_up_self _ _ _ | exact o7 | exact o6 | exact o5 | exact o4 | exact o3 | exact o2 | exact o1 | exact h1 | rfl) (t_X3_begin (q := 2) rfl rfl) rfl (Nat.le_of_ble_eq_true rfl) (by decide) (by decide) (by decide) (by decide) rfl rfl ?_
  try rw [va_uu]
  refine m_aload_n dX7_init_22 rfl ?_
  refine m_new (ci := 2) (f := iX2) dX7_init_23 rfl inT2 tyX2_ok w_1_47 w_1_48 w_1_3 iX2_ok (by decide) (by decide) (by decide) ?_
  show mW _ _ _ _ 4 _ _ _ (.ref 3 :: _)
  refine m_dup dX7_init_26 rfl ?_
  refine m_invI dX7_init_27 lk_X7_21 ar_X2_init rfl (t_X2_init_3 (H := fun _ _ => 0) (va_up_self _ _ _)) rfl (Nat.le_of_ble_eq_true rfl) (by decide) (by decide) (by decide) (by decide) (fun v hp1 q => ?_)
  obtain ⟨rfl, pp1, gO1⟩ := q
  have o1 : hp1 0 = eO 7 (va_up (iX7) 0 (.ref 1)) := (gO1 0 (by decide)).trans rfl
  have ss1 : cSet hp1 1 TS0.1 := ⟨c0P, 0, 1, (gO1 1 (by decide)).trans rfl, (gO1 2 (by decide)).trans rfl, fun _ _ => rfl⟩
  show mW K _ _ _ 17 _ 30 _ (.ref 3 :: _)
  refine m_putfieldF dX7_init_30 fl_X7_22 ⟨RX7, TX7, 11, rfl, rfl⟩ (by first | exact va_up_self _ _ _ | exact o7 | exact o6 | exact o5 | exact o4 | exact o3 | exact o2 | exact o1 | exact h1 | rfl) hin (fun _ => rfl) (fun _ => rfl) ?_
  try rw [va_uu]
  refine m_aload_n dX7_init_33 rfl ?_
  refine m_new (ci := 3) (f := iX3) dX7_init_34 rfl inT3 tyX3_ok w_1_22 w_1_23 w_1_2 iX3_ok (by decide) (by decide) (by decide) ?_
  show mW _ _ _ _ 18 _ _ _ (.ref 17 :: _)
  refine m_dup dX7_init_37 rfl ?_
  refine m_invI dX7_init_38 lk_X7_11 ar_X3_init rfl (t_X3_init (h := 17) (va_up_self _ _ _) (by decide) (by decide)) rfl (Nat.le_of_ble_eq_true rfl) (by decide) (by decide) (by decide) (by decide) (fun v hp' q => ?_)
  obtain ⟨rfl, rfl⟩ := q
  show mW K _ _ _ 19 _ 41 _ (.ref 17 :: _)
  refine m_putfieldF dX7_init_41 fl_X7_26 ⟨RX7, TX7, 11, rfl, rfl⟩ (by first | exact va_up_self _ _ _ | exact o7 | exact o6 | exact o5 | exact o4 | exact o3 | exact o2 | exact o1 | exact h1 | rfl) hin (fun _ => rfl) (fun _ => rfl) ?_
  try rw [va_uu]
  refine m_aload_n dX7_init_44 rfl ?_
  refine m_new (ci := 2) (f := iX2) dX7_init_45 rfl inT2 tyX2_ok w_1_47 w_1_48 w_1_3 iX2_ok (by decide) (by decide) (by decide) ?_
  show mW _ _ _ _ 20 _ _ _ (.ref 19 :: _)
  refine m_dup dX7_init_48 rfl ?_
  refine m_invI dX7_init_49 lk_X7_21 ar_X2_init rfl (t_X2_init_19 (H := fun _ _ => 0) (va_up_self _ _ _)) rfl (Nat.le_of_ble_eq_true rfl) (by decide) (by decide) (by decide) (by decide) (fun v hp2 q => ?_)
  obtain ⟨rfl, qq2, gO2⟩ := q
  have o2 : hp2 0 = eO 7 (va_up (va_up (va_up (iX7) 0 (.ref 1)) 1 (.ref 3)) 2 (.ref 17)) := (gO2 0 (by decide)).trans rfl
  have ss2 : cSet hp2 1 TS0.1 := ss1.of (fun q a b => by rw [gO2 q (by omega)]; repeat rw [va_up_ne _ _ (by omega)])
  have pp2 := pp1.of (hp' := hp2) (fun q a b => by rw [gO2 q (by omega)]; repeat rw [va_up_ne _ _ (by omega)])
  have kk2 : cSet hp2 17 TK0.1 := ⟨fun _ => 0, 0, 1, (gO2 17 (by decide)).trans rfl, (gO2 18 (by decide)).trans rfl, fun _ _ => rfl⟩
  show mW K _ _ _ 33 _ 52 _ (.ref 19 :: _)
  refine m_putfieldF dX7_init_52 fl_X7_29 ⟨RX7, TX7, 11, rfl, rfl⟩ (by first | exact va_up_self _ _ _ | exact o7 | exact o6 | exact o5 | exact o4 | exact o3 | exact o2 | exact o1 | exact h1 | rfl) hin (fun _ => rfl) (fun _ => rfl) ?_
  try rw [va_uu]
  refine m_aload_n dX7_init_55 rfl ?_
  refine m_iconst (v := 0) dX7_init_56 (by decide) ?_
  refine m_putfield dX7_init_57 fl_X7_32 (by first | exact va_up_self _ _ _ | exact o7 | exact o6 | exact o5 | exact o4 | exact o3 | exact o2 | exact o1 | exact h1 | rfl) (fun _ => rfl) (fun _ => rfl) ?_
  try rw [va_uu]
  refine m_aload_n dX7_init_60 rfl ?_
  refine m_new (ci := 6) (f := iX6) dX7_init_61 rfl inT6 tyX6_ok w_1_67 w_1_68 w_1_4 iX6_ok (by decide) (by decide) (by decide) ?_
  show mW _ _ _ _ 34 _ _ _ (.ref 33 :: _)
  refine m_dup dX7_init_64 rfl ?_
  refine m_invI dX7_init_65 lk_X7_38 ar_X6_init rfl (t_X6_init (va_up_self _ _ _)) rfl (Nat.le_of_ble_eq_true rfl) (by decide) (by decide) (by decide) (by decide) (fun v hp3 q => ?_)
  obtain ⟨rfl, tt3, gO3⟩ := q
  have o3 : hp3 0 = eO 7 (va_up (va_up (va_up (va_up (va_up (iX7) 0 (.ref 1)) 1 (.ref 3)) 2 (.ref 17)) 3 (.ref 19)) 4 (.int 0)) := (gO3 0 (by decide)).trans rfl
  have ss3 := ss2.of (hp' := hp3) (fun q a b => by rw [gO3 q (by omega), va_up_ne _ _ (by omega), va_up_ne _ _ (by omega)])
  have pp3 := pp2.of (hp' := hp3) (fun q a b => by rw [gO3 q (by omega), va_up_ne _ _ (by omega), va_up_ne _ _ (by omega)])
  have kk3 := kk2.of (hp' := hp3) (fun q a b => by rw [gO3 q (by omega), va_up_ne _ _ (by omega), va_up_ne _ _ (by omega)])
  have qq3 := qq2.of (hp' := hp3) (fun q a b => by rw [gO3 q (by omega), va_up_ne _ _ (by omega), va_up_ne _ _ (by omega)])
  show mW K _ _ _ 36 _ 68 _ (.ref 33 :: _)
  refine m_putfieldF dX7_init_68 fl_X7_39 ⟨RX7, TX7, 11, rfl, rfl⟩ (by first | exact va_up_self _ _ _ | exact o7 | exact o6 | exact o5 | exact o4 | exact o3 | exact o2 | exact o1 | exact h1 | rfl) hin (fun _ => rfl) (fun _ => rfl) ?_
  try rw [va_uu]
  refine m_aload_n dX7_init_71 rfl ?_
  refine m_new (ci := 4) (f := iX4) dX7_init_72 rfl inT4 tyX4_ok w_1_99 w_1_100 w_1_5 iX4_ok (by decide) (by decide) (by decide) ?_
  show mW _ _ _ _ 37 _ _ _ (.ref 36 :: _)
  refine m_dup dX7_init_75 rfl ?_
  refine m_invI dX7_init_76 lk_X7_45 ar_X4_init rfl (t_X4_init (va_up_self _ _ _)) rfl (Nat.le_of_ble_eq_true rfl) (by decide) (by decide) (by decide) (by decide) (fun v hp4 q => ?_)
  obtain ⟨rfl, hh4, gO4⟩ := q
  have o4 : hp4 0 = eO 7 (va_up (va_up (va_up (va_up (va_up (va_up (iX7) 0 (.ref 1)) 1 (.ref 3)) 2 (.ref 17)) 3 (.ref 19)) 4 (.int 0)) 5 (.ref 33)) := (gO4 0 (by decide)).trans rfl
  have ss4 := ss3.of (hp' := hp4) (fun q a b => by rw [gO4 q (by omega), va_up_ne _ _ (by omega), va_up_ne _ _ (by omega)])
  have pp4 := pp3.of (hp' := hp4) (fun q a b => by rw [gO4 q (by omega), va_up_ne _ _ (by omega), va_up_ne _ _ (by omega)])
  have kk4 := kk3.of (hp' := hp4) (fun q a b => by rw [gO4 q (by omega), va_up_ne _ _ (by omega), va_up_ne _ _ (by omega)])
  have qq4 := qq3.of (hp' := hp4) (fun q a b => by rw [gO4 q (by omega), va_up_ne _ _ (by omega), va_up_ne _ _ (by omega)])
  have tt4 := tt3.of (hp' := hp4) (fun q a b => by rw [gO4 q (by omega), va_up_ne _ _ (by omega), va_up_ne _ _ (by omega)])
  show mW K _ _ _ 44 _ 79 _ (.ref 36 :: _)
  refine m_putfieldF dX7_init_79 fl_X7_46 ⟨RX7, TX7, 11, rfl, rfl⟩ (by first | exact va_up_self _ _ _ | exact o7 | exact o6 | exact o5 | exact o4 | exact o3 | exact o2 | exact o1 | exact h1 | rfl) hin (fun _ => rfl) (fun _ => rfl) ?_
  try rw [va_uu]
  refine m_aload_n dX7_init_82 rfl ?_
  refine m_new (ci := 1) (f := iX1) dX7_init_83 rfl inT1 tyX1_ok w_1_121 w_1_122 w_1_6 iX1_ok (by decide) (by decide) (by decide) ?_
  show mW _ _ _ _ 45 _ _ _ (.ref 44 :: _)
  refine m_dup dX7_init_86 rfl ?_
  refine m_invI dX7_init_87 lk_X7_52 ar_X1_init rfl (t_X1_init (va_up_self _ _ _)) rfl (Nat.le_of_ble_eq_true rfl) (by decide) (by decide) (by decide) (by decide) (fun v hp5 q => ?_)
  obtain ⟨rfl, jj5, gO5⟩ := q
  have o5 : hp5 0 = eO 7 (va_up (va_up (va_up (va_up (va_up (va_up (va_up (iX7) 0 (.ref 1)) 1 (.ref 3)) 2 (.ref 17)) 3 (.ref 19)) 4 (.int 0)) 5 (.ref 33)) 6 (.ref 36)) := (gO5 0 (by decide)).trans rfl
  have ss5 := ss4.of (hp' := hp5) (fun q a b => by rw [gO5 q (by omega), va_up_ne _ _ (by omega), va_up_ne _ _ (by omega)])
  have pp5 := pp4.of (hp' := hp5) (fun q a b => by rw [gO5 q (by omega), va_up_ne _ _ (by omega), va_up_ne _ _ (by omega)])
  have kk5 := kk4.of (hp' := hp5) (fun q a b => by rw [gO5 q (by omega), va_up_ne _ _ (by omega), va_up_ne _ _ (by omega)])
  have qq5 := qq4.of (hp' := hp5) (fun q a b => by rw [gO5 q (by omega), va_up_ne _ _ (by omega), va_up_ne _ _ (by omega)])
  have tt5 := tt4.of (hp' := hp5) (fun q a b => by rw [gO5 q (by omega), va_up_ne _ _ (by omega), va_up_ne _ _ (by omega)])
  have hh5 := hh4.of (hp' := hp5) (fun q a b => by rw [gO5 q (by omega), va_up_ne _ _ (by omega), va_up_ne _ _ (by omega)])
  show mW K _ _ _ 54 _ 90 _ (.ref 44 :: _)
  refine m_putfieldF dX7_init_90 fl_X7_53 ⟨RX7, TX7, 11, rfl, rfl⟩ (by first | exact va_up_self _ _ _ | exact o7 | exact o6 | exact o5 | exact o4 | exact o3 | exact o2 | exact o1 | exact h1 | rfl) hin (fun _ => rfl) (fun _ => rfl) ?_
  try rw [va_uu]
  refine m_aload_n dX7_init_93 rfl ?_
  refine m_new (ci := 5) (f := iX5) dX7_init_94 rfl inT5 tyX5_ok w_1_169 w_1_170 w_1_8 iX5_ok (by decide) (by decide) (by decide) ?_
  show mW _ _ _ _ 55 _ _ _ (.ref 54 :: _)
  refine m_dup dX7_init_97 rfl ?_
  refine m_iconst (v := 0) dX7_init_98 (by decide) ?_
  refine m_invI dX7_init_99 lk_X7_59 ar_X5_init rfl (t_X5_init_54 (va_up_self _ _ _)) rfl (Nat.le_of_ble_eq_true rfl) (by decide) (by decide) (by decide) (by decide) (fun v hp6 q => ?_)
  obtain ⟨rfl, ba6, gO6⟩ := q
  have o6 : hp6 0 = eO 7 (va_up (va_up (va_up (va_up (va_up (va_up (va_up (va_up (iX7) 0 (.ref 1)) 1 (.ref 3)) 2 (.ref 17)) 3 (.ref 19)) 4 (.int 0)) 5 (.ref 33)) 6 (.ref 36)) 7 (.ref 44)) := (gO6 0 (by decide)).trans rfl
  have ss6 := ss5.of (hp' := hp6) (fun q a b => by rw [gO6 q (by omega), va_up_ne _ _ (by omega), va_up_ne _ _ (by omega)])
  have pp6 := pp5.of (hp' := hp6) (fun q a b => by rw [gO6 q (by omega), va_up_ne _ _ (by omega), va_up_ne _ _ (by omega)])
  have kk6 := kk5.of (hp' := hp6) (fun q a b => by rw [gO6 q (by omega), va_up_ne _ _ (by omega), va_up_ne _ _ (by omega)])
  have qq6 := qq5.of (hp' := hp6) (fun q a b => by rw [gO6 q (by omega), va_up_ne _ _ (by omega), va_up_ne _ _ (by omega)])
  have tt6 := tt5.of (hp' := hp6) (fun q a b => by rw [gO6 q (by omega), va_up_ne _ _ (by omega), va_up_ne _ _ (by omega)])
  have hh6 := hh5.of (hp' := hp6) (fun q a b => by rw [gO6 q (by omega), va_up_ne _ _ (by omega), va_up_ne _ _ (by omega)])
  have jj6 := jj5.of (hp' := hp6) (fun q a b => by rw [gO6 q (by omega), va_up_ne _ _ (by omega), va_up_ne _ _ (by omega)])
  show mW K _ _ _ 60 _ 102 _ (.ref 54 :: _)
  refine m_putfieldF dX7_init_102 fl_X7_62 ⟨RX7, TX7, 11, rfl, rfl⟩ (by first | exact va_up_self _ _ _ | exact o7 | exact o6 | exact o5 | exact o4 | exact o3 | exact o2 | exact o1 | exact h1 | rfl) hin (fun _ => rfl) (fun _ => rfl) ?_
  try rw [va_uu]
  refine m_aload_n dX7_init_105 rfl ?_
  refine m_new (ci := 5) (f := iX5) dX7_init_106 rfl inT5 tyX5_ok w_1_169 w_1_170 w_1_8 iX5_ok (by decide) (by decide) (by decide) ?_
  show mW _ _ _ _ 61 _ _ _ (.ref 60 :: _)
  refine m_dup dX7_init_109 rfl ?_
  refine m_iconst (v := 1) dX7_init_110 (by decide) ?_
  refine m_invI dX7_init_111 lk_X7_59 ar_X5_init rfl (t_X5_init_60 (va_up_self _ _ _)) rfl (Nat.le_of_ble_eq_true rfl) (by decide) (by decide) (by decide) (by decide) (fun v hp7 q => ?_)
  obtain ⟨rfl, bb7, gO7⟩ := q
  have o7 : hp7 0 = eO 7 (va_up (va_up (va_up (va_up (va_up (va_up (va_up (va_up (va_up (iX7) 0 (.ref 1)) 1 (.ref 3)) 2 (.ref 17)) 3 (.ref 19)) 4 (.int 0)) 5 (.ref 33)) 6 (.ref 36)) 7 (.ref 44)) 8 (.ref 54)) := (gO7 0 (by decide)).trans rfl
  have ss7 := ss6.of (hp' := hp7) (fun q a b => by rw [gO7 q (by omega), va_up_ne _ _ (by omega), va_up_ne _ _ (by omega)])
  have pp7 := pp6.of (hp' := hp7) (fun q a b => by rw [gO7 q (by omega), va_up_ne _ _ (by omega), va_up_ne _ _ (by omega)])
  have kk7 := kk6.of (hp' := hp7) (fun q a b => by rw [gO7 q (by omega), va_up_ne _ _ (by omega), va_up_ne _ _ (by omega)])
  have qq7 := qq6.of (hp' := hp7) (fun q a b => by rw [gO7 q (by omega), va_up_ne _ _ (by omega), va_up_ne _ _ (by omega)])
  have tt7 := tt6.of (hp' := hp7) (fun q a b => by rw [gO7 q (by omega), va_up_ne _ _ (by omega), va_up_ne _ _ (by omega)])
  have hh7 := hh6.of (hp' := hp7) (fun q a b => by rw [gO7 q (by omega), va_up_ne _ _ (by omega), va_up_ne _ _ (by omega)])
  have jj7 := jj6.of (hp' := hp7) (fun q a b => by rw [gO7 q (by omega), va_up_ne _ _ (by omega), va_up_ne _ _ (by omega)])
  have ba7 := ba6.of (hp' := hp7) (fun q a b => by rw [gO7 q (by omega), va_up_ne _ _ (by omega), va_up_ne _ _ (by omega)])
  show mW K _ _ _ 66 _ 114 _ (.ref 60 :: _)
  refine m_putfieldF dX7_init_114 fl_X7_66 ⟨RX7, TX7, 11, rfl, rfl⟩ (by first | exact va_up_self _ _ _ | exact o7 | exact o6 | exact o5 | exact o4 | exact o3 | exact o2 | exact o1 | exact h1 | rfl) hin (fun _ => rfl) (fun _ => rfl) ?_
  try rw [va_uu]
  refine m_aload_n dX7_init_117 rfl ?_
  refine m_iconst (v := 5) dX7_init_118 (by decide) ?_
  refine m_newarray (ty := .long) (a0 := (5, .inr (.inl (fun _ => 0)))) (N := 5) dX7_init_119 rfl w_1_120 (fun _ _ => rfl) ⟨1, fun _ => rfl⟩ (fun _ q => by cases q) ⟨by decide, by decide⟩ (by decide) (by decide) (by decide) (by decide) ?_
  show mW _ _ _ _ 67 _ _ _ (.ref 66 :: _)
  refine m_putfieldF dX7_init_121 fl_X7_69 ⟨RX7, TX7, 11, rfl, rfl⟩ (by first | exact va_up_self _ _ _ | exact o7 | exact o6 | exact o5 | exact o4 | exact o3 | exact o2 | exact o1 | exact h1 | rfl) hin (fun _ => rfl) (fun _ => rfl) ?_
  try rw [va_uu]
  exact m_return hF dX7_init_124 rfl rfl rfl ⟨rfl, ⟨congrArg (eO 7) iX7_fin, ⟨ss7.of (fun q a b => by rw [va_up_ne _ _ (by omega), va_up_ne _ _ (by omega), va_up_ne _ _ (by omega)]), pp7.of (fun q a b => by rw [va_up_ne _ _ (by omega), va_up_ne _ _ (by omega), va_up_ne _ _ (by omega)])⟩, ⟨kk7.of (fun q a b => by rw [va_up_ne _ _ (by omega), va_up_ne _ _ (by omega), va_up_ne _ _ (by omega)]), qq7.of (fun q a b => by rw [va_up_ne _ _ (by omega), va_up_ne _ _ (by omega), va_up_ne _ _ (by omega)])⟩, tt7.of (fun q a b => by rw [va_up_ne _ _ (by omega), va_up_ne _ _ (by omega), va_up_ne _ _ (by omega)]), hh7.of (fun q a b => by rw [va_up_ne _ _ (by omega), va_up_ne _ _ (by omega), va_up_ne _ _ (by omega)]), jj7.of (fun q a b => by rw [va_up_ne _ _ (by omega), va_up_ne _ _ (by omega), va_up_ne _ _ (by omega)]), ba7.of (fun q a b => by rw [va_up_ne _ _ (by omega), va_up_ne _ _ (by omega), va_up_ne _ _ (by omega)]), bb7.of (fun q a b => by rw [va_up_ne _ _ (by omega), va_up_ne _ _ (by omega), va_up_ne _ _ (by omega)]), ⟨fun _ => 0, rfl⟩⟩, fun q hq => by rw [va_up_ne _ _ (by omega), va_up_ne _ _ (by omega), va_up_ne _ _ (by omega), gO7 q (by omega), va_up_ne _ _ (by omega), va_up_ne _ _ (by omega), gO6 q (by omega), va_up_ne _ _ (by omega), va_up_ne _ _ (by omega), gO5 q (by omega), va_up_ne _ _ (by omega), va_up_ne _ _ (by omega), gO4 q (by omega), va_up_ne _ _ (by omega), va_up_ne _ _ (by omega), gO3 q (by omega), va_up_ne _ _ (by omega), va_up_ne _ _ (by omega), gO2 q (by omega)]; repeat first | rw [va_up_ne _ _ (by omega)] | rw [gO1 q (by omega)]⟩

