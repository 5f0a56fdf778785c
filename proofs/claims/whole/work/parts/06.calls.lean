/-! ===== allocation, calls, returns ===== -/
theorem mAOA.moved {u U : State} (hvm : u.vm.Alike U.vm) (h : mAOA u) : mAOA U := by
  obtain ⟨comp, c, k, h1, h2, h3, h4, h5⟩ := arrayOverA_spec h
  obtain ⟨k', hk', he⟩ := hvm.2.2 _ _ h3
  have hbb : u.vm.bare = U.vm.bare := by first | exact hvm.bare_eq | exact hvm.bare_eq.symm
  have hi : (U.vm.classes.findIdx? fun (x : Class) => match x.kind with | .array component _ => component == comp | _ => false) = some c := by
    have e1 := va_idx_bare u.vm comp
    rw [hbb] at e1
    exact (va_idx_bare U.vm comp).symm.trans (e1.trans h2)
  have hkind : k'.kind = .array comp (.array .long) := by rw [he]; exact h4
  have f1 : U.vm.findClass (FieldType.array .long).toString = some comp := by rw [hvm.findClass]; exact h1
  have f2 : U.vm.findClass ("[" ++ (FieldType.array .long).toString) = some c := by rw [hvm.findClass]; exact h5
  unfold mAOA Cond.before Cond.holds
  simp only [Cond.value]
  rw [f1, Option.bind_some]
  refine (congrArg (fun o : Option Nat => (o.bind (fun c => (U.vm.classes[c]?).map fun (k : Class) => match k.kind with | .array _ ty => decide (ty = FieldType.array .long) && decide (U.vm.findClass ("[" ++ (FieldType.array .long).toString) = some c) | _ => false) == some true)) hi).trans ?_
  simp [hk', hkind, f2]
theorem mEnv.moved {ad : Nat → Nat} {base : Nat} {s U : State} {H : Heap} (hW : s.WarmedH U.vm) (h : mEnv ad base s H) : mEnv ad base U H :=
  ⟨⟨h.1.1.warmM hW, h.1.2.1.warmM hW, h.1.2.2.1.warmM hW, h.1.2.2.2.warmM hW⟩, h.2.1.moved hW.alike, h.2.2.1.moved hW.alike, h.2.2.2.1.moved hW.alike, h.2.2.2.2.moved hW.alike⟩
theorem mEnv.kept {ad : Nat → Nat} {base : Nat} {s : State} {H H1 : Heap} (h : mEnv ad base s H) (hq : ∀ a : Nat, a < H.size → ¬ mAc base a → H1[a]? = H[a]?) : mEnv ad base s H1 :=
  ⟨h.1, h.2.1, h.2.2.1, h.2.2.2.1.kept hq, h.2.2.2.2.kept hq⟩
theorem mEnv.call {ad : Nat → Nat} {base : Nat} {U : State} {H : Heap} {g : JFrame} {mk : MethodId} {a : Array Value} (h : mEnv ad base U H) : mEnv ad base (U.calling g mk a) H :=
  ⟨⟨h.1.1.same rfl rfl, h.1.2.1.same rfl rfl, h.1.2.2.1.same rfl rfl, h.1.2.2.2.same rfl rfl⟩, h.2.1.moved (u := U) (U := U.calling g mk a) (Vm.Alike.refl U.vm), h.2.2.1.moved (u := U) (U := U.calling g mk a) (Vm.Alike.refl U.vm), h.2.2.2.1.moved (u := U) (U := U.calling g mk a) (Vm.Alike.refl U.vm), h.2.2.2.2.moved (u := U) (U := U.calling g mk a) (Vm.Alike.refl U.vm)⟩
/-- the start of a method: its world is the whole system's -/
def mPre (D : va_G) (dA : FieldType → ClassId) (ad : Nat → Nat) (base n : Nat) (hp : mHp) (U : State) : Prop :=
  va_P D vwCl (mws dA ad n hp) U.heap ∧ U.heap.size = base + n ∧ va_K D vwCl (mty dA) U ∧ (∀ h, n ≤ h → hp h = mJ) ∧ n ≤ mSC ∧ (∀ h, h < mSC → ad h = base + h) ∧ mEnv ad base U U.heap
abbrev mQ : Type := Option Value → mHp → Prop
def mQc (Q : mQ) (D : va_G) (dA : FieldType → ClassId) (ad : Nat → Nat) (base n mc : Nat) : Array Value → State → Outcome → State → Prop := fun _ st o t =>
  ∃ (v : Option Value) (hp' : mHp), o = .returned (v.map (mv ad)) ∧ Q v hp' ∧ va_P D vwCl (mws dA ad (n + mc) hp') t.heap ∧ (∀ h, n + mc ≤ h → hp' h = mJ) ∧ n + mc ≤ mSC ∧ va_F (mAc base) st t
/-- the words that every method has -/
abbrev mWs (M : MD) : List Cond := Cond.code (dY M) (dC M) (dL M) (dR M) :: TB
/-- A CONTRACT: called with as in a heap hp of n cells the method returns with Q -/
def mC (M : MD) (as : List Value) (n : Nat) (hp : mHp) (Q : mQ) : Prop :=
  ∀ (l : Launch) (D : va_G) (dA : FieldType → ClassId) (ad : Nat → Nat) (base : Nat), Met l (dY M) (mWs M) (mRm (dV M) (dMc M) (dMs M)) (va_Pc (as.map (mv ad)) (mPre D dA ad base n hp)) (mQc Q D dA ad base n (dMc M)) (dMc M) (dMs M) (mAc base)
theorem mPre.call {D : va_G} {dA : FieldType → ClassId} {ad : Nat → Nat} {base n : Nat} {hp : mHp} {U : State} {g : JFrame} {mk : MethodId} {a : Array Value} (h : mPre D dA ad base n hp U) : mPre D dA ad base n hp (U.calling g mk a) :=
  ⟨h.1, h.2.1, va_K.moved (u := U) (U := U.calling g mk a) (Vm.Alike.refl U.vm) h.2.2.1, h.2.2.2.1, h.2.2.2.2.1, h.2.2.2.2.2.1, h.2.2.2.2.2.2.call⟩
theorem mPre.blind {D : va_G} {dA : FieldType → ClassId} {ad : Nat → Nat} {base n : Nat} {hp : mHp} {as : List Value} : FrameBlind (va_Pc as (mPre D dA ad base n hp)) := fun _ _ _ _ q => ⟨q.1, q.2.call⟩
/-- the end of a method, as its proof knows it -/
def mFin (K : mK) (M : MD) (n : Nat) (Q : mQ) : Prop :=
  K.2.2.2 = MQ K.2.1.2.1 (mQc Q K.2.2.1.1 K.2.2.1.2.1 K.2.2.1.2.2.1 K.2.2.1.2.2.2 n (dMc M)) K.2.1.1 K.1.2.2.2.2.1 (dMc M) (dMs M) (mAc K.2.2.1.2.2.2) ∧ K.2.1.2.2.1.sig.returnType = dR M ∧ K.2.1.2.2.1.locks = false ∧ K.2.1.2.2.1.name = (dY M).name ∧ K.1.2.2.2.2.1.heap.size = K.2.2.1.2.2.2 + n
/-- the locals at a method's entry -/
def mexp : List Value → List Value
  | [] => []
  | .long x :: r => .long x :: .retAddr 0 :: mexp r
  | .double x :: r => .double x :: .retAddr 0 :: mexp r
  | v :: r => v :: mexp r
theorem mexp_args {ad : Nat → Nat} : ∀ (as : List Value) (b i : Nat) (v : Value), (mexp as)[i]? = some v → (∀ k, v ≠ .retAddr k) → (b + i, mv ad v) ∈ lv_args b (as.map (mv ad))
  | [], b, i, v, h, _ => by simp [mexp] at h
  | a :: as, b, i, v, h, hv => by
    have one : (∀ x, a ≠ .long x) → (∀ x, a ≠ .double x) → (b + i, mv ad v) ∈ lv_args b ((a :: as).map (mv ad)) := fun h1 h2 => by
      have e : mexp (a :: as) = a :: mexp as := by
        cases a <;> first | rfl | exact absurd rfl (h1 _) | exact absurd rfl (h2 _)
      have ec : ¬ (mv ad a).category = 2 := by
        rw [mv_cat]
        cases a <;> first | exact absurd rfl (h1 _) | exact absurd rfl (h2 _) | (intro q; cases q)
      rw [e] at h
      show _ ∈ (b, mv ad a) :: lv_args (if (mv ad a).category = 2 then b + 2 else b + 1) (as.map (mv ad))
      rw [if_neg ec]
      cases i with
      | zero =>
        rw [List.getElem?_cons_zero] at h
        cases h
        exact List.mem_cons_self
      | succ i =>
        rw [List.getElem?_cons_succ] at h
        have := mexp_args (ad := ad) as (b + 1) i v h hv
        rw [show b + 1 + i = b + (i + 1) by omega] at this
        exact List.mem_cons_of_mem _ this
    have two : mexp (a :: as) = a :: .retAddr 0 :: mexp as → (mv ad a).category = 2 → (b + i, mv ad v) ∈ lv_args b ((a :: as).map (mv ad)) := fun e ec => by
      rw [e] at h
      show _ ∈ (b, mv ad a) :: lv_args (if (mv ad a).category = 2 then b + 2 else b + 1) (as.map (mv ad))
      rw [if_pos ec]
      cases i with
      | zero =>
        rw [List.getElem?_cons_zero] at h
        cases h
        exact List.mem_cons_self
      | succ i =>
        rw [List.getElem?_cons_succ] at h
        cases i with
        | zero =>
          rw [List.getElem?_cons_zero] at h
          exact absurd (Option.some.inj h).symm (hv 0)
        | succ i =>
          rw [List.getElem?_cons_succ] at h
          have := mexp_args (ad := ad) as (b + 2) i v h hv
          rw [show b + 2 + i = b + (i + 1 + 1) by omega] at this
          exact List.mem_cons_of_mem _ this
    cases a with
    | long x => exact two rfl rfl
    | double x => exact two rfl rfl
    | int x => exact one (fun _ q => by cases q) (fun _ q => by cases q)
    | float x => exact one (fun _ q => by cases q) (fun _ q => by cases q)
    | null => exact one (fun _ q => by cases q) (fun _ q => by cases q)
    | ref x => exact one (fun _ q => by cases q) (fun _ q => by cases q)
    | retAddr x => exact one (fun _ q => by cases q) (fun _ q => by cases q)
def ment (nL : Nat) (as : List Value) : List Value := mexp as ++ List.replicate (nL - (mexp as).length) (.retAddr 0)
theorem ment_has {ad : Nat → Nat} {nL : Nat} {as : List Value} {ls : Array Slot} (h : lv_has ls nL (lv_args 0 (as.map (mv ad)))) : lv_has ls nL (mlv ad (ment nL as)) := by
  refine ⟨h.1, h.2.1, fun q hq => h.2.2 q ?_⟩
  obtain ⟨j, w⟩ := q
  obtain ⟨u, h1, h2, rfl⟩ := mlv_of hq
  unfold ment at h1
  by_cases hj : j < (mexp as).length
  · rw [List.getElem?_append_left hj] at h1
    have := mexp_args (ad := ad) as 0 j u h1 h2
    rwa [Nat.zero_add] at this
  · rw [List.getElem?_append_right (by omega)] at h1
    have := List.eq_of_mem_replicate (List.mem_of_getElem? h1)
    exact absurd this (h2 0)
theorem mexp_len {ad : Nat → Nat} : ∀ as : List Value, (lg_sl (as.map (mv ad))).length = (mexp as).length
  | [] => rfl
  | a :: as => by
    have ih := mexp_len (ad := ad) as
    unfold lg_sl at ih ⊢
    rw [List.map_cons, List.flatMap_cons, List.length_append, ih]
    cases a <;> (simp [mv, mexp, Value.category]; try omega)
/-- A METHOD's PROOF -/
theorem m_enter {M : MD} {as : List Value} {n : Nat} {hp : mHp} {Q : mQ} (hy : plainName (dY M).cls = true) (hown : dOwn M = (dY M).cls) (hlen : (mexp as).length ≤ dL M)
    (body : ∀ K : mK, mFin K M n Q → mW K M 0 0 n hp 0 (ment (dL M) as) []) : mC M as n hp Q := by
  intro l D dA ad base
  refine Met.ofW (cc := dC M) (maxL := dL M) (ret := dR M) hy rfl ?_
  intro p e s m args below meth c s₁ B hml hv
  obtain ⟨rfl, hP, hsz, hK, hj, hn, had, henv⟩ := hv
  have hts := atoms_spec (ws := mWs M) B.pre
  have hl := lv_entry (as.map (mv ad)) (n := dL M) (by rw [mexp_len]; exact hlen)
  rw [lg_entry_eq]
  generalize (lg_sl (as.map (mv ad)) ++ List.replicate (dL M - (lg_sl (as.map (mv ad))).length) Slot.unset).toArray = ls at hl ⊢
  have b := body ((p, l, e, (headSpec (mWs M) (mRm (dV M) (dMc M) (dMs M))).room, s, m), ((as.map (mv ad)).toArray, below, meth, c), (D, dA, ad, base), MQ below (mQc Q D dA ad base n (dMc M)) (as.map (mv ad)).toArray s (dMc M) (dMs M) (mAc base))
    ⟨rfl, B.returns, B.notSynchronized, (name_of_methodNamed B.named B.method).1, hsz⟩
  exact b ⟨B.exec, B.bytes, hml, by rw [hown]; exact findClass_of_methodNamed B.named, fun w hw => hts w (List.mem_cons_of_mem _ hw), hK, by show base ≤ s.heap.size; omega, had, henv, rfl⟩ s.heap [] ls
    ⟨hP, by show base + n = s.heap.size + 0; omega, va_S.rf, hj, hn⟩ (ment_has hl)
section MC
variable {K : mK} {M : MD} {cs sl n : Nat} {hp : mHp} {pc : Nat} {lv st : List Value}
theorem mRel.size {H : Heap} {locs : List Loc} (hk : mOk K M) (hR : mRel K cs n hp H locs) {T : State} (hT : T.heap = H) (X : Stand K.1.1 K.1.2.1 K.1.2.2.1 K.1.2.2.2.1 K.1.2.2.2.2.1 K.1.2.2.2.2.2 K.2.1.1 K.2.1.2.1 K.2.1.2.2.1 K.2.1.2.2.2 T locs cs sl) : H.size = K.2.2.1.2.2.2 + n := by
  have h1 := X.heapSize
  rw [hT] at h1
  have h2 := hR.2.1
  cases n with
  | zero =>
    have h3 := hR.2.2.1.1
    have h4 := hk.2.2.2.2.2.2.1
    omega
  | succ n =>
    have h3 := (hR.1 n _ (mws_at (Nat.lt_succ_self n))).lt
    have h4 := hk.2.2.2.2.2.2.2.1 n (by have := hR.2.2.2.2; omega)
    have h3 : K.2.2.1.2.2.1 n < H.size := h3
    rw [h4] at h3
    omega
/-- behind a new cell: where it lies -/
theorem mRel.push {H H1 : Heap} {locs : List Loc} {c : mE} {q k : Nat} (hk : mOk K M) (hR : mRel K cs n hp H locs) (hn : n < mSC) (hP : va_P K.2.2.1.1 vwCl (mws K.2.2.1.2.1 K.2.2.1.2.2.1 n hp ++ [(q, mcell K.2.2.1.2.1 K.2.2.1.2.2.1 c)]) H1) (hD : va_D (mAc K.2.2.1.2.2.2) (mws K.2.2.1.2.1 K.2.2.1.2.2.1 n hp ++ [(q, mcell K.2.2.1.2.1 K.2.2.1.2.2.1 c)])) (hS : va_S (mAc K.2.2.1.2.2.2) K.1.2.2.2.2.1.heap H1 locs)
    {T : State} (hT : T.heap = H1) (X : Stand K.1.1 K.1.2.1 K.1.2.2.1 K.1.2.2.2.1 K.1.2.2.2.2.1 K.1.2.2.2.2.2 K.2.1.1 K.2.1.2.1 K.2.1.2.2.1 K.2.1.2.2.2 T locs (cs + 1) k) : q = K.2.2.1.2.2.1 n ∧ mRel K (cs + 1) (n + 1) (va_up hp n c) H1 locs := by
  have had := hk.2.2.2.2.2.2.2.1
  have e0 : (mws K.2.2.1.2.1 K.2.2.1.2.2.1 n hp ++ [(q, mcell K.2.2.1.2.1 K.2.2.1.2.2.1 c)])[n]? = some (q, mcell K.2.2.1.2.1 K.2.2.1.2.2.1 c) := by
    rw [List.getElem?_append_right (by rw [mws_len]; exact Nat.le_refl _), mws_len, Nat.sub_self]
    rfl
  have h1 := X.heapSize
  rw [hT] at h1
  have h2 : q < H1.size := (hP n _ e0).lt
  have h3 : K.2.2.1.2.2.2 ≤ q := hD.2 n _ e0
  have h4 := hR.2.1
  have hq : q = K.2.2.1.2.2.1 n := by
    rw [had n hn]
    rcases Nat.lt_or_ge q (K.2.2.1.2.2.2 + n) with z | z
    · have hlt : q - K.2.2.1.2.2.2 < n := by omega
      have e1 : (mws K.2.2.1.2.1 K.2.2.1.2.2.1 n hp ++ [(q, mcell K.2.2.1.2.1 K.2.2.1.2.2.1 c)])[q - K.2.2.1.2.2.2]? = some (K.2.2.1.2.2.1 (q - K.2.2.1.2.2.2), mcell K.2.2.1.2.1 K.2.2.1.2.2.1 (hp (q - K.2.2.1.2.2.2))) := by
        rw [List.getElem?_append_left (by rw [mws_len]; exact hlt), mws_at hlt]
      have := hD.1 _ _ _ _ e0 e1 (by show q = K.2.2.1.2.2.1 _; rw [had _ (by omega)]; omega)
      omega
    · omega
  refine ⟨hq, ?_, by omega, hS, fun z hz => ?_, hn⟩
  · rw [hq, mws_push] at hP
    exact hP
  · rw [va_up_ne _ _ (by omega)]
    exact hR.2.2.2.1 z (by omega)
theorem m_newarray {aty : ArrayType} {ty : FieldType} {z : Int32} {N : Nat} {a0 : vp_A} (hd : decode (dC M) pc = .ok (.newarray aty, 2)) (hty : newarray.typeOf aty = ty) (hw : Cond.arrayClass ty ∈ TB) (hA : ∀ (cA : ClassId) (ad : Nat → Nat), vp_cell cA (mA ad a0) = arrV cA N (fun _ => defaultValue ty)) (ht : ∃ t0 : Nat, ∀ dA : FieldType → ClassId, (mty dA)[t0]? = some (dA ty, ty)) (ho : ∀ C, ty ≠ .object C) (hz : mIx z N 65536) (hb : N * componentBytes ty ≤ 536870912) (hn : n < mSC) (hc : cs + 1 ≤ dMc M) (hs : sl + N ≤ dMs M)
    (kk : mW K M (cs + 1) (sl + N) (n + 1) (va_up hp n (.inl (ty, a0))) (pc + 2) lv (.ref n :: st)) : mW K M cs sl n hp pc lv (.int z :: st) := fun hk H locs ls hR hlv => by
  subst hty
  refine va_newa hk.1 hk.2.1 (hk.2.2.2.2.1 _ hw) rfl hk.2.2.2.2.2.1 hR.1 (m_apart hk.2.2.2.2.2.2.2.1 hR.2.2.2.2) hR.2.2.1 (fun q hq => Nat.le_trans hk.2.2.2.2.2.2.1 hq) (a0 := mA K.2.2.1.2.2.1 a0) (N' := N) (fun cA => hA cA _) hz.nn hz.cl hb (by rw [hk.2.2.2.2.2.2.2.2.2]; exact hc) (by rw [hk.2.2.2.2.2.2.2.2.2]; exact hs) hd (fun q cA H1 hK1 hP1 hD1 hS1 => ?_)
  obtain ⟨t0, ht0⟩ := ht
  have r1 := (hK1.2 5 (cA, newarray.typeOf aty) rfl).2
  have r0 := (hk.2.2.2.2.2.1.2 t0 _ (ht0 K.2.2.1.2.1)).2
  have e1 : cA = K.2.2.1.2.1 (newarray.typeOf aty) := by
    generalize newarray.typeOf aty = ty at r1 r0 ho
    cases ty with
    | object C => exact absurd rfl (ho C)
    | _ => exact Option.some.inj (r1.symm.trans r0)
  subst e1
  intro T hT X
  obtain ⟨rfl, hR1⟩ := mRel.push (c := .inl (newarray.typeOf aty, a0)) hk hR hn hP1 hD1 hS1 hT X
  exact kk hk H1 locs ls hR1 hlv T hT X
theorem m_new {ix ci : Nat} {C : String} {T : u_T} {N : Nat} {ty : Nat → FieldType} {f : Nat → Value} (hd : decode (dC M) pc = .ok (.new ix, 3)) (hcl : vwCl[ci]? = some (C, T, N)) (hin : ∀ w ∈ u_ws C T N, w ∈ TB) (hty : ∀ k, k < N → parseFieldDescriptor (T k).2.2.1 = some (ty k)) (hl : Cond.classLink (dOwn M) ix C ∈ TB) (hi : Cond.instantiable C N ∈ TB) (hini : Cond.initialized C ∈ TB) (hf : ∀ j, j < N → ∀ ad, defaultValue (ty j) = mv ad (f j)) (hn : n < mSC) (hc : cs + 1 ≤ dMc M) (hs : sl + N ≤ dMs M)
    (kk : mW K M (cs + 1) (sl + N) (n + 1) (va_up hp n (.inr (ci, f))) (pc + 3) lv (.ref n :: st)) : mW K M cs sl n hp pc lv st := fun hk H locs ls hR hlv => by
  refine va_new hk.1 hk.2.1 hk.2.2.2.2.1 hin ty hty hk.2.2.2.1 (hk.2.2.2.2.1 _ hl) (hk.2.2.2.2.1 _ hi) (hk.2.2.2.2.1 _ hini) hk.2.2.2.2.2.1 hR.1 (m_apart hk.2.2.2.2.2.2.2.1 hR.2.2.2.2) hR.2.2.1 (fun q hq => Nat.le_trans hk.2.2.2.2.2.2.1 hq) hcl (fs := (List.range (mN ci)).map fun k => mv K.2.2.1.2.2.1 (f k)) (fun j hj => ?_) (by rw [hk.2.2.2.2.2.2.2.2.2]; exact hc) (by rw [hk.2.2.2.2.2.2.2.2.2]; exact hs) hd (fun q H1 hP1 hD1 hS1 => ?_)
  · unfold vp_V
    rw [List.getD_eq_getElem?_getD, List.getElem?_map, List.getElem?_range (by rw [mN_of hcl]; exact hj)]
    exact hf j hj _
  · intro T hT X
    obtain ⟨rfl, hR1⟩ := mRel.push (c := .inr (ci, f)) hk hR hn hP1 hD1 hS1 hT X
    exact kk hk H1 locs ls hR1 hlv T hT X
theorem m_anewarray {ix : Nat} {z : Int32} {N : Nat} (hd : decode (dC M) pc = .ok (.anewarray ix, 3)) (hl : Cond.classLink (dOwn M) ix "LoopJudge$Setting" ∈ TB) (hz : mIx z N 65536) (hn : n < mSC) (hc : cs + 1 ≤ dMc M) (hs : sl + N ≤ dMs M)
    (kk : mW K M (cs + 1) (sl + N) (n + 1) (va_up hp n (eR tyS N (fun _ => none))) (pc + 3) lv (.ref n :: st)) : mW K M cs sl n hp pc lv (.int z :: st) := fun hk H locs ls hR hlv => by
  refine va_newq hk.1 hk.2.1 hk.2.2.2.1 (hk.2.2.2.2.1 _ hl) hk.2.2.2.2.2.2.2.2.1.2.1 hk.2.2.2.2.2.1 hR.1 (m_apart hk.2.2.2.2.2.2.2.1 hR.2.2.2.2) hR.2.2.1 (fun q hq => Nat.le_trans hk.2.2.2.2.2.2.1 hq) hz.nn hz.cl (by have := hz.2; omega) (by rw [hk.2.2.2.2.2.2.2.2.2]; exact hc) (by rw [hk.2.2.2.2.2.2.2.2.2]; exact hs) hd (fun q cA H1 hK1 hP1 hD1 hS1 => ?_)
  obtain ⟨_, _, -, -, -, r1⟩ := (hK1.2 5 (cA, tyS) rfl).2
  obtain ⟨_, _, -, -, -, r0⟩ := (hk.2.2.2.2.2.1.2 4 (K.2.2.1.2.1 tyS, tyS) rfl).2
  have e1 : cA = K.2.2.1.2.1 tyS := Option.some.inj (r1.symm.trans r0)
  subst e1
  intro T hT X
  obtain ⟨rfl, hR1⟩ := mRel.push (c := eR tyS N (fun _ => none)) hk hR hn hP1 hD1 hS1 hT X
  exact kk hk H1 locs ls hR1 hlv T hT X
/-! returns -/
theorem m_ireturn {x : Int32} {n0 : Nat} {Q : mQ} (hF : mFin K M n0 Q) (hd : decode (dC M) pc = .ok (.ireturn, 1)) (hr : dR M = some .int) (hc : cs = dMc M) (hs : sl = dMs M) (hq : Q (some (.int x)) hp) : mW K M cs sl n hp pc lv [.int x] := fun hk H locs ls hR hlv => by
  obtain ⟨h1, h2, h3, h4, h5⟩ := hF
  subst hc hs
  rw [h1]
  have hlocks := h3
  have e : n = n0 + dMc M := by have := hR.2.1; rw [h5] at this; omega
  exact W.iret hk.1 hk.2.1 (h2.trans hr) (fun t ht hW => ⟨some (.int x), hp, rfl, hq, by rw [ht, ← e]; exact hR.1, by rw [← e]; exact hR.2.2.2.1, by rw [← e]; exact hR.2.2.2.2, hR.2.2.1.F ht⟩) hR.2.2.1.2.2 hd
theorem m_zreturn {x : Int32} {ty : FieldType} {n0 : Nat} {Q : mQ} (hF : mFin K M n0 Q) (hd : decode (dC M) pc = .ok (.ireturn, 1)) (hr : dR M = some ty) (hn : narrow ty (.int x) = .int x) (hc : cs = dMc M) (hs : sl = dMs M) (hq : Q (some (.int x)) hp) : mW K M cs sl n hp pc lv [.int x] := fun hk H locs ls hR hlv => by
  obtain ⟨h1, h2, h3, h4, h5⟩ := hF
  subst hc hs
  rw [h1]
  have hlocks := h3
  have e : n = n0 + dMc M := by have := hR.2.1; rw [h5] at this; omega
  exact W.zret hk.1 hk.2.1 (h2.trans hr) hn (fun t ht hW => ⟨some (.int x), hp, rfl, hq, by rw [ht, ← e]; exact hR.1, by rw [← e]; exact hR.2.2.2.1, by rw [← e]; exact hR.2.2.2.2, hR.2.2.1.F ht⟩) hR.2.2.1.2.2 hd
theorem m_lreturn {x : Int64} {n0 : Nat} {Q : mQ} (hF : mFin K M n0 Q) (hd : decode (dC M) pc = .ok (.lreturn, 1)) (hr : dR M = some .long) (hc : cs = dMc M) (hs : sl = dMs M) (hq : Q (some (.long x)) hp) : mW K M cs sl n hp pc lv [.long x] := fun hk H locs ls hR hlv => by
  obtain ⟨h1, h2, h3, h4, h5⟩ := hF
  subst hc hs
  rw [h1]
  have hlocks := h3
  have e : n = n0 + dMc M := by have := hR.2.1; rw [h5] at this; omega
  exact W.lret hk.1 hk.2.1 (h2.trans hr) (fun t ht hW => ⟨some (.long x), hp, rfl, hq, by rw [ht, ← e]; exact hR.1, by rw [← e]; exact hR.2.2.2.1, by rw [← e]; exact hR.2.2.2.2, hR.2.2.1.F ht⟩) hR.2.2.1.2.2 hd
theorem m_areturn {h : Nat} {rt : FieldType} {n0 : Nat} {Q : mQ} (hF : mFin K M n0 Q) (hd : decode (dC M) pc = .ok (.areturn, 1)) (hr : dR M = some rt) (href : (∃ n, rt = FieldType.object n) ∨ ∃ t : FieldType, rt = FieldType.array t) (hc : cs = dMc M) (hs : sl = dMs M) (hq : Q (some (.ref h)) hp) : mW K M cs sl n hp pc lv [.ref h] := fun hk H locs ls hR hlv => by
  obtain ⟨h1, h2, h3, h4, h5⟩ := hF
  subst hc hs
  rw [h1]
  have hlocks := h3
  have e : n = n0 + dMc M := by have := hR.2.1; rw [h5] at this; omega
  exact W.aret hk.1 hk.2.1 (h2.trans hr) href (Or.inr ⟨_, rfl⟩) (fun t ht hW => ⟨some (.ref h), hp, rfl, hq, by rw [ht, ← e]; exact hR.1, by rw [← e]; exact hR.2.2.2.1, by rw [← e]; exact hR.2.2.2.2, hR.2.2.1.F ht⟩) hR.2.2.1.2.2 hd
theorem m_return {n0 : Nat} {Q : mQ} (hF : mFin K M n0 Q) (hd : decode (dC M) pc = .ok (.return_, 1)) (hr : dR M = none) (hc : cs = dMc M) (hs : sl = dMs M) (hq : Q none hp) : mW K M cs sl n hp pc lv [] := fun hk H locs ls hR hlv => by
  obtain ⟨h1, h2, h3, h4, h5⟩ := hF
  subst hc hs
  rw [h1]
  have hlocks := h3
  have e : n = n0 + dMc M := by have := hR.2.1; rw [h5] at this; omega
  exact W.vret hk.1 hk.2.1 (h2.trans hr) (fun t ht hW => ⟨none, hp, rfl, hq, by rw [ht, ← e]; exact hR.1, by rw [← e]; exact hR.2.2.2.1, by rw [← e]; exact hR.2.2.2.2, hR.2.2.1.F ht⟩) hR.2.2.1.2.2 hd
/-! calls -/
/-- a callee: its code is among the words, its class stands -/
def mMd (M' : MD) : Prop := Cond.code (dY M') (dC M') (dL M') (dR M') ∈ TB ∧ Cond.initialized (dY M').cls ∈ TB ∧ ((dY M').cls ≠ "java/lang/invoke/MethodHandle" ∧ (dY M').cls ≠ "java/lang/invoke/VarHandle")
theorem mWs_good {M M' : MD} (h : mMd M') : GoodIn (mWs M) (mWs M') := fun w hw => by
  rcases List.mem_cons.mp hw with rfl | hw
  · exact ⟨List.mem_cons_of_mem _ h.1, tb_good h.1⟩
  · exact ⟨List.mem_cons_of_mem _ hw, tb_good hw⟩
theorem tb_goodIn {M' : MD} (h : mMd M') : GoodIn TB (mWs M') := fun w hw => by
  rcases List.mem_cons.mp hw with rfl | hw
  · exact ⟨h.1, tb_good h.1⟩
  · exact ⟨hw, tb_good hw⟩
def mAr (M' : MD) (k : Nat) : Prop := (parseMethodDescriptor (dY M').desc).map (fun d => d.parameters.length) = some k
theorem m_start {H : Heap} {locs : List Loc} (hk : mOk K M) (hR : mRel K cs n hp H locs) (hz : H.size = K.2.2.1.2.2.2 + n) (U : State) (hU : U.heap = H) (hW : K.1.2.2.2.2.1.WarmedH U.vm) : mPre K.2.2.1.1 K.2.2.1.2.1 K.2.2.1.2.2.1 K.2.2.1.2.2.2 n hp U :=
  ⟨by rw [hU]; exact hR.1, by rw [hU]; exact hz, va_K.moved hW.alike hk.2.2.2.2.2.1, hR.2.2.2.1, hR.2.2.2.2, hk.2.2.2.2.2.2.2.1, by
    rw [hU]
    exact (hk.2.2.2.2.2.2.2.2.1.kept (fun a h1 h2 => hR.2.2.1.2.1 a h1 h2)).moved hW⟩
theorem m_back {Q' : mQ} {mc ms : Nat} {H : Heap} {locs : List Loc} {ls : Array Slot} {st0 rest : List Value} {a : Array Value} (hk : mOk K M) (hR : mRel K cs n hp H locs) (hl : lv_has ls (dL M) (mlv K.2.2.1.2.2.1 lv)) (hrest : rest = st.map (mv K.2.2.1.2.2.1))
    (hr : va_Run K.1.1 K.1.2.1 K.1.2.2.1 K.1.2.2.2.1 K.1.2.2.2.2.1 K.1.2.2.2.2.2 K.2.1.1 K.2.1.2.1 K.2.1.2.2.1 K.2.1.2.2.2 H locs cs sl mc ms (F0 K.1.2.2.2.2.2 pc ls st0) rest (mQc Q' K.2.2.1.1 K.2.2.1.2.1 K.2.2.1.2.2.1 K.2.2.1.2.2.2 n mc a) (mAc K.2.2.1.2.2.2))
    (kk : ∀ v hp', Q' v hp' → mW K M (cs + mc) (sl + ms) (n + mc) hp' (pc + 3) lv (v.toList ++ st)) {T : State} (hT : T.heap = H) (X : Stand K.1.1 K.1.2.1 K.1.2.2.1 K.1.2.2.2.1 K.1.2.2.2.2.1 K.1.2.2.2.2.2 K.2.1.1 K.2.1.2.1 K.2.1.2.2.1 K.2.1.2.2.2 T locs cs sl) :
    ∃ t, Steps K.1.1.tables K.1.2.2.1 K.2.1.2.1 (T.setTop (F0 K.1.2.2.2.2.2 pc ls st0)) t ∧ K.2.2.2 t := by
  obtain ⟨v0, st₀, t, T', L, h0, X', hL, e1, e2, ⟨v, hp', hv, hq, hP, hj, hn, hF⟩, go⟩ := hr T hT X
  cases hv
  have hS : va_S (mAc K.2.2.1.2.2.2) K.1.2.2.2.2.1.heap t.heap (locs ++ L) := by
    refine ⟨Nat.le_trans hR.2.2.1.1 (by have := hF.1; rw [h0] at this; exact this), fun q h1 h2 => ?_, fun q hq' => ?_⟩
    · rw [hF.2 q (by rw [h0]; exact Nat.lt_of_lt_of_le h1 hR.2.2.1.1) h2, h0]
      exact hR.2.2.1.2.1 q h1 h2
    · rcases List.mem_append.mp hq' with z | z
      · exact hR.2.2.1.2.2 q z
      · exact hL q z
  obtain ⟨t2, a1, b1⟩ := kk v hp' hq hk t.heap (locs ++ L) ls ⟨hP, by have := hR.2.1; omega, hS, hj, hn⟩ hl T' e1 X'
  refine ⟨t2, go t2 ?_, b1⟩
  have e : (v.map (mv K.2.2.1.2.2.1)).toList ++ rest = (v.toList ++ st).map (mv K.2.2.1.2.2.1) := by
    rw [hrest, List.map_append]
    cases v <;> rfl
  show Steps _ _ _ (T'.setTop (F0 _ (pc + 3) ls ((v.map (mv K.2.2.1.2.2.1)).toList ++ rest))) t2
  rw [e]
  exact a1
theorem m_words {L : List Value} {ad : Nat → Nat} : ((L.map (mv ad)).map fun v => v.category).sum = (L.map Value.category).sum := by
  rw [List.map_map]
  congr 1
  apply List.map_congr_left
  intro a _
  exact mv_cat ad a
theorem m_invS {ix : Nat} {M' : MD} {as st0 : List Value} {Q' : mQ} (hd : decode (dC M) pc = .ok (.invokestatic ix, 3)) (hl : Cond.methodLink (dOwn M) ix (dY M') ∈ TB ∧ Cond.static (dY M') ∈ TB ∧ mMd M') (har : mAr M' as.length) (hC : mC M' as n hp Q') (hst : st0 = as.reverse ++ st) (hw : (st.map Value.category).sum ≤ 8) (hv : dV M' + 1 ≤ dV M) (hL : dL M' ≤ 20) (hc : cs + dMc M' ≤ dMc M) (hs : sl + dMs M' ≤ dMs M)
    (kk : ∀ v hp', Q' v hp' → mW K M (cs + dMc M') (sl + dMs M') (n + dMc M') hp' (pc + 3) lv (v.toList ++ st)) : mW K M cs sl n hp pc lv st0 := fun hk H locs ls hR hlv => by
  subst hst
  intro T hT X
  have hz := hR.size hk hT X
  have hR' := hk.2.2.2.2.2.2.2.2.2
  refine m_back (st := st) (rest := st.map (mv K.2.2.1.2.2.1)) hk hR hlv rfl (va_runS (As := as.map (mv K.2.2.1.2.2.1)) (n := as.length) (bytes := dC M') (maxL := dL M') (ret := dR M') (own := dOwn M) (index := ix) (Ts := TB) (cc := dC M) (nL := dL M) ⟨hk.1, hk.2.1, hk.2.2.1, hk.2.2.2.1, hk.2.2.2.2.1⟩ (hC _ K.2.2.1.1 K.2.2.1.2.1 K.2.2.1.2.2.1 K.2.2.1.2.2.2) ⟨callB_of as.length hk.2.2.2.2.1 (tb_goodIn hl.2.2) rfl rfl rfl (hk.2.2.2.2.1 _ hl.2.2.2.1) (hk.2.2.2.2.1 _ hl.1) ⟨hl.2.2.2.2.1, hl.2.2.2.2.2, har⟩ ?_, hk.2.2.2.2.1 _ hl.2.1⟩ ⟨mPre.blind, fun U hU hW => ⟨rfl, m_start hk hR hz U hU hW⟩⟩ rfl (List.length_map _) hlv.1 ?_ ?_ hd ?_) kk hT X
  · rw [hR']
    exact ⟨hv, by show 8 + (dL M' + 11) + 40 * dV M' ≤ 40 * dV M; omega⟩
  · show (as.reverse ++ st).map _ = _
    rw [List.map_append, List.map_reverse]
  · show 2 * 0 + _ ≤ 8
    rw [m_words]
    omega
  · rw [hR']
    exact ⟨hc, hs⟩
theorem m_invSN {ix : Nat} {M' : MD} {as st0 : List Value} {Q' : mQ} (hd : decode (dC M) pc = .ok (.invokestatic ix, 3)) (hl : (∀ ad base U H, mEnv ad base U H → va_Nw (.methodLinkNest (dOwn M) ix (dY M') RX7) U) ∧ Cond.static (dY M') ∈ TB ∧ mMd M') (har : mAr M' as.length) (hC : mC M' as n hp Q') (hst : st0 = as.reverse ++ st) (hw : (st.map Value.category).sum ≤ 8) (hv : dV M' + 1 ≤ dV M) (hL : dL M' ≤ 20) (hc : cs + dMc M' ≤ dMc M) (hs : sl + dMs M' ≤ dMs M)
    (kk : ∀ v hp', Q' v hp' → mW K M (cs + dMc M') (sl + dMs M') (n + dMc M') hp' (pc + 3) lv (v.toList ++ st)) : mW K M cs sl n hp pc lv st0 := fun hk H locs ls hR hlv => by
  subst hst
  intro T hT X
  have hz := hR.size hk hT X
  have hR' := hk.2.2.2.2.2.2.2.2.2
  refine m_back (st := st) (rest := st.map (mv K.2.2.1.2.2.1)) hk hR hlv rfl (va_runSN (host := RX7) (As := as.map (mv K.2.2.1.2.2.1)) (n := as.length) (bytes := dC M') (maxL := dL M') (ret := dR M') (own := dOwn M) (index := ix) (Ts := TB) (cc := dC M) (nL := dL M) ⟨hk.1, hk.2.1, hk.2.2.1, hk.2.2.2.1, hk.2.2.2.2.1⟩ (hC _ K.2.2.1.1 K.2.2.1.2.1 K.2.2.1.2.2.1 K.2.2.1.2.2.2) ⟨va_cnB as.length hk.2.2.2.2.1 (tb_goodIn hl.2.2) rfl rfl rfl (hl.1 _ _ _ _ hk.2.2.2.2.2.2.2.2.1) (hk.2.2.2.2.1 _ hl.2.2.2.1) ⟨hl.2.2.2.2.1, hl.2.2.2.2.2, har⟩ ?_, hk.2.2.2.2.1 _ hl.2.1, trivial⟩ ⟨mPre.blind, fun U hU hW => ⟨rfl, m_start hk hR hz U hU hW⟩⟩ rfl (List.length_map _) hlv.1 ?_ ?_ hd ?_) kk hT X
  · rw [hR']
    exact ⟨hv, by show 8 + (dL M' + 11) + 40 * dV M' ≤ 40 * dV M; omega⟩
  · show (as.reverse ++ st).map _ = _
    rw [List.map_append, List.map_reverse]
  · show 2 * 0 + _ ≤ 8
    rw [m_words]
    omega
  · rw [hR']
    exact ⟨hc, hs⟩
theorem m_invV {ix ci h : Nat} {M' : MD} {q : vw_C} {as st0 : List Value} {f : Nat → Value} {Q' : mQ} (hd : decode (dC M) pc = .ok (.invokevirtual ix, 3)) (hl : Cond.methodLink (dOwn M) ix (dY M') ∈ TB ∧ Cond.instanceMethod (dY M') ∈ TB ∧ Cond.selects (dY M').cls (dY M') (dY M') ∈ TB ∧ mMd M') (har : mAr M' as.length) (hci : vwCl[ci]? = some q) (hcn : q.1 = (dY M').cls) (hc0 : hp h = .inr (ci, f)) (hC : mC M' (.ref h :: as) n hp Q') (hst : st0 = as.reverse ++ .ref h :: st) (hw : (st.map Value.category).sum ≤ 8) (hv : dV M' + 1 ≤ dV M) (hL : dL M' ≤ 20) (hc : cs + dMc M' ≤ dMc M) (hs : sl + dMs M' ≤ dMs M)
    (kk : ∀ v hp', Q' v hp' → mW K M (cs + dMc M') (sl + dMs M') (n + dMc M') hp' (pc + 3) lv (v.toList ++ st)) : mW K M cs sl n hp pc lv st0 := fun hk H locs ls hR hlv => by
  subst hst
  intro T hT X
  have hz := hR.size hk hT X
  have hR' := hk.2.2.2.2.2.2.2.2.2
  have hh : h < n := mlt_o hR hc0 hci
  have hrecv := va_recv hk.2.2.2.2.2.1 hR.1 hci (q0 := h) (a := K.2.2.1.2.2.1 h) (fs := (List.range (mN ci)).map fun k => mv K.2.2.1.2.2.1 (f k)) (by rw [mws_at hh, hc0]; rfl)
  rw [hcn] at hrecv
  refine m_back (st := st) (rest := st.map (mv K.2.2.1.2.2.1)) hk hR hlv rfl (va_runV (C := (dY M').cls) (b := K.2.2.1.2.2.1 h) (As := as.map (mv K.2.2.1.2.2.1)) (n := as.length) (bytes := dC M') (maxL := dL M') (ret := dR M') (own := dOwn M) (index := ix) (Ts := TB) (cc := dC M) (nL := dL M) ⟨hk.1, hk.2.1, hk.2.2.1, hk.2.2.2.1, hk.2.2.2.2.1⟩ (hC _ K.2.2.1.1 K.2.2.1.2.1 K.2.2.1.2.2.1 K.2.2.1.2.2.2) ⟨callB_of as.length hk.2.2.2.2.1 (tb_goodIn hl.2.2.2) rfl rfl rfl (hk.2.2.2.2.1 _ hl.2.2.2.2.1) (hk.2.2.2.2.1 _ hl.1) ⟨hl.2.2.2.2.2.1, hl.2.2.2.2.2.2, har⟩ ?_, hk.2.2.2.2.1 _ hl.2.1, hk.2.2.2.2.1 _ hl.2.2.1⟩ ⟨mPre.blind, hrecv, fun U hU hW => ⟨rfl, m_start hk hR hz U hU hW⟩⟩ rfl (List.length_map _) hlv.1 ?_ ?_ hd ?_) kk hT X
  · rw [hR']
    exact ⟨hv, by show 8 + (dL M' + 11) + 40 * dV M' ≤ 40 * dV M; omega⟩
  · show (as.reverse ++ .ref h :: st).map _ = _
    rw [List.map_append, List.map_reverse]
    rfl
  · show 2 * 0 + _ ≤ 8
    rw [m_words]
    omega
  · rw [hR']
    exact ⟨hc, hs⟩
theorem m_invI {ix h : Nat} {M' : MD} {as st0 : List Value} {Q' : mQ} (hd : decode (dC M) pc = .ok (.invokespecial ix, 3)) (hl : Cond.methodLink (dOwn M) ix (dY M') ∈ TB ∧ Cond.instanceMethod (dY M') ∈ TB ∧ (dY M').name = "<init>" ∧ mMd M') (har : mAr M' as.length) (hret : dR M' = none) (hC : mC M' (.ref h :: as) n hp Q') (hst : st0 = as.reverse ++ .ref h :: st) (hw : (st.map Value.category).sum ≤ 8) (hv : dV M' + 1 ≤ dV M) (hL : dL M' ≤ 20) (hc : cs + dMc M' ≤ dMc M) (hs : sl + dMs M' ≤ dMs M)
    (kk : ∀ v hp', Q' v hp' → mW K M (cs + dMc M') (sl + dMs M') (n + dMc M') hp' (pc + 3) lv (v.toList ++ st)) : mW K M cs sl n hp pc lv st0 := fun hk H locs ls hR hlv => by
  subst hst
  intro T hT X
  have hz := hR.size hk hT X
  have hR' := hk.2.2.2.2.2.2.2.2.2
  refine m_back (st := st) (rest := st.map (mv K.2.2.1.2.2.1)) hk hR hlv rfl (va_runI (b := K.2.2.1.2.2.1 h) (As := as.map (mv K.2.2.1.2.2.1)) (n := as.length) (bytes := dC M') (maxL := dL M') (own := dOwn M) (index := ix) (Ts := TB) (cc := dC M) (nL := dL M) ⟨hk.1, hk.2.1, hk.2.2.1, hk.2.2.2.1, hk.2.2.2.2.1⟩ (hC _ K.2.2.1.1 K.2.2.1.2.1 K.2.2.1.2.2.1 K.2.2.1.2.2.2) ⟨callB_of as.length hk.2.2.2.2.1 (tb_goodIn hl.2.2.2) (by rw [← hret]) rfl rfl (hk.2.2.2.2.1 _ hl.2.2.2.2.1) (hk.2.2.2.2.1 _ hl.1) ⟨hl.2.2.2.2.2.1, hl.2.2.2.2.2.2, har⟩ ?_, hl.2.2.1, hk.2.2.2.2.1 _ hl.2.1⟩ ⟨mPre.blind, fun U hU hW => ⟨rfl, m_start hk hR hz U hU hW⟩⟩ rfl (List.length_map _) hlv.1 ?_ ?_ hd ?_) kk hT X
  · rw [hR']
    exact ⟨hv, by show 8 + (dL M' + 11) + 40 * dV M' ≤ 40 * dV M; omega⟩
  · show (as.reverse ++ .ref h :: st).map _ = _
    rw [List.map_append, List.map_reverse]
    rfl
  · show 2 * 0 + _ ≤ 8
    rw [m_words]
    omega
  · rw [hR']
    exact ⟨hc, hs⟩
theorem m_objInit {ix h : Nat} (hd : decode (dC M) pc = .ok (.invokespecial ix, 3)) (hl : Cond.methodLink (dOwn M) ix Lib.objectInit ∈ TB ∧ Cond.instanceMethod Lib.objectInit ∈ TB ∧ Cond.code Lib.objectInit ⟨#[0xb1]⟩ 1 none ∈ TB) (hw : (st.map Value.category).sum ≤ 8) (hv : 1 ≤ dV M) (kk : mW K M cs sl n hp (pc + 3) lv st) : mW K M cs sl n hp pc lv (.ref h :: st) := fun hk H locs ls hR hlv => by
  have hR' := hk.2.2.2.2.2.2.2.2.2
  refine W.objInit hk.1 hk.2.1 hk.2.2.2.1 (hk.2.2.2.2.1 _ hl.1) (hk.2.2.2.2.1 _ hl.2.1) (hk.2.2.2.2.1 _ hl.2.2) rfl (by rw [hk.2.2.1]; exact hlv.1) rfl hd (by rw [hR']; exact hv) ?_ (kk hk H locs ls hR hlv)
  rw [hR']
  show 2 * 0 + _ + 12 ≤ 40 * dV M
  rw [m_words]
  omega
/-- System.arraycopy of ints -/
theorem m_copyI {ix h0 h1 n0 n1 s0 d0 k : Nat} {f g : Nat → Int32} {sp dp z : Int32} (hd : decode (dC M) pc = .ok (.invokestatic ix, 3)) (hl : Cond.methodLink (dOwn M) ix arraycopyName ∈ TB ∧ Cond.native arraycopyName ∈ TB ∧ Cond.static arraycopyName ∈ TB ∧ Cond.initialized "java/lang/System" ∈ TB) (hc0 : hp h0 = eI n0 f) (hc1 : hp h1 = eI n1 g) (hs : sp.toInt = (s0 : Int)) (hp' : dp.toInt = (d0 : Int)) (hz : z.toInt = (k : Int)) (hb0 : s0 + k ≤ n0) (hb1 : d0 + k ≤ n1) (hw : (st.map Value.category).sum ≤ 8) (hv : 1 ≤ dV M)
    (kk : mW K M cs sl n (va_up hp h1 (eI n1 (va_cpy f g s0 d0 k))) (pc + 3) lv st) : mW K M cs sl n hp pc lv (.int z :: .int dp :: .ref h1 :: .int sp :: .ref h0 :: st) := fun hk H locs ls hR hlv => by
  have hR' := hk.2.2.2.2.2.2.2.2.2
  have hh0 : h0 < n := mlt_a hR hc0
  have hh1 : h1 < n := mlt_a hR hc1
  have is : mIx sp s0 (s0 + 1) := ⟨hs, by omega⟩
  have id : mIx dp d0 (d0 + 1) := ⟨hp', by omega⟩
  have iz : mIx z k (k + 1) := ⟨hz, by omega⟩
  refine va_copyi hk.1 hk.2.1 (by rw [hk.2.2.1]; exact hlv.1.symm) hk.2.2.2.1 (hk.2.2.2.2.1 _ hl.1) (hk.2.2.2.2.1 _ hl.2.1) (hk.2.2.2.2.1 _ hl.2.2.1) (hk.2.2.2.2.1 _ hl.2.2.2) hk.2.2.2.2.2.1 hR.1 (m_apart hk.2.2.2.2.2.2.2.1 hR.2.2.2.2) hR.2.2.1 h0 h1 0 0 (ty := .int) (n0 := n0) (n1 := n1) (f := f) (g := g) (by rw [mws_at hh0, hc0]; rfl) (by rw [mws_at hh1, hc1]; rfl) rfl rfl rfl is.nn id.nn iz.nn (by rw [is.cl, iz.cl]; exact hb0) (by rw [id.cl, iz.cl]; exact hb1) (fun _ _ => rfl) (by rw [hR']; exact hv) ?_ hd (fun H1 locs1 hP1 hD1 hS1 => ?_)
  · rw [hR']
    show _ + _ ≤ 40 * dV M
    rw [m_words]
    have : nativeFrameWords "java/lang/System" "arraycopy" 5 + 11 ≤ 32 := by decide +kernel
    omega
  · rw [is.cl, id.cl, iz.cl] at hP1
    exact kk hk H1 locs1 ls (hR.up hh1 hP1 hS1) hlv
theorem m_copyL {ix h0 h1 n0 n1 s0 d0 k : Nat} {f g : Nat → Int64} {sp dp z : Int32} (hd : decode (dC M) pc = .ok (.invokestatic ix, 3)) (hl : Cond.methodLink (dOwn M) ix arraycopyName ∈ TB ∧ Cond.native arraycopyName ∈ TB ∧ Cond.static arraycopyName ∈ TB ∧ Cond.initialized "java/lang/System" ∈ TB) (hc0 : hp h0 = eL n0 f) (hc1 : hp h1 = eL n1 g) (hs : sp.toInt = (s0 : Int)) (hp' : dp.toInt = (d0 : Int)) (hz : z.toInt = (k : Int)) (hb0 : s0 + k ≤ n0) (hb1 : d0 + k ≤ n1) (hw : (st.map Value.category).sum ≤ 8) (hv : 1 ≤ dV M)
    (kk : mW K M cs sl n (va_up hp h1 (eL n1 (va_cpy f g s0 d0 k))) (pc + 3) lv st) : mW K M cs sl n hp pc lv (.int z :: .int dp :: .ref h1 :: .int sp :: .ref h0 :: st) := fun hk H locs ls hR hlv => by
  have hR' := hk.2.2.2.2.2.2.2.2.2
  have hh0 : h0 < n := mlt_a hR hc0
  have hh1 : h1 < n := mlt_a hR hc1
  have is : mIx sp s0 (s0 + 1) := ⟨hs, by omega⟩
  have id : mIx dp d0 (d0 + 1) := ⟨hp', by omega⟩
  have iz : mIx z k (k + 1) := ⟨hz, by omega⟩
  refine va_copyl hk.1 hk.2.1 (by rw [hk.2.2.1]; exact hlv.1.symm) hk.2.2.2.1 (hk.2.2.2.2.1 _ hl.1) (hk.2.2.2.2.1 _ hl.2.1) (hk.2.2.2.2.1 _ hl.2.2.1) (hk.2.2.2.2.1 _ hl.2.2.2) hk.2.2.2.2.2.1 hR.1 (m_apart hk.2.2.2.2.2.2.2.1 hR.2.2.2.2) hR.2.2.1 h0 h1 1 1 (ty := .long) (n0 := n0) (n1 := n1) (f := f) (g := g) (by rw [mws_at hh0, hc0]; rfl) (by rw [mws_at hh1, hc1]; rfl) rfl rfl rfl is.nn id.nn iz.nn (by rw [is.cl, iz.cl]; exact hb0) (by rw [id.cl, iz.cl]; exact hb1) (fun _ _ => rfl) (by rw [hR']; exact hv) ?_ hd (fun H1 locs1 hP1 hD1 hS1 => ?_)
  · rw [hR']
    show _ + _ ≤ 40 * dV M
    rw [m_words]
    have : nativeFrameWords "java/lang/System" "arraycopy" 5 + 11 ≤ 32 := by decide +kernel
    omega
  · rw [is.cl, id.cl, iz.cl] at hP1
    exact kk hk H1 locs1 ls (hR.up hh1 hP1 hS1) hlv
end MC
