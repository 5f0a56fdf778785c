def R_law : String := "LoopJudgeLaw"
def lw_P (b : Addr) (xs : List Int32) (args : Array Value) (s : State) : Prop := args = #[.ref b] ∧ s.IntsAt b xs ∧ xs.length ≤ 3072 ∧ (Jvm.Cond.and given_1 narrow_1).before args s = true
def lw_Q (_ : Array Value) (s : State) (o : Outcome) (t : State) : Prop := o = .returned (some (.int 1)) ∧ Framed s o t [] 600000 7302249
def lw_Z (below : List Frame) (a : Array Value) (s : State) : State → Prop := fun t => ∃ o, t.status = .running ∧ Ended t below o ∧ lw_Q a s o t
/-- the law's own end, with 1 on the stack, nothing written that was there before, its room as the claim has it -/
theorem lw_ret {p : Program} {l : Launch} {e : Env} {s : State} {m : MethodId} {below : List Frame} {meth : Method} {c : Code} {b : Nat} (hx : p.tables.exec = Jvm.exec) (hb : c.code = code) (hr : meth.sig.returnType = ret) (hlocks : meth.locks = false) {pc : Nat} {H : Heap} {ls : Array Slot} (hdg : decode code pc = .ok (.ireturn, 1)) : W p l e room_1 s m #[Value.ref b] below meth c H [] 600000 7302249 (lw_Z below #[Value.ref b] s) (F0 m pc ls [.int 1]) := by
  intro T hT X
  obtain ⟨fs, hret, hrun, hended, hW, hframe⟩ := X.leave (v := some (.int 1)) (hlocks := hlocks) (fun h => by rw [hr] at h; cases h)
  have hmeth' : T.vm.method? m = some meth := X.method'
  refine ⟨T.setFrames fs, ?_, .returned (some (.int 1)), hrun, hended, rfl, ⟨_, rfl⟩, hW, hframe⟩
  jvm_step X.here [X.here.top, hx, hb, hdg, hmeth', hr, ret, narrow_b1]
  (try refine ⟨rfl, ?_⟩); (try refine ⟨rfl, ?_⟩)
  first | (intro acts; rw [hret _ acts rfl rfl rfl]) | rw [hret _ _ rfl rfl rfl]
  exact Steps.refl _
/-- what holds at the law's entry: the machine, the code, the tables' words (any of lw_tbl by 'hts w (by decide +kernel)'), the script of L ints xs at the cell b, what the Statement gives of the start (any of its parts by flat_of_before) -/
def lw_At (p : Program) (s : State) (m : MethodId) (meth : Method) (c : Code) (b L : Nat) (xs : Nat → Int32) : Prop :=
  p.tables.exec = Jvm.exec ∧ c.code = code ∧ meth.sig.returnType = ret ∧ c.maxLocals = 4 ∧ s.vm.findClass R_law = some m.cls ∧ (∀ w ∈ lw_tbl, w.before #[Value.ref b] s = true) ∧ va_X b L xs s s.heap ∧ b < s.heap.size ∧ meth.locks = false ∧ (Jvm.Cond.and given_1 narrow_1).before #[Value.ref b] s = true
theorem bt_K {s : State} {b : Nat} (hTB : ∀ w ∈ TB, w.before #[Value.ref b] s = true) : ∃ (dC : Nat → ClassId) (dI : Nat → Nat → Nat), ∀ (k : Nat) (q : vw_C), vwCl[k]? = some q → u_Kn s q.1 q.2.1 q.2.2 (dC k) (dI k) := by
  obtain ⟨c0, i0, k0⟩ := u_known (C := RX0) (T := TX0) (N := 3) (n := 3) hTB inT0 (hTB _ w_1_128)
  obtain ⟨c1, i1, k1⟩ := u_known (C := RX1) (T := TX1) (N := 5) (n := 5) hTB inT1 (hTB _ w_1_122)
  obtain ⟨c2, i2, k2⟩ := u_known (C := RX2) (T := TX2) (N := 3) (n := 3) hTB inT2 (hTB _ w_1_48)
  obtain ⟨c3, i3, k3⟩ := u_known (C := RX3) (T := TX3) (N := 3) (n := 3) hTB inT3 (hTB _ w_1_23)
  obtain ⟨c4, i4, k4⟩ := u_known (C := RX4) (T := TX4) (N := 3) (n := 3) hTB inT4 (hTB _ w_1_100)
  obtain ⟨c5, i5, k5⟩ := u_known (C := RX5) (T := TX5) (N := 9) (n := 9) hTB inT5 (hTB _ w_1_170)
  obtain ⟨c6, i6, k6⟩ := u_known (C := RX6) (T := TX6) (N := 7) (n := 7) hTB inT6 (hTB _ w_1_68)
  obtain ⟨c7, i7, k7⟩ := u_known (C := RX7) (T := TX7) (N := 11) (n := 11) hTB inT7 (hTB _ w_1_15)
  obtain ⟨c8, i8, k8⟩ := u_known (C := RX8) (T := TX8) (N := 29) (n := 29) hTB inT8 (hTB _ w_3_107)
  refine ⟨fun k => match k with
    | 0 => c0 | 1 => c1 | 2 => c2 | 3 => c3 | 4 => c4 | 5 => c5 | 6 => c6 | 7 => c7 | _ => c8, fun k => match k with
    | 0 => i0 | 1 => i1 | 2 => i2 | 3 => i3 | 4 => i4 | 5 => i5 | 6 => i6 | 7 => i7 | _ => i8, ?_⟩
  intro k q hq
  match k, hq with
  | 0, hq => cases hq; exact k0
  | 1, hq => cases hq; exact k1
  | 2, hq => cases hq; exact k2
  | 3, hq => cases hq; exact k3
  | 4, hq => cases hq; exact k4
  | 5, hq => cases hq; exact k5
  | 6, hq => cases hq; exact k6
  | 7, hq => cases hq; exact k7
  | 8, hq => cases hq; exact k8
  | k + 9, hq => simp [vwCl] at hq
theorem bt_A {s : State} {b : Nat} (hts : ∀ w ∈ lw_tbl, w.before #[Value.ref b] s = true) : ∃ dA : FieldType → ClassId, ∀ (k : Nat) (q : ClassId × FieldType), (mty dA)[k]? = some q → ArrOfT s q.1 q.2 ∧ va_RA s q.1 q.2 := by
  obtain ⟨cI, kI, pI, i1, i2, i3⟩ := Cond.arrayClass_spec (hts _ (tb_in w_1_42))
  obtain ⟨cJ, kJ, pJ, j1, j2, j3⟩ := Cond.arrayClass_spec (hts _ (tb_in w_1_120))
  obtain ⟨cB, kB, pB, b1, b2, b3⟩ := Cond.arrayClass_spec (hts _ (tb_in w_1_98))
  obtain ⟨pQ, cQ, kQ, q1, -, q2, q3, q4⟩ := arrayOverA_spec (hts _ (t_1 (List.mem_of_getElem? (i := 106) rfl)))
  obtain ⟨pS, cS, kS, s1, -, s2, s3, s4⟩ := Cond.arrayOver_spec (hts _ (t_1 (List.mem_of_getElem? (i := 54) rfl)))
  refine ⟨fun ty => match ty with
    | .int => cI | .long => cJ | .byte => cB | .array _ => cQ | _ => cS, ?_⟩
  intro k q hq
  match k, hq with
  | 0, hq => cases hq; exact ⟨fun n z => ⟨fun k h => (by cases h), kI, i2, pI, i3⟩, i1⟩
  | 1, hq => cases hq; exact ⟨fun n z => ⟨fun k h => (by cases h), kJ, j2, pJ, j3⟩, j1⟩
  | 2, hq => cases hq; exact ⟨fun n z => ⟨fun k h => (by cases h), kB, b2, pB, b3⟩, b1⟩
  | 3, hq => cases hq; exact ⟨fun n z => ⟨fun k h => (by cases h), kQ, q2, pQ, q3⟩, q4⟩
  | 4, hq => cases hq; exact ⟨fun n z => ⟨fun k h => (by cases h), kS, s2, pS, s3⟩, kS, pS, s2, s3, s1, s4⟩
  | k + 5, hq => simp [mty] at hq
theorem bt_T {s : State} {b : Nat} {A : Nat → Prop} (hgv : (Jvm.Cond.and given_1 narrow_1).before #[Value.ref b] s = true) (hA : ∀ a : Nat, a < s.heap.size → ¬ A a) : ∃ t : Nat, (Term.static "LoopJudge" "CORNER_SIDES" "[I").eval #[Value.ref b] s none [] s = some (.ref t) ∧ va_T .int t 20 (fun j => .int (mCS.getD j 0)) A s s.heap := by
  have hs := flat_of_before _ hgv
  refine va_Tof (by decide) (hs _ (by decide +kernel)) (va_eqt (z := 20) (hs _ (by decide +kernel))) (fun j hj => ?_) hA
  match j, hj with
  | 0, _ => exact va_eqt (z := mCS.getD 0 0) (hs _ (by decide +kernel))
  | 1, _ => exact va_eqt (z := mCS.getD 1 0) (hs _ (by decide +kernel))
  | 2, _ => exact va_eqt (z := mCS.getD 2 0) (hs _ (by decide +kernel))
  | 3, _ => exact va_eqt (z := mCS.getD 3 0) (hs _ (by decide +kernel))
  | 4, _ => exact va_eqt (z := mCS.getD 4 0) (hs _ (by decide +kernel))
  | 5, _ => exact va_eqt (z := mCS.getD 5 0) (hs _ (by decide +kernel))
  | 6, _ => exact va_eqt (z := mCS.getD 6 0) (hs _ (by decide +kernel))
  | 7, _ => exact va_eqt (z := mCS.getD 7 0) (hs _ (by decide +kernel))
  | 8, _ => exact va_eqt (z := mCS.getD 8 0) (hs _ (by decide +kernel))
  | 9, _ => exact va_eqt (z := mCS.getD 9 0) (hs _ (by decide +kernel))
  | 10, _ => exact va_eqt (z := mCS.getD 10 0) (hs _ (by decide +kernel))
  | 11, _ => exact va_eqt (z := mCS.getD 11 0) (hs _ (by decide +kernel))
  | 12, _ => exact va_eqt (z := mCS.getD 12 0) (hs _ (by decide +kernel))
  | 13, _ => exact va_eqt (z := mCS.getD 13 0) (hs _ (by decide +kernel))
  | 14, _ => exact va_eqt (z := mCS.getD 14 0) (hs _ (by decide +kernel))
  | 15, _ => exact va_eqt (z := mCS.getD 15 0) (hs _ (by decide +kernel))
  | 16, _ => exact va_eqt (z := mCS.getD 16 0) (hs _ (by decide +kernel))
  | 17, _ => exact va_eqt (z := mCS.getD 17 0) (hs _ (by decide +kernel))
  | 18, _ => exact va_eqt (z := mCS.getD 18 0) (hs _ (by decide +kernel))
  | 19, _ => exact va_eqt (z := mCS.getD 19 0) (hs _ (by decide +kernel))
  | j + 20, h => exact absurd h (by omega)
set_option maxRecDepth 100000 in
theorem whole_M {p : Program} {e : Env} {s : State} {m : MethodId} {below : List Frame} {meth : Method} {c : Code} (hM : MATH) (l : Launch) {b L : Nat} {xs : Nat → Int32} (hL : L ≤ 3072) (C0 : lw_At p s m meth c b L xs) : W p l e room_1 s m #[Value.ref b] below meth c s.heap [] 0 0 (lw_Z below #[Value.ref b] s) (entryFrame m ([Value.ref b] : List Value).toArray 4) := by
  obtain ⟨hx, hb, hr, hml, hown, hts, hX, hbl, hlocks, hgv⟩ := id C0
  have hTB : ∀ w ∈ TB, w.before #[Value.ref b] s = true := fun w hw => hts w (tb_in hw)
  obtain ⟨dC, dI, hKc⟩ := bt_K hTB
  obtain ⟨dA, hKa⟩ := bt_A hts
  obtain ⟨t, ht, hT⟩ := bt_T (A := mAc s.heap.size) hgv (fun a ha => Nat.not_le.mpr ha)
  have hZ : va_Z "LoopJudge" "CORNER_SIDES" "[I" (.ref t) (mAc s.heap.size) s s.heap := va_Zref (hts _ (t_2 (List.mem_of_getElem? (i := 195) rfl))) (hts _ (tb_in w_1_1)) ht (fun a ha => Nat.not_le.mpr ha)
  obtain ⟨ad, a1, a2, a3⟩ : ∃ ad : Nat → Nat, (∀ h, h < mSC → ad h = s.heap.size + h) ∧ ad mSC = b ∧ ad (mSC + 1) = t := ⟨fun h => if h < mSC then s.heap.size + h else if h = mSC then b else t, fun h hh => if_pos hh, (if_neg (by decide)).trans (if_pos rfl), (if_neg (by decide)).trans (if_neg (by decide))⟩
  let K : mK := ((p, l, e, room_1, s, m), (#[Value.ref b], below, meth, c), (((dC, dI), dA, ad, s.heap.size)), lw_Z below #[Value.ref b] s)
  have hK : mOk K D_L_law := ⟨hx, hb, hml, hown, hTB, ⟨hKc, hKa⟩, Nat.le_refl _, a1, ⟨⟨va_Nw.of rfl (hts _ (t_2 (List.mem_of_getElem? (i := 68) rfl))), va_Nw.of rfl (hts _ (t_2 (List.mem_of_getElem? (i := 91) rfl))), va_Nw.of rfl (hts _ (t_2 (List.mem_of_getElem? (i := 114) rfl))), va_Nw.of rfl (hts _ (t_3 (List.mem_of_getElem? (i := 69) rfl)))⟩, va_AO.of (hts _ (t_1 (List.mem_of_getElem? (i := 54) rfl))), hts _ (t_1 (List.mem_of_getElem? (i := 106) rfl)), (by have y := hZ; rw [← a3] at y; exact y), (by have y := hT; rw [← a3] at y; exact y)⟩, rfl⟩
  have hX9 : mSx K L xs := ⟨by show va_X (ad mSC) L xs s s.heap; rw [a2]; exact hX, by show ad mSC < _; rw [a2]; exact hbl, by show ¬ mAc s.heap.size (ad mSC); rw [a2]; exact Nat.not_le.mpr hbl⟩
  have hE : ∀ (hp : mHp) (lv : List Value), mW K D_L_law 85 2730 85 hp 1055 lv [.int 1] := fun hp lv _ H locs ls hR hlv => va_forget (fun q hq => hR.2.2.1.2.2 q hq) (W.widen (k := 600000) (n := 7302249) (by decide) (by decide) (lw_ret hx hb hr hlocks dL_law_1055))
  have main : mW K D_L_law 0 0 0 (fun _ => mJ) 0 [.ref mSC, .retAddr 0, .retAddr 0, .retAddr 0] [] := by
    refine m_new (ci := 7) (f := iX7) dL_law_0 rfl inT7 tyX7_ok w_1_14 w_1_15 w_1_1 iX7_ok (by decide) (by decide) (by decide) ?_
    show mW _ _ _ _ 1 _ _ _ (.ref 0 :: _)
    refine m_dup dL_law_3 rfl ?_
    refine m_invI dL_law_4 lk_L_9 ar_X7_init rfl (t_X7_init (va_up_self _ _ _)) rfl (Nat.le_of_ble_eq_true rfl) (by decide) (by decide) (by decide) (by decide) (fun v hp1 q => ?_)
    obtain ⟨rfl, hc1, gO1⟩ := q
    show mW K _ _ _ 67 hp1 7 _ [.ref 0]
    refine m_astore_n dL_law_7 (by decide) ?_
    show mW _ _ _ _ _ _ 8 [_, _, _, _] _
    refine m_new (ci := 8) (f := iX8) dL_law_8 rfl inT8 tyX8_ok w_3_106 w_3_107 w_1_9 iX8_ok (by decide) (by decide) (by decide) ?_
    show mW _ _ _ _ 68 _ _ _ (.ref 67 :: _)
    refine m_dup dL_law_11 rfl ?_
    refine m_invI dL_law_12 lk_L_12 ar_X8_init rfl (t_X8_init (T := TK0) (va_up_self _ _ _)) rfl (Nat.le_of_ble_eq_true rfl) (by decide) (by decide) (by decide) (by decide) (fun v hp2 q => ?_)
    obtain ⟨rfl, hm2, gO2⟩ := q
    have hc2 := hc1.of (hp' := hp2) (fun q hq => by rw [gO2 q (by omega), va_up_ne _ _ (by omega)])
    show mW K _ _ _ 85 hp2 15 _ [.ref 67]
    refine m_astore_n dL_law_15 (by decide) ?_
    show mW _ _ _ _ _ _ 16 [_, _, _, _] _
    refine m_iconst (v := 0) dL_law_16 (by decide) ?_
    refine m_istore_n dL_law_17 (by decide) ?_
    show mW _ _ _ _ _ _ 18 [_, _, _, _] _
    show mW K D_L_law 85 2730 85 hp2 18 [.ref mSC, .ref 0, .ref 67, .int (nI 0)] []
    exact l_law hM hX9 hL hE (L + 1) 0 hp2 (by omega) ⟨0, TS0, TK0, -1, 0, fun _ => 0, SH0, hc2, hm2, ok_T0, ok_K0, ok_S0, fun t ht => absurd ht (Nat.not_lt_zero _), Or.inl ⟨rfl, by decide⟩⟩
  have hl := lv_entry ([.ref b]) (n := 4) (Nat.le_of_ble_eq_true rfl)
  rw [lg_entry_eq]
  generalize (lg_sl ([.ref b]) ++ List.replicate (4 - (lg_sl ([.ref b])).length) Slot.unset).toArray = ls at hl ⊢
  have hl : lv_has ls 4 [(0, .ref b)] := hl
  refine main hK s.heap [] ls ⟨fun k q h => (by simp [mws] at h), rfl, va_S.rf, fun _ _ => rfl, Nat.zero_le _⟩ ?_
  show lv_has ls 4 (mlv ad [.ref mSC, .retAddr 0, .retAddr 0, .retAddr 0])
  rw [show mlv ad [.ref mSC, .retAddr 0, .retAddr 0, .retAddr 0] = [(0, .ref (ad mSC))] from rfl, a2]
  exact hl
