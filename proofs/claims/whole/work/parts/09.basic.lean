section MX
variable {K : mK} {M : MD} {cs sl n : Nat} {hp : mHp} {pc : Nat} {lv st : List Value}
theorem m_ci {x v : Int32} (h : x = v) (kk : mW K M cs sl n hp pc lv (.int v :: st)) : mW K M cs sl n hp pc lv (.int x :: st) := h ▸ kk
theorem m_cl {x v : Int64} (h : x = v) (kk : mW K M cs sl n hp pc lv (.long v :: st)) : mW K M cs sl n hp pc lv (.long x :: st) := h ▸ kk
/-- a method's end: what it returns, the heap behind it -/
abbrev rI (R : Int32) (HP : mHp) : mQ := fun v hp' => v = some (.int R) ∧ hp' = HP
abbrev rL (R : Int64) (HP : mHp) : mQ := fun v hp' => v = some (.long R) ∧ hp' = HP
abbrev rV (HP : mHp) : mQ := fun v hp' => v = none ∧ hp' = HP
abbrev rR (h : Nat) (HP : mHp) : mQ := fun v hp' => v = some (.ref h) ∧ hp' = HP
theorem m_invS_I {ix : Nat} {M' : MD} {as st0 : List Value} {R : Int32} {HP : mHp} (hd : decode (dC M) pc = .ok (.invokestatic ix, 3)) (hl : Cond.methodLink (dOwn M) ix (dY M') ∈ TB ∧ Cond.static (dY M') ∈ TB ∧ mMd M') (har : mAr M' as.length) (hC : mC M' as n hp (rI R HP)) (hst : st0 = as.reverse ++ st) (hw : (st.map Value.category).sum ≤ 8) (hv : dV M' + 1 ≤ dV M) (hL : dL M' ≤ 20) (hc : cs + dMc M' ≤ dMc M) (hs : sl + dMs M' ≤ dMs M) (h0 : dMc M' = 0) (h1 : dMs M' = 0) (kk : mW K M cs sl n HP (pc + 3) lv (.int R :: st)) : mW K M cs sl n hp pc lv st0 :=
  m_invS hd hl har hC hst hw hv hL hc hs (fun v hp' q => by
    obtain ⟨rfl, rfl⟩ := q
    rw [h0, h1]
    exact kk)
theorem m_invSN_I {ix : Nat} {M' : MD} {as st0 : List Value} {R : Int32} {HP : mHp} (hd : decode (dC M) pc = .ok (.invokestatic ix, 3)) (hl : (∀ ad base U H, mEnv ad base U H → va_Nw (.methodLinkNest (dOwn M) ix (dY M') RX7) U) ∧ Cond.static (dY M') ∈ TB ∧ mMd M') (har : mAr M' as.length) (hC : mC M' as n hp (rI R HP)) (hst : st0 = as.reverse ++ st) (hw : (st.map Value.category).sum ≤ 8) (hv : dV M' + 1 ≤ dV M) (hL : dL M' ≤ 20) (hc : cs + dMc M' ≤ dMc M) (hs : sl + dMs M' ≤ dMs M) (h0 : dMc M' = 0) (h1 : dMs M' = 0) (kk : mW K M cs sl n HP (pc + 3) lv (.int R :: st)) : mW K M cs sl n hp pc lv st0 :=
  m_invSN hd hl har hC hst hw hv hL hc hs (fun v hp' q => by
    obtain ⟨rfl, rfl⟩ := q
    rw [h0, h1]
    exact kk)
theorem m_invV_I {ix : Nat} {M' : MD} {as st0 : List Value} {R : Int32} {HP : mHp} {ci h : Nat} {q : vw_C} {f : Nat → Value} (hd : decode (dC M) pc = .ok (.invokevirtual ix, 3)) (hl : Cond.methodLink (dOwn M) ix (dY M') ∈ TB ∧ Cond.instanceMethod (dY M') ∈ TB ∧ Cond.selects (dY M').cls (dY M') (dY M') ∈ TB ∧ mMd M') (har : mAr M' as.length) (hci : vwCl[ci]? = some q) (hcn : q.1 = (dY M').cls) (hc0 : hp h = .inr (ci, f)) (hC : mC M' (.ref h :: as) n hp (rI R HP)) (hst : st0 = as.reverse ++ .ref h :: st) (hw : (st.map Value.category).sum ≤ 8) (hv : dV M' + 1 ≤ dV M) (hL : dL M' ≤ 20) (hc : cs + dMc M' ≤ dMc M) (hs : sl + dMs M' ≤ dMs M) (h0 : dMc M' = 0) (h1 : dMs M' = 0) (kk : mW K M cs sl n HP (pc + 3) lv (.int R :: st)) : mW K M cs sl n hp pc lv st0 :=
  m_invV hd hl har hci hcn hc0 hC hst hw hv hL hc hs (fun v hp' q => by
    obtain ⟨rfl, rfl⟩ := q
    rw [h0, h1]
    exact kk)
theorem m_invS_L {ix : Nat} {M' : MD} {as st0 : List Value} {R : Int64} {HP : mHp} (hd : decode (dC M) pc = .ok (.invokestatic ix, 3)) (hl : Cond.methodLink (dOwn M) ix (dY M') ∈ TB ∧ Cond.static (dY M') ∈ TB ∧ mMd M') (har : mAr M' as.length) (hC : mC M' as n hp (rL R HP)) (hst : st0 = as.reverse ++ st) (hw : (st.map Value.category).sum ≤ 8) (hv : dV M' + 1 ≤ dV M) (hL : dL M' ≤ 20) (hc : cs + dMc M' ≤ dMc M) (hs : sl + dMs M' ≤ dMs M) (h0 : dMc M' = 0) (h1 : dMs M' = 0) (kk : mW K M cs sl n HP (pc + 3) lv (.long R :: st)) : mW K M cs sl n hp pc lv st0 :=
  m_invS hd hl har hC hst hw hv hL hc hs (fun v hp' q => by
    obtain ⟨rfl, rfl⟩ := q
    rw [h0, h1]
    exact kk)
theorem m_invSN_L {ix : Nat} {M' : MD} {as st0 : List Value} {R : Int64} {HP : mHp} (hd : decode (dC M) pc = .ok (.invokestatic ix, 3)) (hl : (∀ ad base U H, mEnv ad base U H → va_Nw (.methodLinkNest (dOwn M) ix (dY M') RX7) U) ∧ Cond.static (dY M') ∈ TB ∧ mMd M') (har : mAr M' as.length) (hC : mC M' as n hp (rL R HP)) (hst : st0 = as.reverse ++ st) (hw : (st.map Value.category).sum ≤ 8) (hv : dV M' + 1 ≤ dV M) (hL : dL M' ≤ 20) (hc : cs + dMc M' ≤ dMc M) (hs : sl + dMs M' ≤ dMs M) (h0 : dMc M' = 0) (h1 : dMs M' = 0) (kk : mW K M cs sl n HP (pc + 3) lv (.long R :: st)) : mW K M cs sl n hp pc lv st0 :=
  m_invSN hd hl har hC hst hw hv hL hc hs (fun v hp' q => by
    obtain ⟨rfl, rfl⟩ := q
    rw [h0, h1]
    exact kk)
theorem m_invV_L {ix : Nat} {M' : MD} {as st0 : List Value} {R : Int64} {HP : mHp} {ci h : Nat} {q : vw_C} {f : Nat → Value} (hd : decode (dC M) pc = .ok (.invokevirtual ix, 3)) (hl : Cond.methodLink (dOwn M) ix (dY M') ∈ TB ∧ Cond.instanceMethod (dY M') ∈ TB ∧ Cond.selects (dY M').cls (dY M') (dY M') ∈ TB ∧ mMd M') (har : mAr M' as.length) (hci : vwCl[ci]? = some q) (hcn : q.1 = (dY M').cls) (hc0 : hp h = .inr (ci, f)) (hC : mC M' (.ref h :: as) n hp (rL R HP)) (hst : st0 = as.reverse ++ .ref h :: st) (hw : (st.map Value.category).sum ≤ 8) (hv : dV M' + 1 ≤ dV M) (hL : dL M' ≤ 20) (hc : cs + dMc M' ≤ dMc M) (hs : sl + dMs M' ≤ dMs M) (h0 : dMc M' = 0) (h1 : dMs M' = 0) (kk : mW K M cs sl n HP (pc + 3) lv (.long R :: st)) : mW K M cs sl n hp pc lv st0 :=
  m_invV hd hl har hci hcn hc0 hC hst hw hv hL hc hs (fun v hp' q => by
    obtain ⟨rfl, rfl⟩ := q
    rw [h0, h1]
    exact kk)
theorem m_invS_V {ix : Nat} {M' : MD} {as st0 : List Value} {HP : mHp} (hd : decode (dC M) pc = .ok (.invokestatic ix, 3)) (hl : Cond.methodLink (dOwn M) ix (dY M') ∈ TB ∧ Cond.static (dY M') ∈ TB ∧ mMd M') (har : mAr M' as.length) (hC : mC M' as n hp (rV HP)) (hst : st0 = as.reverse ++ st) (hw : (st.map Value.category).sum ≤ 8) (hv : dV M' + 1 ≤ dV M) (hL : dL M' ≤ 20) (hc : cs + dMc M' ≤ dMc M) (hs : sl + dMs M' ≤ dMs M) (h0 : dMc M' = 0) (h1 : dMs M' = 0) (kk : mW K M cs sl n HP (pc + 3) lv (st)) : mW K M cs sl n hp pc lv st0 :=
  m_invS hd hl har hC hst hw hv hL hc hs (fun v hp' q => by
    obtain ⟨rfl, rfl⟩ := q
    rw [h0, h1]
    exact kk)
theorem m_invSN_V {ix : Nat} {M' : MD} {as st0 : List Value} {HP : mHp} (hd : decode (dC M) pc = .ok (.invokestatic ix, 3)) (hl : (∀ ad base U H, mEnv ad base U H → va_Nw (.methodLinkNest (dOwn M) ix (dY M') RX7) U) ∧ Cond.static (dY M') ∈ TB ∧ mMd M') (har : mAr M' as.length) (hC : mC M' as n hp (rV HP)) (hst : st0 = as.reverse ++ st) (hw : (st.map Value.category).sum ≤ 8) (hv : dV M' + 1 ≤ dV M) (hL : dL M' ≤ 20) (hc : cs + dMc M' ≤ dMc M) (hs : sl + dMs M' ≤ dMs M) (h0 : dMc M' = 0) (h1 : dMs M' = 0) (kk : mW K M cs sl n HP (pc + 3) lv (st)) : mW K M cs sl n hp pc lv st0 :=
  m_invSN hd hl har hC hst hw hv hL hc hs (fun v hp' q => by
    obtain ⟨rfl, rfl⟩ := q
    rw [h0, h1]
    exact kk)
theorem m_invV_V {ix : Nat} {M' : MD} {as st0 : List Value} {HP : mHp} {ci h : Nat} {q : vw_C} {f : Nat → Value} (hd : decode (dC M) pc = .ok (.invokevirtual ix, 3)) (hl : Cond.methodLink (dOwn M) ix (dY M') ∈ TB ∧ Cond.instanceMethod (dY M') ∈ TB ∧ Cond.selects (dY M').cls (dY M') (dY M') ∈ TB ∧ mMd M') (har : mAr M' as.length) (hci : vwCl[ci]? = some q) (hcn : q.1 = (dY M').cls) (hc0 : hp h = .inr (ci, f)) (hC : mC M' (.ref h :: as) n hp (rV HP)) (hst : st0 = as.reverse ++ .ref h :: st) (hw : (st.map Value.category).sum ≤ 8) (hv : dV M' + 1 ≤ dV M) (hL : dL M' ≤ 20) (hc : cs + dMc M' ≤ dMc M) (hs : sl + dMs M' ≤ dMs M) (h0 : dMc M' = 0) (h1 : dMs M' = 0) (kk : mW K M cs sl n HP (pc + 3) lv (st)) : mW K M cs sl n hp pc lv st0 :=
  m_invV hd hl har hci hcn hc0 hC hst hw hv hL hc hs (fun v hp' q => by
    obtain ⟨rfl, rfl⟩ := q
    rw [h0, h1]
    exact kk)
theorem m_invS_R {ix : Nat} {M' : MD} {as st0 : List Value} {R : Nat} {HP : mHp} (hd : decode (dC M) pc = .ok (.invokestatic ix, 3)) (hl : Cond.methodLink (dOwn M) ix (dY M') ∈ TB ∧ Cond.static (dY M') ∈ TB ∧ mMd M') (har : mAr M' as.length) (hC : mC M' as n hp (rR R HP)) (hst : st0 = as.reverse ++ st) (hw : (st.map Value.category).sum ≤ 8) (hv : dV M' + 1 ≤ dV M) (hL : dL M' ≤ 20) (hc : cs + dMc M' ≤ dMc M) (hs : sl + dMs M' ≤ dMs M) (h0 : dMc M' = 0) (h1 : dMs M' = 0) (kk : mW K M cs sl n HP (pc + 3) lv (.ref R :: st)) : mW K M cs sl n hp pc lv st0 :=
  m_invS hd hl har hC hst hw hv hL hc hs (fun v hp' q => by
    obtain ⟨rfl, rfl⟩ := q
    rw [h0, h1]
    exact kk)
theorem m_invSN_R {ix : Nat} {M' : MD} {as st0 : List Value} {R : Nat} {HP : mHp} (hd : decode (dC M) pc = .ok (.invokestatic ix, 3)) (hl : (∀ ad base U H, mEnv ad base U H → va_Nw (.methodLinkNest (dOwn M) ix (dY M') RX7) U) ∧ Cond.static (dY M') ∈ TB ∧ mMd M') (har : mAr M' as.length) (hC : mC M' as n hp (rR R HP)) (hst : st0 = as.reverse ++ st) (hw : (st.map Value.category).sum ≤ 8) (hv : dV M' + 1 ≤ dV M) (hL : dL M' ≤ 20) (hc : cs + dMc M' ≤ dMc M) (hs : sl + dMs M' ≤ dMs M) (h0 : dMc M' = 0) (h1 : dMs M' = 0) (kk : mW K M cs sl n HP (pc + 3) lv (.ref R :: st)) : mW K M cs sl n hp pc lv st0 :=
  m_invSN hd hl har hC hst hw hv hL hc hs (fun v hp' q => by
    obtain ⟨rfl, rfl⟩ := q
    rw [h0, h1]
    exact kk)
theorem m_invV_R {ix : Nat} {M' : MD} {as st0 : List Value} {R : Nat} {HP : mHp} {ci h : Nat} {q : vw_C} {f : Nat → Value} (hd : decode (dC M) pc = .ok (.invokevirtual ix, 3)) (hl : Cond.methodLink (dOwn M) ix (dY M') ∈ TB ∧ Cond.instanceMethod (dY M') ∈ TB ∧ Cond.selects (dY M').cls (dY M') (dY M') ∈ TB ∧ mMd M') (har : mAr M' as.length) (hci : vwCl[ci]? = some q) (hcn : q.1 = (dY M').cls) (hc0 : hp h = .inr (ci, f)) (hC : mC M' (.ref h :: as) n hp (rR R HP)) (hst : st0 = as.reverse ++ .ref h :: st) (hw : (st.map Value.category).sum ≤ 8) (hv : dV M' + 1 ≤ dV M) (hL : dL M' ≤ 20) (hc : cs + dMc M' ≤ dMc M) (hs : sl + dMs M' ≤ dMs M) (h0 : dMc M' = 0) (h1 : dMs M' = 0) (kk : mW K M cs sl n HP (pc + 3) lv (.ref R :: st)) : mW K M cs sl n hp pc lv st0 :=
  m_invV hd hl har hci hcn hc0 hC hst hw hv hL hc hs (fun v hp' q => by
    obtain ⟨rfl, rfl⟩ := q
    rw [h0, h1]
    exact kk)
theorem m_lc_eq {x y : Int64} {o : Int} {t : Nat} (hd : decode (dC M) pc = .ok (.lcmp, 1)) (hd2 : decode (dC M) (pc + 1) = .ok (.ifCond .eq o, 3)) (ht : ((pc + 1 : Nat) : Int) + o = (t : Int)) (kt : x = y → mW K M cs sl n hp t lv st) (kf : ¬ x = y → mW K M cs sl n hp (pc + 1 + 3) lv st) : mW K M cs sl n hp pc lv (.long y :: .long x :: st) := m_lcmp hd (m_if_eq hd2 ht (fun q => kt ((lg_cmp_eq _ _).mp q)) (fun q => kf (fun z => q ((lg_cmp_eq _ _).mpr z))))
theorem m_lc_ne {x y : Int64} {o : Int} {t : Nat} (hd : decode (dC M) pc = .ok (.lcmp, 1)) (hd2 : decode (dC M) (pc + 1) = .ok (.ifCond .ne o, 3)) (ht : ((pc + 1 : Nat) : Int) + o = (t : Int)) (kt : ¬ x = y → mW K M cs sl n hp t lv st) (kf : x = y → mW K M cs sl n hp (pc + 1 + 3) lv st) : mW K M cs sl n hp pc lv (.long y :: .long x :: st) := m_lcmp hd (m_if_ne hd2 ht (fun q => kt (fun z => q ((lg_cmp_eq _ _).mpr z))) (fun q => kf ((lg_cmp_eq _ _).mp q)))
theorem m_lc_lt {x y : Int64} {o : Int} {t : Nat} (hd : decode (dC M) pc = .ok (.lcmp, 1)) (hd2 : decode (dC M) (pc + 1) = .ok (.ifCond .lt o, 3)) (ht : ((pc + 1 : Nat) : Int) + o = (t : Int)) (kt : x < y → mW K M cs sl n hp t lv st) (kf : ¬ x < y → mW K M cs sl n hp (pc + 1 + 3) lv st) : mW K M cs sl n hp pc lv (.long y :: .long x :: st) := m_lcmp hd (m_if_lt hd2 ht (fun q => kt ((lg_cmp_lt _ _).mp q)) (fun q => kf (fun z => q ((lg_cmp_lt _ _).mpr z))))
theorem m_lc_ge {x y : Int64} {o : Int} {t : Nat} (hd : decode (dC M) pc = .ok (.lcmp, 1)) (hd2 : decode (dC M) (pc + 1) = .ok (.ifCond .ge o, 3)) (ht : ((pc + 1 : Nat) : Int) + o = (t : Int)) (kt : y ≤ x → mW K M cs sl n hp t lv st) (kf : ¬ y ≤ x → mW K M cs sl n hp (pc + 1 + 3) lv st) : mW K M cs sl n hp pc lv (.long y :: .long x :: st) := m_lcmp hd (m_if_ge hd2 ht (fun q => kt ((lg_cmp_ge _ _).mp q)) (fun q => kf (fun z => q ((lg_cmp_ge _ _).mpr z))))
theorem m_lc_gt {x y : Int64} {o : Int} {t : Nat} (hd : decode (dC M) pc = .ok (.lcmp, 1)) (hd2 : decode (dC M) (pc + 1) = .ok (.ifCond .gt o, 3)) (ht : ((pc + 1 : Nat) : Int) + o = (t : Int)) (kt : y < x → mW K M cs sl n hp t lv st) (kf : ¬ y < x → mW K M cs sl n hp (pc + 1 + 3) lv st) : mW K M cs sl n hp pc lv (.long y :: .long x :: st) := m_lcmp hd (m_if_gt hd2 ht (fun q => kt ((lg_cmp_gt _ _).mp q)) (fun q => kf (fun z => q ((lg_cmp_gt _ _).mpr z))))
theorem m_lc_le {x y : Int64} {o : Int} {t : Nat} (hd : decode (dC M) pc = .ok (.lcmp, 1)) (hd2 : decode (dC M) (pc + 1) = .ok (.ifCond .le o, 3)) (ht : ((pc + 1 : Nat) : Int) + o = (t : Int)) (kt : x ≤ y → mW K M cs sl n hp t lv st) (kf : ¬ x ≤ y → mW K M cs sl n hp (pc + 1 + 3) lv st) : mW K M cs sl n hp pc lv (.long y :: .long x :: st) := m_lcmp hd (m_if_le hd2 ht (fun q => kt ((lg_cmp_le _ _).mp q)) (fun q => kf (fun z => q ((lg_cmp_le _ _).mpr z))))
theorem m_tern_I {c : Prop} [Decidable c] {x y : Int32} {J pt pf : Nat} {st0 : List Value} (b : (c → mW K M cs sl n hp pt lv st) → (¬ c → mW K M cs sl n hp pf lv st) → mW K M cs sl n hp pc lv st0) (s1 : mW K M cs sl n hp J lv (.int x :: st) → mW K M cs sl n hp pt lv st) (s2 : mW K M cs sl n hp J lv (.int y :: st) → mW K M cs sl n hp pf lv st) (kk : mW K M cs sl n hp J lv (.int (if c then x else y) :: st)) : mW K M cs sl n hp pc lv st0 := b (fun h => s1 (by rw [if_pos h] at kk; exact kk)) (fun h => s2 (by rw [if_neg h] at kk; exact kk))
theorem m_ternN_I {c : Prop} [Decidable c] {x y : Int32} {J pt pf : Nat} {st0 : List Value} (b : (¬ c → mW K M cs sl n hp pt lv st) → (c → mW K M cs sl n hp pf lv st) → mW K M cs sl n hp pc lv st0) (s1 : mW K M cs sl n hp J lv (.int x :: st) → mW K M cs sl n hp pt lv st) (s2 : mW K M cs sl n hp J lv (.int y :: st) → mW K M cs sl n hp pf lv st) (kk : mW K M cs sl n hp J lv (.int (if c then y else x) :: st)) : mW K M cs sl n hp pc lv st0 := b (fun h => s1 (by rw [if_neg h] at kk; exact kk)) (fun h => s2 (by rw [if_pos h] at kk; exact kk))
theorem m_tern_L {c : Prop} [Decidable c] {x y : Int64} {J pt pf : Nat} {st0 : List Value} (b : (c → mW K M cs sl n hp pt lv st) → (¬ c → mW K M cs sl n hp pf lv st) → mW K M cs sl n hp pc lv st0) (s1 : mW K M cs sl n hp J lv (.long x :: st) → mW K M cs sl n hp pt lv st) (s2 : mW K M cs sl n hp J lv (.long y :: st) → mW K M cs sl n hp pf lv st) (kk : mW K M cs sl n hp J lv (.long (if c then x else y) :: st)) : mW K M cs sl n hp pc lv st0 := b (fun h => s1 (by rw [if_pos h] at kk; exact kk)) (fun h => s2 (by rw [if_neg h] at kk; exact kk))
theorem m_ternN_L {c : Prop} [Decidable c] {x y : Int64} {J pt pf : Nat} {st0 : List Value} (b : (¬ c → mW K M cs sl n hp pt lv st) → (c → mW K M cs sl n hp pf lv st) → mW K M cs sl n hp pc lv st0) (s1 : mW K M cs sl n hp J lv (.long x :: st) → mW K M cs sl n hp pt lv st) (s2 : mW K M cs sl n hp J lv (.long y :: st) → mW K M cs sl n hp pf lv st) (kk : mW K M cs sl n hp J lv (.long (if c then y else x) :: st)) : mW K M cs sl n hp pc lv st0 := b (fun h => s1 (by rw [if_neg h] at kk; exact kk)) (fun h => s2 (by rw [if_pos h] at kk; exact kk))
theorem m_tern_R {c : Prop} [Decidable c] {x y : Nat} {J pt pf : Nat} {st0 : List Value} (b : (c → mW K M cs sl n hp pt lv st) → (¬ c → mW K M cs sl n hp pf lv st) → mW K M cs sl n hp pc lv st0) (s1 : mW K M cs sl n hp J lv (.ref x :: st) → mW K M cs sl n hp pt lv st) (s2 : mW K M cs sl n hp J lv (.ref y :: st) → mW K M cs sl n hp pf lv st) (kk : mW K M cs sl n hp J lv (.ref (if c then x else y) :: st)) : mW K M cs sl n hp pc lv st0 := b (fun h => s1 (by rw [if_pos h] at kk; exact kk)) (fun h => s2 (by rw [if_neg h] at kk; exact kk))
theorem m_ternN_R {c : Prop} [Decidable c] {x y : Nat} {J pt pf : Nat} {st0 : List Value} (b : (¬ c → mW K M cs sl n hp pt lv st) → (c → mW K M cs sl n hp pf lv st) → mW K M cs sl n hp pc lv st0) (s1 : mW K M cs sl n hp J lv (.ref x :: st) → mW K M cs sl n hp pt lv st) (s2 : mW K M cs sl n hp J lv (.ref y :: st) → mW K M cs sl n hp pf lv st) (kk : mW K M cs sl n hp J lv (.ref (if c then y else x) :: st)) : mW K M cs sl n hp pc lv st0 := b (fun h => s1 (by rw [if_neg h] at kk; exact kk)) (fun h => s2 (by rw [if_pos h] at kk; exact kk))
end MX
theorem t_X7_isChoice {n : Nat} {hp : mHp} {v c : Int32} : mC D_X7_isChoice [.int v, .int c] n hp (rI (if v < 0 then 0 else if c ≤ v then 0 else 1) hp) := by
  refine m_enter rfl rfl (Nat.le_of_ble_eq_true rfl) (fun K hF => ?_)
  show mW K _ 0 0 _ _ 0 [.int v, .int c] []
  refine m_iload_n dX7_isChoice_0 rfl ?_
  refine m_if_lt (t := 13) dX7_isChoice_1 (by decide) (fun c1 => ?_) (fun c1 => ?_)
  · refine m_iconst (v := 0) dX7_isChoice_13 (by decide) ?_
    exact m_zreturn hF dX7_isChoice_14 rfl rfl rfl rfl ⟨by simp only [if_pos c1], rfl⟩
  refine m_iload_n dX7_isChoice_4 rfl ?_
  refine m_iload_n dX7_isChoice_5 rfl ?_
  refine m_icmp_ge (t := 13) dX7_isChoice_6 (by decide) (fun c6 => ?_) (fun c6 => ?_)
  · refine m_iconst (v := 0) dX7_isChoice_13 (by decide) ?_
    exact m_zreturn hF dX7_isChoice_14 rfl rfl rfl rfl ⟨by simp only [if_neg c1, if_pos c6], rfl⟩
  refine m_iconst (v := 1) dX7_isChoice_9 (by decide) ?_
  refine m_goto (t := 14) dX7_isChoice_10 (by decide) ?_
  exact m_zreturn hF dX7_isChoice_14 rfl rfl rfl rfl ⟨by simp only [if_neg c1, if_neg c6], rfl⟩

theorem t_X7_isPart {n : Nat} {hp : mHp} {v : Int64} : mC D_X7_isPart [.long v] n hp (rI (if v < -9 then 0 else if 9 < v then 0 else 1) hp) := by
  refine m_enter rfl rfl (Nat.le_of_ble_eq_true rfl) (fun K hF => ?_)
  show mW K _ 0 0 _ _ 0 [.long v, .retAddr 0] []
  refine m_lload_n dX7_isPart_0 rfl ?_
  refine m_ldc2 dX7_isPart_1 cl_X7_269 ?_
  refine m_lc_lt (t := 20) dX7_isPart_4 dX7_isPart_5 (by decide) (fun c4 => ?_) (fun c4 => ?_)
  · refine m_iconst (v := 0) dX7_isPart_20 (by decide) ?_
    exact m_zreturn hF dX7_isPart_21 rfl rfl rfl rfl ⟨by simp only [if_pos c4], rfl⟩
  refine m_lload_n dX7_isPart_8 rfl ?_
  refine m_ldc2 dX7_isPart_9 cl_X7_271 ?_
  refine m_lc_gt (t := 20) dX7_isPart_12 dX7_isPart_13 (by decide) (fun c12 => ?_) (fun c12 => ?_)
  · refine m_iconst (v := 0) dX7_isPart_20 (by decide) ?_
    exact m_zreturn hF dX7_isPart_21 rfl rfl rfl rfl ⟨by simp only [if_neg c4, if_pos c12], rfl⟩
  refine m_iconst (v := 1) dX7_isPart_16 (by decide) ?_
  refine m_goto (t := 21) dX7_isPart_17 (by decide) ?_
  exact m_zreturn hF dX7_isPart_21 rfl rfl rfl rfl ⟨by simp only [if_neg c4, if_neg c12], rfl⟩

theorem t_X7_isGain {n : Nat} {hp : mHp} {v : Int32} : mC D_X7_isGain [.int v] n hp (rI (if v < -800 then 0 else if 800 < v then 0 else 1) hp) := by
  refine m_enter rfl rfl (Nat.le_of_ble_eq_true rfl) (fun K hF => ?_)
  show mW K _ 0 0 _ _ 0 [.int v] []
  refine m_iload_n dX7_isGain_0 rfl ?_
  refine m_sipush (v := -800) dX7_isGain_1 (by decide) ?_
  refine m_icmp_lt (t := 18) dX7_isGain_4 (by decide) (fun c4 => ?_) (fun c4 => ?_)
  · refine m_iconst (v := 0) dX7_isGain_18 (by decide) ?_
    exact m_zreturn hF dX7_isGain_19 rfl rfl rfl rfl ⟨by simp only [if_pos c4], rfl⟩
  refine m_iload_n dX7_isGain_7 rfl ?_
  refine m_sipush (v := 800) dX7_isGain_8 (by decide) ?_
  refine m_icmp_gt (t := 18) dX7_isGain_11 (by decide) (fun c11 => ?_) (fun c11 => ?_)
  · refine m_iconst (v := 0) dX7_isGain_18 (by decide) ?_
    exact m_zreturn hF dX7_isGain_19 rfl rfl rfl rfl ⟨by simp only [if_neg c4, if_pos c11], rfl⟩
  refine m_iconst (v := 1) dX7_isGain_14 (by decide) ?_
  refine m_goto (t := 19) dX7_isGain_15 (by decide) ?_
  exact m_zreturn hF dX7_isGain_19 rfl rfl rfl rfl ⟨by simp only [if_neg c4, if_neg c11], rfl⟩

theorem t_X7_orNone {n : Nat} {hp : mHp} {d : Int32} : mC D_X7_orNone [.int d] n hp (rI (if d = -1 then -4 else d) hp) := by
  refine m_enter rfl rfl (Nat.le_of_ble_eq_true rfl) (fun K hF => ?_)
  show mW K _ 0 0 _ _ 0 [.int d] []
  refine m_iload_n dX7_orNone_0 rfl ?_
  refine m_iconst (v := -1) dX7_orNone_1 (by decide) ?_
  refine m_icmp_ne (t := 10) dX7_orNone_2 (by decide) (fun c2 => ?_) (fun c2 => ?_)
  · refine m_iload_n dX7_orNone_10 rfl ?_
    exact m_ireturn hF dX7_orNone_11 rfl rfl rfl ⟨by simp only [if_neg c2], rfl⟩
  refine m_bipush (v := -4) dX7_orNone_5 (by decide) ?_
  refine m_goto (t := 11) dX7_orNone_7 (by decide) ?_
  exact m_ireturn hF dX7_orNone_11 rfl rfl rfl ⟨by simp only [if_pos c2], rfl⟩

/-- the greatest place that isn't 0; -1: none -/
def deg5 (p : Nat → Int64) : Int32 := if p 4 = 0 then if p 3 = 0 then if p 2 = 0 then if p 1 = 0 then if p 0 = 0 then -1 else 0 else 1 else 2 else 3 else 4
set_option maxHeartbeats 4000000 in
set_option maxRecDepth 100000 in
theorem t_X7_degreeOf {n : Nat} {hp : mHp} {h : Nat} {p : Nat → Int64} (h1 : hp h = eL 5 p) : mC D_X7_degreeOf [.ref h] n hp (rI (deg5 p) hp) := by
  refine m_enter rfl rfl (Nat.le_of_ble_eq_true rfl) (fun K hF => ?_)
  show mW K _ 0 0 _ _ 0 [.ref h, .retAddr 0] []
  refine m_iconst (v := 4) dX7_degreeOf_0 (by decide) ?_
  refine m_istore_n dX7_degreeOf_1 (by decide) ?_
  show mW _ _ _ _ _ _ 2 [_, _] _
  refine m_iload_n dX7_degreeOf_2 rfl ?_
  refine m_if_lt (t := 22) dX7_degreeOf_3 (by decide) (fun q => absurd q (by decide)) (fun _ => ?_)
  refine m_aload_n dX7_degreeOf_6 rfl ?_
  refine m_iload_n dX7_degreeOf_7 rfl ?_
  refine m_laload (k := 4) dX7_degreeOf_8 (by first | assumption | rfl) ⟨by decide, by decide⟩ ?_
  refine m_lconst (v := 0) dX7_degreeOf_9 (by decide) ?_
  refine m_lc_eq (t := 16) dX7_degreeOf_10 dX7_degreeOf_11 (by decide) (fun c10 => ?_) (fun c10 => ?_)
  rotate_left
  · refine m_iload_n dX7_degreeOf_14 rfl ?_
    exact m_ireturn hF dX7_degreeOf_15 rfl rfl rfl ⟨by unfold deg5; simp only [if_neg c10], rfl⟩
  refine m_iinc (v := 3) dX7_degreeOf_16 rfl (by decide) (by decide) ?_
  show mW _ _ _ _ _ _ 19 [_, _] _
  refine m_goto (t := 2) dX7_degreeOf_19 (by decide) ?_
  refine m_iload_n dX7_degreeOf_2 rfl ?_
  refine m_if_lt (t := 22) dX7_degreeOf_3 (by decide) (fun q => absurd q (by decide)) (fun _ => ?_)
  refine m_aload_n dX7_degreeOf_6 rfl ?_
  refine m_iload_n dX7_degreeOf_7 rfl ?_
  refine m_laload (k := 3) dX7_degreeOf_8 (by first | assumption | rfl) ⟨by decide, by decide⟩ ?_
  refine m_lconst (v := 0) dX7_degreeOf_9 (by decide) ?_
  refine m_lc_eq (t := 16) dX7_degreeOf_10 dX7_degreeOf_11 (by decide) (fun c10_1 => ?_) (fun c10_1 => ?_)
  rotate_left
  · refine m_iload_n dX7_degreeOf_14 rfl ?_
    exact m_ireturn hF dX7_degreeOf_15 rfl rfl rfl ⟨by unfold deg5; simp only [if_pos c10, if_neg c10_1], rfl⟩
  refine m_iinc (v := 2) dX7_degreeOf_16 rfl (by decide) (by decide) ?_
  show mW _ _ _ _ _ _ 19 [_, _] _
  refine m_goto (t := 2) dX7_degreeOf_19 (by decide) ?_
  refine m_iload_n dX7_degreeOf_2 rfl ?_
  refine m_if_lt (t := 22) dX7_degreeOf_3 (by decide) (fun q => absurd q (by decide)) (fun _ => ?_)
  refine m_aload_n dX7_degreeOf_6 rfl ?_
  refine m_iload_n dX7_degreeOf_7 rfl ?_
  refine m_laload (k := 2) dX7_degreeOf_8 (by first | assumption | rfl) ⟨by decide, by decide⟩ ?_
  refine m_lconst (v := 0) dX7_degreeOf_9 (by decide) ?_
  refine m_lc_eq (t := 16) dX7_degreeOf_10 dX7_degreeOf_11 (by decide) (fun c10_2 => ?_) (fun c10_2 => ?_)
  rotate_left
  · refine m_iload_n dX7_degreeOf_14 rfl ?_
    exact m_ireturn hF dX7_degreeOf_15 rfl rfl rfl ⟨by unfold deg5; simp only [if_pos c10, if_pos c10_1, if_neg c10_2], rfl⟩
  refine m_iinc (v := 1) dX7_degreeOf_16 rfl (by decide) (by decide) ?_
  show mW _ _ _ _ _ _ 19 [_, _] _
  refine m_goto (t := 2) dX7_degreeOf_19 (by decide) ?_
  refine m_iload_n dX7_degreeOf_2 rfl ?_
  refine m_if_lt (t := 22) dX7_degreeOf_3 (by decide) (fun q => absurd q (by decide)) (fun _ => ?_)
  refine m_aload_n dX7_degreeOf_6 rfl ?_
  refine m_iload_n dX7_degreeOf_7 rfl ?_
  refine m_laload (k := 1) dX7_degreeOf_8 (by first | assumption | rfl) ⟨by decide, by decide⟩ ?_
  refine m_lconst (v := 0) dX7_degreeOf_9 (by decide) ?_
  refine m_lc_eq (t := 16) dX7_degreeOf_10 dX7_degreeOf_11 (by decide) (fun c10_3 => ?_) (fun c10_3 => ?_)
  rotate_left
  · refine m_iload_n dX7_degreeOf_14 rfl ?_
    exact m_ireturn hF dX7_degreeOf_15 rfl rfl rfl ⟨by unfold deg5; simp only [if_pos c10, if_pos c10_1, if_pos c10_2, if_neg c10_3], rfl⟩
  refine m_iinc (v := 0) dX7_degreeOf_16 rfl (by decide) (by decide) ?_
  show mW _ _ _ _ _ _ 19 [_, _] _
  refine m_goto (t := 2) dX7_degreeOf_19 (by decide) ?_
  refine m_iload_n dX7_degreeOf_2 rfl ?_
  refine m_if_lt (t := 22) dX7_degreeOf_3 (by decide) (fun q => absurd q (by decide)) (fun _ => ?_)
  refine m_aload_n dX7_degreeOf_6 rfl ?_
  refine m_iload_n dX7_degreeOf_7 rfl ?_
  refine m_laload (k := 0) dX7_degreeOf_8 (by first | assumption | rfl) ⟨by decide, by decide⟩ ?_
  refine m_lconst (v := 0) dX7_degreeOf_9 (by decide) ?_
  refine m_lc_eq (t := 16) dX7_degreeOf_10 dX7_degreeOf_11 (by decide) (fun c10_4 => ?_) (fun c10_4 => ?_)
  rotate_left
  · refine m_iload_n dX7_degreeOf_14 rfl ?_
    exact m_ireturn hF dX7_degreeOf_15 rfl rfl rfl ⟨by unfold deg5; simp only [if_pos c10, if_pos c10_1, if_pos c10_2, if_pos c10_3, if_neg c10_4], rfl⟩
  refine m_iinc (v := -1) dX7_degreeOf_16 rfl (by decide) (by decide) ?_
  show mW _ _ _ _ _ _ 19 [_, _] _
  refine m_goto (t := 2) dX7_degreeOf_19 (by decide) ?_
  refine m_iload_n dX7_degreeOf_2 rfl ?_
  refine m_if_lt (t := 22) dX7_degreeOf_3 (by decide) (fun _ => ?_) (fun q => absurd (by decide) q)
  refine m_iconst (v := -1) dX7_degreeOf_22 (by decide) ?_
  exact m_ireturn hF dX7_degreeOf_23 rfl rfl rfl ⟨by unfold deg5; simp only [if_pos c10, if_pos c10_1, if_pos c10_2, if_pos c10_3, if_pos c10_4], rfl⟩

