/-! ===== numbers: TUK, RTK, STK ===== -/
theorem Z_of {Z : Nat → Int64} (h : bL Z) : bnd7 (fun k => (Z k).toInt) ∧ ∀ k, k < 5 → Z k = lZ ((fun k => (Z k).toInt) k) := ⟨fun j hj => h j hj, fun k _ => (lZ_of (Z k)).symm⟩
theorem dg_Z {Z : Nat → Int64} {z : Nat → Int} (e : ∀ k, k < 5 → Z k = lZ (z k)) (hb : bdN 130000 z) : deg5 Z = dgZ z := deg5_Z e (fun j hj => bd_of (hb j hj) (by decide))
theorem TUK_ok : TUK := fun Z T0 Pr hB h => by
  obtain ⟨hb, e⟩ := Z_of hB
  rw [dg_Z e (bd7N hb)] at h
  have t := TN hb h
  rw [dg_Z (tu_L e (bd7N hb)) t.2.2.1]
  exact t.1
theorem cA_G {z : Nat → Int} (hb : bdN 130000 z) (h0 : dgZ z ≠ -1) : (cAR z, cAE z, cAL z) = enc (Gz z) := (cnt_all (Z := fun k => lZ (z k)) (A := fun _ => 0) (fun _ _ => rfl) hb h0).symm.trans (cnG (fun _ _ => rfl) hb h0)
theorem tn_G {z : Nat → Int} (hb : bnd7 z) (h0 : dgZ z ≠ -1) : Gz (tnZ z) = ad3 (Gz (tdZ z)) (0, 0, 4 - dN z) ∧ dN (tnZ z) = dN (tdZ z) + (4 - dN z) ∧ dgZ (tnZ z) ≠ -1 := by
  obtain ⟨t1, t2, t3, t4⟩ := TN hb h0
  have m := MULN t1 (4 - dN z) (by have := dN_le z; omega)
  rw [Gz_eq t4, dN_eq t4, dgZ_eq t4]
  exact m
theorem n4_sub {x : Nat} (h : x ≤ 4) : 4 - nI x = nI (4 - x) := nI_subN (a := 4) (b := x) h
theorem nI_z {a : Nat} (h : a ≤ 100) : nI a = 0 ↔ a = 0 := nI_i (b := 0) h (by decide)
theorem RTK_ok : RTK := fun b z Z A T0 Pr hb hz e h => by
  have hN := bd7N hz
  rw [dg_Z e hN] at h
  have hd : dgN Z = dN z := dgN_b e hN
  have hd4 := dN_le z
  rw [hd]
  obtain ⟨w, hw, rfl, -⟩ := inC_N hb
  match w, hw with
  | 0, _ =>
    have g := cA_G hN h
    have c := cnt_all (A := A) e hN h
    have s := (ST_all h).1
    have r1 : cAR z = nI (Gz z).1 := congrArg Prod.fst g
    have r2 : cAE z = nI (Gz z).2.1 := congrArg (fun x : T3 => x.2.1) g
    have r3 : cAL z = nI (Gz z).2.2 := congrArg (fun x : T3 => x.2.2) g
    have e1 : rtM (nI 0) Z A T0 Pr = ((cntM Z A).1, (cntM Z A).2.1 + (nI (dgN Z) - nI (dgN Z)), (cntM Z A).2.2) := if_pos rfl
    have q1 : rtR (nI 0) z = cAR z := if_pos rfl
    have q2 : rtE (nI 0) z = cAE z := if_pos rfl
    have q3 : rtL (nI 0) z = cAL z := if_pos rfl
    rw [e1, q1, q2, q3, c]
    refine ⟨?_, ?_⟩
    · show (cAR z, cAE z + (nI (dgN Z) - nI (dgN Z)), cAL z) = _
      rw [Int32.sub_self, Int32.add_zero]
    · rw [r1, r2, r3, nI_i (by omega) (by omega), nI_z (by omega), nI_z (by omega)]
      omega
  | 1, _ =>
    obtain ⟨t1, t2, t3, t4⟩ := TN hz h
    obtain ⟨m1, m2, m3⟩ := tn_G hz h
    have g := cA_G (tn_N hz) m3
    rw [m1] at g
    have c := cnG (A := A) (tu_L (T0 := T0) (Pr := Pr) e hN) t3 t1
    have s := (ST_all t1).1
    have hdt : dgN (tuZ Z T0 Pr) = dN (tdZ z) := dgN_b (tu_L e hN) t3
    have r1 : cAR (tnZ z) = nI (Gz (tdZ z)).1 := congrArg Prod.fst g
    have r2 : cAE (tnZ z) = nI (Gz (tdZ z)).2.1 := congrArg (fun x : T3 => x.2.1) g
    have r3 : cAL (tnZ z) = nI ((Gz (tdZ z)).2.2 + (4 - dN z)) := congrArg (fun x : T3 => x.2.2) g
    have e1 : rtM (nI 1) Z A T0 Pr = ((cntM (tuZ Z T0 Pr) A).1, (cntM (tuZ Z T0 Pr) A).2.1 + (nI (dgN Z) - nI (dgN (tuZ Z T0 Pr))), (cntM (tuZ Z T0 Pr) A).2.2) := if_neg (by decide)
    have q1 : rtR (nI 1) z = cAR (tnZ z) := if_neg (by decide)
    have q2 : rtE (nI 1) z = cAE (tnZ z) + (4 - dgZ (tnZ z)) := if_neg (by decide)
    have q3 : rtL (nI 1) z = cAL (tnZ z) - (4 - dgZ z) := if_neg (by decide)
    have k2 : rtE (nI 1) z = nI ((Gz (tdZ z)).2.1 + (dN z - dN (tdZ z))) := by
      rw [q2, r2, dgZ_N m3, m2, n4_sub (by omega), nI_add]
      congr 1
      omega
    have k3 : rtL (nI 1) z = nI (Gz (tdZ z)).2.2 := by
      rw [q3, r3, dgZ_N h, n4_sub hd4, nI_subN (by omega)]
      congr 1
      omega
    rw [e1, k2, k3, q1, r1, c, hd, hdt, nI_subN t2]
    refine ⟨?_, ?_⟩
    · show (nI (Gz (tdZ z)).1, nI (Gz (tdZ z)).2.1 + nI (dN z - dN (tdZ z)), nI (Gz (tdZ z)).2.2) = _
      rw [nI_add]
    · rw [nI_i (by omega) (by omega), nI_z (by omega), nI_z (by omega)]
      omega
theorem tV_Z {Z : Nat → Int64} {z : Nat → Int} (e : ∀ k, k < 5 → Z k = lZ (z k)) (hN : bdN 130000 z) : ∀ k, k < 5 → turnV Z (lackN Z) k = lZ (tnZ z k) := fun k hk => by
  rw [lack_Z e (fun j hj => bd_of (hN j hj) (by decide))]
  exact turn_Z e hk
theorem STK_ok : STK := fun b Z x hb hB h => by
  obtain ⟨hz, e⟩ := Z_of hB
  generalize (fun k => (Z k).toInt) = z at hz e
  have hN := bd7N hz
  have hd4 := dN_le z
  obtain ⟨w, hw, rfl, -⟩ := inC_N hb
  match w, hw with
  | 0, _ =>
    have h : isA Z x := (show isB 0 Z x = isA Z x from if_pos rfl) ▸ h
    rw [show stB (nI 0) Z = stA Z from stB_0]
    rcases h with ⟨d, rfl⟩ | ⟨d, A, rfl⟩
    · exact ⟨Or.inl rfl, fun _ => by unfold stA; rw [if_pos d], fun _ => rfl⟩
    · rw [dg_Z e hN] at d
      rw [cnG e hN d, dgN_b e hN, st_iff e hN d]
      have s := (ST_all d).1
      show ((if nI (Gz z).2.2 = nI (dN z) then (1 : Int32) else 0) = 0 ∨ _) ∧ ((if nI (Gz z).2.2 = nI (dN z) then (1 : Int32) else 0) = 0 ↔ _)
      have k := nI_i (a := (Gz z).2.2) (b := dN z) (by omega) (by omega)
      by_cases c : (Gz z).2.2 = dN z
      · rw [if_pos (k.mpr c)]
        exact ⟨Or.inr (if_pos (k.mpr c)), fun y => absurd y (by decide), fun y => absurd c y⟩
      · rw [if_neg (fun y => c (k.mp y))]
        exact ⟨Or.inl rfl, fun _ => c, fun _ => rfl⟩
  | 1, _ =>
    have h : isC Z x := (show isB 1 Z x = isC Z x from if_neg (by decide)) ▸ h
    rw [show stB (nI 1) Z = stC Z from stB_1]
    rcases h with ⟨d, rfl⟩ | ⟨d, A, T0, Pr, rfl⟩
    · exact ⟨Or.inl rfl, fun _ => by unfold stC; rw [if_pos d], fun _ => rfl⟩
    · have d5 := d
      rw [dg_Z e hN] at d
      obtain ⟨t1, t2, t3, t4⟩ := TN hz d
      obtain ⟨m1, m2, m3⟩ := tn_G hz d
      have s := (ST_all t1).1
      rw [cnG (tu_L e hN) t3 t1, dgN_b e hN]
      have tv := tV_Z e hN
      have k := nI_i (a := (Gz (tdZ z)).2.2) (b := dN z) (by omega) (by omega)
      have sc : stC Z = 0 ↔ (Gz (tdZ z)).2.2 ≠ dN z := by
        unfold stC
        rw [if_neg d5]
        have z4 : turnV Z (lackN Z) 4 = 0 ↔ tnZ z 4 = 0 := by
          rw [tv 4 (by decide)]
          exact lZ_0 (bd_of (tn_N hz 4 (by decide)) (by decide))
        by_cases c : tnZ z 4 = 0
        · rw [if_pos (z4.mpr c)]
          refine ⟨fun _ y => ?_, fun _ => rfl⟩
          have : dN (tnZ z) ≤ 3 := dN_le_of (fun j a b => by rw [show j = 4 by omega]; exact c) m3
          omega
        · rw [if_neg (fun y => c (z4.mp y))]
          have f := st_iff tv (tn_N hz) m3
          rw [m1, (dg4 c).2] at f
          have f2 : stA (turnV Z (lackN Z)) = 0 ↔ (Gz (tdZ z)).2.2 + (4 - dN z) ≠ 4 := f
          have d4 := (dg4 c).2
          by_cases q : stA (turnV Z (lackN Z)) = 0
          · rw [if_pos q]
            have := f2.mp q
            exact ⟨fun _ => by omega, fun _ => rfl⟩
          · rw [if_neg q]
            exact ⟨fun y => absurd y (by decide), fun y => absurd (f2.mpr (by omega)) q⟩
      rw [sc]
      show ((if nI (Gz (tdZ z)).2.2 = nI (dN z) then (1 : Int32) else 0) = 0 ∨ _) ∧ ((if nI (Gz (tdZ z)).2.2 = nI (dN z) then (1 : Int32) else 0) = 0 ↔ _)
      by_cases c : (Gz (tdZ z)).2.2 = dN z
      · rw [if_pos (k.mpr c)]
        exact ⟨Or.inr (if_pos (k.mpr c)), fun y => absurd y (by decide), fun y => absurd c y⟩
      · rw [if_neg (fun y => c (k.mp y))]
        exact ⟨Or.inl rfl, fun _ => c, fun _ => rfl⟩
