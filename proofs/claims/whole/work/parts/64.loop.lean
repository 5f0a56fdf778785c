set_option maxHeartbeats 400000 in
set_option maxRecDepth 100000 in
theorem l_law {K : mK} {L : Nat} {xs : Nat → Int32} (hM : MATH) (hX9 : mSx K L xs) (hL : L ≤ 3072) (hE : ∀ (hp : mHp) (lv : List Value), mW K D_L_law 85 2730 85 hp 1055 lv [.int 1]) : ∀ (r i : Nat) (hp : mHp), (L < i + r ∧ i < L + 6 ∧ 1 ≤ r ∨ L < 6 ∧ i = 0) → INV hp → mW K D_L_law 85 2730 85 hp 18 [.ref mSC, .ref 0, .ref 67, .int (nI i)] [] := by
  intro r
  induction r using Nat.strongRecOn with
  | ind r ih =>
    intro i hp hir h
    refine m_iload_n dL_law_18 rfl ?_
    refine m_aload_n dL_law_19 rfl ?_
    refine m_slen hX9 dL_law_20 ?_
    refine m_bipush (v := 6) dL_law_21 (by decide) ?_
    refine m_isub dL_law_23 ?_
    have e6 : (nI L - 6).toInt = (L : Int) - 6 := by
      rw [Int32.toInt_sub, nI_toInt (by omega), show (6 : Int32).toInt = 6 by decide]
      exact bmod32 (by omega) (by omega)
    refine m_icmp_gt (t := 1054) dL_law_24 (by decide) (fun c24 => ?_) (fun c24 => ?_)
    · refine m_iconst (v := 1) dL_law_1054 (by decide) ?_
      exact hE hp _
    have hi : i + 6 ≤ L := by
      rw [Int32.lt_iff_toInt_lt, e6, nI_toInt (by omega)] at c24
      omega
    have hk9 : ∀ hp' : mHp, INV hp' → mW K D_L_law 85 2730 85 hp' 1048 [.ref mSC, .ref 0, .ref 67, .int (nI i)] [] := fun hp' h' => by
      refine m_iinc (v := nI (i + 6)) dL_law_1048 rfl (nI_add i 6) (by decide) ?_
      show mW _ _ _ _ _ _ 1051 [_, _, _, _] _
      refine m_goto (t := 18) dL_law_1051 (by decide) ?_
      exact ih (r - 1) (by omega) (i + 6) hp' (by omega) h'
    refine m_aload_n dL_law_27 rfl ?_
    refine m_iload_n dL_law_28 rfl ?_
    refine m_sld hX9 dL_law_29 (mIx_lit (show i < L by omega) (by omega)) ?_
    refine m_bipush (v := 31) dL_law_30 (by decide) ?_
    refine m_iand dL_law_32 ?_
    refine m_tabCase (v := 0) (t := 156) dL_law_33 (by decide) (by decide) rfl (by decide) (fun w33_0 => ?_) (fun w33_0 => ?_)
    · exact lw_c0 hM hX9 hL hi h hk9
    refine m_tabCase (v := 1) (t := 199) dL_law_33 (by decide) (by decide) rfl (by decide) (fun w33_1 => ?_) (fun w33_1 => ?_)
    · exact lw_c1 hM hX9 hL hi h hk9
    refine m_tabCase (v := 2) (t := 222) dL_law_33 (by decide) (by decide) rfl (by decide) (fun w33_2 => ?_) (fun w33_2 => ?_)
    · exact lw_c2 hM hX9 hL hi h hk9
    refine m_tabCase (v := 3) (t := 255) dL_law_33 (by decide) (by decide) rfl (by decide) (fun w33_3 => ?_) (fun w33_3 => ?_)
    · exact lw_c3 hM hX9 hL hi h hk9
    refine m_tabCase (v := 4) (t := 278) dL_law_33 (by decide) (by decide) rfl (by decide) (fun w33_4 => ?_) (fun w33_4 => ?_)
    · exact lw_c4 hM hX9 hL hi h hk9
    refine m_tabCase (v := 5) (t := 311) dL_law_33 (by decide) (by decide) rfl (by decide) (fun w33_5 => ?_) (fun w33_5 => ?_)
    · exact lw_c5 hM hX9 hL hi h hk9
    refine m_tabCase (v := 6) (t := 354) dL_law_33 (by decide) (by decide) rfl (by decide) (fun w33_6 => ?_) (fun w33_6 => ?_)
    · exact lw_c6 hM hX9 hL hi h hk9
    refine m_tabCase (v := 7) (t := 398) dL_law_33 (by decide) (by decide) rfl (by decide) (fun w33_7 => ?_) (fun w33_7 => ?_)
    · exact lw_c7 hM hX9 hL hi h hk9
    refine m_tabCase (v := 8) (t := 411) dL_law_33 (by decide) (by decide) rfl (by decide) (fun w33_8 => ?_) (fun w33_8 => ?_)
    · exact lw_c8 hM hX9 hL hi h hk9
    refine m_tabCase (v := 9) (t := 454) dL_law_33 (by decide) (by decide) rfl (by decide) (fun w33_9 => ?_) (fun w33_9 => ?_)
    · exact lw_c9 hM hX9 hL hi h hk9
    refine m_tabCase (v := 10) (t := 497) dL_law_33 (by decide) (by decide) rfl (by decide) (fun w33_10 => ?_) (fun w33_10 => ?_)
    · exact lw_c10 hM hX9 hL hi h hk9
    refine m_tabCase (v := 11) (t := 530) dL_law_33 (by decide) (by decide) rfl (by decide) (fun w33_11 => ?_) (fun w33_11 => ?_)
    · exact lw_c11 hM hX9 hL hi h hk9
    refine m_tabCase (v := 12) (t := 553) dL_law_33 (by decide) (by decide) rfl (by decide) (fun w33_12 => ?_) (fun w33_12 => ?_)
    · exact lw_c12 hM hX9 hL hi h hk9
    refine m_tabCase (v := 13) (t := 576) dL_law_33 (by decide) (by decide) rfl (by decide) (fun w33_13 => ?_) (fun w33_13 => ?_)
    · exact lw_c13 hM hX9 hL hi h hk9
    refine m_tabCase (v := 14) (t := 609) dL_law_33 (by decide) (by decide) rfl (by decide) (fun w33_14 => ?_) (fun w33_14 => ?_)
    · exact lw_c14 hM hX9 hL hi h hk9
    refine m_tabCase (v := 15) (t := 632) dL_law_33 (by decide) (by decide) rfl (by decide) (fun w33_15 => ?_) (fun w33_15 => ?_)
    · exact lw_c15 hM hX9 hL hi h hk9
    refine m_tabCase (v := 16) (t := 645) dL_law_33 (by decide) (by decide) rfl (by decide) (fun w33_16 => ?_) (fun w33_16 => ?_)
    · exact lw_c16 hM hX9 hL hi h hk9
    refine m_tabCase (v := 17) (t := 668) dL_law_33 (by decide) (by decide) rfl (by decide) (fun w33_17 => ?_) (fun w33_17 => ?_)
    · exact lw_c17 hM hX9 hL hi h hk9
    refine m_tabCase (v := 18) (t := 681) dL_law_33 (by decide) (by decide) rfl (by decide) (fun w33_18 => ?_) (fun w33_18 => ?_)
    · exact lw_c18 hM hX9 hL hi h hk9
    refine m_tabCase (v := 19) (t := 704) dL_law_33 (by decide) (by decide) rfl (by decide) (fun w33_19 => ?_) (fun w33_19 => ?_)
    · exact lw_c19 hM hX9 hL hi h hk9
    refine m_tabCase (v := 20) (t := 717) dL_law_33 (by decide) (by decide) rfl (by decide) (fun w33_20 => ?_) (fun w33_20 => ?_)
    · exact lw_c20 hM hX9 hL hi h hk9
    refine m_tabCase (v := 21) (t := 730) dL_law_33 (by decide) (by decide) rfl (by decide) (fun w33_21 => ?_) (fun w33_21 => ?_)
    · exact lw_c21 hM hX9 hL hi h hk9
    refine m_tabCase (v := 22) (t := 783) dL_law_33 (by decide) (by decide) rfl (by decide) (fun w33_22 => ?_) (fun w33_22 => ?_)
    · exact lw_c22 hM hX9 hL hi h hk9
    refine m_tabCase (v := 23) (t := 836) dL_law_33 (by decide) (by decide) rfl (by decide) (fun w33_23 => ?_) (fun w33_23 => ?_)
    · exact lw_c23 hM hX9 hL hi h hk9
    refine m_tabCase (v := 24) (t := 879) dL_law_33 (by decide) (by decide) rfl (by decide) (fun w33_24 => ?_) (fun w33_24 => ?_)
    · exact lw_c24 hM hX9 hL hi h hk9
    refine m_tabCase (v := 25) (t := 902) dL_law_33 (by decide) (by decide) rfl (by decide) (fun w33_25 => ?_) (fun w33_25 => ?_)
    · exact lw_c25 hM hX9 hL hi h hk9
    refine m_tabCase (v := 26) (t := 985) dL_law_33 (by decide) (by decide) rfl (by decide) (fun w33_26 => ?_) (fun w33_26 => ?_)
    · exact lw_c26 hM hX9 hL hi h hk9
    refine m_tabOut (t := 1048) dL_law_33 (by have q0 := tabNe (z := 0) (by decide) w33_0; have q1 := tabNe (z := 1) (by decide) w33_1; have q2 := tabNe (z := 2) (by decide) w33_2; have q3 := tabNe (z := 3) (by decide) w33_3; have q4 := tabNe (z := 4) (by decide) w33_4; have q5 := tabNe (z := 5) (by decide) w33_5; have q6 := tabNe (z := 6) (by decide) w33_6; have q7 := tabNe (z := 7) (by decide) w33_7; have q8 := tabNe (z := 8) (by decide) w33_8; have q9 := tabNe (z := 9) (by decide) w33_9; have q10 := tabNe (z := 10) (by decide) w33_10; have q11 := tabNe (z := 11) (by decide) w33_11; have q12 := tabNe (z := 12) (by decide) w33_12; have q13 := tabNe (z := 13) (by decide) w33_13; have q14 := tabNe (z := 14) (by decide) w33_14; have q15 := tabNe (z := 15) (by decide) w33_15; have q16 := tabNe (z := 16) (by decide) w33_16; have q17 := tabNe (z := 17) (by decide) w33_17; have q18 := tabNe (z := 18) (by decide) w33_18; have q19 := tabNe (z := 19) (by decide) w33_19; have q20 := tabNe (z := 20) (by decide) w33_20; have q21 := tabNe (z := 21) (by decide) w33_21; have q22 := tabNe (z := 22) (by decide) w33_22; have q23 := tabNe (z := 23) (by decide) w33_23; have q24 := tabNe (z := 24) (by decide) w33_24; have q25 := tabNe (z := 25) (by decide) w33_25; have q26 := tabNe (z := 26) (by decide) w33_26; omega) (by decide) ?_
    exact hk9 hp h

