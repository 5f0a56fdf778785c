/-! ===== numbers: every chain goes well (CHK, RWK) ===== -/
theorem rw_all {z : Nat → Int} (hb : bdN 130000 z) : rwOk z := by
  by_cases z4 : z 4 = 0
  · by_cases z3 : z 3 = 0
    · by_cases z2 : z 2 = 0
      · by_cases z1 : z 1 = 0
        · by_cases z0 : z 0 = 0
          · intro i hi hn
            refine absurd ?_ (hn 0 (by omega))
            have e : ∀ j, j < 5 → rowZ z 0 j = 0 := fun j hj => by
              show halfZ z (dN z % 2) j = 0
              unfold halfZ
              split
              · exact all5 (P := fun j => z j = 0) z0 z1 z2 z3 z4 j hj
              · rfl
            exact dgm (e 4 (by decide)) (e 3 (by decide)) (e 2 (by decide)) (e 1 (by decide)) (e 0 (by decide))
          · exact (L0_1 hb z4 z3 z2 z1 z0).rw
        · by_cases z0 : z 0 = 0
          · exact (L1_1 hb z4 z3 z2 z1 z0).1.rw
          · exact (L1_2 hb z4 z3 z2 z1 z0).rw
      · by_cases z1 : z 1 = 0
        · exact (L2_1 hb z4 z3 z2 z1).1.rw
        · by_cases z0 : z 0 = 0
          · exact (L2_2 hb z4 z3 z2 z1 z0).1.rw
          · exact (L2_3 hb z4 z3 z2 z1 z0).rw
    · by_cases z2 : z 2 = 0
      · by_cases z0 : z 0 = 0
        · exact (L3_1 hb z4 z3 z2 z0).1.rw
        · exact (L3_2a hb z4 z3 z2 z0).rw
      · by_cases hD : (z 1 * z 2 - z 3 * z 0) = 0
        · exact (L3_2d hb z4 z3 z2 hD).1.rw
        · by_cases z0 : z 0 = 0
          · exact (L3_3 hb z4 z3 z2 hD z0).1.rw
          · exact (L3_4 hb z4 z3 z2 hD z0).rw
  · by_cases z3 : z 3 = 0
    · by_cases z1 : z 1 = 0
      · exact (L4_1 hb z4 z3 z1).1.rw
      · by_cases z0 : z 0 = 0
        · exact (L4_2a hb z4 z3 z1 z0).1.rw
        · exact (L4_3a hb z4 z3 z1 z0).rw
    · by_cases hB : (z 2 * z 3 - z 4 * z 1) = 0
      · by_cases z0 : z 0 = 0
        · exact (L4_2b hb z4 z3 hB z0).1.rw
        · exact (L4_3b hb z4 z3 hB z0).rw
      · by_cases hC : (z 1 * (z 2 * z 3 - z 4 * z 1) - z 3 * (z 0 * z 3)) = 0
        · exact (L4_3c hb z4 z3 hB hC).1.rw
        · by_cases z0 : z 0 = 0
          · exact (L4_4 hb z4 z3 hB hC z0).1.rw
          · exact (L4_5 hb z4 z3 hB hC z0).rw
theorem ch_of_rw {z : Nat → Int} (h : rwOk z) : chOk z := fun i hi hn => ⟨(h i (by omega) hn).1.2.2.1, (h i (by omega) hn).1.2.2.2.1⟩
theorem bd7N {z : Nat → Int} (h : bnd7 z) : bdN 130000 z := fun j hj => by
  have := h j hj
  omega
theorem tn_N {z : Nat → Int} (h : bnd7 z) : bdN 130000 (tnZ z) := fun j hj => by
  have := tnZ_bd h j hj
  omega
theorem CHK_ok : CHK := fun z h => ⟨ch_of_rw (rw_all (bd7N h)), ch_of_rw (rw_all (tn_N h))⟩
theorem RWK_ok : RWK := fun z h => rw_all (bd7N h)
