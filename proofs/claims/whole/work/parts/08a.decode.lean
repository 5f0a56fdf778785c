theorem dX0_init_0 : decode cX0_init 0 = .ok (.aload_n 0, 1) := by decide +kernel
theorem dX0_init_1 : decode cX0_init 1 = .ok (.invokespecial 3, 3) := by decide +kernel
theorem dX0_init_4 : decode cX0_init 4 = .ok (.aload_n 0, 1) := by decide +kernel
theorem dX0_init_5 : decode cX0_init 5 = .ok (.iconst 5, 1) := by decide +kernel
theorem dX0_init_6 : decode cX0_init 6 = .ok (.iconst 5, 1) := by decide +kernel
theorem dX0_init_7 : decode cX0_init 7 = .ok (.multianewarray 9 2, 4) := by decide +kernel
theorem dX0_init_11 : decode cX0_init 11 = .ok (.putfield 11, 3) := by decide +kernel
theorem dX0_init_14 : decode cX0_init 14 = .ok (.aload_n 0, 1) := by decide +kernel
theorem dX0_init_15 : decode cX0_init 15 = .ok (.iconst 5, 1) := by decide +kernel
theorem dX0_init_16 : decode cX0_init 16 = .ok (.newarray .int, 2) := by decide +kernel
theorem dX0_init_18 : decode cX0_init 18 = .ok (.putfield 16, 3) := by decide +kernel
theorem dX0_init_21 : decode cX0_init 21 = .ok (.aload_n 0, 1) := by decide +kernel
theorem dX0_init_22 : decode cX0_init 22 = .ok (.iconst 0, 1) := by decide +kernel
theorem dX0_init_23 : decode cX0_init 23 = .ok (.putfield 20, 3) := by decide +kernel
theorem dX0_init_26 : decode cX0_init 26 = .ok (.return_, 1) := by decide +kernel
theorem dX0_fill_0 : decode cX0_fill 0 = .ok (.aload_n 0, 1) := by decide +kernel
theorem dX0_fill_1 : decode cX0_fill 1 = .ok (.iconst 0, 1) := by decide +kernel
theorem dX0_fill_2 : decode cX0_fill 2 = .ok (.putfield 20, 3) := by decide +kernel
theorem dX0_fill_5 : decode cX0_fill 5 = .ok (.aload_n 1, 1) := by decide +kernel
theorem dX0_fill_6 : decode cX0_fill 6 = .ok (.invokestatic 24, 3) := by decide +kernel
theorem dX0_fill_9 : decode cX0_fill 9 = .ok (.istore_n 2, 1) := by decide +kernel
theorem dX0_fill_10 : decode cX0_fill 10 = .ok (.iload_n 2, 1) := by decide +kernel
theorem dX0_fill_11 : decode cX0_fill 11 = .ok (.iconst (-1), 1) := by decide +kernel
theorem dX0_fill_12 : decode cX0_fill 12 = .ok (.if_icmp .ne 4, 3) := by decide +kernel
theorem dX0_fill_15 : decode cX0_fill 15 = .ok (.return_, 1) := by decide +kernel
theorem dX0_fill_16 : decode cX0_fill 16 = .ok (.aload_n 0, 1) := by decide +kernel
theorem dX0_fill_17 : decode cX0_fill 17 = .ok (.aload_n 1, 1) := by decide +kernel
theorem dX0_fill_18 : decode cX0_fill 18 = .ok (.iload_n 2, 1) := by decide +kernel
theorem dX0_fill_19 : decode cX0_fill 19 = .ok (.iconst 2, 1) := by decide +kernel
theorem dX0_fill_20 : decode cX0_fill 20 = .ok (.irem, 1) := by decide +kernel
theorem dX0_fill_21 : decode cX0_fill 21 = .ok (.invokevirtual 28, 3) := by decide +kernel
theorem dX0_fill_24 : decode cX0_fill 24 = .ok (.aload_n 0, 1) := by decide +kernel
theorem dX0_fill_25 : decode cX0_fill 25 = .ok (.aload_n 1, 1) := by decide +kernel
theorem dX0_fill_26 : decode cX0_fill 26 = .ok (.iconst 1, 1) := by decide +kernel
theorem dX0_fill_27 : decode cX0_fill 27 = .ok (.iload_n 2, 1) := by decide +kernel
theorem dX0_fill_28 : decode cX0_fill 28 = .ok (.iconst 2, 1) := by decide +kernel
theorem dX0_fill_29 : decode cX0_fill 29 = .ok (.irem, 1) := by decide +kernel
theorem dX0_fill_30 : decode cX0_fill 30 = .ok (.isub, 1) := by decide +kernel
theorem dX0_fill_31 : decode cX0_fill 31 = .ok (.invokevirtual 28, 3) := by decide +kernel
theorem dX0_fill_34 : decode cX0_fill 34 = .ok (.iconst 2, 1) := by decide +kernel
theorem dX0_fill_35 : decode cX0_fill 35 = .ok (.istore_n 3, 1) := by decide +kernel
theorem dX0_fill_36 : decode cX0_fill 36 = .ok (.iload_n 3, 1) := by decide +kernel
theorem dX0_fill_37 : decode cX0_fill 37 = .ok (.iconst 5, 1) := by decide +kernel
theorem dX0_fill_38 : decode cX0_fill 38 = .ok (.if_icmp .ge 22, 3) := by decide +kernel
theorem dX0_fill_41 : decode cX0_fill 41 = .ok (.aload_n 0, 1) := by decide +kernel
theorem dX0_fill_42 : decode cX0_fill 42 = .ok (.getfield 20, 3) := by decide +kernel
theorem dX0_fill_45 : decode cX0_fill 45 = .ok (.iload_n 3, 1) := by decide +kernel
theorem dX0_fill_46 : decode cX0_fill 46 = .ok (.if_icmp .ne 14, 3) := by decide +kernel
theorem dX0_fill_49 : decode cX0_fill 49 = .ok (.aload_n 0, 1) := by decide +kernel
theorem dX0_fill_50 : decode cX0_fill 50 = .ok (.iload_n 3, 1) := by decide +kernel
theorem dX0_fill_51 : decode cX0_fill 51 = .ok (.invokevirtual 32, 3) := by decide +kernel
theorem dX0_fill_54 : decode cX0_fill 54 = .ok (.iinc 3 1, 3) := by decide +kernel
theorem dX0_fill_57 : decode cX0_fill 57 = .ok (.goto (-21), 3) := by decide +kernel
theorem dX0_fill_60 : decode cX0_fill 60 = .ok (.return_, 1) := by decide +kernel
theorem dX0_addHalf_0 : decode cX0_addHalf 0 = .ok (.aload_n 0, 1) := by decide +kernel
theorem dX0_addHalf_1 : decode cX0_addHalf 1 = .ok (.getfield 11, 3) := by decide +kernel
theorem dX0_addHalf_4 : decode cX0_addHalf 4 = .ok (.aload_n 0, 1) := by decide +kernel
theorem dX0_addHalf_5 : decode cX0_addHalf 5 = .ok (.getfield 20, 3) := by decide +kernel
theorem dX0_addHalf_8 : decode cX0_addHalf 8 = .ok (.aaload, 1) := by decide +kernel
theorem dX0_addHalf_9 : decode cX0_addHalf 9 = .ok (.astore_n 3, 1) := by decide +kernel
theorem dX0_addHalf_10 : decode cX0_addHalf 10 = .ok (.iconst 0, 1) := by decide +kernel
theorem dX0_addHalf_11 : decode cX0_addHalf 11 = .ok (.istore 4, 2) := by decide +kernel
theorem dX0_addHalf_13 : decode cX0_addHalf 13 = .ok (.iload 4, 2) := by decide +kernel
theorem dX0_addHalf_15 : decode cX0_addHalf 15 = .ok (.iconst 5, 1) := by decide +kernel
theorem dX0_addHalf_16 : decode cX0_addHalf 16 = .ok (.if_icmp .ge 29, 3) := by decide +kernel
theorem dX0_addHalf_19 : decode cX0_addHalf 19 = .ok (.aload_n 3, 1) := by decide +kernel
theorem dX0_addHalf_20 : decode cX0_addHalf 20 = .ok (.iload 4, 2) := by decide +kernel
theorem dX0_addHalf_22 : decode cX0_addHalf 22 = .ok (.iload 4, 2) := by decide +kernel
theorem dX0_addHalf_24 : decode cX0_addHalf 24 = .ok (.iconst 2, 1) := by decide +kernel
theorem dX0_addHalf_25 : decode cX0_addHalf 25 = .ok (.irem, 1) := by decide +kernel
theorem dX0_addHalf_26 : decode cX0_addHalf 26 = .ok (.iload_n 2, 1) := by decide +kernel
theorem dX0_addHalf_27 : decode cX0_addHalf 27 = .ok (.if_icmp .ne 10, 3) := by decide +kernel
theorem dX0_addHalf_30 : decode cX0_addHalf 30 = .ok (.aload_n 1, 1) := by decide +kernel
theorem dX0_addHalf_31 : decode cX0_addHalf 31 = .ok (.iload 4, 2) := by decide +kernel
theorem dX0_addHalf_33 : decode cX0_addHalf 33 = .ok (.laload, 1) := by decide +kernel
theorem dX0_addHalf_34 : decode cX0_addHalf 34 = .ok (.goto 4, 3) := by decide +kernel
theorem dX0_addHalf_37 : decode cX0_addHalf 37 = .ok (.lconst 0, 1) := by decide +kernel
theorem dX0_addHalf_38 : decode cX0_addHalf 38 = .ok (.lastore, 1) := by decide +kernel
theorem dX0_addHalf_39 : decode cX0_addHalf 39 = .ok (.iinc 4 1, 3) := by decide +kernel
theorem dX0_addHalf_42 : decode cX0_addHalf 42 = .ok (.goto (-29), 3) := by decide +kernel
theorem dX0_addHalf_45 : decode cX0_addHalf 45 = .ok (.aload_n 0, 1) := by decide +kernel
theorem dX0_addHalf_46 : decode cX0_addHalf 46 = .ok (.invokevirtual 36, 3) := by decide +kernel
theorem dX0_addHalf_49 : decode cX0_addHalf 49 = .ok (.return_, 1) := by decide +kernel
theorem dX0_addRemainder_0 : decode cX0_addRemainder 0 = .ok (.aload_n 0, 1) := by decide +kernel
theorem dX0_addRemainder_1 : decode cX0_addRemainder 1 = .ok (.getfield 11, 3) := by decide +kernel
theorem dX0_addRemainder_4 : decode cX0_addRemainder 4 = .ok (.iload_n 1, 1) := by decide +kernel
theorem dX0_addRemainder_5 : decode cX0_addRemainder 5 = .ok (.aaload, 1) := by decide +kernel
theorem dX0_addRemainder_6 : decode cX0_addRemainder 6 = .ok (.astore_n 2, 1) := by decide +kernel
theorem dX0_addRemainder_7 : decode cX0_addRemainder 7 = .ok (.aload_n 0, 1) := by decide +kernel
theorem dX0_addRemainder_8 : decode cX0_addRemainder 8 = .ok (.getfield 11, 3) := by decide +kernel
theorem dX0_addRemainder_11 : decode cX0_addRemainder 11 = .ok (.iload_n 1, 1) := by decide +kernel
theorem dX0_addRemainder_12 : decode cX0_addRemainder 12 = .ok (.iconst 2, 1) := by decide +kernel
theorem dX0_addRemainder_13 : decode cX0_addRemainder 13 = .ok (.isub, 1) := by decide +kernel
theorem dX0_addRemainder_14 : decode cX0_addRemainder 14 = .ok (.aaload, 1) := by decide +kernel
theorem dX0_addRemainder_15 : decode cX0_addRemainder 15 = .ok (.iconst 0, 1) := by decide +kernel
theorem dX0_addRemainder_16 : decode cX0_addRemainder 16 = .ok (.aload_n 2, 1) := by decide +kernel
theorem dX0_addRemainder_17 : decode cX0_addRemainder 17 = .ok (.iconst 0, 1) := by decide +kernel
theorem dX0_addRemainder_18 : decode cX0_addRemainder 18 = .ok (.iconst 5, 1) := by decide +kernel
theorem dX0_addRemainder_19 : decode cX0_addRemainder 19 = .ok (.invokestatic 39, 3) := by decide +kernel
theorem dX0_addRemainder_22 : decode cX0_addRemainder 22 = .ok (.aload_n 0, 1) := by decide +kernel
theorem dX0_addRemainder_23 : decode cX0_addRemainder 23 = .ok (.getfield 16, 3) := by decide +kernel
theorem dX0_addRemainder_26 : decode cX0_addRemainder 26 = .ok (.iload_n 1, 1) := by decide +kernel
theorem dX0_addRemainder_27 : decode cX0_addRemainder 27 = .ok (.iconst 1, 1) := by decide +kernel
theorem dX0_addRemainder_28 : decode cX0_addRemainder 28 = .ok (.isub, 1) := by decide +kernel
theorem dX0_addRemainder_29 : decode cX0_addRemainder 29 = .ok (.iaload, 1) := by decide +kernel
theorem dX0_addRemainder_30 : decode cX0_addRemainder 30 = .ok (.istore_n 3, 1) := by decide +kernel
theorem dX0_addRemainder_31 : decode cX0_addRemainder 31 = .ok (.aload_n 0, 1) := by decide +kernel
theorem dX0_addRemainder_32 : decode cX0_addRemainder 32 = .ok (.getfield 16, 3) := by decide +kernel
theorem dX0_addRemainder_35 : decode cX0_addRemainder 35 = .ok (.iload_n 1, 1) := by decide +kernel
theorem dX0_addRemainder_36 : decode cX0_addRemainder 36 = .ok (.iconst 2, 1) := by decide +kernel
theorem dX0_addRemainder_37 : decode cX0_addRemainder 37 = .ok (.isub, 1) := by decide +kernel
theorem dX0_addRemainder_38 : decode cX0_addRemainder 38 = .ok (.iaload, 1) := by decide +kernel
theorem dX0_addRemainder_39 : decode cX0_addRemainder 39 = .ok (.istore 4, 2) := by decide +kernel
theorem dX0_addRemainder_41 : decode cX0_addRemainder 41 = .ok (.iload 4, 2) := by decide +kernel
theorem dX0_addRemainder_43 : decode cX0_addRemainder 43 = .ok (.iload_n 3, 1) := by decide +kernel
theorem dX0_addRemainder_44 : decode cX0_addRemainder 44 = .ok (.if_icmp .le 28, 3) := by decide +kernel
theorem dX0_addRemainder_47 : decode cX0_addRemainder 47 = .ok (.aload_n 2, 1) := by decide +kernel
theorem dX0_addRemainder_48 : decode cX0_addRemainder 48 = .ok (.iload 4, 2) := by decide +kernel
theorem dX0_addRemainder_50 : decode cX0_addRemainder 50 = .ok (.aload_n 0, 1) := by decide +kernel
theorem dX0_addRemainder_51 : decode cX0_addRemainder 51 = .ok (.getfield 11, 3) := by decide +kernel
theorem dX0_addRemainder_54 : decode cX0_addRemainder 54 = .ok (.iload_n 1, 1) := by decide +kernel
theorem dX0_addRemainder_55 : decode cX0_addRemainder 55 = .ok (.iconst 1, 1) := by decide +kernel
theorem dX0_addRemainder_56 : decode cX0_addRemainder 56 = .ok (.isub, 1) := by decide +kernel
theorem dX0_addRemainder_57 : decode cX0_addRemainder 57 = .ok (.aaload, 1) := by decide +kernel
theorem dX0_addRemainder_58 : decode cX0_addRemainder 58 = .ok (.iload_n 3, 1) := by decide +kernel
theorem dX0_addRemainder_59 : decode cX0_addRemainder 59 = .ok (.invokestatic 45, 3) := by decide +kernel
theorem dX0_addRemainder_62 : decode cX0_addRemainder 62 = .ok (.aload_n 2, 1) := by decide +kernel
theorem dX0_addRemainder_63 : decode cX0_addRemainder 63 = .ok (.invokestatic 49, 3) := by decide +kernel
theorem dX0_addRemainder_66 : decode cX0_addRemainder 66 = .ok (.iinc 4 (-2), 3) := by decide +kernel
theorem dX0_addRemainder_69 : decode cX0_addRemainder 69 = .ok (.goto (-28), 3) := by decide +kernel
theorem dX0_addRemainder_72 : decode cX0_addRemainder 72 = .ok (.aload_n 0, 1) := by decide +kernel
theorem dX0_addRemainder_73 : decode cX0_addRemainder 73 = .ok (.invokevirtual 36, 3) := by decide +kernel
theorem dX0_addRemainder_76 : decode cX0_addRemainder 76 = .ok (.return_, 1) := by decide +kernel
theorem dX0_addUnlessZero_0 : decode cX0_addUnlessZero 0 = .ok (.aload_n 0, 1) := by decide +kernel
theorem dX0_addUnlessZero_1 : decode cX0_addUnlessZero 1 = .ok (.getfield 16, 3) := by decide +kernel
theorem dX0_addUnlessZero_4 : decode cX0_addUnlessZero 4 = .ok (.aload_n 0, 1) := by decide +kernel
theorem dX0_addUnlessZero_5 : decode cX0_addUnlessZero 5 = .ok (.getfield 20, 3) := by decide +kernel
theorem dX0_addUnlessZero_8 : decode cX0_addUnlessZero 8 = .ok (.aload_n 0, 1) := by decide +kernel
theorem dX0_addUnlessZero_9 : decode cX0_addUnlessZero 9 = .ok (.getfield 11, 3) := by decide +kernel
theorem dX0_addUnlessZero_12 : decode cX0_addUnlessZero 12 = .ok (.aload_n 0, 1) := by decide +kernel
theorem dX0_addUnlessZero_13 : decode cX0_addUnlessZero 13 = .ok (.getfield 20, 3) := by decide +kernel
theorem dX0_addUnlessZero_16 : decode cX0_addUnlessZero 16 = .ok (.aaload, 1) := by decide +kernel
theorem dX0_addUnlessZero_17 : decode cX0_addUnlessZero 17 = .ok (.invokestatic 24, 3) := by decide +kernel
theorem dX0_addUnlessZero_20 : decode cX0_addUnlessZero 20 = .ok (.iastore, 1) := by decide +kernel
theorem dX0_addUnlessZero_21 : decode cX0_addUnlessZero 21 = .ok (.aload_n 0, 1) := by decide +kernel
theorem dX0_addUnlessZero_22 : decode cX0_addUnlessZero 22 = .ok (.getfield 16, 3) := by decide +kernel
theorem dX0_addUnlessZero_25 : decode cX0_addUnlessZero 25 = .ok (.aload_n 0, 1) := by decide +kernel
theorem dX0_addUnlessZero_26 : decode cX0_addUnlessZero 26 = .ok (.getfield 20, 3) := by decide +kernel
theorem dX0_addUnlessZero_29 : decode cX0_addUnlessZero 29 = .ok (.iaload, 1) := by decide +kernel
theorem dX0_addUnlessZero_30 : decode cX0_addUnlessZero 30 = .ok (.iconst (-1), 1) := by decide +kernel
theorem dX0_addUnlessZero_31 : decode cX0_addUnlessZero 31 = .ok (.if_icmp .eq 13, 3) := by decide +kernel
theorem dX0_addUnlessZero_34 : decode cX0_addUnlessZero 34 = .ok (.aload_n 0, 1) := by decide +kernel
theorem dX0_addUnlessZero_35 : decode cX0_addUnlessZero 35 = .ok (.dup, 1) := by decide +kernel
theorem dX0_addUnlessZero_36 : decode cX0_addUnlessZero 36 = .ok (.getfield 20, 3) := by decide +kernel
theorem dX0_addUnlessZero_39 : decode cX0_addUnlessZero 39 = .ok (.iconst 1, 1) := by decide +kernel
theorem dX0_addUnlessZero_40 : decode cX0_addUnlessZero 40 = .ok (.iadd, 1) := by decide +kernel
theorem dX0_addUnlessZero_41 : decode cX0_addUnlessZero 41 = .ok (.putfield 20, 3) := by decide +kernel
theorem dX0_addUnlessZero_44 : decode cX0_addUnlessZero 44 = .ok (.return_, 1) := by decide +kernel
theorem dX0_strike_0 : decode cX0_strike 0 = .ok (.aload_n 2, 1) := by decide +kernel
theorem dX0_strike_1 : decode cX0_strike 1 = .ok (.iload_n 3, 1) := by decide +kernel
theorem dX0_strike_2 : decode cX0_strike 2 = .ok (.laload, 1) := by decide +kernel
theorem dX0_strike_3 : decode cX0_strike 3 = .ok (.lstore 4, 2) := by decide +kernel
theorem dX0_strike_5 : decode cX0_strike 5 = .ok (.lload 4, 2) := by decide +kernel
theorem dX0_strike_7 : decode cX0_strike 7 = .ok (.lconst 0, 1) := by decide +kernel
theorem dX0_strike_8 : decode cX0_strike 8 = .ok (.lcmp, 1) := by decide +kernel
theorem dX0_strike_9 : decode cX0_strike 9 = .ok (.ifCond .ge 10, 3) := by decide +kernel
theorem dX0_strike_12 : decode cX0_strike 12 = .ok (.aload_n 0, 1) := by decide +kernel
theorem dX0_strike_13 : decode cX0_strike 13 = .ok (.iload_n 1, 1) := by decide +kernel
theorem dX0_strike_14 : decode cX0_strike 14 = .ok (.laload, 1) := by decide +kernel
theorem dX0_strike_15 : decode cX0_strike 15 = .ok (.lneg, 1) := by decide +kernel
theorem dX0_strike_16 : decode cX0_strike 16 = .ok (.goto 6, 3) := by decide +kernel
theorem dX0_strike_19 : decode cX0_strike 19 = .ok (.aload_n 0, 1) := by decide +kernel
theorem dX0_strike_20 : decode cX0_strike 20 = .ok (.iload_n 1, 1) := by decide +kernel
theorem dX0_strike_21 : decode cX0_strike 21 = .ok (.laload, 1) := by decide +kernel
theorem dX0_strike_22 : decode cX0_strike 22 = .ok (.lstore 6, 2) := by decide +kernel
theorem dX0_strike_24 : decode cX0_strike 24 = .ok (.lload 6, 2) := by decide +kernel
theorem dX0_strike_26 : decode cX0_strike 26 = .ok (.lconst 0, 1) := by decide +kernel
theorem dX0_strike_27 : decode cX0_strike 27 = .ok (.lcmp, 1) := by decide +kernel
theorem dX0_strike_28 : decode cX0_strike 28 = .ok (.ifCond .ne 4, 3) := by decide +kernel
theorem dX0_strike_31 : decode cX0_strike 31 = .ok (.return_, 1) := by decide +kernel
theorem dX0_strike_32 : decode cX0_strike 32 = .ok (.iconst 0, 1) := by decide +kernel
theorem dX0_strike_33 : decode cX0_strike 33 = .ok (.istore 8, 2) := by decide +kernel
theorem dX0_strike_35 : decode cX0_strike 35 = .ok (.iload 8, 2) := by decide +kernel
theorem dX0_strike_37 : decode cX0_strike 37 = .ok (.iconst 5, 1) := by decide +kernel
theorem dX0_strike_38 : decode cX0_strike 38 = .ok (.if_icmp .ge 21, 3) := by decide +kernel
theorem dX0_strike_41 : decode cX0_strike 41 = .ok (.aload_n 0, 1) := by decide +kernel
theorem dX0_strike_42 : decode cX0_strike 42 = .ok (.iload 8, 2) := by decide +kernel
theorem dX0_strike_44 : decode cX0_strike 44 = .ok (.dup2, 1) := by decide +kernel
theorem dX0_strike_45 : decode cX0_strike 45 = .ok (.laload, 1) := by decide +kernel
theorem dX0_strike_46 : decode cX0_strike 46 = .ok (.lload 4, 2) := by decide +kernel
theorem dX0_strike_48 : decode cX0_strike 48 = .ok (.invokestatic 53, 3) := by decide +kernel
theorem dX0_strike_51 : decode cX0_strike 51 = .ok (.lmul, 1) := by decide +kernel
theorem dX0_strike_52 : decode cX0_strike 52 = .ok (.lastore, 1) := by decide +kernel
theorem dX0_strike_53 : decode cX0_strike 53 = .ok (.iinc 8 1, 3) := by decide +kernel
theorem dX0_strike_56 : decode cX0_strike 56 = .ok (.goto (-21), 3) := by decide +kernel
theorem dX0_strike_59 : decode cX0_strike 59 = .ok (.iconst 0, 1) := by decide +kernel
theorem dX0_strike_60 : decode cX0_strike 60 = .ok (.istore 8, 2) := by decide +kernel
theorem dX0_strike_62 : decode cX0_strike 62 = .ok (.iload 8, 2) := by decide +kernel
theorem dX0_strike_64 : decode cX0_strike 64 = .ok (.iload_n 3, 1) := by decide +kernel
theorem dX0_strike_65 : decode cX0_strike 65 = .ok (.if_icmp .gt 27, 3) := by decide +kernel
theorem dX0_strike_68 : decode cX0_strike 68 = .ok (.aload_n 0, 1) := by decide +kernel
theorem dX0_strike_69 : decode cX0_strike 69 = .ok (.iload_n 1, 1) := by decide +kernel
theorem dX0_strike_70 : decode cX0_strike 70 = .ok (.iload_n 3, 1) := by decide +kernel
theorem dX0_strike_71 : decode cX0_strike 71 = .ok (.isub, 1) := by decide +kernel
theorem dX0_strike_72 : decode cX0_strike 72 = .ok (.iload 8, 2) := by decide +kernel
theorem dX0_strike_74 : decode cX0_strike 74 = .ok (.iadd, 1) := by decide +kernel
theorem dX0_strike_75 : decode cX0_strike 75 = .ok (.dup2, 1) := by decide +kernel
theorem dX0_strike_76 : decode cX0_strike 76 = .ok (.laload, 1) := by decide +kernel
theorem dX0_strike_77 : decode cX0_strike 77 = .ok (.lload 6, 2) := by decide +kernel
theorem dX0_strike_79 : decode cX0_strike 79 = .ok (.aload_n 2, 1) := by decide +kernel
theorem dX0_strike_80 : decode cX0_strike 80 = .ok (.iload 8, 2) := by decide +kernel
theorem dX0_strike_82 : decode cX0_strike 82 = .ok (.laload, 1) := by decide +kernel
theorem dX0_strike_83 : decode cX0_strike 83 = .ok (.lmul, 1) := by decide +kernel
theorem dX0_strike_84 : decode cX0_strike 84 = .ok (.lsub, 1) := by decide +kernel
theorem dX0_strike_85 : decode cX0_strike 85 = .ok (.lastore, 1) := by decide +kernel
theorem dX0_strike_86 : decode cX0_strike 86 = .ok (.iinc 8 1, 3) := by decide +kernel
theorem dX0_strike_89 : decode cX0_strike 89 = .ok (.goto (-27), 3) := by decide +kernel
theorem dX0_strike_92 : decode cX0_strike 92 = .ok (.return_, 1) := by decide +kernel
theorem dX0_takeLowestTerms_0 : decode cX0_takeLowestTerms 0 = .ok (.lconst 0, 1) := by decide +kernel
theorem dX0_takeLowestTerms_1 : decode cX0_takeLowestTerms 1 = .ok (.lstore_n 1, 1) := by decide +kernel
theorem dX0_takeLowestTerms_2 : decode cX0_takeLowestTerms 2 = .ok (.iconst 0, 1) := by decide +kernel
theorem dX0_takeLowestTerms_3 : decode cX0_takeLowestTerms 3 = .ok (.istore_n 3, 1) := by decide +kernel
theorem dX0_takeLowestTerms_4 : decode cX0_takeLowestTerms 4 = .ok (.iload_n 3, 1) := by decide +kernel
theorem dX0_takeLowestTerms_5 : decode cX0_takeLowestTerms 5 = .ok (.iconst 5, 1) := by decide +kernel
theorem dX0_takeLowestTerms_6 : decode cX0_takeLowestTerms 6 = .ok (.if_icmp .ge 17, 3) := by decide +kernel
theorem dX0_takeLowestTerms_9 : decode cX0_takeLowestTerms 9 = .ok (.aload_n 0, 1) := by decide +kernel
theorem dX0_takeLowestTerms_10 : decode cX0_takeLowestTerms 10 = .ok (.iload_n 3, 1) := by decide +kernel
theorem dX0_takeLowestTerms_11 : decode cX0_takeLowestTerms 11 = .ok (.laload, 1) := by decide +kernel
theorem dX0_takeLowestTerms_12 : decode cX0_takeLowestTerms 12 = .ok (.lload_n 1, 1) := by decide +kernel
theorem dX0_takeLowestTerms_13 : decode cX0_takeLowestTerms 13 = .ok (.invokestatic 59, 3) := by decide +kernel
theorem dX0_takeLowestTerms_16 : decode cX0_takeLowestTerms 16 = .ok (.lstore_n 1, 1) := by decide +kernel
theorem dX0_takeLowestTerms_17 : decode cX0_takeLowestTerms 17 = .ok (.iinc 3 1, 3) := by decide +kernel
theorem dX0_takeLowestTerms_20 : decode cX0_takeLowestTerms 20 = .ok (.goto (-16), 3) := by decide +kernel
theorem dX0_takeLowestTerms_23 : decode cX0_takeLowestTerms 23 = .ok (.lload_n 1, 1) := by decide +kernel
theorem dX0_takeLowestTerms_24 : decode cX0_takeLowestTerms 24 = .ok (.ldc2_w 63, 3) := by decide +kernel
theorem dX0_takeLowestTerms_27 : decode cX0_takeLowestTerms 27 = .ok (.lcmp, 1) := by decide +kernel
theorem dX0_takeLowestTerms_28 : decode cX0_takeLowestTerms 28 = .ok (.ifCond .ge 4, 3) := by decide +kernel
theorem dX0_takeLowestTerms_31 : decode cX0_takeLowestTerms 31 = .ok (.return_, 1) := by decide +kernel
theorem dX0_takeLowestTerms_32 : decode cX0_takeLowestTerms 32 = .ok (.iconst 0, 1) := by decide +kernel
theorem dX0_takeLowestTerms_33 : decode cX0_takeLowestTerms 33 = .ok (.istore_n 3, 1) := by decide +kernel
theorem dX0_takeLowestTerms_34 : decode cX0_takeLowestTerms 34 = .ok (.iload_n 3, 1) := by decide +kernel
theorem dX0_takeLowestTerms_35 : decode cX0_takeLowestTerms 35 = .ok (.iconst 5, 1) := by decide +kernel
theorem dX0_takeLowestTerms_36 : decode cX0_takeLowestTerms 36 = .ok (.if_icmp .ge 16, 3) := by decide +kernel
theorem dX0_takeLowestTerms_39 : decode cX0_takeLowestTerms 39 = .ok (.aload_n 0, 1) := by decide +kernel
theorem dX0_takeLowestTerms_40 : decode cX0_takeLowestTerms 40 = .ok (.iload_n 3, 1) := by decide +kernel
theorem dX0_takeLowestTerms_41 : decode cX0_takeLowestTerms 41 = .ok (.dup2, 1) := by decide +kernel
theorem dX0_takeLowestTerms_42 : decode cX0_takeLowestTerms 42 = .ok (.laload, 1) := by decide +kernel
theorem dX0_takeLowestTerms_43 : decode cX0_takeLowestTerms 43 = .ok (.lload_n 1, 1) := by decide +kernel
theorem dX0_takeLowestTerms_44 : decode cX0_takeLowestTerms 44 = .ok (.ldiv, 1) := by decide +kernel
theorem dX0_takeLowestTerms_45 : decode cX0_takeLowestTerms 45 = .ok (.lastore, 1) := by decide +kernel
theorem dX0_takeLowestTerms_46 : decode cX0_takeLowestTerms 46 = .ok (.iinc 3 1, 3) := by decide +kernel
theorem dX0_takeLowestTerms_49 : decode cX0_takeLowestTerms 49 = .ok (.goto (-15), 3) := by decide +kernel
theorem dX0_takeLowestTerms_52 : decode cX0_takeLowestTerms 52 = .ok (.return_, 1) := by decide +kernel
theorem dX1_init_0 : decode cX1_init 0 = .ok (.aload_n 0, 1) := by decide +kernel
theorem dX1_init_1 : decode cX1_init 1 = .ok (.invokespecial 3, 3) := by decide +kernel
theorem dX1_init_4 : decode cX1_init 4 = .ok (.aload_n 0, 1) := by decide +kernel
theorem dX1_init_5 : decode cX1_init 5 = .ok (.new 9, 3) := by decide +kernel
theorem dX1_init_8 : decode cX1_init 8 = .ok (.dup, 1) := by decide +kernel
theorem dX1_init_9 : decode cX1_init 9 = .ok (.invokespecial 11, 3) := by decide +kernel
theorem dX1_init_12 : decode cX1_init 12 = .ok (.putfield 12, 3) := by decide +kernel
theorem dX1_init_15 : decode cX1_init 15 = .ok (.aload_n 0, 1) := by decide +kernel
theorem dX1_init_16 : decode cX1_init 16 = .ok (.iconst 5, 1) := by decide +kernel
theorem dX1_init_17 : decode cX1_init 17 = .ok (.newarray .long, 2) := by decide +kernel
theorem dX1_init_19 : decode cX1_init 19 = .ok (.putfield 18, 3) := by decide +kernel
theorem dX1_init_22 : decode cX1_init 22 = .ok (.aload_n 0, 1) := by decide +kernel
theorem dX1_init_23 : decode cX1_init 23 = .ok (.iconst 0, 1) := by decide +kernel
theorem dX1_init_24 : decode cX1_init 24 = .ok (.putfield 22, 3) := by decide +kernel
theorem dX1_init_27 : decode cX1_init 27 = .ok (.aload_n 0, 1) := by decide +kernel
theorem dX1_init_28 : decode cX1_init 28 = .ok (.iconst 0, 1) := by decide +kernel
theorem dX1_init_29 : decode cX1_init 29 = .ok (.putfield 26, 3) := by decide +kernel
theorem dX1_init_32 : decode cX1_init 32 = .ok (.aload_n 0, 1) := by decide +kernel
theorem dX1_init_33 : decode cX1_init 33 = .ok (.iconst 0, 1) := by decide +kernel
theorem dX1_init_34 : decode cX1_init 34 = .ok (.putfield 29, 3) := by decide +kernel
theorem dX1_init_37 : decode cX1_init 37 = .ok (.return_, 1) := by decide +kernel
theorem dX1_countRootsOf_0 : decode cX1_countRootsOf 0 = .ok (.iload_n 1, 1) := by decide +kernel
theorem dX1_countRootsOf_1 : decode cX1_countRootsOf 1 = .ok (.ifCond .ne 16, 3) := by decide +kernel
theorem dX1_countRootsOf_4 : decode cX1_countRootsOf 4 = .ok (.aload_n 0, 1) := by decide +kernel
theorem dX1_countRootsOf_5 : decode cX1_countRootsOf 5 = .ok (.getfield 12, 3) := by decide +kernel
theorem dX1_countRootsOf_8 : decode cX1_countRootsOf 8 = .ok (.aload_n 2, 1) := by decide +kernel
theorem dX1_countRootsOf_9 : decode cX1_countRootsOf 9 = .ok (.invokevirtual 32, 3) := by decide +kernel
theorem dX1_countRootsOf_12 : decode cX1_countRootsOf 12 = .ok (.aload_n 0, 1) := by decide +kernel
theorem dX1_countRootsOf_13 : decode cX1_countRootsOf 13 = .ok (.invokevirtual 36, 3) := by decide +kernel
theorem dX1_countRootsOf_16 : decode cX1_countRootsOf 16 = .ok (.return_, 1) := by decide +kernel
theorem dX1_countRootsOf_17 : decode cX1_countRootsOf 17 = .ok (.aload_n 0, 1) := by decide +kernel
theorem dX1_countRootsOf_18 : decode cX1_countRootsOf 18 = .ok (.aload_n 2, 1) := by decide +kernel
theorem dX1_countRootsOf_19 : decode cX1_countRootsOf 19 = .ok (.invokevirtual 39, 3) := by decide +kernel
theorem dX1_countRootsOf_22 : decode cX1_countRootsOf 22 = .ok (.aload_n 0, 1) := by decide +kernel
theorem dX1_countRootsOf_23 : decode cX1_countRootsOf 23 = .ok (.getfield 12, 3) := by decide +kernel
theorem dX1_countRootsOf_26 : decode cX1_countRootsOf 26 = .ok (.aload_n 0, 1) := by decide +kernel
theorem dX1_countRootsOf_27 : decode cX1_countRootsOf 27 = .ok (.getfield 18, 3) := by decide +kernel
theorem dX1_countRootsOf_30 : decode cX1_countRootsOf 30 = .ok (.invokevirtual 32, 3) := by decide +kernel
theorem dX1_countRootsOf_33 : decode cX1_countRootsOf 33 = .ok (.aload_n 0, 1) := by decide +kernel
theorem dX1_countRootsOf_34 : decode cX1_countRootsOf 34 = .ok (.invokevirtual 36, 3) := by decide +kernel
theorem dX1_countRootsOf_37 : decode cX1_countRootsOf 37 = .ok (.aload_n 0, 1) := by decide +kernel
theorem dX1_countRootsOf_38 : decode cX1_countRootsOf 38 = .ok (.dup, 1) := by decide +kernel
theorem dX1_countRootsOf_39 : decode cX1_countRootsOf 39 = .ok (.getfield 26, 3) := by decide +kernel
theorem dX1_countRootsOf_42 : decode cX1_countRootsOf 42 = .ok (.iconst 4, 1) := by decide +kernel
theorem dX1_countRootsOf_43 : decode cX1_countRootsOf 43 = .ok (.aload_n 0, 1) := by decide +kernel
theorem dX1_countRootsOf_44 : decode cX1_countRootsOf 44 = .ok (.getfield 18, 3) := by decide +kernel
theorem dX1_countRootsOf_47 : decode cX1_countRootsOf 47 = .ok (.invokestatic 42, 3) := by decide +kernel
theorem dX1_countRootsOf_50 : decode cX1_countRootsOf 50 = .ok (.isub, 1) := by decide +kernel
theorem dX1_countRootsOf_51 : decode cX1_countRootsOf 51 = .ok (.iadd, 1) := by decide +kernel
theorem dX1_countRootsOf_52 : decode cX1_countRootsOf 52 = .ok (.putfield 26, 3) := by decide +kernel
theorem dX1_countRootsOf_55 : decode cX1_countRootsOf 55 = .ok (.aload_n 0, 1) := by decide +kernel
theorem dX1_countRootsOf_56 : decode cX1_countRootsOf 56 = .ok (.dup, 1) := by decide +kernel
theorem dX1_countRootsOf_57 : decode cX1_countRootsOf 57 = .ok (.getfield 29, 3) := by decide +kernel
theorem dX1_countRootsOf_60 : decode cX1_countRootsOf 60 = .ok (.iconst 4, 1) := by decide +kernel
theorem dX1_countRootsOf_61 : decode cX1_countRootsOf 61 = .ok (.aload_n 2, 1) := by decide +kernel
theorem dX1_countRootsOf_62 : decode cX1_countRootsOf 62 = .ok (.invokestatic 42, 3) := by decide +kernel
theorem dX1_countRootsOf_65 : decode cX1_countRootsOf 65 = .ok (.isub, 1) := by decide +kernel
theorem dX1_countRootsOf_66 : decode cX1_countRootsOf 66 = .ok (.isub, 1) := by decide +kernel
theorem dX1_countRootsOf_67 : decode cX1_countRootsOf 67 = .ok (.putfield 29, 3) := by decide +kernel
theorem dX1_countRootsOf_70 : decode cX1_countRootsOf 70 = .ok (.return_, 1) := by decide +kernel
theorem dX1_isSteady_0 : decode cX1_isSteady 0 = .ok (.iload_n 1, 1) := by decide +kernel
theorem dX1_isSteady_1 : decode cX1_isSteady 1 = .ok (.ifCond .ne 8, 3) := by decide +kernel
theorem dX1_isSteady_4 : decode cX1_isSteady 4 = .ok (.aload_n 2, 1) := by decide +kernel
theorem dX1_isSteady_5 : decode cX1_isSteady 5 = .ok (.invokestatic 46, 3) := by decide +kernel
theorem dX1_isSteady_8 : decode cX1_isSteady 8 = .ok (.ireturn, 1) := by decide +kernel
theorem dX1_isSteady_9 : decode cX1_isSteady 9 = .ok (.aload_n 2, 1) := by decide +kernel
theorem dX1_isSteady_10 : decode cX1_isSteady 10 = .ok (.invokestatic 42, 3) := by decide +kernel
theorem dX1_isSteady_13 : decode cX1_isSteady 13 = .ok (.iconst (-1), 1) := by decide +kernel
theorem dX1_isSteady_14 : decode cX1_isSteady 14 = .ok (.if_icmp .ne 5, 3) := by decide +kernel
theorem dX1_isSteady_17 : decode cX1_isSteady 17 = .ok (.iconst 0, 1) := by decide +kernel
theorem dX1_isSteady_18 : decode cX1_isSteady 18 = .ok (.ireturn, 1) := by decide +kernel
theorem dX1_isSteady_19 : decode cX1_isSteady 19 = .ok (.aload_n 0, 1) := by decide +kernel
theorem dX1_isSteady_20 : decode cX1_isSteady 20 = .ok (.aload_n 2, 1) := by decide +kernel
theorem dX1_isSteady_21 : decode cX1_isSteady 21 = .ok (.invokevirtual 39, 3) := by decide +kernel
theorem dX1_isSteady_24 : decode cX1_isSteady 24 = .ok (.aload_n 0, 1) := by decide +kernel
theorem dX1_isSteady_25 : decode cX1_isSteady 25 = .ok (.getfield 18, 3) := by decide +kernel
theorem dX1_isSteady_28 : decode cX1_isSteady 28 = .ok (.iconst 4, 1) := by decide +kernel
theorem dX1_isSteady_29 : decode cX1_isSteady 29 = .ok (.laload, 1) := by decide +kernel
theorem dX1_isSteady_30 : decode cX1_isSteady 30 = .ok (.lconst 0, 1) := by decide +kernel
theorem dX1_isSteady_31 : decode cX1_isSteady 31 = .ok (.lcmp, 1) := by decide +kernel
theorem dX1_isSteady_32 : decode cX1_isSteady 32 = .ok (.ifCond .eq 17, 3) := by decide +kernel
theorem dX1_isSteady_35 : decode cX1_isSteady 35 = .ok (.aload_n 0, 1) := by decide +kernel
theorem dX1_isSteady_36 : decode cX1_isSteady 36 = .ok (.getfield 18, 3) := by decide +kernel
theorem dX1_isSteady_39 : decode cX1_isSteady 39 = .ok (.invokestatic 46, 3) := by decide +kernel
theorem dX1_isSteady_42 : decode cX1_isSteady 42 = .ok (.ifCond .eq 7, 3) := by decide +kernel
theorem dX1_isSteady_45 : decode cX1_isSteady 45 = .ok (.iconst 1, 1) := by decide +kernel
theorem dX1_isSteady_46 : decode cX1_isSteady 46 = .ok (.goto 4, 3) := by decide +kernel
theorem dX1_isSteady_49 : decode cX1_isSteady 49 = .ok (.iconst 0, 1) := by decide +kernel
theorem dX1_isSteady_50 : decode cX1_isSteady 50 = .ok (.ireturn, 1) := by decide +kernel
theorem dX1_turn_0 : decode cX1_turn 0 = .ok (.iconst 4, 1) := by decide +kernel
theorem dX1_turn_1 : decode cX1_turn 1 = .ok (.aload_n 1, 1) := by decide +kernel
theorem dX1_turn_2 : decode cX1_turn 2 = .ok (.invokestatic 42, 3) := by decide +kernel
theorem dX1_turn_5 : decode cX1_turn 5 = .ok (.isub, 1) := by decide +kernel
theorem dX1_turn_6 : decode cX1_turn 6 = .ok (.istore_n 2, 1) := by decide +kernel
theorem dX1_turn_7 : decode cX1_turn 7 = .ok (.aload_n 1, 1) := by decide +kernel
theorem dX1_turn_8 : decode cX1_turn 8 = .ok (.iconst 0, 1) := by decide +kernel
theorem dX1_turn_9 : decode cX1_turn 9 = .ok (.iload_n 2, 1) := by decide +kernel
theorem dX1_turn_10 : decode cX1_turn 10 = .ok (.invokestatic 50, 3) := by decide +kernel
theorem dX1_turn_13 : decode cX1_turn 13 = .ok (.lstore_n 3, 1) := by decide +kernel
theorem dX1_turn_14 : decode cX1_turn 14 = .ok (.aload_n 1, 1) := by decide +kernel
theorem dX1_turn_15 : decode cX1_turn 15 = .ok (.iconst 1, 1) := by decide +kernel
theorem dX1_turn_16 : decode cX1_turn 16 = .ok (.iload_n 2, 1) := by decide +kernel
theorem dX1_turn_17 : decode cX1_turn 17 = .ok (.invokestatic 50, 3) := by decide +kernel
theorem dX1_turn_20 : decode cX1_turn 20 = .ok (.lstore 5, 2) := by decide +kernel
theorem dX1_turn_22 : decode cX1_turn 22 = .ok (.aload_n 1, 1) := by decide +kernel
theorem dX1_turn_23 : decode cX1_turn 23 = .ok (.iconst 2, 1) := by decide +kernel
theorem dX1_turn_24 : decode cX1_turn 24 = .ok (.iload_n 2, 1) := by decide +kernel
theorem dX1_turn_25 : decode cX1_turn 25 = .ok (.invokestatic 50, 3) := by decide +kernel
theorem dX1_turn_28 : decode cX1_turn 28 = .ok (.lstore 7, 2) := by decide +kernel
theorem dX1_turn_30 : decode cX1_turn 30 = .ok (.aload_n 1, 1) := by decide +kernel
theorem dX1_turn_31 : decode cX1_turn 31 = .ok (.iconst 3, 1) := by decide +kernel
theorem dX1_turn_32 : decode cX1_turn 32 = .ok (.iload_n 2, 1) := by decide +kernel
theorem dX1_turn_33 : decode cX1_turn 33 = .ok (.invokestatic 50, 3) := by decide +kernel
theorem dX1_turn_36 : decode cX1_turn 36 = .ok (.lstore 9, 2) := by decide +kernel
theorem dX1_turn_38 : decode cX1_turn 38 = .ok (.aload_n 1, 1) := by decide +kernel
theorem dX1_turn_39 : decode cX1_turn 39 = .ok (.iconst 4, 1) := by decide +kernel
theorem dX1_turn_40 : decode cX1_turn 40 = .ok (.iload_n 2, 1) := by decide +kernel
theorem dX1_turn_41 : decode cX1_turn 41 = .ok (.invokestatic 50, 3) := by decide +kernel
theorem dX1_turn_44 : decode cX1_turn 44 = .ok (.lstore 11, 2) := by decide +kernel
theorem dX1_turn_46 : decode cX1_turn 46 = .ok (.aload_n 0, 1) := by decide +kernel
theorem dX1_turn_47 : decode cX1_turn 47 = .ok (.getfield 18, 3) := by decide +kernel
theorem dX1_turn_50 : decode cX1_turn 50 = .ok (.iconst 0, 1) := by decide +kernel
theorem dX1_turn_51 : decode cX1_turn 51 = .ok (.lload_n 3, 1) := by decide +kernel
theorem dX1_turn_52 : decode cX1_turn 52 = .ok (.lload 5, 2) := by decide +kernel
theorem dX1_turn_54 : decode cX1_turn 54 = .ok (.ladd, 1) := by decide +kernel
theorem dX1_turn_55 : decode cX1_turn 55 = .ok (.lload 7, 2) := by decide +kernel
theorem dX1_turn_57 : decode cX1_turn 57 = .ok (.ladd, 1) := by decide +kernel
theorem dX1_turn_58 : decode cX1_turn 58 = .ok (.lload 9, 2) := by decide +kernel
theorem dX1_turn_60 : decode cX1_turn 60 = .ok (.ladd, 1) := by decide +kernel
theorem dX1_turn_61 : decode cX1_turn 61 = .ok (.lload 11, 2) := by decide +kernel
theorem dX1_turn_63 : decode cX1_turn 63 = .ok (.ladd, 1) := by decide +kernel
theorem dX1_turn_64 : decode cX1_turn 64 = .ok (.lastore, 1) := by decide +kernel
theorem dX1_turn_65 : decode cX1_turn 65 = .ok (.aload_n 0, 1) := by decide +kernel
theorem dX1_turn_66 : decode cX1_turn 66 = .ok (.getfield 18, 3) := by decide +kernel
theorem dX1_turn_69 : decode cX1_turn 69 = .ok (.iconst 1, 1) := by decide +kernel
theorem dX1_turn_70 : decode cX1_turn 70 = .ok (.ldc2_w 54, 3) := by decide +kernel
theorem dX1_turn_73 : decode cX1_turn 73 = .ok (.lload 11, 2) := by decide +kernel
theorem dX1_turn_75 : decode cX1_turn 75 = .ok (.lload_n 3, 1) := by decide +kernel
theorem dX1_turn_76 : decode cX1_turn 76 = .ok (.lsub, 1) := by decide +kernel
theorem dX1_turn_77 : decode cX1_turn 77 = .ok (.lmul, 1) := by decide +kernel
theorem dX1_turn_78 : decode cX1_turn 78 = .ok (.ldc2_w 56, 3) := by decide +kernel
theorem dX1_turn_81 : decode cX1_turn 81 = .ok (.lload 9, 2) := by decide +kernel
theorem dX1_turn_83 : decode cX1_turn 83 = .ok (.lload 5, 2) := by decide +kernel
theorem dX1_turn_85 : decode cX1_turn 85 = .ok (.lsub, 1) := by decide +kernel
theorem dX1_turn_86 : decode cX1_turn 86 = .ok (.lmul, 1) := by decide +kernel
theorem dX1_turn_87 : decode cX1_turn 87 = .ok (.ladd, 1) := by decide +kernel
theorem dX1_turn_88 : decode cX1_turn 88 = .ok (.lastore, 1) := by decide +kernel
theorem dX1_turn_89 : decode cX1_turn 89 = .ok (.aload_n 0, 1) := by decide +kernel
theorem dX1_turn_90 : decode cX1_turn 90 = .ok (.getfield 18, 3) := by decide +kernel
theorem dX1_turn_93 : decode cX1_turn 93 = .ok (.iconst 2, 1) := by decide +kernel
theorem dX1_turn_94 : decode cX1_turn 94 = .ok (.ldc2_w 58, 3) := by decide +kernel
theorem dX1_turn_97 : decode cX1_turn 97 = .ok (.lload 11, 2) := by decide +kernel
theorem dX1_turn_99 : decode cX1_turn 99 = .ok (.lload_n 3, 1) := by decide +kernel
theorem dX1_turn_100 : decode cX1_turn 100 = .ok (.ladd, 1) := by decide +kernel
theorem dX1_turn_101 : decode cX1_turn 101 = .ok (.lmul, 1) := by decide +kernel
theorem dX1_turn_102 : decode cX1_turn 102 = .ok (.ldc2_w 56, 3) := by decide +kernel
theorem dX1_turn_105 : decode cX1_turn 105 = .ok (.lload 7, 2) := by decide +kernel
theorem dX1_turn_107 : decode cX1_turn 107 = .ok (.lmul, 1) := by decide +kernel
theorem dX1_turn_108 : decode cX1_turn 108 = .ok (.lsub, 1) := by decide +kernel
theorem dX1_turn_109 : decode cX1_turn 109 = .ok (.lastore, 1) := by decide +kernel
theorem dX1_turn_110 : decode cX1_turn 110 = .ok (.aload_n 0, 1) := by decide +kernel
theorem dX1_turn_111 : decode cX1_turn 111 = .ok (.getfield 18, 3) := by decide +kernel
theorem dX1_turn_114 : decode cX1_turn 114 = .ok (.iconst 3, 1) := by decide +kernel
theorem dX1_turn_115 : decode cX1_turn 115 = .ok (.ldc2_w 54, 3) := by decide +kernel
theorem dX1_turn_118 : decode cX1_turn 118 = .ok (.lload 11, 2) := by decide +kernel
theorem dX1_turn_120 : decode cX1_turn 120 = .ok (.lload_n 3, 1) := by decide +kernel
theorem dX1_turn_121 : decode cX1_turn 121 = .ok (.lsub, 1) := by decide +kernel
theorem dX1_turn_122 : decode cX1_turn 122 = .ok (.lmul, 1) := by decide +kernel
theorem dX1_turn_123 : decode cX1_turn 123 = .ok (.ldc2_w 56, 3) := by decide +kernel
theorem dX1_turn_126 : decode cX1_turn 126 = .ok (.lload 9, 2) := by decide +kernel
theorem dX1_turn_128 : decode cX1_turn 128 = .ok (.lload 5, 2) := by decide +kernel
theorem dX1_turn_130 : decode cX1_turn 130 = .ok (.lsub, 1) := by decide +kernel
theorem dX1_turn_131 : decode cX1_turn 131 = .ok (.lmul, 1) := by decide +kernel
theorem dX1_turn_132 : decode cX1_turn 132 = .ok (.lsub, 1) := by decide +kernel
theorem dX1_turn_133 : decode cX1_turn 133 = .ok (.lastore, 1) := by decide +kernel
theorem dX1_turn_134 : decode cX1_turn 134 = .ok (.aload_n 0, 1) := by decide +kernel
theorem dX1_turn_135 : decode cX1_turn 135 = .ok (.getfield 18, 3) := by decide +kernel
theorem dX1_turn_138 : decode cX1_turn 138 = .ok (.iconst 4, 1) := by decide +kernel
theorem dX1_turn_139 : decode cX1_turn 139 = .ok (.lload_n 3, 1) := by decide +kernel
theorem dX1_turn_140 : decode cX1_turn 140 = .ok (.lload 5, 2) := by decide +kernel
theorem dX1_turn_142 : decode cX1_turn 142 = .ok (.lsub, 1) := by decide +kernel
theorem dX1_turn_143 : decode cX1_turn 143 = .ok (.lload 7, 2) := by decide +kernel
theorem dX1_turn_145 : decode cX1_turn 145 = .ok (.ladd, 1) := by decide +kernel
theorem dX1_turn_146 : decode cX1_turn 146 = .ok (.lload 9, 2) := by decide +kernel
theorem dX1_turn_148 : decode cX1_turn 148 = .ok (.lsub, 1) := by decide +kernel
theorem dX1_turn_149 : decode cX1_turn 149 = .ok (.lload 11, 2) := by decide +kernel
theorem dX1_turn_151 : decode cX1_turn 151 = .ok (.ladd, 1) := by decide +kernel
theorem dX1_turn_152 : decode cX1_turn 152 = .ok (.lastore, 1) := by decide +kernel
theorem dX1_turn_153 : decode cX1_turn 153 = .ok (.return_, 1) := by decide +kernel
theorem dX1_partBelow_0 : decode cX1_partBelow 0 = .ok (.iload_n 1, 1) := by decide +kernel
theorem dX1_partBelow_1 : decode cX1_partBelow 1 = .ok (.iload_n 2, 1) := by decide +kernel
theorem dX1_partBelow_2 : decode cX1_partBelow 2 = .ok (.if_icmp .lt 8, 3) := by decide +kernel
theorem dX1_partBelow_5 : decode cX1_partBelow 5 = .ok (.iload_n 1, 1) := by decide +kernel
theorem dX1_partBelow_6 : decode cX1_partBelow 6 = .ok (.iconst 5, 1) := by decide +kernel
theorem dX1_partBelow_7 : decode cX1_partBelow 7 = .ok (.if_icmp .lt 7, 3) := by decide +kernel
theorem dX1_partBelow_10 : decode cX1_partBelow 10 = .ok (.lconst 0, 1) := by decide +kernel
theorem dX1_partBelow_11 : decode cX1_partBelow 11 = .ok (.goto 8, 3) := by decide +kernel
theorem dX1_partBelow_14 : decode cX1_partBelow 14 = .ok (.aload_n 0, 1) := by decide +kernel
theorem dX1_partBelow_15 : decode cX1_partBelow 15 = .ok (.iload_n 1, 1) := by decide +kernel
theorem dX1_partBelow_16 : decode cX1_partBelow 16 = .ok (.iload_n 2, 1) := by decide +kernel
theorem dX1_partBelow_17 : decode cX1_partBelow 17 = .ok (.isub, 1) := by decide +kernel
theorem dX1_partBelow_18 : decode cX1_partBelow 18 = .ok (.laload, 1) := by decide +kernel
theorem dX1_partBelow_19 : decode cX1_partBelow 19 = .ok (.lreturn, 1) := by decide +kernel
theorem dX1_countByChain_0 : decode cX1_countByChain 0 = .ok (.aload_n 0, 1) := by decide +kernel
theorem dX1_countByChain_1 : decode cX1_countByChain 1 = .ok (.iconst 0, 1) := by decide +kernel
theorem dX1_countByChain_2 : decode cX1_countByChain 2 = .ok (.putfield 22, 3) := by decide +kernel
theorem dX1_countByChain_5 : decode cX1_countByChain 5 = .ok (.aload_n 0, 1) := by decide +kernel
theorem dX1_countByChain_6 : decode cX1_countByChain 6 = .ok (.iconst 0, 1) := by decide +kernel
theorem dX1_countByChain_7 : decode cX1_countByChain 7 = .ok (.putfield 26, 3) := by decide +kernel
theorem dX1_countByChain_10 : decode cX1_countByChain 10 = .ok (.aload_n 0, 1) := by decide +kernel
theorem dX1_countByChain_11 : decode cX1_countByChain 11 = .ok (.iconst 0, 1) := by decide +kernel
theorem dX1_countByChain_12 : decode cX1_countByChain 12 = .ok (.putfield 29, 3) := by decide +kernel
theorem dX1_countByChain_15 : decode cX1_countByChain 15 = .ok (.aload_n 0, 1) := by decide +kernel
theorem dX1_countByChain_16 : decode cX1_countByChain 16 = .ok (.getfield 12, 3) := by decide +kernel
theorem dX1_countByChain_19 : decode cX1_countByChain 19 = .ok (.getfield 60, 3) := by decide +kernel
theorem dX1_countByChain_22 : decode cX1_countByChain 22 = .ok (.ifCond .ne 4, 3) := by decide +kernel
theorem dX1_countByChain_25 : decode cX1_countByChain 25 = .ok (.return_, 1) := by decide +kernel
theorem dX1_countByChain_26 : decode cX1_countByChain 26 = .ok (.aload_n 0, 1) := by decide +kernel
theorem dX1_countByChain_27 : decode cX1_countByChain 27 = .ok (.getfield 12, 3) := by decide +kernel
theorem dX1_countByChain_30 : decode cX1_countByChain 30 = .ok (.getfield 63, 3) := by decide +kernel
theorem dX1_countByChain_33 : decode cX1_countByChain 33 = .ok (.aload_n 0, 1) := by decide +kernel
theorem dX1_countByChain_34 : decode cX1_countByChain 34 = .ok (.getfield 12, 3) := by decide +kernel
theorem dX1_countByChain_37 : decode cX1_countByChain 37 = .ok (.getfield 60, 3) := by decide +kernel
theorem dX1_countByChain_40 : decode cX1_countByChain 40 = .ok (.iconst 1, 1) := by decide +kernel
theorem dX1_countByChain_41 : decode cX1_countByChain 41 = .ok (.isub, 1) := by decide +kernel
theorem dX1_countByChain_42 : decode cX1_countByChain 42 = .ok (.iaload, 1) := by decide +kernel
theorem dX1_countByChain_43 : decode cX1_countByChain 43 = .ok (.istore_n 1, 1) := by decide +kernel
theorem dX1_countByChain_44 : decode cX1_countByChain 44 = .ok (.aload_n 0, 1) := by decide +kernel
theorem dX1_countByChain_45 : decode cX1_countByChain 45 = .ok (.getfield 12, 3) := by decide +kernel
theorem dX1_countByChain_48 : decode cX1_countByChain 48 = .ok (.getfield 63, 3) := by decide +kernel
theorem dX1_countByChain_51 : decode cX1_countByChain 51 = .ok (.iconst 0, 1) := by decide +kernel
theorem dX1_countByChain_52 : decode cX1_countByChain 52 = .ok (.iaload, 1) := by decide +kernel
theorem dX1_countByChain_53 : decode cX1_countByChain 53 = .ok (.iload_n 1, 1) := by decide +kernel
theorem dX1_countByChain_54 : decode cX1_countByChain 54 = .ok (.isub, 1) := by decide +kernel
theorem dX1_countByChain_55 : decode cX1_countByChain 55 = .ok (.istore_n 2, 1) := by decide +kernel
theorem dX1_countByChain_56 : decode cX1_countByChain 56 = .ok (.aload_n 0, 1) := by decide +kernel
theorem dX1_countByChain_57 : decode cX1_countByChain 57 = .ok (.invokevirtual 67, 3) := by decide +kernel
theorem dX1_countByChain_60 : decode cX1_countByChain 60 = .ok (.istore_n 3, 1) := by decide +kernel
theorem dX1_countByChain_61 : decode cX1_countByChain 61 = .ok (.aload_n 0, 1) := by decide +kernel
theorem dX1_countByChain_62 : decode cX1_countByChain 62 = .ok (.aload_n 0, 1) := by decide +kernel
theorem dX1_countByChain_63 : decode cX1_countByChain 63 = .ok (.getfield 12, 3) := by decide +kernel
theorem dX1_countByChain_66 : decode cX1_countByChain 66 = .ok (.getfield 71, 3) := by decide +kernel
theorem dX1_countByChain_69 : decode cX1_countByChain 69 = .ok (.aload_n 0, 1) := by decide +kernel
theorem dX1_countByChain_70 : decode cX1_countByChain 70 = .ok (.getfield 12, 3) := by decide +kernel
theorem dX1_countByChain_73 : decode cX1_countByChain 73 = .ok (.getfield 60, 3) := by decide +kernel
theorem dX1_countByChain_76 : decode cX1_countByChain 76 = .ok (.iconst 1, 1) := by decide +kernel
theorem dX1_countByChain_77 : decode cX1_countByChain 77 = .ok (.isub, 1) := by decide +kernel
theorem dX1_countByChain_78 : decode cX1_countByChain 78 = .ok (.aaload, 1) := by decide +kernel
theorem dX1_countByChain_79 : decode cX1_countByChain 79 = .ok (.iload_n 1, 1) := by decide +kernel
theorem dX1_countByChain_80 : decode cX1_countByChain 80 = .ok (.invokestatic 75, 3) := by decide +kernel
theorem dX1_countByChain_83 : decode cX1_countByChain 83 = .ok (.putfield 26, 3) := by decide +kernel
theorem dX1_countByChain_86 : decode cX1_countByChain 86 = .ok (.aload_n 0, 1) := by decide +kernel
theorem dX1_countByChain_87 : decode cX1_countByChain 87 = .ok (.iload_n 2, 1) := by decide +kernel
theorem dX1_countByChain_88 : decode cX1_countByChain 88 = .ok (.iload_n 3, 1) := by decide +kernel
theorem dX1_countByChain_89 : decode cX1_countByChain 89 = .ok (.isub, 1) := by decide +kernel
theorem dX1_countByChain_90 : decode cX1_countByChain 90 = .ok (.iload_n 1, 1) := by decide +kernel
theorem dX1_countByChain_91 : decode cX1_countByChain 91 = .ok (.iadd, 1) := by decide +kernel
theorem dX1_countByChain_92 : decode cX1_countByChain 92 = .ok (.aload_n 0, 1) := by decide +kernel
theorem dX1_countByChain_93 : decode cX1_countByChain 93 = .ok (.getfield 26, 3) := by decide +kernel
theorem dX1_countByChain_96 : decode cX1_countByChain 96 = .ok (.isub, 1) := by decide +kernel
theorem dX1_countByChain_97 : decode cX1_countByChain 97 = .ok (.iconst 2, 1) := by decide +kernel
theorem dX1_countByChain_98 : decode cX1_countByChain 98 = .ok (.idiv, 1) := by decide +kernel
theorem dX1_countByChain_99 : decode cX1_countByChain 99 = .ok (.putfield 22, 3) := by decide +kernel
theorem dX1_countByChain_102 : decode cX1_countByChain 102 = .ok (.aload_n 0, 1) := by decide +kernel
theorem dX1_countByChain_103 : decode cX1_countByChain 103 = .ok (.iload_n 2, 1) := by decide +kernel
theorem dX1_countByChain_104 : decode cX1_countByChain 104 = .ok (.iload_n 3, 1) := by decide +kernel
theorem dX1_countByChain_105 : decode cX1_countByChain 105 = .ok (.iadd, 1) := by decide +kernel
theorem dX1_countByChain_106 : decode cX1_countByChain 106 = .ok (.iload_n 1, 1) := by decide +kernel
theorem dX1_countByChain_107 : decode cX1_countByChain 107 = .ok (.iadd, 1) := by decide +kernel
theorem dX1_countByChain_108 : decode cX1_countByChain 108 = .ok (.aload_n 0, 1) := by decide +kernel
theorem dX1_countByChain_109 : decode cX1_countByChain 109 = .ok (.getfield 26, 3) := by decide +kernel
theorem dX1_countByChain_112 : decode cX1_countByChain 112 = .ok (.isub, 1) := by decide +kernel
theorem dX1_countByChain_113 : decode cX1_countByChain 113 = .ok (.iconst 2, 1) := by decide +kernel
theorem dX1_countByChain_114 : decode cX1_countByChain 114 = .ok (.idiv, 1) := by decide +kernel
theorem dX1_countByChain_115 : decode cX1_countByChain 115 = .ok (.putfield 29, 3) := by decide +kernel
theorem dX1_countByChain_118 : decode cX1_countByChain 118 = .ok (.return_, 1) := by decide +kernel
theorem dX1_signTurns_0 : decode cX1_signTurns 0 = .ok (.iconst 0, 1) := by decide +kernel
theorem dX1_signTurns_1 : decode cX1_signTurns 1 = .ok (.istore_n 1, 1) := by decide +kernel
theorem dX1_signTurns_2 : decode cX1_signTurns 2 = .ok (.aload_n 0, 1) := by decide +kernel
theorem dX1_signTurns_3 : decode cX1_signTurns 3 = .ok (.getfield 12, 3) := by decide +kernel
theorem dX1_signTurns_6 : decode cX1_signTurns 6 = .ok (.getfield 63, 3) := by decide +kernel
theorem dX1_signTurns_9 : decode cX1_signTurns 9 = .ok (.iconst 0, 1) := by decide +kernel
theorem dX1_signTurns_10 : decode cX1_signTurns 10 = .ok (.iaload, 1) := by decide +kernel
theorem dX1_signTurns_11 : decode cX1_signTurns 11 = .ok (.iconst 1, 1) := by decide +kernel
theorem dX1_signTurns_12 : decode cX1_signTurns 12 = .ok (.iadd, 1) := by decide +kernel
theorem dX1_signTurns_13 : decode cX1_signTurns 13 = .ok (.istore_n 2, 1) := by decide +kernel
theorem dX1_signTurns_14 : decode cX1_signTurns 14 = .ok (.aload_n 0, 1) := by decide +kernel
theorem dX1_signTurns_15 : decode cX1_signTurns 15 = .ok (.getfield 12, 3) := by decide +kernel
theorem dX1_signTurns_18 : decode cX1_signTurns 18 = .ok (.getfield 63, 3) := by decide +kernel
theorem dX1_signTurns_21 : decode cX1_signTurns 21 = .ok (.iconst 0, 1) := by decide +kernel
theorem dX1_signTurns_22 : decode cX1_signTurns 22 = .ok (.iaload, 1) := by decide +kernel
theorem dX1_signTurns_23 : decode cX1_signTurns 23 = .ok (.istore_n 3, 1) := by decide +kernel
theorem dX1_signTurns_24 : decode cX1_signTurns 24 = .ok (.aload_n 0, 1) := by decide +kernel
theorem dX1_signTurns_25 : decode cX1_signTurns 25 = .ok (.getfield 12, 3) := by decide +kernel
theorem dX1_signTurns_28 : decode cX1_signTurns 28 = .ok (.getfield 71, 3) := by decide +kernel
theorem dX1_signTurns_31 : decode cX1_signTurns 31 = .ok (.iconst 0, 1) := by decide +kernel
theorem dX1_signTurns_32 : decode cX1_signTurns 32 = .ok (.aaload, 1) := by decide +kernel
theorem dX1_signTurns_33 : decode cX1_signTurns 33 = .ok (.iload_n 3, 1) := by decide +kernel
theorem dX1_signTurns_34 : decode cX1_signTurns 34 = .ok (.laload, 1) := by decide +kernel
theorem dX1_signTurns_35 : decode cX1_signTurns 35 = .ok (.lconst 0, 1) := by decide +kernel
theorem dX1_signTurns_36 : decode cX1_signTurns 36 = .ok (.lcmp, 1) := by decide +kernel
theorem dX1_signTurns_37 : decode cX1_signTurns 37 = .ok (.ifCond .ge 7, 3) := by decide +kernel
theorem dX1_signTurns_40 : decode cX1_signTurns 40 = .ok (.iconst 1, 1) := by decide +kernel
theorem dX1_signTurns_41 : decode cX1_signTurns 41 = .ok (.goto 4, 3) := by decide +kernel
theorem dX1_signTurns_44 : decode cX1_signTurns 44 = .ok (.iconst 0, 1) := by decide +kernel
theorem dX1_signTurns_45 : decode cX1_signTurns 45 = .ok (.istore 4, 2) := by decide +kernel
theorem dX1_signTurns_47 : decode cX1_signTurns 47 = .ok (.iconst 1, 1) := by decide +kernel
theorem dX1_signTurns_48 : decode cX1_signTurns 48 = .ok (.istore 5, 2) := by decide +kernel
theorem dX1_signTurns_50 : decode cX1_signTurns 50 = .ok (.iload 5, 2) := by decide +kernel
theorem dX1_signTurns_52 : decode cX1_signTurns 52 = .ok (.aload_n 0, 1) := by decide +kernel
theorem dX1_signTurns_53 : decode cX1_signTurns 53 = .ok (.getfield 12, 3) := by decide +kernel
theorem dX1_signTurns_56 : decode cX1_signTurns 56 = .ok (.getfield 60, 3) := by decide +kernel
theorem dX1_signTurns_59 : decode cX1_signTurns 59 = .ok (.if_icmp .ge 96, 3) := by decide +kernel
theorem dX1_signTurns_62 : decode cX1_signTurns 62 = .ok (.aload_n 0, 1) := by decide +kernel
theorem dX1_signTurns_63 : decode cX1_signTurns 63 = .ok (.getfield 12, 3) := by decide +kernel
theorem dX1_signTurns_66 : decode cX1_signTurns 66 = .ok (.getfield 63, 3) := by decide +kernel
theorem dX1_signTurns_69 : decode cX1_signTurns 69 = .ok (.iload 5, 2) := by decide +kernel
theorem dX1_signTurns_71 : decode cX1_signTurns 71 = .ok (.iaload, 1) := by decide +kernel
theorem dX1_signTurns_72 : decode cX1_signTurns 72 = .ok (.istore 6, 2) := by decide +kernel
theorem dX1_signTurns_74 : decode cX1_signTurns 74 = .ok (.iload_n 2, 1) := by decide +kernel
theorem dX1_signTurns_75 : decode cX1_signTurns 75 = .ok (.iload 6, 2) := by decide +kernel
theorem dX1_signTurns_77 : decode cX1_signTurns 77 = .ok (.isub, 1) := by decide +kernel
theorem dX1_signTurns_78 : decode cX1_signTurns 78 = .ok (.iconst 4, 1) := by decide +kernel
theorem dX1_signTurns_79 : decode cX1_signTurns 79 = .ok (.irem, 1) := by decide +kernel
theorem dX1_signTurns_80 : decode cX1_signTurns 80 = .ok (.ifCond .ne 7, 3) := by decide +kernel
theorem dX1_signTurns_83 : decode cX1_signTurns 83 = .ok (.iconst 1, 1) := by decide +kernel
theorem dX1_signTurns_84 : decode cX1_signTurns 84 = .ok (.goto 4, 3) := by decide +kernel
theorem dX1_signTurns_87 : decode cX1_signTurns 87 = .ok (.iconst 0, 1) := by decide +kernel
theorem dX1_signTurns_88 : decode cX1_signTurns 88 = .ok (.istore 7, 2) := by decide +kernel
theorem dX1_signTurns_90 : decode cX1_signTurns 90 = .ok (.iload 7, 2) := by decide +kernel
theorem dX1_signTurns_92 : decode cX1_signTurns 92 = .ok (.aload_n 0, 1) := by decide +kernel
theorem dX1_signTurns_93 : decode cX1_signTurns 93 = .ok (.getfield 12, 3) := by decide +kernel
theorem dX1_signTurns_96 : decode cX1_signTurns 96 = .ok (.getfield 71, 3) := by decide +kernel
theorem dX1_signTurns_99 : decode cX1_signTurns 99 = .ok (.iload 5, 2) := by decide +kernel
theorem dX1_signTurns_101 : decode cX1_signTurns 101 = .ok (.aaload, 1) := by decide +kernel
theorem dX1_signTurns_102 : decode cX1_signTurns 102 = .ok (.iload 6, 2) := by decide +kernel
theorem dX1_signTurns_104 : decode cX1_signTurns 104 = .ok (.laload, 1) := by decide +kernel
theorem dX1_signTurns_105 : decode cX1_signTurns 105 = .ok (.lconst 0, 1) := by decide +kernel
theorem dX1_signTurns_106 : decode cX1_signTurns 106 = .ok (.lcmp, 1) := by decide +kernel
theorem dX1_signTurns_107 : decode cX1_signTurns 107 = .ok (.ifCond .ge 7, 3) := by decide +kernel
theorem dX1_signTurns_110 : decode cX1_signTurns 110 = .ok (.iconst 1, 1) := by decide +kernel
theorem dX1_signTurns_111 : decode cX1_signTurns 111 = .ok (.goto 4, 3) := by decide +kernel
theorem dX1_signTurns_114 : decode cX1_signTurns 114 = .ok (.iconst 0, 1) := by decide +kernel
theorem dX1_signTurns_115 : decode cX1_signTurns 115 = .ok (.if_icmp .eq 7, 3) := by decide +kernel
theorem dX1_signTurns_118 : decode cX1_signTurns 118 = .ok (.iconst 1, 1) := by decide +kernel
theorem dX1_signTurns_119 : decode cX1_signTurns 119 = .ok (.goto 4, 3) := by decide +kernel
theorem dX1_signTurns_122 : decode cX1_signTurns 122 = .ok (.iconst 0, 1) := by decide +kernel
theorem dX1_signTurns_123 : decode cX1_signTurns 123 = .ok (.istore 8, 2) := by decide +kernel
theorem dX1_signTurns_125 : decode cX1_signTurns 125 = .ok (.iload_n 1, 1) := by decide +kernel
theorem dX1_signTurns_126 : decode cX1_signTurns 126 = .ok (.iload 8, 2) := by decide +kernel
theorem dX1_signTurns_128 : decode cX1_signTurns 128 = .ok (.iload 4, 2) := by decide +kernel
theorem dX1_signTurns_130 : decode cX1_signTurns 130 = .ok (.if_icmp .ne 7, 3) := by decide +kernel
theorem dX1_signTurns_133 : decode cX1_signTurns 133 = .ok (.iconst 1, 1) := by decide +kernel
theorem dX1_signTurns_134 : decode cX1_signTurns 134 = .ok (.goto 4, 3) := by decide +kernel
theorem dX1_signTurns_137 : decode cX1_signTurns 137 = .ok (.iconst (-1), 1) := by decide +kernel
theorem dX1_signTurns_138 : decode cX1_signTurns 138 = .ok (.iadd, 1) := by decide +kernel
theorem dX1_signTurns_139 : decode cX1_signTurns 139 = .ok (.istore_n 1, 1) := by decide +kernel
theorem dX1_signTurns_140 : decode cX1_signTurns 140 = .ok (.iload_n 3, 1) := by decide +kernel
theorem dX1_signTurns_141 : decode cX1_signTurns 141 = .ok (.istore_n 2, 1) := by decide +kernel
theorem dX1_signTurns_142 : decode cX1_signTurns 142 = .ok (.iload 6, 2) := by decide +kernel
theorem dX1_signTurns_144 : decode cX1_signTurns 144 = .ok (.istore_n 3, 1) := by decide +kernel
theorem dX1_signTurns_145 : decode cX1_signTurns 145 = .ok (.iload 8, 2) := by decide +kernel
theorem dX1_signTurns_147 : decode cX1_signTurns 147 = .ok (.istore 4, 2) := by decide +kernel
theorem dX1_signTurns_149 : decode cX1_signTurns 149 = .ok (.iinc 5 1, 3) := by decide +kernel
theorem dX1_signTurns_152 : decode cX1_signTurns 152 = .ok (.goto (-102), 3) := by decide +kernel
theorem dX1_signTurns_155 : decode cX1_signTurns 155 = .ok (.iload_n 1, 1) := by decide +kernel
theorem dX1_signTurns_156 : decode cX1_signTurns 156 = .ok (.ireturn, 1) := by decide +kernel
theorem dX1_rootsOnAxis_0 : decode cX1_rootsOnAxis 0 = .ok (.iconst 0, 1) := by decide +kernel
theorem dX1_rootsOnAxis_1 : decode cX1_rootsOnAxis 1 = .ok (.istore_n 2, 1) := by decide +kernel
theorem dX1_rootsOnAxis_2 : decode cX1_rootsOnAxis 2 = .ok (.iload_n 2, 1) := by decide +kernel
theorem dX1_rootsOnAxis_3 : decode cX1_rootsOnAxis 3 = .ok (.iload_n 1, 1) := by decide +kernel
theorem dX1_rootsOnAxis_4 : decode cX1_rootsOnAxis 4 = .ok (.if_icmp .ge 17, 3) := by decide +kernel
theorem dX1_rootsOnAxis_7 : decode cX1_rootsOnAxis 7 = .ok (.aload_n 0, 1) := by decide +kernel
theorem dX1_rootsOnAxis_8 : decode cX1_rootsOnAxis 8 = .ok (.iload_n 2, 1) := by decide +kernel
theorem dX1_rootsOnAxis_9 : decode cX1_rootsOnAxis 9 = .ok (.laload, 1) := by decide +kernel
theorem dX1_rootsOnAxis_10 : decode cX1_rootsOnAxis 10 = .ok (.lconst 0, 1) := by decide +kernel
theorem dX1_rootsOnAxis_11 : decode cX1_rootsOnAxis 11 = .ok (.lcmp, 1) := by decide +kernel
theorem dX1_rootsOnAxis_12 : decode cX1_rootsOnAxis 12 = .ok (.ifCond .ne 9, 3) := by decide +kernel
theorem dX1_rootsOnAxis_15 : decode cX1_rootsOnAxis 15 = .ok (.iinc 2 1, 3) := by decide +kernel
theorem dX1_rootsOnAxis_18 : decode cX1_rootsOnAxis 18 = .ok (.goto (-16), 3) := by decide +kernel
theorem dX1_rootsOnAxis_21 : decode cX1_rootsOnAxis 21 = .ok (.iload_n 1, 1) := by decide +kernel
theorem dX1_rootsOnAxis_22 : decode cX1_rootsOnAxis 22 = .ok (.iload_n 2, 1) := by decide +kernel
theorem dX1_rootsOnAxis_23 : decode cX1_rootsOnAxis 23 = .ok (.isub, 1) := by decide +kernel
theorem dX1_rootsOnAxis_24 : decode cX1_rootsOnAxis 24 = .ok (.iconst 2, 1) := by decide +kernel
theorem dX1_rootsOnAxis_25 : decode cX1_rootsOnAxis 25 = .ok (.if_icmp .ne 38, 3) := by decide +kernel
theorem dX1_rootsOnAxis_28 : decode cX1_rootsOnAxis 28 = .ok (.aload_n 0, 1) := by decide +kernel
theorem dX1_rootsOnAxis_29 : decode cX1_rootsOnAxis 29 = .ok (.iload_n 1, 1) := by decide +kernel
theorem dX1_rootsOnAxis_30 : decode cX1_rootsOnAxis 30 = .ok (.laload, 1) := by decide +kernel
theorem dX1_rootsOnAxis_31 : decode cX1_rootsOnAxis 31 = .ok (.lconst 0, 1) := by decide +kernel
theorem dX1_rootsOnAxis_32 : decode cX1_rootsOnAxis 32 = .ok (.lcmp, 1) := by decide +kernel
theorem dX1_rootsOnAxis_33 : decode cX1_rootsOnAxis 33 = .ok (.ifCond .ge 7, 3) := by decide +kernel
theorem dX1_rootsOnAxis_36 : decode cX1_rootsOnAxis 36 = .ok (.iconst 1, 1) := by decide +kernel
theorem dX1_rootsOnAxis_37 : decode cX1_rootsOnAxis 37 = .ok (.goto 4, 3) := by decide +kernel
theorem dX1_rootsOnAxis_40 : decode cX1_rootsOnAxis 40 = .ok (.iconst 0, 1) := by decide +kernel
theorem dX1_rootsOnAxis_41 : decode cX1_rootsOnAxis 41 = .ok (.aload_n 0, 1) := by decide +kernel
theorem dX1_rootsOnAxis_42 : decode cX1_rootsOnAxis 42 = .ok (.iload_n 2, 1) := by decide +kernel
theorem dX1_rootsOnAxis_43 : decode cX1_rootsOnAxis 43 = .ok (.laload, 1) := by decide +kernel
theorem dX1_rootsOnAxis_44 : decode cX1_rootsOnAxis 44 = .ok (.lconst 0, 1) := by decide +kernel
theorem dX1_rootsOnAxis_45 : decode cX1_rootsOnAxis 45 = .ok (.lcmp, 1) := by decide +kernel
theorem dX1_rootsOnAxis_46 : decode cX1_rootsOnAxis 46 = .ok (.ifCond .ge 7, 3) := by decide +kernel
theorem dX1_rootsOnAxis_49 : decode cX1_rootsOnAxis 49 = .ok (.iconst 1, 1) := by decide +kernel
theorem dX1_rootsOnAxis_50 : decode cX1_rootsOnAxis 50 = .ok (.goto 4, 3) := by decide +kernel
theorem dX1_rootsOnAxis_53 : decode cX1_rootsOnAxis 53 = .ok (.iconst 0, 1) := by decide +kernel
theorem dX1_rootsOnAxis_54 : decode cX1_rootsOnAxis 54 = .ok (.if_icmp .ne 7, 3) := by decide +kernel
theorem dX1_rootsOnAxis_57 : decode cX1_rootsOnAxis 57 = .ok (.iload_n 1, 1) := by decide +kernel
theorem dX1_rootsOnAxis_58 : decode cX1_rootsOnAxis 58 = .ok (.goto 4, 3) := by decide +kernel
theorem dX1_rootsOnAxis_61 : decode cX1_rootsOnAxis 61 = .ok (.iload_n 2, 1) := by decide +kernel
theorem dX1_rootsOnAxis_62 : decode cX1_rootsOnAxis 62 = .ok (.ireturn, 1) := by decide +kernel
theorem dX1_rootsOnAxis_63 : decode cX1_rootsOnAxis 63 = .ok (.iload_n 1, 1) := by decide +kernel
theorem dX1_rootsOnAxis_64 : decode cX1_rootsOnAxis 64 = .ok (.iload_n 2, 1) := by decide +kernel
theorem dX1_rootsOnAxis_65 : decode cX1_rootsOnAxis 65 = .ok (.isub, 1) := by decide +kernel
theorem dX1_rootsOnAxis_66 : decode cX1_rootsOnAxis 66 = .ok (.iconst 4, 1) := by decide +kernel
theorem dX1_rootsOnAxis_67 : decode cX1_rootsOnAxis 67 = .ok (.if_icmp .ne 16, 3) := by decide +kernel
theorem dX1_rootsOnAxis_70 : decode cX1_rootsOnAxis 70 = .ok (.aload_n 0, 1) := by decide +kernel
theorem dX1_rootsOnAxis_71 : decode cX1_rootsOnAxis 71 = .ok (.iconst 4, 1) := by decide +kernel
theorem dX1_rootsOnAxis_72 : decode cX1_rootsOnAxis 72 = .ok (.laload, 1) := by decide +kernel
theorem dX1_rootsOnAxis_73 : decode cX1_rootsOnAxis 73 = .ok (.aload_n 0, 1) := by decide +kernel
theorem dX1_rootsOnAxis_74 : decode cX1_rootsOnAxis 74 = .ok (.iconst 2, 1) := by decide +kernel
theorem dX1_rootsOnAxis_75 : decode cX1_rootsOnAxis 75 = .ok (.laload, 1) := by decide +kernel
theorem dX1_rootsOnAxis_76 : decode cX1_rootsOnAxis 76 = .ok (.aload_n 0, 1) := by decide +kernel
theorem dX1_rootsOnAxis_77 : decode cX1_rootsOnAxis 77 = .ok (.iconst 0, 1) := by decide +kernel
theorem dX1_rootsOnAxis_78 : decode cX1_rootsOnAxis 78 = .ok (.laload, 1) := by decide +kernel
theorem dX1_rootsOnAxis_79 : decode cX1_rootsOnAxis 79 = .ok (.invokestatic 79, 3) := by decide +kernel
theorem dX1_rootsOnAxis_82 : decode cX1_rootsOnAxis 82 = .ok (.ireturn, 1) := by decide +kernel
theorem dX1_rootsOnAxis_83 : decode cX1_rootsOnAxis 83 = .ok (.iload_n 2, 1) := by decide +kernel
theorem dX1_rootsOnAxis_84 : decode cX1_rootsOnAxis 84 = .ok (.ireturn, 1) := by decide +kernel
theorem dX1_rootsOnAxisOfFour_0 : decode cX1_rootsOnAxisOfFour 0 = .ok (.lload_n 0, 1) := by decide +kernel
theorem dX1_rootsOnAxisOfFour_1 : decode cX1_rootsOnAxisOfFour 1 = .ok (.lconst 0, 1) := by decide +kernel
theorem dX1_rootsOnAxisOfFour_2 : decode cX1_rootsOnAxisOfFour 2 = .ok (.lcmp, 1) := by decide +kernel
theorem dX1_rootsOnAxisOfFour_3 : decode cX1_rootsOnAxisOfFour 3 = .ok (.ifCond .ge 7, 3) := by decide +kernel
theorem dX1_rootsOnAxisOfFour_6 : decode cX1_rootsOnAxisOfFour 6 = .ok (.iconst 1, 1) := by decide +kernel
theorem dX1_rootsOnAxisOfFour_7 : decode cX1_rootsOnAxisOfFour 7 = .ok (.goto 4, 3) := by decide +kernel
theorem dX1_rootsOnAxisOfFour_10 : decode cX1_rootsOnAxisOfFour 10 = .ok (.iconst 0, 1) := by decide +kernel
theorem dX1_rootsOnAxisOfFour_11 : decode cX1_rootsOnAxisOfFour 11 = .ok (.lload 4, 2) := by decide +kernel
theorem dX1_rootsOnAxisOfFour_13 : decode cX1_rootsOnAxisOfFour 13 = .ok (.lconst 0, 1) := by decide +kernel
theorem dX1_rootsOnAxisOfFour_14 : decode cX1_rootsOnAxisOfFour 14 = .ok (.lcmp, 1) := by decide +kernel
theorem dX1_rootsOnAxisOfFour_15 : decode cX1_rootsOnAxisOfFour 15 = .ok (.ifCond .ge 7, 3) := by decide +kernel
theorem dX1_rootsOnAxisOfFour_18 : decode cX1_rootsOnAxisOfFour 18 = .ok (.iconst 1, 1) := by decide +kernel
theorem dX1_rootsOnAxisOfFour_19 : decode cX1_rootsOnAxisOfFour 19 = .ok (.goto 4, 3) := by decide +kernel
theorem dX1_rootsOnAxisOfFour_22 : decode cX1_rootsOnAxisOfFour 22 = .ok (.iconst 0, 1) := by decide +kernel
theorem dX1_rootsOnAxisOfFour_23 : decode cX1_rootsOnAxisOfFour 23 = .ok (.if_icmp .eq 5, 3) := by decide +kernel
theorem dX1_rootsOnAxisOfFour_26 : decode cX1_rootsOnAxisOfFour 26 = .ok (.iconst 2, 1) := by decide +kernel
theorem dX1_rootsOnAxisOfFour_27 : decode cX1_rootsOnAxisOfFour 27 = .ok (.ireturn, 1) := by decide +kernel
theorem dX1_rootsOnAxisOfFour_28 : decode cX1_rootsOnAxisOfFour 28 = .ok (.lload_n 2, 1) := by decide +kernel
theorem dX1_rootsOnAxisOfFour_29 : decode cX1_rootsOnAxisOfFour 29 = .ok (.lload_n 2, 1) := by decide +kernel
theorem dX1_rootsOnAxisOfFour_30 : decode cX1_rootsOnAxisOfFour 30 = .ok (.lmul, 1) := by decide +kernel
theorem dX1_rootsOnAxisOfFour_31 : decode cX1_rootsOnAxisOfFour 31 = .ok (.ldc2_w 54, 3) := by decide +kernel
