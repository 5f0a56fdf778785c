theorem dX5_orderByWidth_50 : decode cX5_orderByWidth 50 = .ok (.iinc 2 (-1), 3) := by decide +kernel
theorem dX5_orderByWidth_53 : decode cX5_orderByWidth 53 = .ok (.goto (-41), 3) := by decide +kernel
theorem dX5_orderByWidth_56 : decode cX5_orderByWidth 56 = .ok (.aload_n 0, 1) := by decide +kernel
theorem dX5_orderByWidth_57 : decode cX5_orderByWidth 57 = .ok (.getfield 29, 3) := by decide +kernel
theorem dX5_orderByWidth_60 : decode cX5_orderByWidth 60 = .ok (.iload_n 2, 1) := by decide +kernel
theorem dX5_orderByWidth_61 : decode cX5_orderByWidth 61 = .ok (.iload_n 1, 1) := by decide +kernel
theorem dX5_orderByWidth_62 : decode cX5_orderByWidth 62 = .ok (.iastore, 1) := by decide +kernel
theorem dX5_orderByWidth_63 : decode cX5_orderByWidth 63 = .ok (.iinc 1 1, 3) := by decide +kernel
theorem dX5_orderByWidth_66 : decode cX5_orderByWidth 66 = .ok (.goto (-64), 3) := by decide +kernel
theorem dX5_orderByWidth_69 : decode cX5_orderByWidth 69 = .ok (.return_, 1) := by decide +kernel
theorem dX5_widthOf_0 : decode cX5_widthOf 0 = .ok (.aload_n 0, 1) := by decide +kernel
theorem dX5_widthOf_1 : decode cX5_widthOf 1 = .ok (.getfield 26, 3) := by decide +kernel
theorem dX5_widthOf_4 : decode cX5_widthOf 4 = .ok (.iload_n 1, 1) := by decide +kernel
theorem dX5_widthOf_5 : decode cX5_widthOf 5 = .ok (.iaload, 1) := by decide +kernel
theorem dX5_widthOf_6 : decode cX5_widthOf 6 = .ok (.aload_n 0, 1) := by decide +kernel
theorem dX5_widthOf_7 : decode cX5_widthOf 7 = .ok (.getfield 23, 3) := by decide +kernel
theorem dX5_widthOf_10 : decode cX5_widthOf 10 = .ok (.iload_n 1, 1) := by decide +kernel
theorem dX5_widthOf_11 : decode cX5_widthOf 11 = .ok (.iaload, 1) := by decide +kernel
theorem dX5_widthOf_12 : decode cX5_widthOf 12 = .ok (.isub, 1) := by decide +kernel
theorem dX5_widthOf_13 : decode cX5_widthOf 13 = .ok (.ireturn, 1) := by decide +kernel
theorem dX6_init_0 : decode cX6_init 0 = .ok (.aload_n 0, 1) := by decide +kernel
theorem dX6_init_1 : decode cX6_init 1 = .ok (.invokespecial 3, 3) := by decide +kernel
theorem dX6_init_4 : decode cX6_init 4 = .ok (.aload_n 0, 1) := by decide +kernel
theorem dX6_init_5 : decode cX6_init 5 = .ok (.bipush 60, 2) := by decide +kernel
theorem dX6_init_7 : decode cX6_init 7 = .ok (.newarray .byte, 2) := by decide +kernel
theorem dX6_init_9 : decode cX6_init 9 = .ok (.putfield 11, 3) := by decide +kernel
theorem dX6_init_12 : decode cX6_init 12 = .ok (.aload_n 0, 1) := by decide +kernel
theorem dX6_init_13 : decode cX6_init 13 = .ok (.bipush 10, 2) := by decide +kernel
theorem dX6_init_15 : decode cX6_init 15 = .ok (.newarray .int, 2) := by decide +kernel
theorem dX6_init_17 : decode cX6_init 17 = .ok (.putfield 15, 3) := by decide +kernel
theorem dX6_init_20 : decode cX6_init 20 = .ok (.aload_n 0, 1) := by decide +kernel
theorem dX6_init_21 : decode cX6_init 21 = .ok (.iconst 0, 1) := by decide +kernel
theorem dX6_init_22 : decode cX6_init 22 = .ok (.putfield 19, 3) := by decide +kernel
theorem dX6_init_25 : decode cX6_init 25 = .ok (.aload_n 0, 1) := by decide +kernel
theorem dX6_init_26 : decode cX6_init 26 = .ok (.iconst 0, 1) := by decide +kernel
theorem dX6_init_27 : decode cX6_init 27 = .ok (.putfield 23, 3) := by decide +kernel
theorem dX6_init_30 : decode cX6_init 30 = .ok (.aload_n 0, 1) := by decide +kernel
theorem dX6_init_31 : decode cX6_init 31 = .ok (.iconst 0, 1) := by decide +kernel
theorem dX6_init_32 : decode cX6_init 32 = .ok (.putfield 27, 3) := by decide +kernel
theorem dX6_init_35 : decode cX6_init 35 = .ok (.aload_n 0, 1) := by decide +kernel
theorem dX6_init_36 : decode cX6_init 36 = .ok (.iconst 0, 1) := by decide +kernel
theorem dX6_init_37 : decode cX6_init 37 = .ok (.putfield 30, 3) := by decide +kernel
theorem dX6_init_40 : decode cX6_init 40 = .ok (.aload_n 0, 1) := by decide +kernel
theorem dX6_init_41 : decode cX6_init 41 = .ok (.iconst 0, 1) := by decide +kernel
theorem dX6_init_42 : decode cX6_init 42 = .ok (.putfield 33, 3) := by decide +kernel
theorem dX6_init_45 : decode cX6_init 45 = .ok (.return_, 1) := by decide +kernel
theorem dX6_append_0 : decode cX6_append 0 = .ok (.aload_n 0, 1) := by decide +kernel
theorem dX6_append_1 : decode cX6_append 1 = .ok (.getfield 23, 3) := by decide +kernel
theorem dX6_append_4 : decode cX6_append 4 = .ok (.bipush 60, 2) := by decide +kernel
theorem dX6_append_6 : decode cX6_append 6 = .ok (.if_icmp .lt 5, 3) := by decide +kernel
theorem dX6_append_9 : decode cX6_append 9 = .ok (.iconst 0, 1) := by decide +kernel
theorem dX6_append_10 : decode cX6_append 10 = .ok (.ireturn, 1) := by decide +kernel
theorem dX6_append_11 : decode cX6_append 11 = .ok (.aload_n 0, 1) := by decide +kernel
theorem dX6_append_12 : decode cX6_append 12 = .ok (.getfield 11, 3) := by decide +kernel
theorem dX6_append_15 : decode cX6_append 15 = .ok (.aload_n 0, 1) := by decide +kernel
theorem dX6_append_16 : decode cX6_append 16 = .ok (.getfield 23, 3) := by decide +kernel
theorem dX6_append_19 : decode cX6_append 19 = .ok (.iload_n 1, 1) := by decide +kernel
theorem dX6_append_20 : decode cX6_append 20 = .ok (.i2b, 1) := by decide +kernel
theorem dX6_append_21 : decode cX6_append 21 = .ok (.bastore, 1) := by decide +kernel
theorem dX6_append_22 : decode cX6_append 22 = .ok (.aload_n 0, 1) := by decide +kernel
theorem dX6_append_23 : decode cX6_append 23 = .ok (.dup, 1) := by decide +kernel
theorem dX6_append_24 : decode cX6_append 24 = .ok (.getfield 23, 3) := by decide +kernel
theorem dX6_append_27 : decode cX6_append 27 = .ok (.iconst 1, 1) := by decide +kernel
theorem dX6_append_28 : decode cX6_append 28 = .ok (.iadd, 1) := by decide +kernel
theorem dX6_append_29 : decode cX6_append 29 = .ok (.putfield 23, 3) := by decide +kernel
theorem dX6_append_32 : decode cX6_append 32 = .ok (.iconst 1, 1) := by decide +kernel
theorem dX6_append_33 : decode cX6_append 33 = .ok (.ireturn, 1) := by decide +kernel
theorem dX6_readText_0 : decode cX6_readText 0 = .ok (.aload_n 0, 1) := by decide +kernel
theorem dX6_readText_1 : decode cX6_readText 1 = .ok (.getfield 15, 3) := by decide +kernel
theorem dX6_readText_4 : decode cX6_readText 4 = .ok (.iconst 0, 1) := by decide +kernel
theorem dX6_readText_5 : decode cX6_readText 5 = .ok (.invokestatic 36, 3) := by decide +kernel
theorem dX6_readText_8 : decode cX6_readText 8 = .ok (.aload_n 0, 1) := by decide +kernel
theorem dX6_readText_9 : decode cX6_readText 9 = .ok (.iconst 0, 1) := by decide +kernel
theorem dX6_readText_10 : decode cX6_readText 10 = .ok (.putfield 19, 3) := by decide +kernel
theorem dX6_readText_13 : decode cX6_readText 13 = .ok (.aload_n 0, 1) := by decide +kernel
theorem dX6_readText_14 : decode cX6_readText 14 = .ok (.iconst 0, 1) := by decide +kernel
theorem dX6_readText_15 : decode cX6_readText 15 = .ok (.putfield 27, 3) := by decide +kernel
theorem dX6_readText_18 : decode cX6_readText 18 = .ok (.aload_n 0, 1) := by decide +kernel
theorem dX6_readText_19 : decode cX6_readText 19 = .ok (.iconst 0, 1) := by decide +kernel
theorem dX6_readText_20 : decode cX6_readText 20 = .ok (.invokevirtual 42, 3) := by decide +kernel
theorem dX6_readText_23 : decode cX6_readText 23 = .ok (.istore_n 1, 1) := by decide +kernel
theorem dX6_readText_24 : decode cX6_readText 24 = .ok (.iload_n 1, 1) := by decide +kernel
theorem dX6_readText_25 : decode cX6_readText 25 = .ok (.iconst (-1), 1) := by decide +kernel
theorem dX6_readText_26 : decode cX6_readText 26 = .ok (.if_icmp .ne 33, 3) := by decide +kernel
theorem dX6_readText_29 : decode cX6_readText 29 = .ok (.aload_n 0, 1) := by decide +kernel
theorem dX6_readText_30 : decode cX6_readText 30 = .ok (.invokevirtual 46, 3) := by decide +kernel
theorem dX6_readText_33 : decode cX6_readText 33 = .ok (.bipush 59, 2) := by decide +kernel
theorem dX6_readText_35 : decode cX6_readText 35 = .ok (.if_icmp .ne 24, 3) := by decide +kernel
theorem dX6_readText_38 : decode cX6_readText 38 = .ok (.aload_n 0, 1) := by decide +kernel
theorem dX6_readText_39 : decode cX6_readText 39 = .ok (.dup, 1) := by decide +kernel
theorem dX6_readText_40 : decode cX6_readText 40 = .ok (.getfield 27, 3) := by decide +kernel
theorem dX6_readText_43 : decode cX6_readText 43 = .ok (.iconst 1, 1) := by decide +kernel
theorem dX6_readText_44 : decode cX6_readText 44 = .ok (.iadd, 1) := by decide +kernel
theorem dX6_readText_45 : decode cX6_readText 45 = .ok (.putfield 27, 3) := by decide +kernel
theorem dX6_readText_48 : decode cX6_readText 48 = .ok (.aload_n 0, 1) := by decide +kernel
theorem dX6_readText_49 : decode cX6_readText 49 = .ok (.iconst 1, 1) := by decide +kernel
theorem dX6_readText_50 : decode cX6_readText 50 = .ok (.putfield 19, 3) := by decide +kernel
theorem dX6_readText_53 : decode cX6_readText 53 = .ok (.aload_n 0, 1) := by decide +kernel
theorem dX6_readText_54 : decode cX6_readText 54 = .ok (.iconst 5, 1) := by decide +kernel
theorem dX6_readText_55 : decode cX6_readText 55 = .ok (.invokevirtual 42, 3) := by decide +kernel
theorem dX6_readText_58 : decode cX6_readText 58 = .ok (.istore_n 1, 1) := by decide +kernel
theorem dX6_readText_59 : decode cX6_readText 59 = .ok (.iload_n 1, 1) := by decide +kernel
theorem dX6_readText_60 : decode cX6_readText 60 = .ok (.iconst (-1), 1) := by decide +kernel
theorem dX6_readText_61 : decode cX6_readText 61 = .ok (.if_icmp .ne 16, 3) := by decide +kernel
theorem dX6_readText_64 : decode cX6_readText 64 = .ok (.aload_n 0, 1) := by decide +kernel
theorem dX6_readText_65 : decode cX6_readText 65 = .ok (.invokevirtual 46, 3) := by decide +kernel
theorem dX6_readText_68 : decode cX6_readText 68 = .ok (.iconst (-1), 1) := by decide +kernel
theorem dX6_readText_69 : decode cX6_readText 69 = .ok (.if_icmp .eq 8, 3) := by decide +kernel
theorem dX6_readText_72 : decode cX6_readText 72 = .ok (.aload_n 0, 1) := by decide +kernel
theorem dX6_readText_73 : decode cX6_readText 73 = .ok (.getfield 27, 3) := by decide +kernel
theorem dX6_readText_76 : decode cX6_readText 76 = .ok (.istore_n 1, 1) := by decide +kernel
theorem dX6_readText_77 : decode cX6_readText 77 = .ok (.iload_n 1, 1) := by decide +kernel
theorem dX6_readText_78 : decode cX6_readText 78 = .ok (.ireturn, 1) := by decide +kernel
theorem dX6_readTerms_0 : decode cX6_readTerms 0 = .ok (.iconst 5, 1) := by decide +kernel
theorem dX6_readTerms_1 : decode cX6_readTerms 1 = .ok (.istore_n 2, 1) := by decide +kernel
theorem dX6_readTerms_2 : decode cX6_readTerms 2 = .ok (.iconst 1, 1) := by decide +kernel
theorem dX6_readTerms_3 : decode cX6_readTerms 3 = .ok (.istore_n 3, 1) := by decide +kernel
theorem dX6_readTerms_4 : decode cX6_readTerms 4 = .ok (.aload_n 0, 1) := by decide +kernel
theorem dX6_readTerms_5 : decode cX6_readTerms 5 = .ok (.invokevirtual 46, 3) := by decide +kernel
theorem dX6_readTerms_8 : decode cX6_readTerms 8 = .ok (.bipush 45, 2) := by decide +kernel
theorem dX6_readTerms_10 : decode cX6_readTerms 10 = .ok (.if_icmp .ne 15, 3) := by decide +kernel
theorem dX6_readTerms_13 : decode cX6_readTerms 13 = .ok (.iconst (-1), 1) := by decide +kernel
theorem dX6_readTerms_14 : decode cX6_readTerms 14 = .ok (.istore_n 3, 1) := by decide +kernel
theorem dX6_readTerms_15 : decode cX6_readTerms 15 = .ok (.aload_n 0, 1) := by decide +kernel
theorem dX6_readTerms_16 : decode cX6_readTerms 16 = .ok (.dup, 1) := by decide +kernel
theorem dX6_readTerms_17 : decode cX6_readTerms 17 = .ok (.getfield 27, 3) := by decide +kernel
theorem dX6_readTerms_20 : decode cX6_readTerms 20 = .ok (.iconst 1, 1) := by decide +kernel
theorem dX6_readTerms_21 : decode cX6_readTerms 21 = .ok (.iadd, 1) := by decide +kernel
theorem dX6_readTerms_22 : decode cX6_readTerms 22 = .ok (.putfield 27, 3) := by decide +kernel
theorem dX6_readTerms_25 : decode cX6_readTerms 25 = .ok (.iconst 0, 1) := by decide +kernel
theorem dX6_readTerms_26 : decode cX6_readTerms 26 = .ok (.istore 4, 2) := by decide +kernel
theorem dX6_readTerms_28 : decode cX6_readTerms 28 = .ok (.iload 4, 2) := by decide +kernel
theorem dX6_readTerms_30 : decode cX6_readTerms 30 = .ok (.bipush 60, 2) := by decide +kernel
theorem dX6_readTerms_32 : decode cX6_readTerms 32 = .ok (.if_icmp .ge 105, 3) := by decide +kernel
theorem dX6_readTerms_35 : decode cX6_readTerms 35 = .ok (.aload_n 0, 1) := by decide +kernel
theorem dX6_readTerms_36 : decode cX6_readTerms 36 = .ok (.invokevirtual 46, 3) := by decide +kernel
theorem dX6_readTerms_39 : decode cX6_readTerms 39 = .ok (.pop, 1) := by decide +kernel
theorem dX6_readTerms_40 : decode cX6_readTerms 40 = .ok (.aload_n 0, 1) := by decide +kernel
theorem dX6_readTerms_41 : decode cX6_readTerms 41 = .ok (.getfield 27, 3) := by decide +kernel
theorem dX6_readTerms_44 : decode cX6_readTerms 44 = .ok (.istore 5, 2) := by decide +kernel
theorem dX6_readTerms_46 : decode cX6_readTerms 46 = .ok (.aload_n 0, 1) := by decide +kernel
theorem dX6_readTerms_47 : decode cX6_readTerms 47 = .ok (.invokevirtual 50, 3) := by decide +kernel
theorem dX6_readTerms_50 : decode cX6_readTerms 50 = .ok (.ifCond .eq 11, 3) := by decide +kernel
theorem dX6_readTerms_53 : decode cX6_readTerms 53 = .ok (.aload_n 0, 1) := by decide +kernel
theorem dX6_readTerms_54 : decode cX6_readTerms 54 = .ok (.getfield 33, 3) := by decide +kernel
theorem dX6_readTerms_57 : decode cX6_readTerms 57 = .ok (.iload_n 2, 1) := by decide +kernel
theorem dX6_readTerms_58 : decode cX6_readTerms 58 = .ok (.if_icmp .lt 6, 3) := by decide +kernel
theorem dX6_readTerms_61 : decode cX6_readTerms 61 = .ok (.iload 5, 2) := by decide +kernel
theorem dX6_readTerms_63 : decode cX6_readTerms 63 = .ok (.ireturn, 1) := by decide +kernel
theorem dX6_readTerms_64 : decode cX6_readTerms 64 = .ok (.aload_n 0, 1) := by decide +kernel
theorem dX6_readTerms_65 : decode cX6_readTerms 65 = .ok (.getfield 15, 3) := by decide +kernel
theorem dX6_readTerms_68 : decode cX6_readTerms 68 = .ok (.iload_n 1, 1) := by decide +kernel
theorem dX6_readTerms_69 : decode cX6_readTerms 69 = .ok (.aload_n 0, 1) := by decide +kernel
theorem dX6_readTerms_70 : decode cX6_readTerms 70 = .ok (.getfield 33, 3) := by decide +kernel
theorem dX6_readTerms_73 : decode cX6_readTerms 73 = .ok (.iadd, 1) := by decide +kernel
theorem dX6_readTerms_74 : decode cX6_readTerms 74 = .ok (.iload_n 3, 1) := by decide +kernel
theorem dX6_readTerms_75 : decode cX6_readTerms 75 = .ok (.aload_n 0, 1) := by decide +kernel
theorem dX6_readTerms_76 : decode cX6_readTerms 76 = .ok (.getfield 30, 3) := by decide +kernel
theorem dX6_readTerms_79 : decode cX6_readTerms 79 = .ok (.imul, 1) := by decide +kernel
theorem dX6_readTerms_80 : decode cX6_readTerms 80 = .ok (.iastore, 1) := by decide +kernel
theorem dX6_readTerms_81 : decode cX6_readTerms 81 = .ok (.aload_n 0, 1) := by decide +kernel
theorem dX6_readTerms_82 : decode cX6_readTerms 82 = .ok (.getfield 33, 3) := by decide +kernel
theorem dX6_readTerms_85 : decode cX6_readTerms 85 = .ok (.istore_n 2, 1) := by decide +kernel
theorem dX6_readTerms_86 : decode cX6_readTerms 86 = .ok (.aload_n 0, 1) := by decide +kernel
theorem dX6_readTerms_87 : decode cX6_readTerms 87 = .ok (.invokevirtual 46, 3) := by decide +kernel
theorem dX6_readTerms_90 : decode cX6_readTerms 90 = .ok (.istore 6, 2) := by decide +kernel
theorem dX6_readTerms_92 : decode cX6_readTerms 92 = .ok (.iload 6, 2) := by decide +kernel
theorem dX6_readTerms_94 : decode cX6_readTerms 94 = .ok (.bipush 43, 2) := by decide +kernel
theorem dX6_readTerms_96 : decode cX6_readTerms 96 = .ok (.if_icmp .eq 12, 3) := by decide +kernel
theorem dX6_readTerms_99 : decode cX6_readTerms 99 = .ok (.iload 6, 2) := by decide +kernel
theorem dX6_readTerms_101 : decode cX6_readTerms 101 = .ok (.bipush 45, 2) := by decide +kernel
theorem dX6_readTerms_103 : decode cX6_readTerms 103 = .ok (.if_icmp .eq 5, 3) := by decide +kernel
theorem dX6_readTerms_106 : decode cX6_readTerms 106 = .ok (.iconst (-1), 1) := by decide +kernel
theorem dX6_readTerms_107 : decode cX6_readTerms 107 = .ok (.ireturn, 1) := by decide +kernel
theorem dX6_readTerms_108 : decode cX6_readTerms 108 = .ok (.iload 6, 2) := by decide +kernel
theorem dX6_readTerms_110 : decode cX6_readTerms 110 = .ok (.bipush 43, 2) := by decide +kernel
theorem dX6_readTerms_112 : decode cX6_readTerms 112 = .ok (.if_icmp .ne 7, 3) := by decide +kernel
theorem dX6_readTerms_115 : decode cX6_readTerms 115 = .ok (.iconst 1, 1) := by decide +kernel
theorem dX6_readTerms_116 : decode cX6_readTerms 116 = .ok (.goto 4, 3) := by decide +kernel
theorem dX6_readTerms_119 : decode cX6_readTerms 119 = .ok (.iconst (-1), 1) := by decide +kernel
theorem dX6_readTerms_120 : decode cX6_readTerms 120 = .ok (.istore_n 3, 1) := by decide +kernel
theorem dX6_readTerms_121 : decode cX6_readTerms 121 = .ok (.aload_n 0, 1) := by decide +kernel
theorem dX6_readTerms_122 : decode cX6_readTerms 122 = .ok (.dup, 1) := by decide +kernel
theorem dX6_readTerms_123 : decode cX6_readTerms 123 = .ok (.getfield 27, 3) := by decide +kernel
theorem dX6_readTerms_126 : decode cX6_readTerms 126 = .ok (.iconst 1, 1) := by decide +kernel
theorem dX6_readTerms_127 : decode cX6_readTerms 127 = .ok (.iadd, 1) := by decide +kernel
theorem dX6_readTerms_128 : decode cX6_readTerms 128 = .ok (.putfield 27, 3) := by decide +kernel
theorem dX6_readTerms_131 : decode cX6_readTerms 131 = .ok (.iinc 4 1, 3) := by decide +kernel
theorem dX6_readTerms_134 : decode cX6_readTerms 134 = .ok (.goto (-106), 3) := by decide +kernel
theorem dX6_readTerms_137 : decode cX6_readTerms 137 = .ok (.aload_n 0, 1) := by decide +kernel
theorem dX6_readTerms_138 : decode cX6_readTerms 138 = .ok (.getfield 27, 3) := by decide +kernel
theorem dX6_readTerms_141 : decode cX6_readTerms 141 = .ok (.ireturn, 1) := by decide +kernel
theorem dX6_readTerm_0 : decode cX6_readTerm 0 = .ok (.aload_n 0, 1) := by decide +kernel
theorem dX6_readTerm_1 : decode cX6_readTerm 1 = .ok (.invokevirtual 46, 3) := by decide +kernel
theorem dX6_readTerm_4 : decode cX6_readTerm 4 = .ok (.istore_n 1, 1) := by decide +kernel
theorem dX6_readTerm_5 : decode cX6_readTerm 5 = .ok (.aload_n 0, 1) := by decide +kernel
theorem dX6_readTerm_6 : decode cX6_readTerm 6 = .ok (.iconst 1, 1) := by decide +kernel
theorem dX6_readTerm_7 : decode cX6_readTerm 7 = .ok (.putfield 30, 3) := by decide +kernel
theorem dX6_readTerm_10 : decode cX6_readTerm 10 = .ok (.aload_n 0, 1) := by decide +kernel
theorem dX6_readTerm_11 : decode cX6_readTerm 11 = .ok (.iconst 0, 1) := by decide +kernel
theorem dX6_readTerm_12 : decode cX6_readTerm 12 = .ok (.putfield 33, 3) := by decide +kernel
theorem dX6_readTerm_15 : decode cX6_readTerm 15 = .ok (.iload_n 1, 1) := by decide +kernel
theorem dX6_readTerm_16 : decode cX6_readTerm 16 = .ok (.bipush 49, 2) := by decide +kernel
theorem dX6_readTerm_18 : decode cX6_readTerm 18 = .ok (.if_icmp .lt 35, 3) := by decide +kernel
theorem dX6_readTerm_21 : decode cX6_readTerm 21 = .ok (.iload_n 1, 1) := by decide +kernel
theorem dX6_readTerm_22 : decode cX6_readTerm 22 = .ok (.bipush 57, 2) := by decide +kernel
theorem dX6_readTerm_24 : decode cX6_readTerm 24 = .ok (.if_icmp .gt 29, 3) := by decide +kernel
theorem dX6_readTerm_27 : decode cX6_readTerm 27 = .ok (.aload_n 0, 1) := by decide +kernel
theorem dX6_readTerm_28 : decode cX6_readTerm 28 = .ok (.iload_n 1, 1) := by decide +kernel
theorem dX6_readTerm_29 : decode cX6_readTerm 29 = .ok (.bipush 48, 2) := by decide +kernel
theorem dX6_readTerm_31 : decode cX6_readTerm 31 = .ok (.isub, 1) := by decide +kernel
theorem dX6_readTerm_32 : decode cX6_readTerm 32 = .ok (.putfield 30, 3) := by decide +kernel
theorem dX6_readTerm_35 : decode cX6_readTerm 35 = .ok (.aload_n 0, 1) := by decide +kernel
theorem dX6_readTerm_36 : decode cX6_readTerm 36 = .ok (.dup, 1) := by decide +kernel
theorem dX6_readTerm_37 : decode cX6_readTerm 37 = .ok (.getfield 27, 3) := by decide +kernel
theorem dX6_readTerm_40 : decode cX6_readTerm 40 = .ok (.iconst 1, 1) := by decide +kernel
theorem dX6_readTerm_41 : decode cX6_readTerm 41 = .ok (.iadd, 1) := by decide +kernel
theorem dX6_readTerm_42 : decode cX6_readTerm 42 = .ok (.putfield 27, 3) := by decide +kernel
theorem dX6_readTerm_45 : decode cX6_readTerm 45 = .ok (.aload_n 0, 1) := by decide +kernel
theorem dX6_readTerm_46 : decode cX6_readTerm 46 = .ok (.invokevirtual 46, 3) := by decide +kernel
theorem dX6_readTerm_49 : decode cX6_readTerm 49 = .ok (.istore_n 1, 1) := by decide +kernel
theorem dX6_readTerm_50 : decode cX6_readTerm 50 = .ok (.goto 11, 3) := by decide +kernel
theorem dX6_readTerm_53 : decode cX6_readTerm 53 = .ok (.iload_n 1, 1) := by decide +kernel
theorem dX6_readTerm_54 : decode cX6_readTerm 54 = .ok (.bipush 115, 2) := by decide +kernel
theorem dX6_readTerm_56 : decode cX6_readTerm 56 = .ok (.if_icmp .eq 5, 3) := by decide +kernel
theorem dX6_readTerm_59 : decode cX6_readTerm 59 = .ok (.iconst 0, 1) := by decide +kernel
theorem dX6_readTerm_60 : decode cX6_readTerm 60 = .ok (.ireturn, 1) := by decide +kernel
theorem dX6_readTerm_61 : decode cX6_readTerm 61 = .ok (.iload_n 1, 1) := by decide +kernel
theorem dX6_readTerm_62 : decode cX6_readTerm 62 = .ok (.bipush 115, 2) := by decide +kernel
theorem dX6_readTerm_64 : decode cX6_readTerm 64 = .ok (.if_icmp .ne 17, 3) := by decide +kernel
theorem dX6_readTerm_67 : decode cX6_readTerm 67 = .ok (.aload_n 0, 1) := by decide +kernel
theorem dX6_readTerm_68 : decode cX6_readTerm 68 = .ok (.dup, 1) := by decide +kernel
theorem dX6_readTerm_69 : decode cX6_readTerm 69 = .ok (.getfield 27, 3) := by decide +kernel
theorem dX6_readTerm_72 : decode cX6_readTerm 72 = .ok (.iconst 1, 1) := by decide +kernel
theorem dX6_readTerm_73 : decode cX6_readTerm 73 = .ok (.iadd, 1) := by decide +kernel
theorem dX6_readTerm_74 : decode cX6_readTerm 74 = .ok (.putfield 27, 3) := by decide +kernel
theorem dX6_readTerm_77 : decode cX6_readTerm 77 = .ok (.aload_n 0, 1) := by decide +kernel
theorem dX6_readTerm_78 : decode cX6_readTerm 78 = .ok (.invokevirtual 54, 3) := by decide +kernel
theorem dX6_readTerm_81 : decode cX6_readTerm 81 = .ok (.iconst 1, 1) := by decide +kernel
theorem dX6_readTerm_82 : decode cX6_readTerm 82 = .ok (.ireturn, 1) := by decide +kernel
theorem dX6_readPower_0 : decode cX6_readPower 0 = .ok (.aload_n 0, 1) := by decide +kernel
theorem dX6_readPower_1 : decode cX6_readPower 1 = .ok (.invokevirtual 46, 3) := by decide +kernel
theorem dX6_readPower_4 : decode cX6_readPower 4 = .ok (.istore_n 1, 1) := by decide +kernel
theorem dX6_readPower_5 : decode cX6_readPower 5 = .ok (.aload_n 0, 1) := by decide +kernel
theorem dX6_readPower_6 : decode cX6_readPower 6 = .ok (.iconst 1, 1) := by decide +kernel
theorem dX6_readPower_7 : decode cX6_readPower 7 = .ok (.putfield 33, 3) := by decide +kernel
theorem dX6_readPower_10 : decode cX6_readPower 10 = .ok (.iload_n 1, 1) := by decide +kernel
theorem dX6_readPower_11 : decode cX6_readPower 11 = .ok (.bipush 50, 2) := by decide +kernel
theorem dX6_readPower_13 : decode cX6_readPower 13 = .ok (.if_icmp .lt 27, 3) := by decide +kernel
theorem dX6_readPower_16 : decode cX6_readPower 16 = .ok (.iload_n 1, 1) := by decide +kernel
theorem dX6_readPower_17 : decode cX6_readPower 17 = .ok (.bipush 52, 2) := by decide +kernel
theorem dX6_readPower_19 : decode cX6_readPower 19 = .ok (.if_icmp .gt 21, 3) := by decide +kernel
theorem dX6_readPower_22 : decode cX6_readPower 22 = .ok (.aload_n 0, 1) := by decide +kernel
theorem dX6_readPower_23 : decode cX6_readPower 23 = .ok (.iload_n 1, 1) := by decide +kernel
theorem dX6_readPower_24 : decode cX6_readPower 24 = .ok (.bipush 48, 2) := by decide +kernel
theorem dX6_readPower_26 : decode cX6_readPower 26 = .ok (.isub, 1) := by decide +kernel
theorem dX6_readPower_27 : decode cX6_readPower 27 = .ok (.putfield 33, 3) := by decide +kernel
theorem dX6_readPower_30 : decode cX6_readPower 30 = .ok (.aload_n 0, 1) := by decide +kernel
theorem dX6_readPower_31 : decode cX6_readPower 31 = .ok (.dup, 1) := by decide +kernel
theorem dX6_readPower_32 : decode cX6_readPower 32 = .ok (.getfield 27, 3) := by decide +kernel
theorem dX6_readPower_35 : decode cX6_readPower 35 = .ok (.iconst 1, 1) := by decide +kernel
theorem dX6_readPower_36 : decode cX6_readPower 36 = .ok (.iadd, 1) := by decide +kernel
theorem dX6_readPower_37 : decode cX6_readPower 37 = .ok (.putfield 27, 3) := by decide +kernel
theorem dX6_readPower_40 : decode cX6_readPower 40 = .ok (.return_, 1) := by decide +kernel
theorem dX6_nextLetter_0 : decode cX6_nextLetter 0 = .ok (.aload_n 0, 1) := by decide +kernel
theorem dX6_nextLetter_1 : decode cX6_nextLetter 1 = .ok (.getfield 27, 3) := by decide +kernel
theorem dX6_nextLetter_4 : decode cX6_nextLetter 4 = .ok (.aload_n 0, 1) := by decide +kernel
theorem dX6_nextLetter_5 : decode cX6_nextLetter 5 = .ok (.getfield 23, 3) := by decide +kernel
theorem dX6_nextLetter_8 : decode cX6_nextLetter 8 = .ok (.if_icmp .ge 30, 3) := by decide +kernel
theorem dX6_nextLetter_11 : decode cX6_nextLetter 11 = .ok (.aload_n 0, 1) := by decide +kernel
theorem dX6_nextLetter_12 : decode cX6_nextLetter 12 = .ok (.getfield 11, 3) := by decide +kernel
theorem dX6_nextLetter_15 : decode cX6_nextLetter 15 = .ok (.aload_n 0, 1) := by decide +kernel
theorem dX6_nextLetter_16 : decode cX6_nextLetter 16 = .ok (.getfield 27, 3) := by decide +kernel
theorem dX6_nextLetter_19 : decode cX6_nextLetter 19 = .ok (.baload, 1) := by decide +kernel
theorem dX6_nextLetter_20 : decode cX6_nextLetter 20 = .ok (.bipush 32, 2) := by decide +kernel
theorem dX6_nextLetter_22 : decode cX6_nextLetter 22 = .ok (.if_icmp .ne 16, 3) := by decide +kernel
theorem dX6_nextLetter_25 : decode cX6_nextLetter 25 = .ok (.aload_n 0, 1) := by decide +kernel
theorem dX6_nextLetter_26 : decode cX6_nextLetter 26 = .ok (.dup, 1) := by decide +kernel
theorem dX6_nextLetter_27 : decode cX6_nextLetter 27 = .ok (.getfield 27, 3) := by decide +kernel
theorem dX6_nextLetter_30 : decode cX6_nextLetter 30 = .ok (.iconst 1, 1) := by decide +kernel
theorem dX6_nextLetter_31 : decode cX6_nextLetter 31 = .ok (.iadd, 1) := by decide +kernel
theorem dX6_nextLetter_32 : decode cX6_nextLetter 32 = .ok (.putfield 27, 3) := by decide +kernel
theorem dX6_nextLetter_35 : decode cX6_nextLetter 35 = .ok (.goto (-35), 3) := by decide +kernel
theorem dX6_nextLetter_38 : decode cX6_nextLetter 38 = .ok (.aload_n 0, 1) := by decide +kernel
theorem dX6_nextLetter_39 : decode cX6_nextLetter 39 = .ok (.getfield 27, 3) := by decide +kernel
theorem dX6_nextLetter_42 : decode cX6_nextLetter 42 = .ok (.ifCond .lt 26, 3) := by decide +kernel
theorem dX6_nextLetter_45 : decode cX6_nextLetter 45 = .ok (.aload_n 0, 1) := by decide +kernel
theorem dX6_nextLetter_46 : decode cX6_nextLetter 46 = .ok (.getfield 27, 3) := by decide +kernel
theorem dX6_nextLetter_49 : decode cX6_nextLetter 49 = .ok (.aload_n 0, 1) := by decide +kernel
theorem dX6_nextLetter_50 : decode cX6_nextLetter 50 = .ok (.getfield 23, 3) := by decide +kernel
theorem dX6_nextLetter_53 : decode cX6_nextLetter 53 = .ok (.if_icmp .ge 15, 3) := by decide +kernel
theorem dX6_nextLetter_56 : decode cX6_nextLetter 56 = .ok (.aload_n 0, 1) := by decide +kernel
theorem dX6_nextLetter_57 : decode cX6_nextLetter 57 = .ok (.getfield 11, 3) := by decide +kernel
theorem dX6_nextLetter_60 : decode cX6_nextLetter 60 = .ok (.aload_n 0, 1) := by decide +kernel
theorem dX6_nextLetter_61 : decode cX6_nextLetter 61 = .ok (.getfield 27, 3) := by decide +kernel
theorem dX6_nextLetter_64 : decode cX6_nextLetter 64 = .ok (.baload, 1) := by decide +kernel
theorem dX6_nextLetter_65 : decode cX6_nextLetter 65 = .ok (.goto 4, 3) := by decide +kernel
theorem dX6_nextLetter_68 : decode cX6_nextLetter 68 = .ok (.iconst (-1), 1) := by decide +kernel
theorem dX6_nextLetter_69 : decode cX6_nextLetter 69 = .ok (.ireturn, 1) := by decide +kernel
theorem dX7_init_0 : decode cX7_init 0 = .ok (.aload_n 0, 1) := by decide +kernel
theorem dX7_init_1 : decode cX7_init 1 = .ok (.invokespecial 3, 3) := by decide +kernel
theorem dX7_init_4 : decode cX7_init 4 = .ok (.aload_n 0, 1) := by decide +kernel
theorem dX7_init_5 : decode cX7_init 5 = .ok (.new 9, 3) := by decide +kernel
theorem dX7_init_8 : decode cX7_init 8 = .ok (.dup, 1) := by decide +kernel
theorem dX7_init_9 : decode cX7_init 9 = .ok (.invokespecial 11, 3) := by decide +kernel
theorem dX7_init_12 : decode cX7_init 12 = .ok (.putfield 12, 3) := by decide +kernel
theorem dX7_init_15 : decode cX7_init 15 = .ok (.aload_n 0, 1) := by decide +kernel
theorem dX7_init_16 : decode cX7_init 16 = .ok (.getfield 12, 3) := by decide +kernel
theorem dX7_init_19 : decode cX7_init 19 = .ok (.invokevirtual 16, 3) := by decide +kernel
theorem dX7_init_22 : decode cX7_init 22 = .ok (.aload_n 0, 1) := by decide +kernel
theorem dX7_init_23 : decode cX7_init 23 = .ok (.new 19, 3) := by decide +kernel
theorem dX7_init_26 : decode cX7_init 26 = .ok (.dup, 1) := by decide +kernel
theorem dX7_init_27 : decode cX7_init 27 = .ok (.invokespecial 21, 3) := by decide +kernel
theorem dX7_init_30 : decode cX7_init 30 = .ok (.putfield 22, 3) := by decide +kernel
theorem dX7_init_33 : decode cX7_init 33 = .ok (.aload_n 0, 1) := by decide +kernel
theorem dX7_init_34 : decode cX7_init 34 = .ok (.new 9, 3) := by decide +kernel
theorem dX7_init_37 : decode cX7_init 37 = .ok (.dup, 1) := by decide +kernel
theorem dX7_init_38 : decode cX7_init 38 = .ok (.invokespecial 11, 3) := by decide +kernel
theorem dX7_init_41 : decode cX7_init 41 = .ok (.putfield 26, 3) := by decide +kernel
theorem dX7_init_44 : decode cX7_init 44 = .ok (.aload_n 0, 1) := by decide +kernel
theorem dX7_init_45 : decode cX7_init 45 = .ok (.new 19, 3) := by decide +kernel
theorem dX7_init_48 : decode cX7_init 48 = .ok (.dup, 1) := by decide +kernel
theorem dX7_init_49 : decode cX7_init 49 = .ok (.invokespecial 21, 3) := by decide +kernel
theorem dX7_init_52 : decode cX7_init 52 = .ok (.putfield 29, 3) := by decide +kernel
theorem dX7_init_55 : decode cX7_init 55 = .ok (.aload_n 0, 1) := by decide +kernel
theorem dX7_init_56 : decode cX7_init 56 = .ok (.iconst 0, 1) := by decide +kernel
theorem dX7_init_57 : decode cX7_init 57 = .ok (.putfield 32, 3) := by decide +kernel
theorem dX7_init_60 : decode cX7_init 60 = .ok (.aload_n 0, 1) := by decide +kernel
theorem dX7_init_61 : decode cX7_init 61 = .ok (.new 36, 3) := by decide +kernel
theorem dX7_init_64 : decode cX7_init 64 = .ok (.dup, 1) := by decide +kernel
theorem dX7_init_65 : decode cX7_init 65 = .ok (.invokespecial 38, 3) := by decide +kernel
theorem dX7_init_68 : decode cX7_init 68 = .ok (.putfield 39, 3) := by decide +kernel
theorem dX7_init_71 : decode cX7_init 71 = .ok (.aload_n 0, 1) := by decide +kernel
theorem dX7_init_72 : decode cX7_init 72 = .ok (.new 43, 3) := by decide +kernel
theorem dX7_init_75 : decode cX7_init 75 = .ok (.dup, 1) := by decide +kernel
theorem dX7_init_76 : decode cX7_init 76 = .ok (.invokespecial 45, 3) := by decide +kernel
theorem dX7_init_79 : decode cX7_init 79 = .ok (.putfield 46, 3) := by decide +kernel
theorem dX7_init_82 : decode cX7_init 82 = .ok (.aload_n 0, 1) := by decide +kernel
theorem dX7_init_83 : decode cX7_init 83 = .ok (.new 50, 3) := by decide +kernel
theorem dX7_init_86 : decode cX7_init 86 = .ok (.dup, 1) := by decide +kernel
theorem dX7_init_87 : decode cX7_init 87 = .ok (.invokespecial 52, 3) := by decide +kernel
theorem dX7_init_90 : decode cX7_init 90 = .ok (.putfield 53, 3) := by decide +kernel
theorem dX7_init_93 : decode cX7_init 93 = .ok (.aload_n 0, 1) := by decide +kernel
theorem dX7_init_94 : decode cX7_init 94 = .ok (.new 57, 3) := by decide +kernel
theorem dX7_init_97 : decode cX7_init 97 = .ok (.dup, 1) := by decide +kernel
theorem dX7_init_98 : decode cX7_init 98 = .ok (.iconst 0, 1) := by decide +kernel
theorem dX7_init_99 : decode cX7_init 99 = .ok (.invokespecial 59, 3) := by decide +kernel
theorem dX7_init_102 : decode cX7_init 102 = .ok (.putfield 62, 3) := by decide +kernel
theorem dX7_init_105 : decode cX7_init 105 = .ok (.aload_n 0, 1) := by decide +kernel
theorem dX7_init_106 : decode cX7_init 106 = .ok (.new 57, 3) := by decide +kernel
theorem dX7_init_109 : decode cX7_init 109 = .ok (.dup, 1) := by decide +kernel
theorem dX7_init_110 : decode cX7_init 110 = .ok (.iconst 1, 1) := by decide +kernel
theorem dX7_init_111 : decode cX7_init 111 = .ok (.invokespecial 59, 3) := by decide +kernel
theorem dX7_init_114 : decode cX7_init 114 = .ok (.putfield 66, 3) := by decide +kernel
theorem dX7_init_117 : decode cX7_init 117 = .ok (.aload_n 0, 1) := by decide +kernel
theorem dX7_init_118 : decode cX7_init 118 = .ok (.iconst 5, 1) := by decide +kernel
theorem dX7_init_119 : decode cX7_init 119 = .ok (.newarray .long, 2) := by decide +kernel
theorem dX7_init_121 : decode cX7_init 121 = .ok (.putfield 69, 3) := by decide +kernel
theorem dX7_init_124 : decode cX7_init 124 = .ok (.return_, 1) := by decide +kernel
theorem dX7_part_0 : decode cX7_part 0 = .ok (.iload_n 1, 1) := by decide +kernel
theorem dX7_part_1 : decode cX7_part 1 = .ok (.iconst 2, 1) := by decide +kernel
theorem dX7_part_2 : decode cX7_part 2 = .ok (.invokestatic 73, 3) := by decide +kernel
theorem dX7_part_5 : decode cX7_part 5 = .ok (.ifCond .eq 19, 3) := by decide +kernel
theorem dX7_part_8 : decode cX7_part 8 = .ok (.iload_n 2, 1) := by decide +kernel
theorem dX7_part_9 : decode cX7_part 9 = .ok (.iconst 5, 1) := by decide +kernel
theorem dX7_part_10 : decode cX7_part 10 = .ok (.invokestatic 73, 3) := by decide +kernel
theorem dX7_part_13 : decode cX7_part 13 = .ok (.ifCond .eq 11, 3) := by decide +kernel
theorem dX7_part_16 : decode cX7_part 16 = .ok (.iload_n 3, 1) := by decide +kernel
theorem dX7_part_17 : decode cX7_part 17 = .ok (.i2l, 1) := by decide +kernel
theorem dX7_part_18 : decode cX7_part 18 = .ok (.invokestatic 77, 3) := by decide +kernel
theorem dX7_part_21 : decode cX7_part 21 = .ok (.ifCond .ne 5, 3) := by decide +kernel
theorem dX7_part_24 : decode cX7_part 24 = .ok (.iconst (-1), 1) := by decide +kernel
theorem dX7_part_25 : decode cX7_part 25 = .ok (.ireturn, 1) := by decide +kernel
theorem dX7_part_26 : decode cX7_part 26 = .ok (.iload_n 1, 1) := by decide +kernel
theorem dX7_part_27 : decode cX7_part 27 = .ok (.iconst 5, 1) := by decide +kernel
theorem dX7_part_28 : decode cX7_part 28 = .ok (.imul, 1) := by decide +kernel
theorem dX7_part_29 : decode cX7_part 29 = .ok (.iload_n 2, 1) := by decide +kernel
theorem dX7_part_30 : decode cX7_part 30 = .ok (.iadd, 1) := by decide +kernel
theorem dX7_part_31 : decode cX7_part 31 = .ok (.istore 4, 2) := by decide +kernel
theorem dX7_part_33 : decode cX7_part 33 = .ok (.aload_n 0, 1) := by decide +kernel
theorem dX7_part_34 : decode cX7_part 34 = .ok (.getfield 12, 3) := by decide +kernel
theorem dX7_part_37 : decode cX7_part 37 = .ok (.getfield 81, 3) := by decide +kernel
theorem dX7_part_40 : decode cX7_part 40 = .ok (.iload 4, 2) := by decide +kernel
theorem dX7_part_42 : decode cX7_part 42 = .ok (.iaload, 1) := by decide +kernel
theorem dX7_part_43 : decode cX7_part 43 = .ok (.istore 5, 2) := by decide +kernel
theorem dX7_part_45 : decode cX7_part 45 = .ok (.iload 5, 2) := by decide +kernel
theorem dX7_part_47 : decode cX7_part 47 = .ok (.iload_n 3, 1) := by decide +kernel
theorem dX7_part_48 : decode cX7_part 48 = .ok (.if_icmp .ne 6, 3) := by decide +kernel
theorem dX7_part_51 : decode cX7_part 51 = .ok (.bipush (-2), 2) := by decide +kernel
theorem dX7_part_53 : decode cX7_part 53 = .ok (.ireturn, 1) := by decide +kernel
theorem dX7_part_54 : decode cX7_part 54 = .ok (.aload_n 0, 1) := by decide +kernel
theorem dX7_part_55 : decode cX7_part 55 = .ok (.getfield 22, 3) := by decide +kernel
theorem dX7_part_58 : decode cX7_part 58 = .ok (.aload_n 0, 1) := by decide +kernel
theorem dX7_part_59 : decode cX7_part 59 = .ok (.getfield 12, 3) := by decide +kernel
theorem dX7_part_62 : decode cX7_part 62 = .ok (.invokevirtual 85, 3) := by decide +kernel
theorem dX7_part_65 : decode cX7_part 65 = .ok (.aload_n 0, 1) := by decide +kernel
theorem dX7_part_66 : decode cX7_part 66 = .ok (.getfield 12, 3) := by decide +kernel
theorem dX7_part_69 : decode cX7_part 69 = .ok (.getfield 81, 3) := by decide +kernel
theorem dX7_part_72 : decode cX7_part 72 = .ok (.iload 4, 2) := by decide +kernel
theorem dX7_part_74 : decode cX7_part 74 = .ok (.iload_n 3, 1) := by decide +kernel
theorem dX7_part_75 : decode cX7_part 75 = .ok (.iastore, 1) := by decide +kernel
theorem dX7_part_76 : decode cX7_part 76 = .ok (.iload 5, 2) := by decide +kernel
theorem dX7_part_78 : decode cX7_part 78 = .ok (.bipush 9, 2) := by decide +kernel
theorem dX7_part_80 : decode cX7_part 80 = .ok (.iadd, 1) := by decide +kernel
theorem dX7_part_81 : decode cX7_part 81 = .ok (.ireturn, 1) := by decide +kernel
theorem dX7_gain_0 : decode cX7_gain 0 = .ok (.iload_n 1, 1) := by decide +kernel
theorem dX7_gain_1 : decode cX7_gain 1 = .ok (.invokestatic 89, 3) := by decide +kernel
theorem dX7_gain_4 : decode cX7_gain 4 = .ok (.ifCond .ne 5, 3) := by decide +kernel
theorem dX7_gain_7 : decode cX7_gain 7 = .ok (.iconst (-1), 1) := by decide +kernel
theorem dX7_gain_8 : decode cX7_gain 8 = .ok (.ireturn, 1) := by decide +kernel
theorem dX7_gain_9 : decode cX7_gain 9 = .ok (.aload_n 0, 1) := by decide +kernel
theorem dX7_gain_10 : decode cX7_gain 10 = .ok (.getfield 12, 3) := by decide +kernel
theorem dX7_gain_13 : decode cX7_gain 13 = .ok (.getfield 93, 3) := by decide +kernel
theorem dX7_gain_16 : decode cX7_gain 16 = .ok (.istore_n 2, 1) := by decide +kernel
theorem dX7_gain_17 : decode cX7_gain 17 = .ok (.iload_n 2, 1) := by decide +kernel
theorem dX7_gain_18 : decode cX7_gain 18 = .ok (.iload_n 1, 1) := by decide +kernel
theorem dX7_gain_19 : decode cX7_gain 19 = .ok (.if_icmp .ne 6, 3) := by decide +kernel
theorem dX7_gain_22 : decode cX7_gain 22 = .ok (.bipush (-2), 2) := by decide +kernel
theorem dX7_gain_24 : decode cX7_gain 24 = .ok (.ireturn, 1) := by decide +kernel
theorem dX7_gain_25 : decode cX7_gain 25 = .ok (.aload_n 0, 1) := by decide +kernel
theorem dX7_gain_26 : decode cX7_gain 26 = .ok (.getfield 22, 3) := by decide +kernel
theorem dX7_gain_29 : decode cX7_gain 29 = .ok (.aload_n 0, 1) := by decide +kernel
theorem dX7_gain_30 : decode cX7_gain 30 = .ok (.getfield 12, 3) := by decide +kernel
theorem dX7_gain_33 : decode cX7_gain 33 = .ok (.invokevirtual 85, 3) := by decide +kernel
theorem dX7_gain_36 : decode cX7_gain 36 = .ok (.aload_n 0, 1) := by decide +kernel
theorem dX7_gain_37 : decode cX7_gain 37 = .ok (.getfield 12, 3) := by decide +kernel
theorem dX7_gain_40 : decode cX7_gain 40 = .ok (.iload_n 1, 1) := by decide +kernel
theorem dX7_gain_41 : decode cX7_gain 41 = .ok (.putfield 93, 3) := by decide +kernel
theorem dX7_gain_44 : decode cX7_gain 44 = .ok (.iload_n 2, 1) := by decide +kernel
theorem dX7_gain_45 : decode cX7_gain 45 = .ok (.sipush 800, 3) := by decide +kernel
theorem dX7_gain_48 : decode cX7_gain 48 = .ok (.iadd, 1) := by decide +kernel
theorem dX7_gain_49 : decode cX7_gain 49 = .ok (.ireturn, 1) := by decide +kernel
theorem dX7_told_0 : decode cX7_told 0 = .ok (.iload_n 1, 1) := by decide +kernel
theorem dX7_told_1 : decode cX7_told 1 = .ok (.iconst 2, 1) := by decide +kernel
theorem dX7_told_2 : decode cX7_told 2 = .ok (.invokestatic 73, 3) := by decide +kernel
theorem dX7_told_5 : decode cX7_told 5 = .ok (.ifCond .eq 11, 3) := by decide +kernel
theorem dX7_told_8 : decode cX7_told 8 = .ok (.iload_n 2, 1) := by decide +kernel
theorem dX7_told_9 : decode cX7_told 9 = .ok (.iconst 5, 1) := by decide +kernel
theorem dX7_told_10 : decode cX7_told 10 = .ok (.invokestatic 73, 3) := by decide +kernel
theorem dX7_told_13 : decode cX7_told 13 = .ok (.ifCond .ne 5, 3) := by decide +kernel
theorem dX7_told_16 : decode cX7_told 16 = .ok (.iconst (-1), 1) := by decide +kernel
theorem dX7_told_17 : decode cX7_told 17 = .ok (.ireturn, 1) := by decide +kernel
theorem dX7_told_18 : decode cX7_told 18 = .ok (.aload_n 0, 1) := by decide +kernel
theorem dX7_told_19 : decode cX7_told 19 = .ok (.getfield 12, 3) := by decide +kernel
theorem dX7_told_22 : decode cX7_told 22 = .ok (.getfield 81, 3) := by decide +kernel
theorem dX7_told_25 : decode cX7_told 25 = .ok (.iload_n 1, 1) := by decide +kernel
theorem dX7_told_26 : decode cX7_told 26 = .ok (.iconst 5, 1) := by decide +kernel
theorem dX7_told_27 : decode cX7_told 27 = .ok (.imul, 1) := by decide +kernel
theorem dX7_told_28 : decode cX7_told 28 = .ok (.iload_n 2, 1) := by decide +kernel
theorem dX7_told_29 : decode cX7_told 29 = .ok (.iadd, 1) := by decide +kernel
theorem dX7_told_30 : decode cX7_told 30 = .ok (.iaload, 1) := by decide +kernel
theorem dX7_told_31 : decode cX7_told 31 = .ok (.bipush 9, 2) := by decide +kernel
theorem dX7_told_33 : decode cX7_told 33 = .ok (.iadd, 1) := by decide +kernel
theorem dX7_told_34 : decode cX7_told 34 = .ok (.ireturn, 1) := by decide +kernel
theorem dX7_count_0 : decode cX7_count 0 = .ok (.iload_n 1, 1) := by decide +kernel
theorem dX7_count_1 : decode cX7_count 1 = .ok (.tableswitch 108 0 4 #[35, 47, 59, 71, 100], 35) := by decide +kernel
theorem dX7_count_36 : decode cX7_count 36 = .ok (.aload_n 0, 1) := by decide +kernel
theorem dX7_count_37 : decode cX7_count 37 = .ok (.getfield 12, 3) := by decide +kernel
theorem dX7_count_40 : decode cX7_count 40 = .ok (.getfield 93, 3) := by decide +kernel
theorem dX7_count_43 : decode cX7_count 43 = .ok (.sipush 800, 3) := by decide +kernel
theorem dX7_count_46 : decode cX7_count 46 = .ok (.iadd, 1) := by decide +kernel
theorem dX7_count_47 : decode cX7_count 47 = .ok (.ireturn, 1) := by decide +kernel
theorem dX7_count_48 : decode cX7_count 48 = .ok (.aload_n 0, 1) := by decide +kernel
theorem dX7_count_49 : decode cX7_count 49 = .ok (.getfield 12, 3) := by decide +kernel
theorem dX7_count_52 : decode cX7_count 52 = .ok (.iconst 0, 1) := by decide +kernel
theorem dX7_count_53 : decode cX7_count 53 = .ok (.invokevirtual 97, 3) := by decide +kernel
theorem dX7_count_56 : decode cX7_count 56 = .ok (.invokestatic 101, 3) := by decide +kernel
theorem dX7_count_59 : decode cX7_count 59 = .ok (.ireturn, 1) := by decide +kernel
theorem dX7_count_60 : decode cX7_count 60 = .ok (.aload_n 0, 1) := by decide +kernel
theorem dX7_count_61 : decode cX7_count 61 = .ok (.getfield 12, 3) := by decide +kernel
theorem dX7_count_64 : decode cX7_count 64 = .ok (.iconst 1, 1) := by decide +kernel
theorem dX7_count_65 : decode cX7_count 65 = .ok (.invokevirtual 97, 3) := by decide +kernel
theorem dX7_count_68 : decode cX7_count 68 = .ok (.invokestatic 101, 3) := by decide +kernel
theorem dX7_count_71 : decode cX7_count 71 = .ok (.ireturn, 1) := by decide +kernel
theorem dX7_count_72 : decode cX7_count 72 = .ok (.aload_n 0, 1) := by decide +kernel
theorem dX7_count_73 : decode cX7_count 73 = .ok (.getfield 12, 3) := by decide +kernel
theorem dX7_count_76 : decode cX7_count 76 = .ok (.aload_n 0, 1) := by decide +kernel
theorem dX7_count_77 : decode cX7_count 77 = .ok (.getfield 69, 3) := by decide +kernel
theorem dX7_count_80 : decode cX7_count 80 = .ok (.aload_n 0, 1) := by decide +kernel
theorem dX7_count_81 : decode cX7_count 81 = .ok (.getfield 12, 3) := by decide +kernel
theorem dX7_count_84 : decode cX7_count 84 = .ok (.getfield 93, 3) := by decide +kernel
theorem dX7_count_87 : decode cX7_count 87 = .ok (.invokevirtual 104, 3) := by decide +kernel
theorem dX7_count_90 : decode cX7_count 90 = .ok (.aload_n 0, 1) := by decide +kernel
theorem dX7_count_91 : decode cX7_count 91 = .ok (.getfield 69, 3) := by decide +kernel
theorem dX7_count_94 : decode cX7_count 94 = .ok (.invokestatic 108, 3) := by decide +kernel
theorem dX7_count_97 : decode cX7_count 97 = .ok (.invokestatic 101, 3) := by decide +kernel
theorem dX7_count_100 : decode cX7_count 100 = .ok (.ireturn, 1) := by decide +kernel
theorem dX7_count_101 : decode cX7_count 101 = .ok (.aload_n 0, 1) := by decide +kernel
theorem dX7_count_102 : decode cX7_count 102 = .ok (.getfield 22, 3) := by decide +kernel
theorem dX7_count_105 : decode cX7_count 105 = .ok (.getfield 112, 3) := by decide +kernel
theorem dX7_count_108 : decode cX7_count 108 = .ok (.ireturn, 1) := by decide +kernel
theorem dX7_count_109 : decode cX7_count 109 = .ok (.iconst (-1), 1) := by decide +kernel
theorem dX7_count_110 : decode cX7_count 110 = .ok (.ireturn, 1) := by decide +kernel
theorem dX7_roots_0 : decode cX7_roots 0 = .ok (.aload_n 0, 1) := by decide +kernel
theorem dX7_roots_1 : decode cX7_roots 1 = .ok (.iload_n 1, 1) := by decide +kernel
theorem dX7_roots_2 : decode cX7_roots 2 = .ok (.aload_n 0, 1) := by decide +kernel
theorem dX7_roots_3 : decode cX7_roots 3 = .ok (.getfield 12, 3) := by decide +kernel
theorem dX7_roots_6 : decode cX7_roots 6 = .ok (.getfield 93, 3) := by decide +kernel
theorem dX7_roots_9 : decode cX7_roots 9 = .ok (.iload_n 2, 1) := by decide +kernel
theorem dX7_roots_10 : decode cX7_roots 10 = .ok (.invokevirtual 115, 3) := by decide +kernel
theorem dX7_roots_13 : decode cX7_roots 13 = .ok (.ireturn, 1) := by decide +kernel
theorem dX7_at_0 : decode cX7_at 0 = .ok (.aload_n 0, 1) := by decide +kernel
theorem dX7_at_1 : decode cX7_at 1 = .ok (.iload_n 1, 1) := by decide +kernel
theorem dX7_at_2 : decode cX7_at 2 = .ok (.iload_n 2, 1) := by decide +kernel
theorem dX7_at_3 : decode cX7_at 3 = .ok (.iload_n 3, 1) := by decide +kernel
theorem dX7_at_4 : decode cX7_at 4 = .ok (.invokevirtual 115, 3) := by decide +kernel
theorem dX7_at_7 : decode cX7_at 7 = .ok (.ireturn, 1) := by decide +kernel
theorem dX7_row_0 : decode cX7_row 0 = .ok (.iload_n 1, 1) := by decide +kernel
theorem dX7_row_1 : decode cX7_row 1 = .ok (.ifCond .lt 19, 3) := by decide +kernel
theorem dX7_row_4 : decode cX7_row 4 = .ok (.iload_n 2, 1) := by decide +kernel
theorem dX7_row_5 : decode cX7_row 5 = .ok (.iconst 5, 1) := by decide +kernel
theorem dX7_row_6 : decode cX7_row 6 = .ok (.invokestatic 73, 3) := by decide +kernel
theorem dX7_row_9 : decode cX7_row 9 = .ok (.ifCond .eq 11, 3) := by decide +kernel
theorem dX7_row_12 : decode cX7_row 12 = .ok (.iload_n 3, 1) := by decide +kernel
theorem dX7_row_13 : decode cX7_row 13 = .ok (.iconst 2, 1) := by decide +kernel
theorem dX7_row_14 : decode cX7_row 14 = .ok (.invokestatic 73, 3) := by decide +kernel
theorem dX7_row_17 : decode cX7_row 17 = .ok (.ifCond .ne 7, 3) := by decide +kernel
theorem dX7_row_20 : decode cX7_row 20 = .ok (.ldc2_w 119, 3) := by decide +kernel
theorem dX7_row_23 : decode cX7_row 23 = .ok (.lreturn, 1) := by decide +kernel
theorem dX7_row_24 : decode cX7_row 24 = .ok (.aload_n 0, 1) := by decide +kernel
theorem dX7_row_25 : decode cX7_row 25 = .ok (.getfield 12, 3) := by decide +kernel
theorem dX7_row_28 : decode cX7_row 28 = .ok (.aload_n 0, 1) := by decide +kernel
theorem dX7_row_29 : decode cX7_row 29 = .ok (.getfield 69, 3) := by decide +kernel
theorem dX7_row_32 : decode cX7_row 32 = .ok (.aload_n 0, 1) := by decide +kernel
theorem dX7_row_33 : decode cX7_row 33 = .ok (.getfield 12, 3) := by decide +kernel
theorem dX7_row_36 : decode cX7_row 36 = .ok (.getfield 93, 3) := by decide +kernel
theorem dX7_row_39 : decode cX7_row 39 = .ok (.invokevirtual 104, 3) := by decide +kernel
theorem dX7_row_42 : decode cX7_row 42 = .ok (.aload_n 0, 1) := by decide +kernel
theorem dX7_row_43 : decode cX7_row 43 = .ok (.getfield 53, 3) := by decide +kernel
theorem dX7_row_46 : decode cX7_row 46 = .ok (.getfield 121, 3) := by decide +kernel
theorem dX7_row_49 : decode cX7_row 49 = .ok (.aload_n 0, 1) := by decide +kernel
theorem dX7_row_50 : decode cX7_row 50 = .ok (.getfield 69, 3) := by decide +kernel
theorem dX7_row_53 : decode cX7_row 53 = .ok (.invokevirtual 125, 3) := by decide +kernel
theorem dX7_row_56 : decode cX7_row 56 = .ok (.iload_n 1, 1) := by decide +kernel
theorem dX7_row_57 : decode cX7_row 57 = .ok (.aload_n 0, 1) := by decide +kernel
theorem dX7_row_58 : decode cX7_row 58 = .ok (.getfield 53, 3) := by decide +kernel
theorem dX7_row_61 : decode cX7_row 61 = .ok (.getfield 121, 3) := by decide +kernel
theorem dX7_row_64 : decode cX7_row 64 = .ok (.getfield 131, 3) := by decide +kernel
theorem dX7_row_67 : decode cX7_row 67 = .ok (.if_icmp .lt 7, 3) := by decide +kernel
theorem dX7_row_70 : decode cX7_row 70 = .ok (.ldc2_w 134, 3) := by decide +kernel
theorem dX7_row_73 : decode cX7_row 73 = .ok (.lreturn, 1) := by decide +kernel
theorem dX7_row_74 : decode cX7_row 74 = .ok (.aload_n 0, 1) := by decide +kernel
theorem dX7_row_75 : decode cX7_row 75 = .ok (.getfield 53, 3) := by decide +kernel
theorem dX7_row_78 : decode cX7_row 78 = .ok (.getfield 121, 3) := by decide +kernel
theorem dX7_row_81 : decode cX7_row 81 = .ok (.getfield 136, 3) := by decide +kernel
theorem dX7_row_84 : decode cX7_row 84 = .ok (.iload_n 1, 1) := by decide +kernel
theorem dX7_row_85 : decode cX7_row 85 = .ok (.aaload, 1) := by decide +kernel
theorem dX7_row_86 : decode cX7_row 86 = .ok (.iload_n 2, 1) := by decide +kernel
theorem dX7_row_87 : decode cX7_row 87 = .ok (.laload, 1) := by decide +kernel
theorem dX7_row_88 : decode cX7_row 88 = .ok (.lstore 4, 2) := by decide +kernel
theorem dX7_row_90 : decode cX7_row 90 = .ok (.iload_n 3, 1) := by decide +kernel
theorem dX7_row_91 : decode cX7_row 91 = .ok (.ifCond .ne 9, 3) := by decide +kernel
theorem dX7_row_94 : decode cX7_row 94 = .ok (.lload 4, 2) := by decide +kernel
theorem dX7_row_96 : decode cX7_row 96 = .ok (.invokestatic 140, 3) := by decide +kernel
theorem dX7_row_99 : decode cX7_row 99 = .ok (.lreturn, 1) := by decide +kernel
theorem dX7_row_100 : decode cX7_row 100 = .ok (.lload 4, 2) := by decide +kernel
theorem dX7_row_102 : decode cX7_row 102 = .ok (.lconst 0, 1) := by decide +kernel
theorem dX7_row_103 : decode cX7_row 103 = .ok (.lcmp, 1) := by decide +kernel
theorem dX7_row_104 : decode cX7_row 104 = .ok (.ifCond .ne 7, 3) := by decide +kernel
theorem dX7_row_107 : decode cX7_row 107 = .ok (.lconst 0, 1) := by decide +kernel
theorem dX7_row_108 : decode cX7_row 108 = .ok (.goto 17, 3) := by decide +kernel
theorem dX7_row_111 : decode cX7_row 111 = .ok (.lload 4, 2) := by decide +kernel
theorem dX7_row_113 : decode cX7_row 113 = .ok (.lconst 0, 1) := by decide +kernel
theorem dX7_row_114 : decode cX7_row 114 = .ok (.lcmp, 1) := by decide +kernel
theorem dX7_row_115 : decode cX7_row 115 = .ok (.ifCond .le 7, 3) := by decide +kernel
theorem dX7_row_118 : decode cX7_row 118 = .ok (.lconst 1, 1) := by decide +kernel
theorem dX7_row_119 : decode cX7_row 119 = .ok (.goto 6, 3) := by decide +kernel
theorem dX7_row_122 : decode cX7_row 122 = .ok (.ldc2_w 146, 3) := by decide +kernel
theorem dX7_row_125 : decode cX7_row 125 = .ok (.lreturn, 1) := by decide +kernel
theorem dX7_rows_0 : decode cX7_rows 0 = .ok (.aload_n 0, 1) := by decide +kernel
theorem dX7_rows_1 : decode cX7_rows 1 = .ok (.getfield 12, 3) := by decide +kernel
theorem dX7_rows_4 : decode cX7_rows 4 = .ok (.aload_n 0, 1) := by decide +kernel
theorem dX7_rows_5 : decode cX7_rows 5 = .ok (.getfield 69, 3) := by decide +kernel
theorem dX7_rows_8 : decode cX7_rows 8 = .ok (.aload_n 0, 1) := by decide +kernel
theorem dX7_rows_9 : decode cX7_rows 9 = .ok (.getfield 12, 3) := by decide +kernel
theorem dX7_rows_12 : decode cX7_rows 12 = .ok (.getfield 93, 3) := by decide +kernel
theorem dX7_rows_15 : decode cX7_rows 15 = .ok (.invokevirtual 104, 3) := by decide +kernel
theorem dX7_rows_18 : decode cX7_rows 18 = .ok (.aload_n 0, 1) := by decide +kernel
theorem dX7_rows_19 : decode cX7_rows 19 = .ok (.getfield 53, 3) := by decide +kernel
theorem dX7_rows_22 : decode cX7_rows 22 = .ok (.getfield 121, 3) := by decide +kernel
theorem dX7_rows_25 : decode cX7_rows 25 = .ok (.aload_n 0, 1) := by decide +kernel
theorem dX7_rows_26 : decode cX7_rows 26 = .ok (.getfield 69, 3) := by decide +kernel
theorem dX7_rows_29 : decode cX7_rows 29 = .ok (.invokevirtual 125, 3) := by decide +kernel
theorem dX7_rows_32 : decode cX7_rows 32 = .ok (.aload_n 0, 1) := by decide +kernel
theorem dX7_rows_33 : decode cX7_rows 33 = .ok (.getfield 53, 3) := by decide +kernel
theorem dX7_rows_36 : decode cX7_rows 36 = .ok (.getfield 121, 3) := by decide +kernel
theorem dX7_rows_39 : decode cX7_rows 39 = .ok (.getfield 131, 3) := by decide +kernel
theorem dX7_rows_42 : decode cX7_rows 42 = .ok (.ireturn, 1) := by decide +kernel
theorem dX7_span_0 : decode cX7_span 0 = .ok (.iload_n 1, 1) := by decide +kernel
theorem dX7_span_1 : decode cX7_span 1 = .ok (.iconst 2, 1) := by decide +kernel
theorem dX7_span_2 : decode cX7_span 2 = .ok (.invokestatic 73, 3) := by decide +kernel
theorem dX7_span_5 : decode cX7_span 5 = .ok (.ifCond .eq 15, 3) := by decide +kernel
theorem dX7_span_8 : decode cX7_span 8 = .ok (.iload_n 2, 1) := by decide +kernel
theorem dX7_span_9 : decode cX7_span 9 = .ok (.ifCond .lt 11, 3) := by decide +kernel
theorem dX7_span_12 : decode cX7_span 12 = .ok (.iload_n 3, 1) := by decide +kernel
theorem dX7_span_13 : decode cX7_span 13 = .ok (.iconst 2, 1) := by decide +kernel
theorem dX7_span_14 : decode cX7_span 14 = .ok (.invokestatic 73, 3) := by decide +kernel
theorem dX7_span_17 : decode cX7_span 17 = .ok (.ifCond .ne 5, 3) := by decide +kernel
theorem dX7_span_20 : decode cX7_span 20 = .ok (.iconst (-1), 1) := by decide +kernel
theorem dX7_span_21 : decode cX7_span 21 = .ok (.ireturn, 1) := by decide +kernel
theorem dX7_span_22 : decode cX7_span 22 = .ok (.aload_n 0, 1) := by decide +kernel
theorem dX7_span_23 : decode cX7_span 23 = .ok (.iload_n 1, 1) := by decide +kernel
theorem dX7_span_24 : decode cX7_span 24 = .ok (.invokevirtual 148, 3) := by decide +kernel
theorem dX7_span_27 : decode cX7_span 27 = .ok (.astore 4, 2) := by decide +kernel
theorem dX7_span_29 : decode cX7_span 29 = .ok (.iload_n 2, 1) := by decide +kernel
theorem dX7_span_30 : decode cX7_span 30 = .ok (.aload 4, 2) := by decide +kernel
theorem dX7_span_32 : decode cX7_span 32 = .ok (.getfield 152, 3) := by decide +kernel
theorem dX7_span_35 : decode cX7_span 35 = .ok (.if_icmp .ge 13, 3) := by decide +kernel
theorem dX7_span_38 : decode cX7_span 38 = .ok (.aload 4, 2) := by decide +kernel
theorem dX7_span_40 : decode cX7_span 40 = .ok (.iload_n 2, 1) := by decide +kernel
theorem dX7_span_41 : decode cX7_span 41 = .ok (.iload_n 3, 1) := by decide +kernel
theorem dX7_span_42 : decode cX7_span 42 = .ok (.invokevirtual 153, 3) := by decide +kernel
theorem dX7_span_45 : decode cX7_span 45 = .ok (.goto 5, 3) := by decide +kernel
theorem dX7_span_48 : decode cX7_span 48 = .ok (.bipush (-4), 2) := by decide +kernel
theorem dX7_span_50 : decode cX7_span 50 = .ok (.ireturn, 1) := by decide +kernel
theorem dX7_widest_0 : decode cX7_widest 0 = .ok (.iload_n 1, 1) := by decide +kernel
theorem dX7_widest_1 : decode cX7_widest 1 = .ok (.iconst 2, 1) := by decide +kernel
theorem dX7_widest_2 : decode cX7_widest 2 = .ok (.invokestatic 73, 3) := by decide +kernel
theorem dX7_widest_5 : decode cX7_widest 5 = .ok (.ifCond .eq 15, 3) := by decide +kernel
theorem dX7_widest_8 : decode cX7_widest 8 = .ok (.iload_n 2, 1) := by decide +kernel
theorem dX7_widest_9 : decode cX7_widest 9 = .ok (.ifCond .lt 11, 3) := by decide +kernel
theorem dX7_widest_12 : decode cX7_widest 12 = .ok (.iload_n 3, 1) := by decide +kernel
theorem dX7_widest_13 : decode cX7_widest 13 = .ok (.iconst 2, 1) := by decide +kernel
theorem dX7_widest_14 : decode cX7_widest 14 = .ok (.invokestatic 73, 3) := by decide +kernel
theorem dX7_widest_17 : decode cX7_widest 17 = .ok (.ifCond .ne 5, 3) := by decide +kernel
theorem dX7_widest_20 : decode cX7_widest 20 = .ok (.iconst (-1), 1) := by decide +kernel
theorem dX7_widest_21 : decode cX7_widest 21 = .ok (.ireturn, 1) := by decide +kernel
theorem dX7_widest_22 : decode cX7_widest 22 = .ok (.aload_n 0, 1) := by decide +kernel
theorem dX7_widest_23 : decode cX7_widest 23 = .ok (.iload_n 1, 1) := by decide +kernel
theorem dX7_widest_24 : decode cX7_widest 24 = .ok (.invokevirtual 148, 3) := by decide +kernel
theorem dX7_widest_27 : decode cX7_widest 27 = .ok (.astore 4, 2) := by decide +kernel
theorem dX7_widest_29 : decode cX7_widest 29 = .ok (.iload_n 2, 1) := by decide +kernel
theorem dX7_widest_30 : decode cX7_widest 30 = .ok (.aload 4, 2) := by decide +kernel
theorem dX7_widest_32 : decode cX7_widest 32 = .ok (.getfield 152, 3) := by decide +kernel
theorem dX7_widest_35 : decode cX7_widest 35 = .ok (.if_icmp .ge 19, 3) := by decide +kernel
theorem dX7_widest_38 : decode cX7_widest 38 = .ok (.aload 4, 2) := by decide +kernel
theorem dX7_widest_40 : decode cX7_widest 40 = .ok (.aload 4, 2) := by decide +kernel
theorem dX7_widest_42 : decode cX7_widest 42 = .ok (.getfield 157, 3) := by decide +kernel
theorem dX7_widest_45 : decode cX7_widest 45 = .ok (.iload_n 2, 1) := by decide +kernel
theorem dX7_widest_46 : decode cX7_widest 46 = .ok (.iaload, 1) := by decide +kernel
theorem dX7_widest_47 : decode cX7_widest 47 = .ok (.iload_n 3, 1) := by decide +kernel
theorem dX7_widest_48 : decode cX7_widest 48 = .ok (.invokevirtual 153, 3) := by decide +kernel
theorem dX7_widest_51 : decode cX7_widest 51 = .ok (.goto 5, 3) := by decide +kernel
theorem dX7_widest_54 : decode cX7_widest 54 = .ok (.bipush (-4), 2) := by decide +kernel
theorem dX7_widest_56 : decode cX7_widest 56 = .ok (.ireturn, 1) := by decide +kernel
theorem dX7_spans_0 : decode cX7_spans 0 = .ok (.iload_n 1, 1) := by decide +kernel
theorem dX7_spans_1 : decode cX7_spans 1 = .ok (.iconst 2, 1) := by decide +kernel
theorem dX7_spans_2 : decode cX7_spans 2 = .ok (.invokestatic 73, 3) := by decide +kernel
theorem dX7_spans_5 : decode cX7_spans 5 = .ok (.ifCond .eq 11, 3) := by decide +kernel
theorem dX7_spans_8 : decode cX7_spans 8 = .ok (.iload_n 2, 1) := by decide +kernel
theorem dX7_spans_9 : decode cX7_spans 9 = .ok (.iconst 2, 1) := by decide +kernel
theorem dX7_spans_10 : decode cX7_spans 10 = .ok (.invokestatic 73, 3) := by decide +kernel
theorem dX7_spans_13 : decode cX7_spans 13 = .ok (.ifCond .ne 5, 3) := by decide +kernel
theorem dX7_spans_16 : decode cX7_spans 16 = .ok (.iconst (-1), 1) := by decide +kernel
theorem dX7_spans_17 : decode cX7_spans 17 = .ok (.ireturn, 1) := by decide +kernel
theorem dX7_spans_18 : decode cX7_spans 18 = .ok (.aload_n 0, 1) := by decide +kernel
theorem dX7_spans_19 : decode cX7_spans 19 = .ok (.iload_n 1, 1) := by decide +kernel
theorem dX7_spans_20 : decode cX7_spans 20 = .ok (.invokevirtual 148, 3) := by decide +kernel
theorem dX7_spans_23 : decode cX7_spans 23 = .ok (.astore_n 3, 1) := by decide +kernel
theorem dX7_spans_24 : decode cX7_spans 24 = .ok (.iload_n 2, 1) := by decide +kernel
theorem dX7_spans_25 : decode cX7_spans 25 = .ok (.ifCond .ne 10, 3) := by decide +kernel
theorem dX7_spans_28 : decode cX7_spans 28 = .ok (.aload_n 3, 1) := by decide +kernel
theorem dX7_spans_29 : decode cX7_spans 29 = .ok (.getfield 152, 3) := by decide +kernel
theorem dX7_spans_32 : decode cX7_spans 32 = .ok (.goto 7, 3) := by decide +kernel
theorem dX7_spans_35 : decode cX7_spans 35 = .ok (.aload_n 3, 1) := by decide +kernel
theorem dX7_spans_36 : decode cX7_spans 36 = .ok (.getfield 160, 3) := by decide +kernel
theorem dX7_spans_39 : decode cX7_spans 39 = .ok (.ireturn, 1) := by decide +kernel
theorem dX7_corners_0 : decode cX7_corners 0 = .ok (.iload_n 1, 1) := by decide +kernel
theorem dX7_corners_1 : decode cX7_corners 1 = .ok (.ifCond .lt 9, 3) := by decide +kernel
theorem dX7_corners_4 : decode cX7_corners 4 = .ok (.iload_n 1, 1) := by decide +kernel
theorem dX7_corners_5 : decode cX7_corners 5 = .ok (.bipush 9, 2) := by decide +kernel
theorem dX7_corners_7 : decode cX7_corners 7 = .ok (.if_icmp .le 5, 3) := by decide +kernel
theorem dX7_corners_10 : decode cX7_corners 10 = .ok (.iconst (-1), 1) := by decide +kernel
theorem dX7_corners_11 : decode cX7_corners 11 = .ok (.ireturn, 1) := by decide +kernel
theorem dX7_corners_12 : decode cX7_corners 12 = .ok (.iconst 0, 1) := by decide +kernel
theorem dX7_corners_13 : decode cX7_corners 13 = .ok (.istore_n 2, 1) := by decide +kernel
theorem dX7_corners_14 : decode cX7_corners 14 = .ok (.iconst 0, 1) := by decide +kernel
theorem dX7_corners_15 : decode cX7_corners 15 = .ok (.istore_n 3, 1) := by decide +kernel
theorem dX7_corners_16 : decode cX7_corners 16 = .ok (.iload_n 3, 1) := by decide +kernel
theorem dX7_corners_17 : decode cX7_corners 17 = .ok (.iconst 4, 1) := by decide +kernel
theorem dX7_corners_18 : decode cX7_corners 18 = .ok (.if_icmp .ge 73, 3) := by decide +kernel
theorem dX7_corners_21 : decode cX7_corners 21 = .ok (.iconst 0, 1) := by decide +kernel
theorem dX7_corners_22 : decode cX7_corners 22 = .ok (.istore 4, 2) := by decide +kernel
theorem dX7_corners_24 : decode cX7_corners 24 = .ok (.iload 4, 2) := by decide +kernel
theorem dX7_corners_26 : decode cX7_corners 26 = .ok (.iconst 5, 1) := by decide +kernel
theorem dX7_corners_27 : decode cX7_corners 27 = .ok (.if_icmp .ge 40, 3) := by decide +kernel
theorem dX7_corners_30 : decode cX7_corners 30 = .ok (.aload_n 0, 1) := by decide +kernel
theorem dX7_corners_31 : decode cX7_corners 31 = .ok (.getfield 69, 3) := by decide +kernel
theorem dX7_corners_34 : decode cX7_corners 34 = .ok (.iload 4, 2) := by decide +kernel
theorem dX7_corners_36 : decode cX7_corners 36 = .ok (.aload_n 0, 1) := by decide +kernel
theorem dX7_corners_37 : decode cX7_corners 37 = .ok (.getfield 12, 3) := by decide +kernel
theorem dX7_corners_40 : decode cX7_corners 40 = .ok (.getfield 81, 3) := by decide +kernel
theorem dX7_corners_43 : decode cX7_corners 43 = .ok (.iload 4, 2) := by decide +kernel
theorem dX7_corners_45 : decode cX7_corners 45 = .ok (.iaload, 1) := by decide +kernel
theorem dX7_corners_46 : decode cX7_corners 46 = .ok (.iload_n 1, 1) := by decide +kernel
theorem dX7_corners_47 : decode cX7_corners 47 = .ok (.getstatic 163, 3) := by decide +kernel
theorem dX7_corners_50 : decode cX7_corners 50 = .ok (.iload_n 3, 1) := by decide +kernel
theorem dX7_corners_51 : decode cX7_corners 51 = .ok (.iconst 5, 1) := by decide +kernel
theorem dX7_corners_52 : decode cX7_corners 52 = .ok (.imul, 1) := by decide +kernel
theorem dX7_corners_53 : decode cX7_corners 53 = .ok (.iload 4, 2) := by decide +kernel
