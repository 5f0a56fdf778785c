theorem dX7_corners_55 : decode cX7_corners 55 = .ok (.iadd, 1) := by decide +kernel
theorem dX7_corners_56 : decode cX7_corners 56 = .ok (.iaload, 1) := by decide +kernel
theorem dX7_corners_57 : decode cX7_corners 57 = .ok (.imul, 1) := by decide +kernel
theorem dX7_corners_58 : decode cX7_corners 58 = .ok (.iadd, 1) := by decide +kernel
theorem dX7_corners_59 : decode cX7_corners 59 = .ok (.i2l, 1) := by decide +kernel
theorem dX7_corners_60 : decode cX7_corners 60 = .ok (.lastore, 1) := by decide +kernel
theorem dX7_corners_61 : decode cX7_corners 61 = .ok (.iinc 4 1, 3) := by decide +kernel
theorem dX7_corners_64 : decode cX7_corners 64 = .ok (.goto (-40), 3) := by decide +kernel
theorem dX7_corners_67 : decode cX7_corners 67 = .ok (.aload_n 0, 1) := by decide +kernel
theorem dX7_corners_68 : decode cX7_corners 68 = .ok (.getfield 53, 3) := by decide +kernel
theorem dX7_corners_71 : decode cX7_corners 71 = .ok (.iconst 0, 1) := by decide +kernel
theorem dX7_corners_72 : decode cX7_corners 72 = .ok (.aload_n 0, 1) := by decide +kernel
theorem dX7_corners_73 : decode cX7_corners 73 = .ok (.getfield 69, 3) := by decide +kernel
theorem dX7_corners_76 : decode cX7_corners 76 = .ok (.invokevirtual 166, 3) := by decide +kernel
theorem dX7_corners_79 : decode cX7_corners 79 = .ok (.ifCond .eq 6, 3) := by decide +kernel
theorem dX7_corners_82 : decode cX7_corners 82 = .ok (.iinc 2 1, 3) := by decide +kernel
theorem dX7_corners_85 : decode cX7_corners 85 = .ok (.iinc 3 1, 3) := by decide +kernel
theorem dX7_corners_88 : decode cX7_corners 88 = .ok (.goto (-72), 3) := by decide +kernel
theorem dX7_corners_91 : decode cX7_corners 91 = .ok (.iload_n 2, 1) := by decide +kernel
theorem dX7_corners_92 : decode cX7_corners 92 = .ok (.ireturn, 1) := by decide +kernel
theorem dX7_neighbours_0 : decode cX7_neighbours 0 = .ok (.iload_n 1, 1) := by decide +kernel
theorem dX7_neighbours_1 : decode cX7_neighbours 1 = .ok (.iconst 2, 1) := by decide +kernel
theorem dX7_neighbours_2 : decode cX7_neighbours 2 = .ok (.invokestatic 73, 3) := by decide +kernel
theorem dX7_neighbours_5 : decode cX7_neighbours 5 = .ok (.ifCond .ne 5, 3) := by decide +kernel
theorem dX7_neighbours_8 : decode cX7_neighbours 8 = .ok (.iconst (-1), 1) := by decide +kernel
theorem dX7_neighbours_9 : decode cX7_neighbours 9 = .ok (.ireturn, 1) := by decide +kernel
theorem dX7_neighbours_10 : decode cX7_neighbours 10 = .ok (.iconst 0, 1) := by decide +kernel
theorem dX7_neighbours_11 : decode cX7_neighbours 11 = .ok (.istore_n 2, 1) := by decide +kernel
theorem dX7_neighbours_12 : decode cX7_neighbours 12 = .ok (.iconst 0, 1) := by decide +kernel
theorem dX7_neighbours_13 : decode cX7_neighbours 13 = .ok (.istore_n 3, 1) := by decide +kernel
theorem dX7_neighbours_14 : decode cX7_neighbours 14 = .ok (.iload_n 3, 1) := by decide +kernel
theorem dX7_neighbours_15 : decode cX7_neighbours 15 = .ok (.sipush 243, 3) := by decide +kernel
theorem dX7_neighbours_18 : decode cX7_neighbours 18 = .ok (.if_icmp .ge 76, 3) := by decide +kernel
theorem dX7_neighbours_21 : decode cX7_neighbours 21 = .ok (.iload_n 3, 1) := by decide +kernel
theorem dX7_neighbours_22 : decode cX7_neighbours 22 = .ok (.istore 4, 2) := by decide +kernel
theorem dX7_neighbours_24 : decode cX7_neighbours 24 = .ok (.iconst 0, 1) := by decide +kernel
theorem dX7_neighbours_25 : decode cX7_neighbours 25 = .ok (.istore 5, 2) := by decide +kernel
theorem dX7_neighbours_27 : decode cX7_neighbours 27 = .ok (.iload 5, 2) := by decide +kernel
theorem dX7_neighbours_29 : decode cX7_neighbours 29 = .ok (.iconst 5, 1) := by decide +kernel
theorem dX7_neighbours_30 : decode cX7_neighbours 30 = .ok (.if_icmp .ge 40, 3) := by decide +kernel
theorem dX7_neighbours_33 : decode cX7_neighbours 33 = .ok (.aload_n 0, 1) := by decide +kernel
theorem dX7_neighbours_34 : decode cX7_neighbours 34 = .ok (.getfield 69, 3) := by decide +kernel
theorem dX7_neighbours_37 : decode cX7_neighbours 37 = .ok (.iload 5, 2) := by decide +kernel
theorem dX7_neighbours_39 : decode cX7_neighbours 39 = .ok (.aload_n 0, 1) := by decide +kernel
theorem dX7_neighbours_40 : decode cX7_neighbours 40 = .ok (.getfield 12, 3) := by decide +kernel
theorem dX7_neighbours_43 : decode cX7_neighbours 43 = .ok (.getfield 81, 3) := by decide +kernel
theorem dX7_neighbours_46 : decode cX7_neighbours 46 = .ok (.iload 5, 2) := by decide +kernel
theorem dX7_neighbours_48 : decode cX7_neighbours 48 = .ok (.iaload, 1) := by decide +kernel
theorem dX7_neighbours_49 : decode cX7_neighbours 49 = .ok (.iload 4, 2) := by decide +kernel
theorem dX7_neighbours_51 : decode cX7_neighbours 51 = .ok (.iconst 3, 1) := by decide +kernel
theorem dX7_neighbours_52 : decode cX7_neighbours 52 = .ok (.irem, 1) := by decide +kernel
theorem dX7_neighbours_53 : decode cX7_neighbours 53 = .ok (.iadd, 1) := by decide +kernel
theorem dX7_neighbours_54 : decode cX7_neighbours 54 = .ok (.iconst 1, 1) := by decide +kernel
theorem dX7_neighbours_55 : decode cX7_neighbours 55 = .ok (.isub, 1) := by decide +kernel
theorem dX7_neighbours_56 : decode cX7_neighbours 56 = .ok (.i2l, 1) := by decide +kernel
theorem dX7_neighbours_57 : decode cX7_neighbours 57 = .ok (.lastore, 1) := by decide +kernel
theorem dX7_neighbours_58 : decode cX7_neighbours 58 = .ok (.iload 4, 2) := by decide +kernel
theorem dX7_neighbours_60 : decode cX7_neighbours 60 = .ok (.iconst 3, 1) := by decide +kernel
theorem dX7_neighbours_61 : decode cX7_neighbours 61 = .ok (.idiv, 1) := by decide +kernel
theorem dX7_neighbours_62 : decode cX7_neighbours 62 = .ok (.istore 4, 2) := by decide +kernel
theorem dX7_neighbours_64 : decode cX7_neighbours 64 = .ok (.iinc 5 1, 3) := by decide +kernel
theorem dX7_neighbours_67 : decode cX7_neighbours 67 = .ok (.goto (-40), 3) := by decide +kernel
theorem dX7_neighbours_70 : decode cX7_neighbours 70 = .ok (.aload_n 0, 1) := by decide +kernel
theorem dX7_neighbours_71 : decode cX7_neighbours 71 = .ok (.getfield 53, 3) := by decide +kernel
theorem dX7_neighbours_74 : decode cX7_neighbours 74 = .ok (.iload_n 1, 1) := by decide +kernel
theorem dX7_neighbours_75 : decode cX7_neighbours 75 = .ok (.aload_n 0, 1) := by decide +kernel
theorem dX7_neighbours_76 : decode cX7_neighbours 76 = .ok (.getfield 69, 3) := by decide +kernel
theorem dX7_neighbours_79 : decode cX7_neighbours 79 = .ok (.invokevirtual 166, 3) := by decide +kernel
theorem dX7_neighbours_82 : decode cX7_neighbours 82 = .ok (.ifCond .eq 6, 3) := by decide +kernel
theorem dX7_neighbours_85 : decode cX7_neighbours 85 = .ok (.iinc 2 1, 3) := by decide +kernel
theorem dX7_neighbours_88 : decode cX7_neighbours 88 = .ok (.iinc 3 1, 3) := by decide +kernel
theorem dX7_neighbours_91 : decode cX7_neighbours 91 = .ok (.goto (-77), 3) := by decide +kernel
theorem dX7_neighbours_94 : decode cX7_neighbours 94 = .ok (.iload_n 2, 1) := by decide +kernel
theorem dX7_neighbours_95 : decode cX7_neighbours 95 = .ok (.ireturn, 1) := by decide +kernel
theorem dX7_off_0 : decode cX7_off 0 = .ok (.iload_n 1, 1) := by decide +kernel
theorem dX7_off_1 : decode cX7_off 1 = .ok (.ifCond .lt 17, 3) := by decide +kernel
theorem dX7_off_4 : decode cX7_off 4 = .ok (.iload_n 1, 1) := by decide +kernel
theorem dX7_off_5 : decode cX7_off 5 = .ok (.bipush 10, 2) := by decide +kernel
theorem dX7_off_7 : decode cX7_off 7 = .ok (.if_icmp .gt 11, 3) := by decide +kernel
theorem dX7_off_10 : decode cX7_off 10 = .ok (.iload_n 2, 1) := by decide +kernel
theorem dX7_off_11 : decode cX7_off 11 = .ok (.iconst 2, 1) := by decide +kernel
theorem dX7_off_12 : decode cX7_off 12 = .ok (.invokestatic 73, 3) := by decide +kernel
theorem dX7_off_15 : decode cX7_off 15 = .ok (.ifCond .ne 5, 3) := by decide +kernel
theorem dX7_off_18 : decode cX7_off 18 = .ok (.iconst (-1), 1) := by decide +kernel
theorem dX7_off_19 : decode cX7_off 19 = .ok (.ireturn, 1) := by decide +kernel
theorem dX7_off_20 : decode cX7_off 20 = .ok (.iconst 0, 1) := by decide +kernel
theorem dX7_off_21 : decode cX7_off 21 = .ok (.istore_n 3, 1) := by decide +kernel
theorem dX7_off_22 : decode cX7_off 22 = .ok (.iconst 0, 1) := by decide +kernel
theorem dX7_off_23 : decode cX7_off 23 = .ok (.istore 4, 2) := by decide +kernel
theorem dX7_off_25 : decode cX7_off 25 = .ok (.iload 4, 2) := by decide +kernel
theorem dX7_off_27 : decode cX7_off 27 = .ok (.bipush 32, 2) := by decide +kernel
theorem dX7_off_29 : decode cX7_off 29 = .ok (.if_icmp .ge 77, 3) := by decide +kernel
theorem dX7_off_32 : decode cX7_off 32 = .ok (.iconst 0, 1) := by decide +kernel
theorem dX7_off_33 : decode cX7_off 33 = .ok (.istore 5, 2) := by decide +kernel
theorem dX7_off_35 : decode cX7_off 35 = .ok (.iload 5, 2) := by decide +kernel
theorem dX7_off_37 : decode cX7_off 37 = .ok (.iconst 5, 1) := by decide +kernel
theorem dX7_off_38 : decode cX7_off 38 = .ok (.if_icmp .ge 35, 3) := by decide +kernel
theorem dX7_off_41 : decode cX7_off 41 = .ok (.aload_n 0, 1) := by decide +kernel
theorem dX7_off_42 : decode cX7_off 42 = .ok (.getfield 69, 3) := by decide +kernel
theorem dX7_off_45 : decode cX7_off 45 = .ok (.iload 5, 2) := by decide +kernel
theorem dX7_off_47 : decode cX7_off 47 = .ok (.aload_n 0, 1) := by decide +kernel
theorem dX7_off_48 : decode cX7_off 48 = .ok (.getfield 12, 3) := by decide +kernel
theorem dX7_off_51 : decode cX7_off 51 = .ok (.getfield 81, 3) := by decide +kernel
theorem dX7_off_54 : decode cX7_off 54 = .ok (.iload 5, 2) := by decide +kernel
theorem dX7_off_56 : decode cX7_off 56 = .ok (.iaload, 1) := by decide +kernel
theorem dX7_off_57 : decode cX7_off 57 = .ok (.iload 4, 2) := by decide +kernel
theorem dX7_off_59 : decode cX7_off 59 = .ok (.iload 5, 2) := by decide +kernel
theorem dX7_off_61 : decode cX7_off 61 = .ok (.ishr, 1) := by decide +kernel
theorem dX7_off_62 : decode cX7_off 62 = .ok (.iconst 1, 1) := by decide +kernel
theorem dX7_off_63 : decode cX7_off 63 = .ok (.iand, 1) := by decide +kernel
theorem dX7_off_64 : decode cX7_off 64 = .ok (.iadd, 1) := by decide +kernel
theorem dX7_off_65 : decode cX7_off 65 = .ok (.i2l, 1) := by decide +kernel
theorem dX7_off_66 : decode cX7_off 66 = .ok (.lastore, 1) := by decide +kernel
theorem dX7_off_67 : decode cX7_off 67 = .ok (.iinc 5 1, 3) := by decide +kernel
theorem dX7_off_70 : decode cX7_off 70 = .ok (.goto (-35), 3) := by decide +kernel
theorem dX7_off_73 : decode cX7_off 73 = .ok (.aload_n 0, 1) := by decide +kernel
theorem dX7_off_74 : decode cX7_off 74 = .ok (.getfield 53, 3) := by decide +kernel
theorem dX7_off_77 : decode cX7_off 77 = .ok (.iconst 0, 1) := by decide +kernel
theorem dX7_off_78 : decode cX7_off 78 = .ok (.aload_n 0, 1) := by decide +kernel
theorem dX7_off_79 : decode cX7_off 79 = .ok (.getfield 69, 3) := by decide +kernel
theorem dX7_off_82 : decode cX7_off 82 = .ok (.invokevirtual 166, 3) := by decide +kernel
theorem dX7_off_85 : decode cX7_off 85 = .ok (.ifCond .eq 15, 3) := by decide +kernel
theorem dX7_off_88 : decode cX7_off 88 = .ok (.iload_n 3, 1) := by decide +kernel
theorem dX7_off_89 : decode cX7_off 89 = .ok (.iload_n 1, 1) := by decide +kernel
theorem dX7_off_90 : decode cX7_off 90 = .ok (.iload 4, 2) := by decide +kernel
theorem dX7_off_92 : decode cX7_off 92 = .ok (.invokestatic 170, 3) := by decide +kernel
theorem dX7_off_95 : decode cX7_off 95 = .ok (.invokestatic 175, 3) := by decide +kernel
theorem dX7_off_98 : decode cX7_off 98 = .ok (.iadd, 1) := by decide +kernel
theorem dX7_off_99 : decode cX7_off 99 = .ok (.istore_n 3, 1) := by decide +kernel
theorem dX7_off_100 : decode cX7_off 100 = .ok (.iinc 4 1, 3) := by decide +kernel
theorem dX7_off_103 : decode cX7_off 103 = .ok (.goto (-78), 3) := by decide +kernel
theorem dX7_off_106 : decode cX7_off 106 = .ok (.iload_n 3, 1) := by decide +kernel
theorem dX7_off_107 : decode cX7_off 107 = .ok (.i2l, 1) := by decide +kernel
theorem dX7_off_108 : decode cX7_off 108 = .ok (.ldc2_w 178, 3) := by decide +kernel
theorem dX7_off_111 : decode cX7_off 111 = .ok (.invokestatic 180, 3) := by decide +kernel
theorem dX7_off_114 : decode cX7_off 114 = .ok (.l2i, 1) := by decide +kernel
theorem dX7_off_115 : decode cX7_off 115 = .ok (.istore 4, 2) := by decide +kernel
theorem dX7_off_117 : decode cX7_off 117 = .ok (.iload 4, 2) := by decide +kernel
theorem dX7_off_119 : decode cX7_off 119 = .ok (.iconst 1, 1) := by decide +kernel
theorem dX7_off_120 : decode cX7_off 120 = .ok (.if_icmp .ge 6, 3) := by decide +kernel
theorem dX7_off_123 : decode cX7_off 123 = .ok (.iconst 1, 1) := by decide +kernel
theorem dX7_off_124 : decode cX7_off 124 = .ok (.istore 4, 2) := by decide +kernel
theorem dX7_off_126 : decode cX7_off 126 = .ok (.iload_n 2, 1) := by decide +kernel
theorem dX7_off_127 : decode cX7_off 127 = .ok (.ifCond .ne 10, 3) := by decide +kernel
theorem dX7_off_130 : decode cX7_off 130 = .ok (.iload_n 3, 1) := by decide +kernel
theorem dX7_off_131 : decode cX7_off 131 = .ok (.iload 4, 2) := by decide +kernel
theorem dX7_off_133 : decode cX7_off 133 = .ok (.idiv, 1) := by decide +kernel
theorem dX7_off_134 : decode cX7_off 134 = .ok (.goto 8, 3) := by decide +kernel
theorem dX7_off_137 : decode cX7_off 137 = .ok (.ldc 184, 2) := by decide +kernel
theorem dX7_off_139 : decode cX7_off 139 = .ok (.iload 4, 2) := by decide +kernel
theorem dX7_off_141 : decode cX7_off 141 = .ok (.idiv, 1) := by decide +kernel
theorem dX7_off_142 : decode cX7_off 142 = .ok (.ireturn, 1) := by decide +kernel
theorem dX7_type_0 : decode cX7_type 0 = .ok (.iload_n 1, 1) := by decide +kernel
theorem dX7_type_1 : decode cX7_type 1 = .ok (.bipush 32, 2) := by decide +kernel
theorem dX7_type_3 : decode cX7_type 3 = .ok (.if_icmp .lt 9, 3) := by decide +kernel
theorem dX7_type_6 : decode cX7_type 6 = .ok (.iload_n 1, 1) := by decide +kernel
theorem dX7_type_7 : decode cX7_type 7 = .ok (.bipush 126, 2) := by decide +kernel
theorem dX7_type_9 : decode cX7_type 9 = .ok (.if_icmp .le 5, 3) := by decide +kernel
theorem dX7_type_12 : decode cX7_type 12 = .ok (.iconst (-1), 1) := by decide +kernel
theorem dX7_type_13 : decode cX7_type 13 = .ok (.ireturn, 1) := by decide +kernel
theorem dX7_type_14 : decode cX7_type 14 = .ok (.aload_n 0, 1) := by decide +kernel
theorem dX7_type_15 : decode cX7_type 15 = .ok (.getfield 39, 3) := by decide +kernel
theorem dX7_type_18 : decode cX7_type 18 = .ok (.iload_n 1, 1) := by decide +kernel
theorem dX7_type_19 : decode cX7_type 19 = .ok (.invokevirtual 185, 3) := by decide +kernel
theorem dX7_type_22 : decode cX7_type 22 = .ok (.ifCond .eq 13, 3) := by decide +kernel
theorem dX7_type_25 : decode cX7_type 25 = .ok (.aload_n 0, 1) := by decide +kernel
theorem dX7_type_26 : decode cX7_type 26 = .ok (.getfield 39, 3) := by decide +kernel
theorem dX7_type_29 : decode cX7_type 29 = .ok (.getfield 188, 3) := by decide +kernel
theorem dX7_type_32 : decode cX7_type 32 = .ok (.goto 5, 3) := by decide +kernel
theorem dX7_type_35 : decode cX7_type 35 = .ok (.bipush (-3), 2) := by decide +kernel
theorem dX7_type_37 : decode cX7_type 37 = .ok (.ireturn, 1) := by decide +kernel
theorem dX7_read_0 : decode cX7_read 0 = .ok (.aload_n 0, 1) := by decide +kernel
theorem dX7_read_1 : decode cX7_read 1 = .ok (.getfield 39, 3) := by decide +kernel
theorem dX7_read_4 : decode cX7_read 4 = .ok (.invokevirtual 189, 3) := by decide +kernel
theorem dX7_read_7 : decode cX7_read 7 = .ok (.istore_n 1, 1) := by decide +kernel
theorem dX7_read_8 : decode cX7_read 8 = .ok (.aload_n 0, 1) := by decide +kernel
theorem dX7_read_9 : decode cX7_read 9 = .ok (.getfield 39, 3) := by decide +kernel
theorem dX7_read_12 : decode cX7_read 12 = .ok (.iconst 0, 1) := by decide +kernel
theorem dX7_read_13 : decode cX7_read 13 = .ok (.putfield 188, 3) := by decide +kernel
theorem dX7_read_16 : decode cX7_read 16 = .ok (.iload_n 1, 1) := by decide +kernel
theorem dX7_read_17 : decode cX7_read 17 = .ok (.iconst (-1), 1) := by decide +kernel
theorem dX7_read_18 : decode cX7_read 18 = .ok (.if_icmp .eq 8, 3) := by decide +kernel
theorem dX7_read_21 : decode cX7_read 21 = .ok (.bipush (-20), 2) := by decide +kernel
theorem dX7_read_23 : decode cX7_read 23 = .ok (.iload_n 1, 1) := by decide +kernel
theorem dX7_read_24 : decode cX7_read 24 = .ok (.isub, 1) := by decide +kernel
theorem dX7_read_25 : decode cX7_read 25 = .ok (.ireturn, 1) := by decide +kernel
theorem dX7_read_26 : decode cX7_read 26 = .ok (.aload_n 0, 1) := by decide +kernel
theorem dX7_read_27 : decode cX7_read 27 = .ok (.getfield 22, 3) := by decide +kernel
theorem dX7_read_30 : decode cX7_read 30 = .ok (.aload_n 0, 1) := by decide +kernel
theorem dX7_read_31 : decode cX7_read 31 = .ok (.getfield 12, 3) := by decide +kernel
theorem dX7_read_34 : decode cX7_read 34 = .ok (.invokevirtual 85, 3) := by decide +kernel
theorem dX7_read_37 : decode cX7_read 37 = .ok (.aload_n 0, 1) := by decide +kernel
theorem dX7_read_38 : decode cX7_read 38 = .ok (.getfield 39, 3) := by decide +kernel
theorem dX7_read_41 : decode cX7_read 41 = .ok (.getfield 193, 3) := by decide +kernel
theorem dX7_read_44 : decode cX7_read 44 = .ok (.iconst 0, 1) := by decide +kernel
theorem dX7_read_45 : decode cX7_read 45 = .ok (.aload_n 0, 1) := by decide +kernel
theorem dX7_read_46 : decode cX7_read 46 = .ok (.getfield 12, 3) := by decide +kernel
theorem dX7_read_49 : decode cX7_read 49 = .ok (.getfield 81, 3) := by decide +kernel
theorem dX7_read_52 : decode cX7_read 52 = .ok (.iconst 0, 1) := by decide +kernel
theorem dX7_read_53 : decode cX7_read 53 = .ok (.aload_n 0, 1) := by decide +kernel
theorem dX7_read_54 : decode cX7_read 54 = .ok (.getfield 39, 3) := by decide +kernel
theorem dX7_read_57 : decode cX7_read 57 = .ok (.getfield 194, 3) := by decide +kernel
theorem dX7_read_60 : decode cX7_read 60 = .ok (.ifCond .eq 8, 3) := by decide +kernel
theorem dX7_read_63 : decode cX7_read 63 = .ok (.bipush 10, 2) := by decide +kernel
theorem dX7_read_65 : decode cX7_read 65 = .ok (.goto 4, 3) := by decide +kernel
theorem dX7_read_68 : decode cX7_read 68 = .ok (.iconst 5, 1) := by decide +kernel
theorem dX7_read_69 : decode cX7_read 69 = .ok (.invokestatic 197, 3) := by decide +kernel
theorem dX7_read_72 : decode cX7_read 72 = .ok (.aload_n 0, 1) := by decide +kernel
theorem dX7_read_73 : decode cX7_read 73 = .ok (.getfield 12, 3) := by decide +kernel
theorem dX7_read_76 : decode cX7_read 76 = .ok (.iconst 0, 1) := by decide +kernel
theorem dX7_read_77 : decode cX7_read 77 = .ok (.invokevirtual 97, 3) := by decide +kernel
theorem dX7_read_80 : decode cX7_read 80 = .ok (.invokestatic 101, 3) := by decide +kernel
theorem dX7_read_83 : decode cX7_read 83 = .ok (.ireturn, 1) := by decide +kernel
theorem dX7_drift_0 : decode cX7_drift 0 = .ok (.iload_n 1, 1) := by decide +kernel
theorem dX7_drift_1 : decode cX7_drift 1 = .ok (.iconst 1, 1) := by decide +kernel
theorem dX7_drift_2 : decode cX7_drift 2 = .ok (.if_icmp .lt 9, 3) := by decide +kernel
theorem dX7_drift_5 : decode cX7_drift 5 = .ok (.iload_n 1, 1) := by decide +kernel
theorem dX7_drift_6 : decode cX7_drift 6 = .ok (.bipush 40, 2) := by decide +kernel
theorem dX7_drift_8 : decode cX7_drift 8 = .ok (.if_icmp .le 5, 3) := by decide +kernel
theorem dX7_drift_11 : decode cX7_drift 11 = .ok (.iconst (-1), 1) := by decide +kernel
theorem dX7_drift_12 : decode cX7_drift 12 = .ok (.ireturn, 1) := by decide +kernel
theorem dX7_drift_13 : decode cX7_drift 13 = .ok (.iconst 0, 1) := by decide +kernel
theorem dX7_drift_14 : decode cX7_drift 14 = .ok (.istore_n 2, 1) := by decide +kernel
theorem dX7_drift_15 : decode cX7_drift 15 = .ok (.iload_n 2, 1) := by decide +kernel
theorem dX7_drift_16 : decode cX7_drift 16 = .ok (.iload_n 1, 1) := by decide +kernel
theorem dX7_drift_17 : decode cX7_drift 17 = .ok (.if_icmp .ge 27, 3) := by decide +kernel
theorem dX7_drift_20 : decode cX7_drift 20 = .ok (.aload_n 0, 1) := by decide +kernel
theorem dX7_drift_21 : decode cX7_drift 21 = .ok (.getfield 22, 3) := by decide +kernel
theorem dX7_drift_24 : decode cX7_drift 24 = .ok (.aload_n 0, 1) := by decide +kernel
theorem dX7_drift_25 : decode cX7_drift 25 = .ok (.getfield 12, 3) := by decide +kernel
theorem dX7_drift_28 : decode cX7_drift 28 = .ok (.invokevirtual 85, 3) := by decide +kernel
theorem dX7_drift_31 : decode cX7_drift 31 = .ok (.aload_n 0, 1) := by decide +kernel
theorem dX7_drift_32 : decode cX7_drift 32 = .ok (.getfield 12, 3) := by decide +kernel
theorem dX7_drift_35 : decode cX7_drift 35 = .ok (.invokevirtual 203, 3) := by decide +kernel
theorem dX7_drift_38 : decode cX7_drift 38 = .ok (.iinc 2 1, 3) := by decide +kernel
theorem dX7_drift_41 : decode cX7_drift 41 = .ok (.goto (-26), 3) := by decide +kernel
theorem dX7_drift_44 : decode cX7_drift 44 = .ok (.aload_n 0, 1) := by decide +kernel
theorem dX7_drift_45 : decode cX7_drift 45 = .ok (.getfield 12, 3) := by decide +kernel
theorem dX7_drift_48 : decode cX7_drift 48 = .ok (.iconst 0, 1) := by decide +kernel
theorem dX7_drift_49 : decode cX7_drift 49 = .ok (.invokevirtual 97, 3) := by decide +kernel
theorem dX7_drift_52 : decode cX7_drift 52 = .ok (.invokestatic 101, 3) := by decide +kernel
theorem dX7_drift_55 : decode cX7_drift 55 = .ok (.ireturn, 1) := by decide +kernel
theorem dX7_undo_0 : decode cX7_undo 0 = .ok (.aload_n 0, 1) := by decide +kernel
theorem dX7_undo_1 : decode cX7_undo 1 = .ok (.getfield 22, 3) := by decide +kernel
theorem dX7_undo_4 : decode cX7_undo 4 = .ok (.getfield 112, 3) := by decide +kernel
theorem dX7_undo_7 : decode cX7_undo 7 = .ok (.ifCond .ne 6, 3) := by decide +kernel
theorem dX7_undo_10 : decode cX7_undo 10 = .ok (.bipush (-4), 2) := by decide +kernel
theorem dX7_undo_12 : decode cX7_undo 12 = .ok (.ireturn, 1) := by decide +kernel
theorem dX7_undo_13 : decode cX7_undo 13 = .ok (.aload_n 0, 1) := by decide +kernel
theorem dX7_undo_14 : decode cX7_undo 14 = .ok (.getfield 22, 3) := by decide +kernel
theorem dX7_undo_17 : decode cX7_undo 17 = .ok (.aload_n 0, 1) := by decide +kernel
theorem dX7_undo_18 : decode cX7_undo 18 = .ok (.getfield 12, 3) := by decide +kernel
theorem dX7_undo_21 : decode cX7_undo 21 = .ok (.invokevirtual 206, 3) := by decide +kernel
theorem dX7_undo_24 : decode cX7_undo 24 = .ok (.aload_n 0, 1) := by decide +kernel
theorem dX7_undo_25 : decode cX7_undo 25 = .ok (.getfield 22, 3) := by decide +kernel
theorem dX7_undo_28 : decode cX7_undo 28 = .ok (.getfield 112, 3) := by decide +kernel
theorem dX7_undo_31 : decode cX7_undo 31 = .ok (.ireturn, 1) := by decide +kernel
theorem dX7_seed_0 : decode cX7_seed 0 = .ok (.iload_n 1, 1) := by decide +kernel
theorem dX7_seed_1 : decode cX7_seed 1 = .ok (.ifCond .ge 5, 3) := by decide +kernel
theorem dX7_seed_4 : decode cX7_seed 4 = .ok (.iconst (-1), 1) := by decide +kernel
theorem dX7_seed_5 : decode cX7_seed 5 = .ok (.ireturn, 1) := by decide +kernel
theorem dX7_seed_6 : decode cX7_seed 6 = .ok (.aload_n 0, 1) := by decide +kernel
theorem dX7_seed_7 : decode cX7_seed 7 = .ok (.getfield 12, 3) := by decide +kernel
theorem dX7_seed_10 : decode cX7_seed 10 = .ok (.getfield 209, 3) := by decide +kernel
theorem dX7_seed_13 : decode cX7_seed 13 = .ok (.istore_n 2, 1) := by decide +kernel
theorem dX7_seed_14 : decode cX7_seed 14 = .ok (.aload_n 0, 1) := by decide +kernel
theorem dX7_seed_15 : decode cX7_seed 15 = .ok (.getfield 12, 3) := by decide +kernel
theorem dX7_seed_18 : decode cX7_seed 18 = .ok (.iload_n 1, 1) := by decide +kernel
theorem dX7_seed_19 : decode cX7_seed 19 = .ok (.putfield 209, 3) := by decide +kernel
theorem dX7_seed_22 : decode cX7_seed 22 = .ok (.iload_n 2, 1) := by decide +kernel
theorem dX7_seed_23 : decode cX7_seed 23 = .ok (.ireturn, 1) := by decide +kernel
theorem dX7_image_0 : decode cX7_image 0 = .ok (.aload_n 0, 1) := by decide +kernel
theorem dX7_image_1 : decode cX7_image 1 = .ok (.getfield 26, 3) := by decide +kernel
theorem dX7_image_4 : decode cX7_image 4 = .ok (.aload_n 0, 1) := by decide +kernel
theorem dX7_image_5 : decode cX7_image 5 = .ok (.getfield 12, 3) := by decide +kernel
theorem dX7_image_8 : decode cX7_image 8 = .ok (.invokevirtual 212, 3) := by decide +kernel
theorem dX7_image_11 : decode cX7_image 11 = .ok (.aload_n 0, 1) := by decide +kernel
theorem dX7_image_12 : decode cX7_image 12 = .ok (.getfield 29, 3) := by decide +kernel
theorem dX7_image_15 : decode cX7_image 15 = .ok (.aload_n 0, 1) := by decide +kernel
theorem dX7_image_16 : decode cX7_image 16 = .ok (.getfield 22, 3) := by decide +kernel
theorem dX7_image_19 : decode cX7_image 19 = .ok (.invokevirtual 215, 3) := by decide +kernel
theorem dX7_image_22 : decode cX7_image 22 = .ok (.aload_n 0, 1) := by decide +kernel
theorem dX7_image_23 : decode cX7_image 23 = .ok (.iconst 1, 1) := by decide +kernel
theorem dX7_image_24 : decode cX7_image 24 = .ok (.putfield 32, 3) := by decide +kernel
theorem dX7_image_27 : decode cX7_image 27 = .ok (.iconst 1, 1) := by decide +kernel
theorem dX7_image_28 : decode cX7_image 28 = .ok (.ireturn, 1) := by decide +kernel
theorem dX7_restore_0 : decode cX7_restore 0 = .ok (.aload_n 0, 1) := by decide +kernel
theorem dX7_restore_1 : decode cX7_restore 1 = .ok (.getfield 32, 3) := by decide +kernel
theorem dX7_restore_4 : decode cX7_restore 4 = .ok (.ifCond .ne 6, 3) := by decide +kernel
theorem dX7_restore_7 : decode cX7_restore 7 = .ok (.bipush (-4), 2) := by decide +kernel
theorem dX7_restore_9 : decode cX7_restore 9 = .ok (.ireturn, 1) := by decide +kernel
theorem dX7_restore_10 : decode cX7_restore 10 = .ok (.aload_n 0, 1) := by decide +kernel
theorem dX7_restore_11 : decode cX7_restore 11 = .ok (.getfield 12, 3) := by decide +kernel
theorem dX7_restore_14 : decode cX7_restore 14 = .ok (.aload_n 0, 1) := by decide +kernel
theorem dX7_restore_15 : decode cX7_restore 15 = .ok (.getfield 26, 3) := by decide +kernel
theorem dX7_restore_18 : decode cX7_restore 18 = .ok (.invokevirtual 212, 3) := by decide +kernel
theorem dX7_restore_21 : decode cX7_restore 21 = .ok (.aload_n 0, 1) := by decide +kernel
theorem dX7_restore_22 : decode cX7_restore 22 = .ok (.getfield 22, 3) := by decide +kernel
theorem dX7_restore_25 : decode cX7_restore 25 = .ok (.aload_n 0, 1) := by decide +kernel
theorem dX7_restore_26 : decode cX7_restore 26 = .ok (.getfield 29, 3) := by decide +kernel
theorem dX7_restore_29 : decode cX7_restore 29 = .ok (.invokevirtual 215, 3) := by decide +kernel
theorem dX7_restore_32 : decode cX7_restore 32 = .ok (.iconst 1, 1) := by decide +kernel
theorem dX7_restore_33 : decode cX7_restore 33 = .ok (.ireturn, 1) := by decide +kernel
theorem dX7_judged_0 : decode cX7_judged 0 = .ok (.iload_n 1, 1) := by decide +kernel
theorem dX7_judged_1 : decode cX7_judged 1 = .ok (.iconst 4, 1) := by decide +kernel
theorem dX7_judged_2 : decode cX7_judged 2 = .ok (.invokestatic 73, 3) := by decide +kernel
theorem dX7_judged_5 : decode cX7_judged 5 = .ok (.ifCond .eq 23, 3) := by decide +kernel
theorem dX7_judged_8 : decode cX7_judged 8 = .ok (.iload_n 2, 1) := by decide +kernel
theorem dX7_judged_9 : decode cX7_judged 9 = .ok (.iconst 4, 1) := by decide +kernel
theorem dX7_judged_10 : decode cX7_judged 10 = .ok (.invokestatic 73, 3) := by decide +kernel
theorem dX7_judged_13 : decode cX7_judged 13 = .ok (.ifCond .eq 15, 3) := by decide +kernel
theorem dX7_judged_16 : decode cX7_judged 16 = .ok (.iload 4, 2) := by decide +kernel
theorem dX7_judged_18 : decode cX7_judged 18 = .ok (.iconst 1, 1) := by decide +kernel
theorem dX7_judged_19 : decode cX7_judged 19 = .ok (.if_icmp .lt 9, 3) := by decide +kernel
theorem dX7_judged_22 : decode cX7_judged 22 = .ok (.iload 4, 2) := by decide +kernel
theorem dX7_judged_24 : decode cX7_judged 24 = .ok (.iconst 4, 1) := by decide +kernel
theorem dX7_judged_25 : decode cX7_judged 25 = .ok (.if_icmp .le 5, 3) := by decide +kernel
theorem dX7_judged_28 : decode cX7_judged 28 = .ok (.iconst (-1), 1) := by decide +kernel
theorem dX7_judged_29 : decode cX7_judged 29 = .ok (.ireturn, 1) := by decide +kernel
theorem dX7_judged_30 : decode cX7_judged 30 = .ok (.aload_n 0, 1) := by decide +kernel
theorem dX7_judged_31 : decode cX7_judged 31 = .ok (.getfield 46, 3) := by decide +kernel
theorem dX7_judged_34 : decode cX7_judged 34 = .ok (.iload_n 1, 1) := by decide +kernel
theorem dX7_judged_35 : decode cX7_judged 35 = .ok (.iload_n 2, 1) := by decide +kernel
theorem dX7_judged_36 : decode cX7_judged 36 = .ok (.iload_n 3, 1) := by decide +kernel
theorem dX7_judged_37 : decode cX7_judged 37 = .ok (.iconst 5, 1) := by decide +kernel
theorem dX7_judged_38 : decode cX7_judged 38 = .ok (.iload 4, 2) := by decide +kernel
theorem dX7_judged_40 : decode cX7_judged 40 = .ok (.imul, 1) := by decide +kernel
theorem dX7_judged_41 : decode cX7_judged 41 = .ok (.invokevirtual 218, 3) := by decide +kernel
theorem dX7_judged_44 : decode cX7_judged 44 = .ok (.istore 5, 2) := by decide +kernel
theorem dX7_judged_46 : decode cX7_judged 46 = .ok (.iload 5, 2) := by decide +kernel
theorem dX7_judged_48 : decode cX7_judged 48 = .ok (.ifCond .eq 6, 3) := by decide +kernel
theorem dX7_judged_51 : decode cX7_judged 51 = .ok (.iload 5, 2) := by decide +kernel
theorem dX7_judged_53 : decode cX7_judged 53 = .ok (.ireturn, 1) := by decide +kernel
theorem dX7_judged_54 : decode cX7_judged 54 = .ok (.aload_n 0, 1) := by decide +kernel
theorem dX7_judged_55 : decode cX7_judged 55 = .ok (.getfield 46, 3) := by decide +kernel
theorem dX7_judged_58 : decode cX7_judged 58 = .ok (.iload_n 1, 1) := by decide +kernel
theorem dX7_judged_59 : decode cX7_judged 59 = .ok (.iload_n 3, 1) := by decide +kernel
theorem dX7_judged_60 : decode cX7_judged 60 = .ok (.iconst 5, 1) := by decide +kernel
theorem dX7_judged_61 : decode cX7_judged 61 = .ok (.iload 4, 2) := by decide +kernel
theorem dX7_judged_63 : decode cX7_judged 63 = .ok (.imul, 1) := by decide +kernel
theorem dX7_judged_64 : decode cX7_judged 64 = .ok (.invokevirtual 222, 3) := by decide +kernel
theorem dX7_judged_67 : decode cX7_judged 67 = .ok (.ifCond .ne 6, 3) := by decide +kernel
theorem dX7_judged_70 : decode cX7_judged 70 = .ok (.bipush (-2), 2) := by decide +kernel
theorem dX7_judged_72 : decode cX7_judged 72 = .ok (.ireturn, 1) := by decide +kernel
theorem dX7_judged_73 : decode cX7_judged 73 = .ok (.iconst 0, 1) := by decide +kernel
theorem dX7_judged_74 : decode cX7_judged 74 = .ok (.istore 6, 2) := by decide +kernel
theorem dX7_judged_76 : decode cX7_judged 76 = .ok (.iconst 0, 1) := by decide +kernel
theorem dX7_judged_77 : decode cX7_judged 77 = .ok (.istore 7, 2) := by decide +kernel
theorem dX7_judged_79 : decode cX7_judged 79 = .ok (.iload 7, 2) := by decide +kernel
theorem dX7_judged_81 : decode cX7_judged 81 = .ok (.iload 4, 2) := by decide +kernel
theorem dX7_judged_83 : decode cX7_judged 83 = .ok (.if_icmp .ge 84, 3) := by decide +kernel
theorem dX7_judged_86 : decode cX7_judged 86 = .ok (.aload_n 0, 1) := by decide +kernel
theorem dX7_judged_87 : decode cX7_judged 87 = .ok (.getfield 46, 3) := by decide +kernel
theorem dX7_judged_90 : decode cX7_judged 90 = .ok (.getfield 226, 3) := by decide +kernel
theorem dX7_judged_93 : decode cX7_judged 93 = .ok (.iload_n 1, 1) := by decide +kernel
theorem dX7_judged_94 : decode cX7_judged 94 = .ok (.aaload, 1) := by decide +kernel
theorem dX7_judged_95 : decode cX7_judged 95 = .ok (.iload_n 3, 1) := by decide +kernel
theorem dX7_judged_96 : decode cX7_judged 96 = .ok (.iconst 5, 1) := by decide +kernel
theorem dX7_judged_97 : decode cX7_judged 97 = .ok (.iload 7, 2) := by decide +kernel
theorem dX7_judged_99 : decode cX7_judged 99 = .ok (.imul, 1) := by decide +kernel
theorem dX7_judged_100 : decode cX7_judged 100 = .ok (.iadd, 1) := by decide +kernel
theorem dX7_judged_101 : decode cX7_judged 101 = .ok (.aload_n 0, 1) := by decide +kernel
theorem dX7_judged_102 : decode cX7_judged 102 = .ok (.getfield 69, 3) := by decide +kernel
theorem dX7_judged_105 : decode cX7_judged 105 = .ok (.iconst 0, 1) := by decide +kernel
theorem dX7_judged_106 : decode cX7_judged 106 = .ok (.iconst 5, 1) := by decide +kernel
theorem dX7_judged_107 : decode cX7_judged 107 = .ok (.invokestatic 197, 3) := by decide +kernel
theorem dX7_judged_110 : decode cX7_judged 110 = .ok (.aload_n 0, 1) := by decide +kernel
theorem dX7_judged_111 : decode cX7_judged 111 = .ok (.getfield 53, 3) := by decide +kernel
theorem dX7_judged_114 : decode cX7_judged 114 = .ok (.iconst 0, 1) := by decide +kernel
theorem dX7_judged_115 : decode cX7_judged 115 = .ok (.aload_n 0, 1) := by decide +kernel
theorem dX7_judged_116 : decode cX7_judged 116 = .ok (.getfield 69, 3) := by decide +kernel
theorem dX7_judged_119 : decode cX7_judged 119 = .ok (.invokevirtual 166, 3) := by decide +kernel
theorem dX7_judged_122 : decode cX7_judged 122 = .ok (.ifCond .eq 12, 3) := by decide +kernel
theorem dX7_judged_125 : decode cX7_judged 125 = .ok (.iload 6, 2) := by decide +kernel
theorem dX7_judged_127 : decode cX7_judged 127 = .ok (.iconst 1, 1) := by decide +kernel
theorem dX7_judged_128 : decode cX7_judged 128 = .ok (.iload 7, 2) := by decide +kernel
theorem dX7_judged_130 : decode cX7_judged 130 = .ok (.ishl, 1) := by decide +kernel
theorem dX7_judged_131 : decode cX7_judged 131 = .ok (.ior, 1) := by decide +kernel
theorem dX7_judged_132 : decode cX7_judged 132 = .ok (.istore 6, 2) := by decide +kernel
theorem dX7_judged_134 : decode cX7_judged 134 = .ok (.aload_n 0, 1) := by decide +kernel
theorem dX7_judged_135 : decode cX7_judged 135 = .ok (.getfield 53, 3) := by decide +kernel
theorem dX7_judged_138 : decode cX7_judged 138 = .ok (.iconst 1, 1) := by decide +kernel
theorem dX7_judged_139 : decode cX7_judged 139 = .ok (.aload_n 0, 1) := by decide +kernel
theorem dX7_judged_140 : decode cX7_judged 140 = .ok (.getfield 69, 3) := by decide +kernel
theorem dX7_judged_143 : decode cX7_judged 143 = .ok (.invokevirtual 166, 3) := by decide +kernel
theorem dX7_judged_146 : decode cX7_judged 146 = .ok (.ifCond .eq 15, 3) := by decide +kernel
theorem dX7_judged_149 : decode cX7_judged 149 = .ok (.iload 6, 2) := by decide +kernel
theorem dX7_judged_151 : decode cX7_judged 151 = .ok (.iconst 1, 1) := by decide +kernel
theorem dX7_judged_152 : decode cX7_judged 152 = .ok (.bipush 8, 2) := by decide +kernel
theorem dX7_judged_154 : decode cX7_judged 154 = .ok (.iload 7, 2) := by decide +kernel
theorem dX7_judged_156 : decode cX7_judged 156 = .ok (.iadd, 1) := by decide +kernel
theorem dX7_judged_157 : decode cX7_judged 157 = .ok (.ishl, 1) := by decide +kernel
theorem dX7_judged_158 : decode cX7_judged 158 = .ok (.ior, 1) := by decide +kernel
theorem dX7_judged_159 : decode cX7_judged 159 = .ok (.istore 6, 2) := by decide +kernel
theorem dX7_judged_161 : decode cX7_judged 161 = .ok (.iinc 7 1, 3) := by decide +kernel
theorem dX7_judged_164 : decode cX7_judged 164 = .ok (.goto (-85), 3) := by decide +kernel
theorem dX7_judged_167 : decode cX7_judged 167 = .ok (.iload 6, 2) := by decide +kernel
theorem dX7_judged_169 : decode cX7_judged 169 = .ok (.ireturn, 1) := by decide +kernel
theorem dX7_film_0 : decode cX7_film 0 = .ok (.iload_n 1, 1) := by decide +kernel
theorem dX7_film_1 : decode cX7_film 1 = .ok (.iconst 2, 1) := by decide +kernel
theorem dX7_film_2 : decode cX7_film 2 = .ok (.invokestatic 73, 3) := by decide +kernel
theorem dX7_film_5 : decode cX7_film 5 = .ok (.ifCond .eq 19, 3) := by decide +kernel
theorem dX7_film_8 : decode cX7_film 8 = .ok (.iload_n 2, 1) := by decide +kernel
theorem dX7_film_9 : decode cX7_film 9 = .ok (.iconst 4, 1) := by decide +kernel
theorem dX7_film_10 : decode cX7_film 10 = .ok (.invokestatic 73, 3) := by decide +kernel
theorem dX7_film_13 : decode cX7_film 13 = .ok (.ifCond .eq 11, 3) := by decide +kernel
theorem dX7_film_16 : decode cX7_film 16 = .ok (.iload_n 3, 1) := by decide +kernel
theorem dX7_film_17 : decode cX7_film 17 = .ok (.iconst 4, 1) := by decide +kernel
theorem dX7_film_18 : decode cX7_film 18 = .ok (.invokestatic 73, 3) := by decide +kernel
theorem dX7_film_21 : decode cX7_film 21 = .ok (.ifCond .ne 5, 3) := by decide +kernel
theorem dX7_film_24 : decode cX7_film 24 = .ok (.iconst (-1), 1) := by decide +kernel
theorem dX7_film_25 : decode cX7_film 25 = .ok (.ireturn, 1) := by decide +kernel
theorem dX7_film_26 : decode cX7_film 26 = .ok (.aload_n 0, 1) := by decide +kernel
theorem dX7_film_27 : decode cX7_film 27 = .ok (.getfield 46, 3) := by decide +kernel
theorem dX7_film_30 : decode cX7_film 30 = .ok (.iload_n 2, 1) := by decide +kernel
theorem dX7_film_31 : decode cX7_film 31 = .ok (.iload_n 3, 1) := by decide +kernel
theorem dX7_film_32 : decode cX7_film 32 = .ok (.iload 4, 2) := by decide +kernel
theorem dX7_film_34 : decode cX7_film 34 = .ok (.iconst 5, 1) := by decide +kernel
theorem dX7_film_35 : decode cX7_film 35 = .ok (.invokevirtual 218, 3) := by decide +kernel
theorem dX7_film_38 : decode cX7_film 38 = .ok (.istore 5, 2) := by decide +kernel
theorem dX7_film_40 : decode cX7_film 40 = .ok (.iload 5, 2) := by decide +kernel
theorem dX7_film_42 : decode cX7_film 42 = .ok (.ifCond .eq 6, 3) := by decide +kernel
theorem dX7_film_45 : decode cX7_film 45 = .ok (.iload 5, 2) := by decide +kernel
theorem dX7_film_47 : decode cX7_film 47 = .ok (.ireturn, 1) := by decide +kernel
theorem dX7_film_48 : decode cX7_film 48 = .ok (.iconst 0, 1) := by decide +kernel
theorem dX7_film_49 : decode cX7_film 49 = .ok (.istore 6, 2) := by decide +kernel
theorem dX7_film_51 : decode cX7_film 51 = .ok (.iload 6, 2) := by decide +kernel
theorem dX7_film_53 : decode cX7_film 53 = .ok (.iconst 5, 1) := by decide +kernel
theorem dX7_film_54 : decode cX7_film 54 = .ok (.if_icmp .ge 39, 3) := by decide +kernel
theorem dX7_film_57 : decode cX7_film 57 = .ok (.aload_n 0, 1) := by decide +kernel
theorem dX7_film_58 : decode cX7_film 58 = .ok (.getfield 46, 3) := by decide +kernel
theorem dX7_film_61 : decode cX7_film 61 = .ok (.getfield 226, 3) := by decide +kernel
theorem dX7_film_64 : decode cX7_film 64 = .ok (.iload_n 2, 1) := by decide +kernel
theorem dX7_film_65 : decode cX7_film 65 = .ok (.aaload, 1) := by decide +kernel
theorem dX7_film_66 : decode cX7_film 66 = .ok (.iload 4, 2) := by decide +kernel
theorem dX7_film_68 : decode cX7_film 68 = .ok (.iload 6, 2) := by decide +kernel
theorem dX7_film_70 : decode cX7_film 70 = .ok (.iadd, 1) := by decide +kernel
theorem dX7_film_71 : decode cX7_film 71 = .ok (.aload_n 0, 1) := by decide +kernel
theorem dX7_film_72 : decode cX7_film 72 = .ok (.getfield 12, 3) := by decide +kernel
theorem dX7_film_75 : decode cX7_film 75 = .ok (.getfield 81, 3) := by decide +kernel
theorem dX7_film_78 : decode cX7_film 78 = .ok (.iload_n 1, 1) := by decide +kernel
theorem dX7_film_79 : decode cX7_film 79 = .ok (.iconst 5, 1) := by decide +kernel
theorem dX7_film_80 : decode cX7_film 80 = .ok (.imul, 1) := by decide +kernel
theorem dX7_film_81 : decode cX7_film 81 = .ok (.iload 6, 2) := by decide +kernel
theorem dX7_film_83 : decode cX7_film 83 = .ok (.iadd, 1) := by decide +kernel
theorem dX7_film_84 : decode cX7_film 84 = .ok (.iaload, 1) := by decide +kernel
theorem dX7_film_85 : decode cX7_film 85 = .ok (.i2l, 1) := by decide +kernel
theorem dX7_film_86 : decode cX7_film 86 = .ok (.lastore, 1) := by decide +kernel
theorem dX7_film_87 : decode cX7_film 87 = .ok (.iinc 6 1, 3) := by decide +kernel
theorem dX7_film_90 : decode cX7_film 90 = .ok (.goto (-39), 3) := by decide +kernel
theorem dX7_film_93 : decode cX7_film 93 = .ok (.iconst 5, 1) := by decide +kernel
theorem dX7_film_94 : decode cX7_film 94 = .ok (.ireturn, 1) := by decide +kernel
theorem dX7_sheet_0 : decode cX7_sheet 0 = .ok (.iload_n 1, 1) := by decide +kernel
theorem dX7_sheet_1 : decode cX7_sheet 1 = .ok (.iconst 4, 1) := by decide +kernel
theorem dX7_sheet_2 : decode cX7_sheet 2 = .ok (.invokestatic 73, 3) := by decide +kernel
theorem dX7_sheet_5 : decode cX7_sheet 5 = .ok (.ifCond .eq 17, 3) := by decide +kernel
theorem dX7_sheet_8 : decode cX7_sheet 8 = .ok (.iload_n 2, 1) := by decide +kernel
theorem dX7_sheet_9 : decode cX7_sheet 9 = .ok (.iconst 4, 1) := by decide +kernel
theorem dX7_sheet_10 : decode cX7_sheet 10 = .ok (.invokestatic 73, 3) := by decide +kernel
theorem dX7_sheet_13 : decode cX7_sheet 13 = .ok (.ifCond .eq 9, 3) := by decide +kernel
theorem dX7_sheet_16 : decode cX7_sheet 16 = .ok (.iload_n 3, 1) := by decide +kernel
theorem dX7_sheet_17 : decode cX7_sheet 17 = .ok (.bipush 24, 2) := by decide +kernel
theorem dX7_sheet_19 : decode cX7_sheet 19 = .ok (.if_icmp .le 5, 3) := by decide +kernel
theorem dX7_sheet_22 : decode cX7_sheet 22 = .ok (.iconst (-1), 1) := by decide +kernel
theorem dX7_sheet_23 : decode cX7_sheet 23 = .ok (.ireturn, 1) := by decide +kernel
theorem dX7_sheet_24 : decode cX7_sheet 24 = .ok (.iload_n 3, 1) := by decide +kernel
theorem dX7_sheet_25 : decode cX7_sheet 25 = .ok (.ifCond .ge 6, 3) := by decide +kernel
theorem dX7_sheet_28 : decode cX7_sheet 28 = .ok (.bipush (-14), 2) := by decide +kernel
theorem dX7_sheet_30 : decode cX7_sheet 30 = .ok (.ireturn, 1) := by decide +kernel
theorem dX7_sheet_31 : decode cX7_sheet 31 = .ok (.aload_n 0, 1) := by decide +kernel
theorem dX7_sheet_32 : decode cX7_sheet 32 = .ok (.getfield 46, 3) := by decide +kernel
theorem dX7_sheet_35 : decode cX7_sheet 35 = .ok (.iload_n 1, 1) := by decide +kernel
theorem dX7_sheet_36 : decode cX7_sheet 36 = .ok (.iload_n 2, 1) := by decide +kernel
theorem dX7_sheet_37 : decode cX7_sheet 37 = .ok (.iload_n 3, 1) := by decide +kernel
theorem dX7_sheet_38 : decode cX7_sheet 38 = .ok (.invokevirtual 229, 3) := by decide +kernel
theorem dX7_sheet_41 : decode cX7_sheet 41 = .ok (.iload_n 3, 1) := by decide +kernel
theorem dX7_sheet_42 : decode cX7_sheet 42 = .ok (.ireturn, 1) := by decide +kernel
theorem dX7_drop_0 : decode cX7_drop 0 = .ok (.iload_n 1, 1) := by decide +kernel
theorem dX7_drop_1 : decode cX7_drop 1 = .ok (.iconst 4, 1) := by decide +kernel
theorem dX7_drop_2 : decode cX7_drop 2 = .ok (.invokestatic 73, 3) := by decide +kernel
theorem dX7_drop_5 : decode cX7_drop 5 = .ok (.ifCond .ne 5, 3) := by decide +kernel
theorem dX7_drop_8 : decode cX7_drop 8 = .ok (.iconst (-1), 1) := by decide +kernel
theorem dX7_drop_9 : decode cX7_drop 9 = .ok (.ireturn, 1) := by decide +kernel
theorem dX7_drop_10 : decode cX7_drop 10 = .ok (.aload_n 0, 1) := by decide +kernel
theorem dX7_drop_11 : decode cX7_drop 11 = .ok (.getfield 46, 3) := by decide +kernel
theorem dX7_drop_14 : decode cX7_drop 14 = .ok (.iload_n 1, 1) := by decide +kernel
theorem dX7_drop_15 : decode cX7_drop 15 = .ok (.invokevirtual 233, 3) := by decide +kernel
theorem dX7_drop_18 : decode cX7_drop 18 = .ok (.ifCond .eq 6, 3) := by decide +kernel
theorem dX7_drop_21 : decode cX7_drop 21 = .ok (.bipush (-11), 2) := by decide +kernel
theorem dX7_drop_23 : decode cX7_drop 23 = .ok (.ireturn, 1) := by decide +kernel
theorem dX7_drop_24 : decode cX7_drop 24 = .ok (.aload_n 0, 1) := by decide +kernel
theorem dX7_drop_25 : decode cX7_drop 25 = .ok (.getfield 46, 3) := by decide +kernel
theorem dX7_drop_28 : decode cX7_drop 28 = .ok (.getfield 236, 3) := by decide +kernel
theorem dX7_drop_31 : decode cX7_drop 31 = .ok (.iload_n 1, 1) := by decide +kernel
theorem dX7_drop_32 : decode cX7_drop 32 = .ok (.iaload, 1) := by decide +kernel
theorem dX7_drop_33 : decode cX7_drop 33 = .ok (.istore_n 2, 1) := by decide +kernel
theorem dX7_drop_34 : decode cX7_drop 34 = .ok (.aload_n 0, 1) := by decide +kernel
theorem dX7_drop_35 : decode cX7_drop 35 = .ok (.getfield 46, 3) := by decide +kernel
theorem dX7_drop_38 : decode cX7_drop 38 = .ok (.iload_n 1, 1) := by decide +kernel
theorem dX7_drop_39 : decode cX7_drop 39 = .ok (.invokevirtual 239, 3) := by decide +kernel
theorem dX7_drop_42 : decode cX7_drop 42 = .ok (.iload_n 2, 1) := by decide +kernel
theorem dX7_drop_43 : decode cX7_drop 43 = .ok (.ireturn, 1) := by decide +kernel
theorem dX7_item_0 : decode cX7_item 0 = .ok (.iload_n 1, 1) := by decide +kernel
theorem dX7_item_1 : decode cX7_item 1 = .ok (.iconst 4, 1) := by decide +kernel
theorem dX7_item_2 : decode cX7_item 2 = .ok (.invokestatic 73, 3) := by decide +kernel
theorem dX7_item_5 : decode cX7_item 5 = .ok (.ifCond .eq 11, 3) := by decide +kernel
theorem dX7_item_8 : decode cX7_item 8 = .ok (.iload_n 2, 1) := by decide +kernel
theorem dX7_item_9 : decode cX7_item 9 = .ok (.iconst 4, 1) := by decide +kernel
theorem dX7_item_10 : decode cX7_item 10 = .ok (.invokestatic 73, 3) := by decide +kernel
theorem dX7_item_13 : decode cX7_item 13 = .ok (.ifCond .ne 5, 3) := by decide +kernel
theorem dX7_item_16 : decode cX7_item 16 = .ok (.iconst (-1), 1) := by decide +kernel
theorem dX7_item_17 : decode cX7_item 17 = .ok (.ireturn, 1) := by decide +kernel
theorem dX7_item_18 : decode cX7_item 18 = .ok (.aload_n 0, 1) := by decide +kernel
theorem dX7_item_19 : decode cX7_item 19 = .ok (.getfield 46, 3) := by decide +kernel
theorem dX7_item_22 : decode cX7_item 22 = .ok (.iload_n 1, 1) := by decide +kernel
theorem dX7_item_23 : decode cX7_item 23 = .ok (.iload_n 2, 1) := by decide +kernel
theorem dX7_item_24 : decode cX7_item 24 = .ok (.iload_n 3, 1) := by decide +kernel
theorem dX7_item_25 : decode cX7_item 25 = .ok (.iconst 1, 1) := by decide +kernel
theorem dX7_item_26 : decode cX7_item 26 = .ok (.invokevirtual 218, 3) := by decide +kernel
theorem dX7_item_29 : decode cX7_item 29 = .ok (.istore 6, 2) := by decide +kernel
theorem dX7_item_31 : decode cX7_item 31 = .ok (.iload 6, 2) := by decide +kernel
theorem dX7_item_33 : decode cX7_item 33 = .ok (.ifCond .eq 6, 3) := by decide +kernel
theorem dX7_item_36 : decode cX7_item 36 = .ok (.iload 6, 2) := by decide +kernel
theorem dX7_item_38 : decode cX7_item 38 = .ok (.ireturn, 1) := by decide +kernel
theorem dX7_item_39 : decode cX7_item 39 = .ok (.aload_n 0, 1) := by decide +kernel
theorem dX7_item_40 : decode cX7_item 40 = .ok (.getfield 46, 3) := by decide +kernel
theorem dX7_item_43 : decode cX7_item 43 = .ok (.getfield 226, 3) := by decide +kernel
theorem dX7_item_46 : decode cX7_item 46 = .ok (.iload_n 1, 1) := by decide +kernel
theorem dX7_item_47 : decode cX7_item 47 = .ok (.aaload, 1) := by decide +kernel
theorem dX7_item_48 : decode cX7_item 48 = .ok (.iload_n 3, 1) := by decide +kernel
theorem dX7_item_49 : decode cX7_item 49 = .ok (.iload_n 2, 1) := by decide +kernel
theorem dX7_item_50 : decode cX7_item 50 = .ok (.lload 4, 2) := by decide +kernel
theorem dX7_item_52 : decode cX7_item 52 = .ok (.invokestatic 242, 3) := by decide +kernel
theorem dX7_item_55 : decode cX7_item 55 = .ok (.lastore, 1) := by decide +kernel
theorem dX7_item_56 : decode cX7_item 56 = .ok (.iconst 1, 1) := by decide +kernel
theorem dX7_item_57 : decode cX7_item 57 = .ok (.ireturn, 1) := by decide +kernel
theorem dX7_copy_0 : decode cX7_copy 0 = .ok (.iload_n 1, 1) := by decide +kernel
theorem dX7_copy_1 : decode cX7_copy 1 = .ok (.iconst 4, 1) := by decide +kernel
theorem dX7_copy_2 : decode cX7_copy 2 = .ok (.invokestatic 73, 3) := by decide +kernel
theorem dX7_copy_5 : decode cX7_copy 5 = .ok (.ifCond .eq 11, 3) := by decide +kernel
theorem dX7_copy_8 : decode cX7_copy 8 = .ok (.iload_n 3, 1) := by decide +kernel
theorem dX7_copy_9 : decode cX7_copy 9 = .ok (.iconst 4, 1) := by decide +kernel
theorem dX7_copy_10 : decode cX7_copy 10 = .ok (.invokestatic 73, 3) := by decide +kernel
theorem dX7_copy_13 : decode cX7_copy 13 = .ok (.ifCond .ne 5, 3) := by decide +kernel
theorem dX7_copy_16 : decode cX7_copy 16 = .ok (.iconst (-1), 1) := by decide +kernel
theorem dX7_copy_17 : decode cX7_copy 17 = .ok (.ireturn, 1) := by decide +kernel
theorem dX7_copy_18 : decode cX7_copy 18 = .ok (.aload_n 0, 1) := by decide +kernel
theorem dX7_copy_19 : decode cX7_copy 19 = .ok (.getfield 46, 3) := by decide +kernel
theorem dX7_copy_22 : decode cX7_copy 22 = .ok (.iload_n 1, 1) := by decide +kernel
theorem dX7_copy_23 : decode cX7_copy 23 = .ok (.invokevirtual 233, 3) := by decide +kernel
theorem dX7_copy_26 : decode cX7_copy 26 = .ok (.ifCond .ne 14, 3) := by decide +kernel
theorem dX7_copy_29 : decode cX7_copy 29 = .ok (.aload_n 0, 1) := by decide +kernel
theorem dX7_copy_30 : decode cX7_copy 30 = .ok (.getfield 46, 3) := by decide +kernel
theorem dX7_copy_33 : decode cX7_copy 33 = .ok (.iload_n 3, 1) := by decide +kernel
theorem dX7_copy_34 : decode cX7_copy 34 = .ok (.invokevirtual 233, 3) := by decide +kernel
theorem dX7_copy_37 : decode cX7_copy 37 = .ok (.ifCond .eq 6, 3) := by decide +kernel
theorem dX7_copy_40 : decode cX7_copy 40 = .ok (.bipush (-11), 2) := by decide +kernel
theorem dX7_copy_42 : decode cX7_copy 42 = .ok (.ireturn, 1) := by decide +kernel
theorem dX7_copy_43 : decode cX7_copy 43 = .ok (.aload_n 0, 1) := by decide +kernel
theorem dX7_copy_44 : decode cX7_copy 44 = .ok (.getfield 46, 3) := by decide +kernel
theorem dX7_copy_47 : decode cX7_copy 47 = .ok (.getfield 246, 3) := by decide +kernel
theorem dX7_copy_50 : decode cX7_copy 50 = .ok (.iload_n 1, 1) := by decide +kernel
theorem dX7_copy_51 : decode cX7_copy 51 = .ok (.iaload, 1) := by decide +kernel
theorem dX7_copy_52 : decode cX7_copy 52 = .ok (.aload_n 0, 1) := by decide +kernel
theorem dX7_copy_53 : decode cX7_copy 53 = .ok (.getfield 46, 3) := by decide +kernel
theorem dX7_copy_56 : decode cX7_copy 56 = .ok (.getfield 246, 3) := by decide +kernel
theorem dX7_copy_59 : decode cX7_copy 59 = .ok (.iload_n 3, 1) := by decide +kernel
theorem dX7_copy_60 : decode cX7_copy 60 = .ok (.iaload, 1) := by decide +kernel
theorem dX7_copy_61 : decode cX7_copy 61 = .ok (.if_icmp .eq 6, 3) := by decide +kernel
theorem dX7_copy_64 : decode cX7_copy 64 = .ok (.bipush (-12), 2) := by decide +kernel
theorem dX7_copy_66 : decode cX7_copy 66 = .ok (.ireturn, 1) := by decide +kernel
theorem dX7_copy_67 : decode cX7_copy 67 = .ok (.aload_n 0, 1) := by decide +kernel
theorem dX7_copy_68 : decode cX7_copy 68 = .ok (.getfield 46, 3) := by decide +kernel
theorem dX7_copy_71 : decode cX7_copy 71 = .ok (.iload_n 1, 1) := by decide +kernel
theorem dX7_copy_72 : decode cX7_copy 72 = .ok (.iload_n 2, 1) := by decide +kernel
theorem dX7_copy_73 : decode cX7_copy 73 = .ok (.iload 5, 2) := by decide +kernel
theorem dX7_copy_75 : decode cX7_copy 75 = .ok (.invokevirtual 249, 3) := by decide +kernel
theorem dX7_copy_78 : decode cX7_copy 78 = .ok (.ifCond .eq 18, 3) := by decide +kernel
theorem dX7_copy_81 : decode cX7_copy 81 = .ok (.aload_n 0, 1) := by decide +kernel
theorem dX7_copy_82 : decode cX7_copy 82 = .ok (.getfield 46, 3) := by decide +kernel
theorem dX7_copy_85 : decode cX7_copy 85 = .ok (.iload_n 3, 1) := by decide +kernel
theorem dX7_copy_86 : decode cX7_copy 86 = .ok (.iload 4, 2) := by decide +kernel
theorem dX7_copy_88 : decode cX7_copy 88 = .ok (.iload 5, 2) := by decide +kernel
theorem dX7_copy_90 : decode cX7_copy 90 = .ok (.invokevirtual 249, 3) := by decide +kernel
theorem dX7_copy_93 : decode cX7_copy 93 = .ok (.ifCond .ne 6, 3) := by decide +kernel
theorem dX7_copy_96 : decode cX7_copy 96 = .ok (.bipush (-13), 2) := by decide +kernel
theorem dX7_copy_98 : decode cX7_copy 98 = .ok (.ireturn, 1) := by decide +kernel
theorem dX7_copy_99 : decode cX7_copy 99 = .ok (.aload_n 0, 1) := by decide +kernel
theorem dX7_copy_100 : decode cX7_copy 100 = .ok (.getfield 46, 3) := by decide +kernel
theorem dX7_copy_103 : decode cX7_copy 103 = .ok (.getfield 226, 3) := by decide +kernel
theorem dX7_copy_106 : decode cX7_copy 106 = .ok (.iload_n 1, 1) := by decide +kernel
theorem dX7_copy_107 : decode cX7_copy 107 = .ok (.aaload, 1) := by decide +kernel
theorem dX7_copy_108 : decode cX7_copy 108 = .ok (.iload_n 2, 1) := by decide +kernel
theorem dX7_copy_109 : decode cX7_copy 109 = .ok (.aload_n 0, 1) := by decide +kernel
theorem dX7_copy_110 : decode cX7_copy 110 = .ok (.getfield 46, 3) := by decide +kernel
theorem dX7_copy_113 : decode cX7_copy 113 = .ok (.getfield 226, 3) := by decide +kernel
theorem dX7_copy_116 : decode cX7_copy 116 = .ok (.iload_n 3, 1) := by decide +kernel
theorem dX7_copy_117 : decode cX7_copy 117 = .ok (.aaload, 1) := by decide +kernel
theorem dX7_copy_118 : decode cX7_copy 118 = .ok (.iload 4, 2) := by decide +kernel
theorem dX7_copy_120 : decode cX7_copy 120 = .ok (.iload 5, 2) := by decide +kernel
theorem dX7_copy_122 : decode cX7_copy 122 = .ok (.invokestatic 197, 3) := by decide +kernel
theorem dX7_copy_125 : decode cX7_copy 125 = .ok (.iload 5, 2) := by decide +kernel
theorem dX7_copy_127 : decode cX7_copy 127 = .ok (.ireturn, 1) := by decide +kernel
theorem dX7_countRoots_0 : decode cX7_countRoots 0 = .ok (.iload_n 1, 1) := by decide +kernel
theorem dX7_countRoots_1 : decode cX7_countRoots 1 = .ok (.iconst 2, 1) := by decide +kernel
theorem dX7_countRoots_2 : decode cX7_countRoots 2 = .ok (.invokestatic 73, 3) := by decide +kernel
theorem dX7_countRoots_5 : decode cX7_countRoots 5 = .ok (.ifCond .eq 18, 3) := by decide +kernel
theorem dX7_countRoots_8 : decode cX7_countRoots 8 = .ok (.iload_n 2, 1) := by decide +kernel
theorem dX7_countRoots_9 : decode cX7_countRoots 9 = .ok (.invokestatic 89, 3) := by decide +kernel
theorem dX7_countRoots_12 : decode cX7_countRoots 12 = .ok (.ifCond .eq 11, 3) := by decide +kernel
theorem dX7_countRoots_15 : decode cX7_countRoots 15 = .ok (.iload_n 3, 1) := by decide +kernel
theorem dX7_countRoots_16 : decode cX7_countRoots 16 = .ok (.iconst 4, 1) := by decide +kernel
theorem dX7_countRoots_17 : decode cX7_countRoots 17 = .ok (.invokestatic 73, 3) := by decide +kernel
theorem dX7_countRoots_20 : decode cX7_countRoots 20 = .ok (.ifCond .ne 5, 3) := by decide +kernel
theorem dX7_countRoots_23 : decode cX7_countRoots 23 = .ok (.iconst (-1), 1) := by decide +kernel
theorem dX7_countRoots_24 : decode cX7_countRoots 24 = .ok (.ireturn, 1) := by decide +kernel
theorem dX7_countRoots_25 : decode cX7_countRoots 25 = .ok (.aload_n 0, 1) := by decide +kernel
theorem dX7_countRoots_26 : decode cX7_countRoots 26 = .ok (.getfield 12, 3) := by decide +kernel
theorem dX7_countRoots_29 : decode cX7_countRoots 29 = .ok (.aload_n 0, 1) := by decide +kernel
theorem dX7_countRoots_30 : decode cX7_countRoots 30 = .ok (.getfield 69, 3) := by decide +kernel
theorem dX7_countRoots_33 : decode cX7_countRoots 33 = .ok (.iload_n 2, 1) := by decide +kernel
theorem dX7_countRoots_34 : decode cX7_countRoots 34 = .ok (.invokevirtual 104, 3) := by decide +kernel
theorem dX7_countRoots_37 : decode cX7_countRoots 37 = .ok (.aload_n 0, 1) := by decide +kernel
theorem dX7_countRoots_38 : decode cX7_countRoots 38 = .ok (.getfield 69, 3) := by decide +kernel
theorem dX7_countRoots_41 : decode cX7_countRoots 41 = .ok (.invokestatic 108, 3) := by decide +kernel
theorem dX7_countRoots_44 : decode cX7_countRoots 44 = .ok (.iconst (-1), 1) := by decide +kernel
theorem dX7_countRoots_45 : decode cX7_countRoots 45 = .ok (.if_icmp .ne 6, 3) := by decide +kernel
theorem dX7_countRoots_48 : decode cX7_countRoots 48 = .ok (.bipush (-4), 2) := by decide +kernel
theorem dX7_countRoots_50 : decode cX7_countRoots 50 = .ok (.ireturn, 1) := by decide +kernel
theorem dX7_countRoots_51 : decode cX7_countRoots 51 = .ok (.aload_n 0, 1) := by decide +kernel
theorem dX7_countRoots_52 : decode cX7_countRoots 52 = .ok (.getfield 53, 3) := by decide +kernel
theorem dX7_countRoots_55 : decode cX7_countRoots 55 = .ok (.iload_n 1, 1) := by decide +kernel
theorem dX7_countRoots_56 : decode cX7_countRoots 56 = .ok (.aload_n 0, 1) := by decide +kernel
theorem dX7_countRoots_57 : decode cX7_countRoots 57 = .ok (.getfield 69, 3) := by decide +kernel
theorem dX7_countRoots_60 : decode cX7_countRoots 60 = .ok (.invokevirtual 252, 3) := by decide +kernel
theorem dX7_countRoots_63 : decode cX7_countRoots 63 = .ok (.iload_n 3, 1) := by decide +kernel
theorem dX7_countRoots_64 : decode cX7_countRoots 64 = .ok (.tableswitch 52 0 2 #[28, 36, 44], 28) := by decide +kernel
theorem dX7_countRoots_92 : decode cX7_countRoots 92 = .ok (.aload_n 0, 1) := by decide +kernel
theorem dX7_countRoots_93 : decode cX7_countRoots 93 = .ok (.getfield 53, 3) := by decide +kernel
theorem dX7_countRoots_96 : decode cX7_countRoots 96 = .ok (.getfield 256, 3) := by decide +kernel
theorem dX7_countRoots_99 : decode cX7_countRoots 99 = .ok (.ireturn, 1) := by decide +kernel
theorem dX7_countRoots_100 : decode cX7_countRoots 100 = .ok (.aload_n 0, 1) := by decide +kernel
theorem dX7_countRoots_101 : decode cX7_countRoots 101 = .ok (.getfield 53, 3) := by decide +kernel
theorem dX7_countRoots_104 : decode cX7_countRoots 104 = .ok (.getfield 259, 3) := by decide +kernel
theorem dX7_countRoots_107 : decode cX7_countRoots 107 = .ok (.ireturn, 1) := by decide +kernel
theorem dX7_countRoots_108 : decode cX7_countRoots 108 = .ok (.aload_n 0, 1) := by decide +kernel
theorem dX7_countRoots_109 : decode cX7_countRoots 109 = .ok (.getfield 53, 3) := by decide +kernel
theorem dX7_countRoots_112 : decode cX7_countRoots 112 = .ok (.getfield 262, 3) := by decide +kernel
theorem dX7_countRoots_115 : decode cX7_countRoots 115 = .ok (.ireturn, 1) := by decide +kernel
theorem dX7_countRoots_116 : decode cX7_countRoots 116 = .ok (.aload_n 0, 1) := by decide +kernel
theorem dX7_countRoots_117 : decode cX7_countRoots 117 = .ok (.getfield 53, 3) := by decide +kernel
theorem dX7_countRoots_120 : decode cX7_countRoots 120 = .ok (.getfield 256, 3) := by decide +kernel
theorem dX7_countRoots_123 : decode cX7_countRoots 123 = .ok (.ifCond .ne 17, 3) := by decide +kernel
theorem dX7_countRoots_126 : decode cX7_countRoots 126 = .ok (.aload_n 0, 1) := by decide +kernel
theorem dX7_countRoots_127 : decode cX7_countRoots 127 = .ok (.getfield 53, 3) := by decide +kernel
theorem dX7_countRoots_130 : decode cX7_countRoots 130 = .ok (.getfield 259, 3) := by decide +kernel
theorem dX7_countRoots_133 : decode cX7_countRoots 133 = .ok (.ifCond .ne 7, 3) := by decide +kernel
theorem dX7_countRoots_136 : decode cX7_countRoots 136 = .ok (.iconst 1, 1) := by decide +kernel
theorem dX7_countRoots_137 : decode cX7_countRoots 137 = .ok (.goto 4, 3) := by decide +kernel
theorem dX7_countRoots_140 : decode cX7_countRoots 140 = .ok (.iconst 0, 1) := by decide +kernel
theorem dX7_countRoots_141 : decode cX7_countRoots 141 = .ok (.ireturn, 1) := by decide +kernel
theorem dX7_bookOf_0 : decode cX7_bookOf 0 = .ok (.iload_n 1, 1) := by decide +kernel
theorem dX7_bookOf_1 : decode cX7_bookOf 1 = .ok (.ifCond .ne 10, 3) := by decide +kernel
theorem dX7_bookOf_4 : decode cX7_bookOf 4 = .ok (.aload_n 0, 1) := by decide +kernel
theorem dX7_bookOf_5 : decode cX7_bookOf 5 = .ok (.getfield 62, 3) := by decide +kernel
theorem dX7_bookOf_8 : decode cX7_bookOf 8 = .ok (.goto 7, 3) := by decide +kernel
theorem dX7_bookOf_11 : decode cX7_bookOf 11 = .ok (.aload_n 0, 1) := by decide +kernel
theorem dX7_bookOf_12 : decode cX7_bookOf 12 = .ok (.getfield 66, 3) := by decide +kernel
theorem dX7_bookOf_15 : decode cX7_bookOf 15 = .ok (.astore_n 2, 1) := by decide +kernel
theorem dX7_bookOf_16 : decode cX7_bookOf 16 = .ok (.aload_n 2, 1) := by decide +kernel
theorem dX7_bookOf_17 : decode cX7_bookOf 17 = .ok (.aload_n 0, 1) := by decide +kernel
theorem dX7_bookOf_18 : decode cX7_bookOf 18 = .ok (.getfield 12, 3) := by decide +kernel
theorem dX7_bookOf_21 : decode cX7_bookOf 21 = .ok (.aload_n 0, 1) := by decide +kernel
theorem dX7_bookOf_22 : decode cX7_bookOf 22 = .ok (.getfield 53, 3) := by decide +kernel
theorem dX7_bookOf_25 : decode cX7_bookOf 25 = .ok (.invokevirtual 265, 3) := by decide +kernel
theorem dX7_bookOf_28 : decode cX7_bookOf 28 = .ok (.aload_n 2, 1) := by decide +kernel
theorem dX7_bookOf_29 : decode cX7_bookOf 29 = .ok (.areturn, 1) := by decide +kernel
theorem dX7_isChoice_0 : decode cX7_isChoice 0 = .ok (.iload_n 0, 1) := by decide +kernel
theorem dX7_isChoice_1 : decode cX7_isChoice 1 = .ok (.ifCond .lt 12, 3) := by decide +kernel
theorem dX7_isChoice_4 : decode cX7_isChoice 4 = .ok (.iload_n 0, 1) := by decide +kernel
theorem dX7_isChoice_5 : decode cX7_isChoice 5 = .ok (.iload_n 1, 1) := by decide +kernel
theorem dX7_isChoice_6 : decode cX7_isChoice 6 = .ok (.if_icmp .ge 7, 3) := by decide +kernel
theorem dX7_isChoice_9 : decode cX7_isChoice 9 = .ok (.iconst 1, 1) := by decide +kernel
theorem dX7_isChoice_10 : decode cX7_isChoice 10 = .ok (.goto 4, 3) := by decide +kernel
theorem dX7_isChoice_13 : decode cX7_isChoice 13 = .ok (.iconst 0, 1) := by decide +kernel
theorem dX7_isChoice_14 : decode cX7_isChoice 14 = .ok (.ireturn, 1) := by decide +kernel
theorem dX7_isPart_0 : decode cX7_isPart 0 = .ok (.lload_n 0, 1) := by decide +kernel
theorem dX7_isPart_1 : decode cX7_isPart 1 = .ok (.ldc2_w 269, 3) := by decide +kernel
theorem dX7_isPart_4 : decode cX7_isPart 4 = .ok (.lcmp, 1) := by decide +kernel
theorem dX7_isPart_5 : decode cX7_isPart 5 = .ok (.ifCond .lt 15, 3) := by decide +kernel
theorem dX7_isPart_8 : decode cX7_isPart 8 = .ok (.lload_n 0, 1) := by decide +kernel
theorem dX7_isPart_9 : decode cX7_isPart 9 = .ok (.ldc2_w 271, 3) := by decide +kernel
theorem dX7_isPart_12 : decode cX7_isPart 12 = .ok (.lcmp, 1) := by decide +kernel
theorem dX7_isPart_13 : decode cX7_isPart 13 = .ok (.ifCond .gt 7, 3) := by decide +kernel
theorem dX7_isPart_16 : decode cX7_isPart 16 = .ok (.iconst 1, 1) := by decide +kernel
theorem dX7_isPart_17 : decode cX7_isPart 17 = .ok (.goto 4, 3) := by decide +kernel
theorem dX7_isPart_20 : decode cX7_isPart 20 = .ok (.iconst 0, 1) := by decide +kernel
theorem dX7_isPart_21 : decode cX7_isPart 21 = .ok (.ireturn, 1) := by decide +kernel
theorem dX7_isGain_0 : decode cX7_isGain 0 = .ok (.iload_n 0, 1) := by decide +kernel
theorem dX7_isGain_1 : decode cX7_isGain 1 = .ok (.sipush (-800), 3) := by decide +kernel
