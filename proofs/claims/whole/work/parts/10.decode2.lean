theorem dX8_free_13 : decode cX8_free 13 = .ok (.iload_n 3, 1) := by decide +kernel
theorem dX8_free_14 : decode cX8_free 14 = .ok (.iadd, 1) := by decide +kernel
theorem dX8_free_15 : decode cX8_free 15 = .ok (.laload, 1) := by decide +kernel
theorem dX8_free_16 : decode cX8_free 16 = .ok (.lstore 4, 2) := by decide +kernel
theorem dX8_free_18 : decode cX8_free 18 = .ok (.aload_n 0, 1) := by decide +kernel
theorem dX8_free_19 : decode cX8_free 19 = .ok (.getfield 64, 3) := by decide +kernel
theorem dX8_free_22 : decode cX8_free 22 = .ok (.iconst 4, 1) := by decide +kernel
theorem dX8_free_23 : decode cX8_free 23 = .ok (.iload_n 1, 1) := by decide +kernel
theorem dX8_free_24 : decode cX8_free 24 = .ok (.imul, 1) := by decide +kernel
theorem dX8_free_25 : decode cX8_free 25 = .ok (.iload_n 3, 1) := by decide +kernel
theorem dX8_free_26 : decode cX8_free 26 = .ok (.iadd, 1) := by decide +kernel
theorem dX8_free_27 : decode cX8_free 27 = .ok (.laload, 1) := by decide +kernel
theorem dX8_free_28 : decode cX8_free 28 = .ok (.lstore 6, 2) := by decide +kernel
theorem dX8_free_30 : decode cX8_free 30 = .ok (.lload 6, 2) := by decide +kernel
theorem dX8_free_32 : decode cX8_free 32 = .ok (.lconst 0, 1) := by decide +kernel
theorem dX8_free_33 : decode cX8_free 33 = .ok (.lcmp, 1) := by decide +kernel
theorem dX8_free_34 : decode cX8_free 34 = .ok (.ifCond .ne 4, 3) := by decide +kernel
theorem dX8_free_37 : decode cX8_free 37 = .ok (.return_, 1) := by decide +kernel
theorem dX8_free_38 : decode cX8_free 38 = .ok (.lconst 0, 1) := by decide +kernel
theorem dX8_free_39 : decode cX8_free 39 = .ok (.lstore 8, 2) := by decide +kernel
theorem dX8_free_41 : decode cX8_free 41 = .ok (.iconst 0, 1) := by decide +kernel
theorem dX8_free_42 : decode cX8_free 42 = .ok (.istore 10, 2) := by decide +kernel
theorem dX8_free_44 : decode cX8_free 44 = .ok (.iload 10, 2) := by decide +kernel
theorem dX8_free_46 : decode cX8_free 46 = .ok (.iconst 4, 1) := by decide +kernel
theorem dX8_free_47 : decode cX8_free 47 = .ok (.if_icmp .ge 67, 3) := by decide +kernel
theorem dX8_free_50 : decode cX8_free 50 = .ok (.aload_n 0, 1) := by decide +kernel
theorem dX8_free_51 : decode cX8_free 51 = .ok (.getfield 64, 3) := by decide +kernel
theorem dX8_free_54 : decode cX8_free 54 = .ok (.iconst 4, 1) := by decide +kernel
theorem dX8_free_55 : decode cX8_free 55 = .ok (.iload_n 1, 1) := by decide +kernel
theorem dX8_free_56 : decode cX8_free 56 = .ok (.imul, 1) := by decide +kernel
theorem dX8_free_57 : decode cX8_free 57 = .ok (.iload 10, 2) := by decide +kernel
theorem dX8_free_59 : decode cX8_free 59 = .ok (.iadd, 1) := by decide +kernel
theorem dX8_free_60 : decode cX8_free 60 = .ok (.aload_n 0, 1) := by decide +kernel
theorem dX8_free_61 : decode cX8_free 61 = .ok (.getfield 64, 3) := by decide +kernel
theorem dX8_free_64 : decode cX8_free 64 = .ok (.iconst 4, 1) := by decide +kernel
theorem dX8_free_65 : decode cX8_free 65 = .ok (.iload_n 1, 1) := by decide +kernel
theorem dX8_free_66 : decode cX8_free 66 = .ok (.imul, 1) := by decide +kernel
theorem dX8_free_67 : decode cX8_free 67 = .ok (.iload 10, 2) := by decide +kernel
theorem dX8_free_69 : decode cX8_free 69 = .ok (.iadd, 1) := by decide +kernel
theorem dX8_free_70 : decode cX8_free 70 = .ok (.laload, 1) := by decide +kernel
theorem dX8_free_71 : decode cX8_free 71 = .ok (.lload 4, 2) := by decide +kernel
theorem dX8_free_73 : decode cX8_free 73 = .ok (.lmul, 1) := by decide +kernel
theorem dX8_free_74 : decode cX8_free 74 = .ok (.aload_n 0, 1) := by decide +kernel
theorem dX8_free_75 : decode cX8_free 75 = .ok (.getfield 64, 3) := by decide +kernel
theorem dX8_free_78 : decode cX8_free 78 = .ok (.iconst 4, 1) := by decide +kernel
theorem dX8_free_79 : decode cX8_free 79 = .ok (.iload_n 2, 1) := by decide +kernel
theorem dX8_free_80 : decode cX8_free 80 = .ok (.imul, 1) := by decide +kernel
theorem dX8_free_81 : decode cX8_free 81 = .ok (.iload 10, 2) := by decide +kernel
theorem dX8_free_83 : decode cX8_free 83 = .ok (.iadd, 1) := by decide +kernel
theorem dX8_free_84 : decode cX8_free 84 = .ok (.laload, 1) := by decide +kernel
theorem dX8_free_85 : decode cX8_free 85 = .ok (.lload 6, 2) := by decide +kernel
theorem dX8_free_87 : decode cX8_free 87 = .ok (.lmul, 1) := by decide +kernel
theorem dX8_free_88 : decode cX8_free 88 = .ok (.lsub, 1) := by decide +kernel
theorem dX8_free_89 : decode cX8_free 89 = .ok (.lastore, 1) := by decide +kernel
theorem dX8_free_90 : decode cX8_free 90 = .ok (.lload 8, 2) := by decide +kernel
theorem dX8_free_92 : decode cX8_free 92 = .ok (.aload_n 0, 1) := by decide +kernel
theorem dX8_free_93 : decode cX8_free 93 = .ok (.getfield 64, 3) := by decide +kernel
theorem dX8_free_96 : decode cX8_free 96 = .ok (.iconst 4, 1) := by decide +kernel
theorem dX8_free_97 : decode cX8_free 97 = .ok (.iload_n 1, 1) := by decide +kernel
theorem dX8_free_98 : decode cX8_free 98 = .ok (.imul, 1) := by decide +kernel
theorem dX8_free_99 : decode cX8_free 99 = .ok (.iload 10, 2) := by decide +kernel
theorem dX8_free_101 : decode cX8_free 101 = .ok (.iadd, 1) := by decide +kernel
theorem dX8_free_102 : decode cX8_free 102 = .ok (.laload, 1) := by decide +kernel
theorem dX8_free_103 : decode cX8_free 103 = .ok (.invokestatic 120, 3) := by decide +kernel
theorem dX8_free_106 : decode cX8_free 106 = .ok (.lstore 8, 2) := by decide +kernel
theorem dX8_free_108 : decode cX8_free 108 = .ok (.iinc 10 1, 3) := by decide +kernel
theorem dX8_free_111 : decode cX8_free 111 = .ok (.goto (-67), 3) := by decide +kernel
theorem dX8_free_114 : decode cX8_free 114 = .ok (.iconst 0, 1) := by decide +kernel
theorem dX8_free_115 : decode cX8_free 115 = .ok (.istore 10, 2) := by decide +kernel
theorem dX8_free_117 : decode cX8_free 117 = .ok (.iload 10, 2) := by decide +kernel
theorem dX8_free_119 : decode cX8_free 119 = .ok (.iconst 4, 1) := by decide +kernel
theorem dX8_free_120 : decode cX8_free 120 = .ok (.if_icmp .ge 32, 3) := by decide +kernel
theorem dX8_free_123 : decode cX8_free 123 = .ok (.lload 8, 2) := by decide +kernel
theorem dX8_free_125 : decode cX8_free 125 = .ok (.lconst 1, 1) := by decide +kernel
theorem dX8_free_126 : decode cX8_free 126 = .ok (.lcmp, 1) := by decide +kernel
theorem dX8_free_127 : decode cX8_free 127 = .ok (.ifCond .le 25, 3) := by decide +kernel
theorem dX8_free_130 : decode cX8_free 130 = .ok (.aload_n 0, 1) := by decide +kernel
theorem dX8_free_131 : decode cX8_free 131 = .ok (.getfield 64, 3) := by decide +kernel
theorem dX8_free_134 : decode cX8_free 134 = .ok (.iconst 4, 1) := by decide +kernel
theorem dX8_free_135 : decode cX8_free 135 = .ok (.iload_n 1, 1) := by decide +kernel
theorem dX8_free_136 : decode cX8_free 136 = .ok (.imul, 1) := by decide +kernel
theorem dX8_free_137 : decode cX8_free 137 = .ok (.iload 10, 2) := by decide +kernel
theorem dX8_free_139 : decode cX8_free 139 = .ok (.iadd, 1) := by decide +kernel
theorem dX8_free_140 : decode cX8_free 140 = .ok (.dup2, 1) := by decide +kernel
theorem dX8_free_141 : decode cX8_free 141 = .ok (.laload, 1) := by decide +kernel
theorem dX8_free_142 : decode cX8_free 142 = .ok (.lload 8, 2) := by decide +kernel
theorem dX8_free_144 : decode cX8_free 144 = .ok (.ldiv, 1) := by decide +kernel
theorem dX8_free_145 : decode cX8_free 145 = .ok (.lastore, 1) := by decide +kernel
theorem dX8_free_146 : decode cX8_free 146 = .ok (.iinc 10 1, 3) := by decide +kernel
theorem dX8_free_149 : decode cX8_free 149 = .ok (.goto (-32), 3) := by decide +kernel
theorem dX8_free_152 : decode cX8_free 152 = .ok (.return_, 1) := by decide +kernel
theorem dX8_size_0 : decode cX8_size 0 = .ok (.lload_n 0, 1) := by decide +kernel
theorem dX8_size_1 : decode cX8_size 1 = .ok (.lconst 0, 1) := by decide +kernel
theorem dX8_size_2 : decode cX8_size 2 = .ok (.lcmp, 1) := by decide +kernel
theorem dX8_size_3 : decode cX8_size 3 = .ok (.ifCond .ge 8, 3) := by decide +kernel
theorem dX8_size_6 : decode cX8_size 6 = .ok (.lload_n 0, 1) := by decide +kernel
theorem dX8_size_7 : decode cX8_size 7 = .ok (.lneg, 1) := by decide +kernel
theorem dX8_size_8 : decode cX8_size 8 = .ok (.goto 4, 3) := by decide +kernel
theorem dX8_size_11 : decode cX8_size 11 = .ok (.lload_n 0, 1) := by decide +kernel
theorem dX8_size_12 : decode cX8_size 12 = .ok (.lreturn, 1) := by decide +kernel
theorem dX8_common_0 : decode cX8_common 0 = .ok (.lload_n 0, 1) := by decide +kernel
theorem dX8_common_1 : decode cX8_common 1 = .ok (.invokestatic 124, 3) := by decide +kernel
theorem dX8_common_4 : decode cX8_common 4 = .ok (.lstore 4, 2) := by decide +kernel
theorem dX8_common_6 : decode cX8_common 6 = .ok (.lload_n 2, 1) := by decide +kernel
theorem dX8_common_7 : decode cX8_common 7 = .ok (.invokestatic 124, 3) := by decide +kernel
theorem dX8_common_10 : decode cX8_common 10 = .ok (.lstore 6, 2) := by decide +kernel
theorem dX8_common_12 : decode cX8_common 12 = .ok (.lload 6, 2) := by decide +kernel
theorem dX8_common_14 : decode cX8_common 14 = .ok (.lconst 0, 1) := by decide +kernel
theorem dX8_common_15 : decode cX8_common 15 = .ok (.lcmp, 1) := by decide +kernel
theorem dX8_common_16 : decode cX8_common 16 = .ok (.ifCond .eq 21, 3) := by decide +kernel
theorem dX8_common_19 : decode cX8_common 19 = .ok (.lload 4, 2) := by decide +kernel
theorem dX8_common_21 : decode cX8_common 21 = .ok (.lload 6, 2) := by decide +kernel
theorem dX8_common_23 : decode cX8_common 23 = .ok (.lrem, 1) := by decide +kernel
theorem dX8_common_24 : decode cX8_common 24 = .ok (.lstore 8, 2) := by decide +kernel
theorem dX8_common_26 : decode cX8_common 26 = .ok (.lload 6, 2) := by decide +kernel
theorem dX8_common_28 : decode cX8_common 28 = .ok (.lstore 4, 2) := by decide +kernel
theorem dX8_common_30 : decode cX8_common 30 = .ok (.lload 8, 2) := by decide +kernel
theorem dX8_common_32 : decode cX8_common 32 = .ok (.lstore 6, 2) := by decide +kernel
theorem dX8_common_34 : decode cX8_common 34 = .ok (.goto (-22), 3) := by decide +kernel
theorem dX8_common_37 : decode cX8_common 37 = .ok (.lload 4, 2) := by decide +kernel
theorem dX8_common_39 : decode cX8_common 39 = .ok (.lreturn, 1) := by decide +kernel
theorem dX8_bent_0 : decode cX8_bent 0 = .ok (.lconst 0, 1) := by decide +kernel
theorem dX8_bent_1 : decode cX8_bent 1 = .ok (.lstore_n 3, 1) := by decide +kernel
theorem dX8_bent_2 : decode cX8_bent 2 = .ok (.iload_n 2, 1) := by decide +kernel
theorem dX8_bent_3 : decode cX8_bent 3 = .ok (.invokestatic 128, 3) := by decide +kernel
theorem dX8_bent_6 : decode cX8_bent 6 = .ok (.istore 5, 2) := by decide +kernel
theorem dX8_bent_8 : decode cX8_bent 8 = .ok (.iconst 0, 1) := by decide +kernel
theorem dX8_bent_9 : decode cX8_bent 9 = .ok (.istore 6, 2) := by decide +kernel
theorem dX8_bent_11 : decode cX8_bent 11 = .ok (.iload 6, 2) := by decide +kernel
theorem dX8_bent_13 : decode cX8_bent 13 = .ok (.iload 5, 2) := by decide +kernel
theorem dX8_bent_15 : decode cX8_bent 15 = .ok (.if_icmp .ge 56, 3) := by decide +kernel
theorem dX8_bent_18 : decode cX8_bent 18 = .ok (.aload_n 0, 1) := by decide +kernel
theorem dX8_bent_19 : decode cX8_bent 19 = .ok (.getfield 21, 3) := by decide +kernel
theorem dX8_bent_22 : decode cX8_bent 22 = .ok (.iload_n 1, 1) := by decide +kernel
theorem dX8_bent_23 : decode cX8_bent 23 = .ok (.iaload, 1) := by decide +kernel
theorem dX8_bent_24 : decode cX8_bent 24 = .ok (.ifCond .le 47, 3) := by decide +kernel
theorem dX8_bent_27 : decode cX8_bent 27 = .ok (.lload_n 3, 1) := by decide +kernel
theorem dX8_bent_28 : decode cX8_bent 28 = .ok (.aload_n 0, 1) := by decide +kernel
theorem dX8_bent_29 : decode cX8_bent 29 = .ok (.getfield 24, 3) := by decide +kernel
theorem dX8_bent_32 : decode cX8_bent 32 = .ok (.bipush 24, 2) := by decide +kernel
theorem dX8_bent_34 : decode cX8_bent 34 = .ok (.iload_n 1, 1) := by decide +kernel
theorem dX8_bent_35 : decode cX8_bent 35 = .ok (.imul, 1) := by decide +kernel
theorem dX8_bent_36 : decode cX8_bent 36 = .ok (.iload 6, 2) := by decide +kernel
theorem dX8_bent_38 : decode cX8_bent 38 = .ok (.aload_n 0, 1) := by decide +kernel
theorem dX8_bent_39 : decode cX8_bent 39 = .ok (.getfield 21, 3) := by decide +kernel
theorem dX8_bent_42 : decode cX8_bent 42 = .ok (.iload_n 1, 1) := by decide +kernel
theorem dX8_bent_43 : decode cX8_bent 43 = .ok (.iaload, 1) := by decide +kernel
theorem dX8_bent_44 : decode cX8_bent 44 = .ok (.if_icmp .ge 8, 3) := by decide +kernel
theorem dX8_bent_47 : decode cX8_bent 47 = .ok (.iload 6, 2) := by decide +kernel
theorem dX8_bent_49 : decode cX8_bent 49 = .ok (.goto 11, 3) := by decide +kernel
theorem dX8_bent_52 : decode cX8_bent 52 = .ok (.aload_n 0, 1) := by decide +kernel
theorem dX8_bent_53 : decode cX8_bent 53 = .ok (.getfield 21, 3) := by decide +kernel
theorem dX8_bent_56 : decode cX8_bent 56 = .ok (.iload_n 1, 1) := by decide +kernel
theorem dX8_bent_57 : decode cX8_bent 57 = .ok (.iaload, 1) := by decide +kernel
theorem dX8_bent_58 : decode cX8_bent 58 = .ok (.iconst 1, 1) := by decide +kernel
theorem dX8_bent_59 : decode cX8_bent 59 = .ok (.isub, 1) := by decide +kernel
theorem dX8_bent_60 : decode cX8_bent 60 = .ok (.iadd, 1) := by decide +kernel
theorem dX8_bent_61 : decode cX8_bent 61 = .ok (.iaload, 1) := by decide +kernel
theorem dX8_bent_62 : decode cX8_bent 62 = .ok (.i2l, 1) := by decide +kernel
theorem dX8_bent_63 : decode cX8_bent 63 = .ok (.ladd, 1) := by decide +kernel
theorem dX8_bent_64 : decode cX8_bent 64 = .ok (.lstore_n 3, 1) := by decide +kernel
theorem dX8_bent_65 : decode cX8_bent 65 = .ok (.iinc 6 1, 3) := by decide +kernel
theorem dX8_bent_68 : decode cX8_bent 68 = .ok (.goto (-57), 3) := by decide +kernel
theorem dX8_bent_71 : decode cX8_bent 71 = .ok (.lload_n 3, 1) := by decide +kernel
theorem dX8_bent_72 : decode cX8_bent 72 = .ok (.lreturn, 1) := by decide +kernel
theorem dX8_sumOf_0 : decode cX8_sumOf 0 = .ok (.lconst 0, 1) := by decide +kernel
theorem dX8_sumOf_1 : decode cX8_sumOf 1 = .ok (.lstore_n 3, 1) := by decide +kernel
theorem dX8_sumOf_2 : decode cX8_sumOf 2 = .ok (.iconst 0, 1) := by decide +kernel
theorem dX8_sumOf_3 : decode cX8_sumOf 3 = .ok (.istore 5, 2) := by decide +kernel
theorem dX8_sumOf_5 : decode cX8_sumOf 5 = .ok (.iload 5, 2) := by decide +kernel
theorem dX8_sumOf_7 : decode cX8_sumOf 7 = .ok (.aload_n 0, 1) := by decide +kernel
theorem dX8_sumOf_8 : decode cX8_sumOf 8 = .ok (.getfield 21, 3) := by decide +kernel
theorem dX8_sumOf_11 : decode cX8_sumOf 11 = .ok (.iload_n 1, 1) := by decide +kernel
theorem dX8_sumOf_12 : decode cX8_sumOf 12 = .ok (.iaload, 1) := by decide +kernel
theorem dX8_sumOf_13 : decode cX8_sumOf 13 = .ok (.if_icmp .ge 49, 3) := by decide +kernel
theorem dX8_sumOf_16 : decode cX8_sumOf 16 = .ok (.lload_n 3, 1) := by decide +kernel
theorem dX8_sumOf_17 : decode cX8_sumOf 17 = .ok (.aload_n 0, 1) := by decide +kernel
theorem dX8_sumOf_18 : decode cX8_sumOf 18 = .ok (.getfield 27, 3) := by decide +kernel
theorem dX8_sumOf_21 : decode cX8_sumOf 21 = .ok (.bipush 24, 2) := by decide +kernel
theorem dX8_sumOf_23 : decode cX8_sumOf 23 = .ok (.iload_n 1, 1) := by decide +kernel
theorem dX8_sumOf_24 : decode cX8_sumOf 24 = .ok (.imul, 1) := by decide +kernel
theorem dX8_sumOf_25 : decode cX8_sumOf 25 = .ok (.iload 5, 2) := by decide +kernel
theorem dX8_sumOf_27 : decode cX8_sumOf 27 = .ok (.iadd, 1) := by decide +kernel
theorem dX8_sumOf_28 : decode cX8_sumOf 28 = .ok (.iaload, 1) := by decide +kernel
theorem dX8_sumOf_29 : decode cX8_sumOf 29 = .ok (.i2l, 1) := by decide +kernel
theorem dX8_sumOf_30 : decode cX8_sumOf 30 = .ok (.aload_n 0, 1) := by decide +kernel
theorem dX8_sumOf_31 : decode cX8_sumOf 31 = .ok (.getfield 17, 3) := by decide +kernel
theorem dX8_sumOf_34 : decode cX8_sumOf 34 = .ok (.sipush 1024, 3) := by decide +kernel
theorem dX8_sumOf_37 : decode cX8_sumOf 37 = .ok (.aload_n 0, 1) := by decide +kernel
theorem dX8_sumOf_38 : decode cX8_sumOf 38 = .ok (.getfield 24, 3) := by decide +kernel
theorem dX8_sumOf_41 : decode cX8_sumOf 41 = .ok (.bipush 24, 2) := by decide +kernel
theorem dX8_sumOf_43 : decode cX8_sumOf 43 = .ok (.iload_n 1, 1) := by decide +kernel
theorem dX8_sumOf_44 : decode cX8_sumOf 44 = .ok (.imul, 1) := by decide +kernel
theorem dX8_sumOf_45 : decode cX8_sumOf 45 = .ok (.iload 5, 2) := by decide +kernel
theorem dX8_sumOf_47 : decode cX8_sumOf 47 = .ok (.iadd, 1) := by decide +kernel
theorem dX8_sumOf_48 : decode cX8_sumOf 48 = .ok (.iaload, 1) := by decide +kernel
theorem dX8_sumOf_49 : decode cX8_sumOf 49 = .ok (.imul, 1) := by decide +kernel
theorem dX8_sumOf_50 : decode cX8_sumOf 50 = .ok (.iload_n 2, 1) := by decide +kernel
theorem dX8_sumOf_51 : decode cX8_sumOf 51 = .ok (.iadd, 1) := by decide +kernel
theorem dX8_sumOf_52 : decode cX8_sumOf 52 = .ok (.laload, 1) := by decide +kernel
theorem dX8_sumOf_53 : decode cX8_sumOf 53 = .ok (.lmul, 1) := by decide +kernel
theorem dX8_sumOf_54 : decode cX8_sumOf 54 = .ok (.ladd, 1) := by decide +kernel
theorem dX8_sumOf_55 : decode cX8_sumOf 55 = .ok (.lstore_n 3, 1) := by decide +kernel
theorem dX8_sumOf_56 : decode cX8_sumOf 56 = .ok (.iinc 5 1, 3) := by decide +kernel
theorem dX8_sumOf_59 : decode cX8_sumOf 59 = .ok (.goto (-54), 3) := by decide +kernel
theorem dX8_sumOf_62 : decode cX8_sumOf 62 = .ok (.iconst 0, 1) := by decide +kernel
theorem dX8_sumOf_63 : decode cX8_sumOf 63 = .ok (.istore 5, 2) := by decide +kernel
theorem dX8_sumOf_65 : decode cX8_sumOf 65 = .ok (.iload 5, 2) := by decide +kernel
theorem dX8_sumOf_67 : decode cX8_sumOf 67 = .ok (.aload_n 0, 1) := by decide +kernel
theorem dX8_sumOf_68 : decode cX8_sumOf 68 = .ok (.getfield 80, 3) := by decide +kernel
theorem dX8_sumOf_71 : decode cX8_sumOf 71 = .ok (.if_icmp .ge 39, 3) := by decide +kernel
theorem dX8_sumOf_74 : decode cX8_sumOf 74 = .ok (.lload_n 3, 1) := by decide +kernel
theorem dX8_sumOf_75 : decode cX8_sumOf 75 = .ok (.iload_n 2, 1) := by decide +kernel
theorem dX8_sumOf_76 : decode cX8_sumOf 76 = .ok (.iload 5, 2) := by decide +kernel
theorem dX8_sumOf_78 : decode cX8_sumOf 78 = .ok (.ishr, 1) := by decide +kernel
theorem dX8_sumOf_79 : decode cX8_sumOf 79 = .ok (.iconst 1, 1) := by decide +kernel
theorem dX8_sumOf_80 : decode cX8_sumOf 80 = .ok (.iand, 1) := by decide +kernel
theorem dX8_sumOf_81 : decode cX8_sumOf 81 = .ok (.iconst 1, 1) := by decide +kernel
theorem dX8_sumOf_82 : decode cX8_sumOf 82 = .ok (.if_icmp .ne 19, 3) := by decide +kernel
theorem dX8_sumOf_85 : decode cX8_sumOf 85 = .ok (.aload_n 0, 1) := by decide +kernel
theorem dX8_sumOf_86 : decode cX8_sumOf 86 = .ok (.getfield 36, 3) := by decide +kernel
theorem dX8_sumOf_89 : decode cX8_sumOf 89 = .ok (.bipush 10, 2) := by decide +kernel
theorem dX8_sumOf_91 : decode cX8_sumOf 91 = .ok (.iload_n 1, 1) := by decide +kernel
theorem dX8_sumOf_92 : decode cX8_sumOf 92 = .ok (.imul, 1) := by decide +kernel
theorem dX8_sumOf_93 : decode cX8_sumOf 93 = .ok (.iload 5, 2) := by decide +kernel
theorem dX8_sumOf_95 : decode cX8_sumOf 95 = .ok (.iadd, 1) := by decide +kernel
theorem dX8_sumOf_96 : decode cX8_sumOf 96 = .ok (.iaload, 1) := by decide +kernel
theorem dX8_sumOf_97 : decode cX8_sumOf 97 = .ok (.i2l, 1) := by decide +kernel
theorem dX8_sumOf_98 : decode cX8_sumOf 98 = .ok (.goto 4, 3) := by decide +kernel
theorem dX8_sumOf_101 : decode cX8_sumOf 101 = .ok (.lconst 0, 1) := by decide +kernel
theorem dX8_sumOf_102 : decode cX8_sumOf 102 = .ok (.ladd, 1) := by decide +kernel
theorem dX8_sumOf_103 : decode cX8_sumOf 103 = .ok (.lstore_n 3, 1) := by decide +kernel
theorem dX8_sumOf_104 : decode cX8_sumOf 104 = .ok (.iinc 5 1, 3) := by decide +kernel
theorem dX8_sumOf_107 : decode cX8_sumOf 107 = .ok (.goto (-42), 3) := by decide +kernel
theorem dX8_sumOf_110 : decode cX8_sumOf 110 = .ok (.lload_n 3, 1) := by decide +kernel
theorem dX8_sumOf_111 : decode cX8_sumOf 111 = .ok (.lreturn, 1) := by decide +kernel
theorem dX8_worked_0 : decode cX8_worked 0 = .ok (.aload_n 0, 1) := by decide +kernel
theorem dX8_worked_1 : decode cX8_worked 1 = .ok (.getfield 7, 3) := by decide +kernel
theorem dX8_worked_4 : decode cX8_worked 4 = .ok (.iload_n 1, 1) := by decide +kernel
theorem dX8_worked_5 : decode cX8_worked 5 = .ok (.iaload, 1) := by decide +kernel
theorem dX8_worked_6 : decode cX8_worked 6 = .ok (.tableswitch 98 1 6 #[38, 45, 52, 59, 66, 73], 38) := by decide +kernel
theorem dX8_worked_44 : decode cX8_worked 44 = .ok (.aload_n 0, 1) := by decide +kernel
theorem dX8_worked_45 : decode cX8_worked 45 = .ok (.iload_n 1, 1) := by decide +kernel
theorem dX8_worked_46 : decode cX8_worked 46 = .ok (.iload_n 2, 1) := by decide +kernel
theorem dX8_worked_47 : decode cX8_worked 47 = .ok (.invokevirtual 131, 3) := by decide +kernel
theorem dX8_worked_50 : decode cX8_worked 50 = .ok (.lreturn, 1) := by decide +kernel
theorem dX8_worked_51 : decode cX8_worked 51 = .ok (.aload_n 0, 1) := by decide +kernel
theorem dX8_worked_52 : decode cX8_worked 52 = .ok (.iload_n 1, 1) := by decide +kernel
theorem dX8_worked_53 : decode cX8_worked 53 = .ok (.iload_n 2, 1) := by decide +kernel
theorem dX8_worked_54 : decode cX8_worked 54 = .ok (.invokevirtual 135, 3) := by decide +kernel
theorem dX8_worked_57 : decode cX8_worked 57 = .ok (.lreturn, 1) := by decide +kernel
theorem dX8_worked_58 : decode cX8_worked 58 = .ok (.aload_n 0, 1) := by decide +kernel
theorem dX8_worked_59 : decode cX8_worked 59 = .ok (.iload_n 1, 1) := by decide +kernel
theorem dX8_worked_60 : decode cX8_worked 60 = .ok (.iload_n 2, 1) := by decide +kernel
theorem dX8_worked_61 : decode cX8_worked 61 = .ok (.invokevirtual 138, 3) := by decide +kernel
theorem dX8_worked_64 : decode cX8_worked 64 = .ok (.lreturn, 1) := by decide +kernel
theorem dX8_worked_65 : decode cX8_worked 65 = .ok (.aload_n 0, 1) := by decide +kernel
theorem dX8_worked_66 : decode cX8_worked 66 = .ok (.iload_n 1, 1) := by decide +kernel
theorem dX8_worked_67 : decode cX8_worked 67 = .ok (.iload_n 2, 1) := by decide +kernel
theorem dX8_worked_68 : decode cX8_worked 68 = .ok (.invokevirtual 141, 3) := by decide +kernel
theorem dX8_worked_71 : decode cX8_worked 71 = .ok (.lreturn, 1) := by decide +kernel
theorem dX8_worked_72 : decode cX8_worked 72 = .ok (.aload_n 0, 1) := by decide +kernel
theorem dX8_worked_73 : decode cX8_worked 73 = .ok (.iload_n 1, 1) := by decide +kernel
theorem dX8_worked_74 : decode cX8_worked 74 = .ok (.iload_n 2, 1) := by decide +kernel
theorem dX8_worked_75 : decode cX8_worked 75 = .ok (.invokevirtual 144, 3) := by decide +kernel
theorem dX8_worked_78 : decode cX8_worked 78 = .ok (.lreturn, 1) := by decide +kernel
theorem dX8_worked_79 : decode cX8_worked 79 = .ok (.aload_n 0, 1) := by decide +kernel
theorem dX8_worked_80 : decode cX8_worked 80 = .ok (.getfield 17, 3) := by decide +kernel
theorem dX8_worked_83 : decode cX8_worked 83 = .ok (.sipush 1024, 3) := by decide +kernel
theorem dX8_worked_86 : decode cX8_worked 86 = .ok (.aload_n 0, 1) := by decide +kernel
theorem dX8_worked_87 : decode cX8_worked 87 = .ok (.getfield 39, 3) := by decide +kernel
theorem dX8_worked_90 : decode cX8_worked 90 = .ok (.iload_n 1, 1) := by decide +kernel
theorem dX8_worked_91 : decode cX8_worked 91 = .ok (.iaload, 1) := by decide +kernel
theorem dX8_worked_92 : decode cX8_worked 92 = .ok (.imul, 1) := by decide +kernel
theorem dX8_worked_93 : decode cX8_worked 93 = .ok (.iload_n 2, 1) := by decide +kernel
theorem dX8_worked_94 : decode cX8_worked 94 = .ok (.aload_n 0, 1) := by decide +kernel
theorem dX8_worked_95 : decode cX8_worked 95 = .ok (.getfield 42, 3) := by decide +kernel
theorem dX8_worked_98 : decode cX8_worked 98 = .ok (.iload_n 1, 1) := by decide +kernel
theorem dX8_worked_99 : decode cX8_worked 99 = .ok (.iaload, 1) := by decide +kernel
theorem dX8_worked_100 : decode cX8_worked 100 = .ok (.iand, 1) := by decide +kernel
theorem dX8_worked_101 : decode cX8_worked 101 = .ok (.iadd, 1) := by decide +kernel
theorem dX8_worked_102 : decode cX8_worked 102 = .ok (.laload, 1) := by decide +kernel
theorem dX8_worked_103 : decode cX8_worked 103 = .ok (.lreturn, 1) := by decide +kernel
theorem dX8_worked_104 : decode cX8_worked 104 = .ok (.aload_n 0, 1) := by decide +kernel
theorem dX8_worked_105 : decode cX8_worked 105 = .ok (.getfield 17, 3) := by decide +kernel
theorem dX8_worked_108 : decode cX8_worked 108 = .ok (.sipush 1024, 3) := by decide +kernel
theorem dX8_worked_111 : decode cX8_worked 111 = .ok (.aload_n 0, 1) := by decide +kernel
theorem dX8_worked_112 : decode cX8_worked 112 = .ok (.getfield 39, 3) := by decide +kernel
theorem dX8_worked_115 : decode cX8_worked 115 = .ok (.iload_n 1, 1) := by decide +kernel
theorem dX8_worked_116 : decode cX8_worked 116 = .ok (.iaload, 1) := by decide +kernel
theorem dX8_worked_117 : decode cX8_worked 117 = .ok (.imul, 1) := by decide +kernel
theorem dX8_worked_118 : decode cX8_worked 118 = .ok (.iload_n 2, 1) := by decide +kernel
theorem dX8_worked_119 : decode cX8_worked 119 = .ok (.aload_n 0, 1) := by decide +kernel
theorem dX8_worked_120 : decode cX8_worked 120 = .ok (.getfield 42, 3) := by decide +kernel
theorem dX8_worked_123 : decode cX8_worked 123 = .ok (.iload_n 1, 1) := by decide +kernel
theorem dX8_worked_124 : decode cX8_worked 124 = .ok (.iaload, 1) := by decide +kernel
theorem dX8_worked_125 : decode cX8_worked 125 = .ok (.ior, 1) := by decide +kernel
theorem dX8_worked_126 : decode cX8_worked 126 = .ok (.iadd, 1) := by decide +kernel
theorem dX8_worked_127 : decode cX8_worked 127 = .ok (.laload, 1) := by decide +kernel
theorem dX8_worked_128 : decode cX8_worked 128 = .ok (.aload_n 0, 1) := by decide +kernel
theorem dX8_worked_129 : decode cX8_worked 129 = .ok (.getfield 17, 3) := by decide +kernel
theorem dX8_worked_132 : decode cX8_worked 132 = .ok (.sipush 1024, 3) := by decide +kernel
theorem dX8_worked_135 : decode cX8_worked 135 = .ok (.aload_n 0, 1) := by decide +kernel
theorem dX8_worked_136 : decode cX8_worked 136 = .ok (.getfield 39, 3) := by decide +kernel
theorem dX8_worked_139 : decode cX8_worked 139 = .ok (.iload_n 1, 1) := by decide +kernel
theorem dX8_worked_140 : decode cX8_worked 140 = .ok (.iaload, 1) := by decide +kernel
theorem dX8_worked_141 : decode cX8_worked 141 = .ok (.imul, 1) := by decide +kernel
theorem dX8_worked_142 : decode cX8_worked 142 = .ok (.aload_n 0, 1) := by decide +kernel
theorem dX8_worked_143 : decode cX8_worked 143 = .ok (.getfield 42, 3) := by decide +kernel
theorem dX8_worked_146 : decode cX8_worked 146 = .ok (.iload_n 1, 1) := by decide +kernel
theorem dX8_worked_147 : decode cX8_worked 147 = .ok (.iaload, 1) := by decide +kernel
theorem dX8_worked_148 : decode cX8_worked 148 = .ok (.iadd, 1) := by decide +kernel
theorem dX8_worked_149 : decode cX8_worked 149 = .ok (.laload, 1) := by decide +kernel
theorem dX8_worked_150 : decode cX8_worked 150 = .ok (.lsub, 1) := by decide +kernel
theorem dX8_worked_151 : decode cX8_worked 151 = .ok (.lreturn, 1) := by decide +kernel
theorem dX8_work_0 : decode cX8_work 0 = .ok (.iconst 1, 1) := by decide +kernel
theorem dX8_work_1 : decode cX8_work 1 = .ok (.istore_n 2, 1) := by decide +kernel
theorem dX8_work_2 : decode cX8_work 2 = .ok (.iconst 0, 1) := by decide +kernel
theorem dX8_work_3 : decode cX8_work 3 = .ok (.istore_n 3, 1) := by decide +kernel
theorem dX8_work_4 : decode cX8_work 4 = .ok (.iload_n 3, 1) := by decide +kernel
theorem dX8_work_5 : decode cX8_work 5 = .ok (.aload_n 0, 1) := by decide +kernel
theorem dX8_work_6 : decode cX8_work 6 = .ok (.invokevirtual 93, 3) := by decide +kernel
theorem dX8_work_9 : decode cX8_work 9 = .ok (.if_icmp .gt 68, 3) := by decide +kernel
theorem dX8_work_12 : decode cX8_work 12 = .ok (.aload_n 0, 1) := by decide +kernel
theorem dX8_work_13 : decode cX8_work 13 = .ok (.getfield 7, 3) := by decide +kernel
theorem dX8_work_16 : decode cX8_work 16 = .ok (.iload_n 1, 1) := by decide +kernel
theorem dX8_work_17 : decode cX8_work 17 = .ok (.iaload, 1) := by decide +kernel
theorem dX8_work_18 : decode cX8_work 18 = .ok (.ifCond .eq 59, 3) := by decide +kernel
theorem dX8_work_21 : decode cX8_work 21 = .ok (.aload_n 0, 1) := by decide +kernel
theorem dX8_work_22 : decode cX8_work 22 = .ok (.getfield 17, 3) := by decide +kernel
theorem dX8_work_25 : decode cX8_work 25 = .ok (.sipush 1024, 3) := by decide +kernel
theorem dX8_work_28 : decode cX8_work 28 = .ok (.iload_n 1, 1) := by decide +kernel
theorem dX8_work_29 : decode cX8_work 29 = .ok (.imul, 1) := by decide +kernel
theorem dX8_work_30 : decode cX8_work 30 = .ok (.iload_n 3, 1) := by decide +kernel
theorem dX8_work_31 : decode cX8_work 31 = .ok (.iadd, 1) := by decide +kernel
theorem dX8_work_32 : decode cX8_work 32 = .ok (.aload_n 0, 1) := by decide +kernel
theorem dX8_work_33 : decode cX8_work 33 = .ok (.iload_n 1, 1) := by decide +kernel
theorem dX8_work_34 : decode cX8_work 34 = .ok (.iload_n 3, 1) := by decide +kernel
theorem dX8_work_35 : decode cX8_work 35 = .ok (.invokevirtual 147, 3) := by decide +kernel
theorem dX8_work_38 : decode cX8_work 38 = .ok (.lastore, 1) := by decide +kernel
theorem dX8_work_39 : decode cX8_work 39 = .ok (.iload_n 2, 1) := by decide +kernel
theorem dX8_work_40 : decode cX8_work 40 = .ok (.ifCond .eq 29, 3) := by decide +kernel
theorem dX8_work_43 : decode cX8_work 43 = .ok (.aload_n 0, 1) := by decide +kernel
theorem dX8_work_44 : decode cX8_work 44 = .ok (.getfield 17, 3) := by decide +kernel
theorem dX8_work_47 : decode cX8_work 47 = .ok (.sipush 1024, 3) := by decide +kernel
theorem dX8_work_50 : decode cX8_work 50 = .ok (.iload_n 1, 1) := by decide +kernel
theorem dX8_work_51 : decode cX8_work 51 = .ok (.imul, 1) := by decide +kernel
theorem dX8_work_52 : decode cX8_work 52 = .ok (.iload_n 3, 1) := by decide +kernel
theorem dX8_work_53 : decode cX8_work 53 = .ok (.iadd, 1) := by decide +kernel
theorem dX8_work_54 : decode cX8_work 54 = .ok (.laload, 1) := by decide +kernel
theorem dX8_work_55 : decode cX8_work 55 = .ok (.invokestatic 124, 3) := by decide +kernel
theorem dX8_work_58 : decode cX8_work 58 = .ok (.ldc2_w 150, 3) := by decide +kernel
theorem dX8_work_61 : decode cX8_work 61 = .ok (.lcmp, 1) := by decide +kernel
theorem dX8_work_62 : decode cX8_work 62 = .ok (.ifCond .gt 7, 3) := by decide +kernel
theorem dX8_work_65 : decode cX8_work 65 = .ok (.iconst 1, 1) := by decide +kernel
theorem dX8_work_66 : decode cX8_work 66 = .ok (.goto 4, 3) := by decide +kernel
theorem dX8_work_69 : decode cX8_work 69 = .ok (.iconst 0, 1) := by decide +kernel
theorem dX8_work_70 : decode cX8_work 70 = .ok (.istore_n 2, 1) := by decide +kernel
theorem dX8_work_71 : decode cX8_work 71 = .ok (.iinc 3 1, 3) := by decide +kernel
theorem dX8_work_74 : decode cX8_work 74 = .ok (.goto (-70), 3) := by decide +kernel
theorem dX8_work_77 : decode cX8_work 77 = .ok (.iload_n 2, 1) := by decide +kernel
theorem dX8_work_78 : decode cX8_work 78 = .ok (.ireturn, 1) := by decide +kernel
theorem dX8_fresh_0 : decode cX8_fresh 0 = .ok (.aload_n 0, 1) := by decide +kernel
theorem dX8_fresh_1 : decode cX8_fresh 1 = .ok (.getfield 84, 3) := by decide +kernel
theorem dX8_fresh_4 : decode cX8_fresh 4 = .ok (.istore_n 2, 1) := by decide +kernel
theorem dX8_fresh_5 : decode cX8_fresh 5 = .ok (.aload_n 0, 1) := by decide +kernel
theorem dX8_fresh_6 : decode cX8_fresh 6 = .ok (.getfield 7, 3) := by decide +kernel
theorem dX8_fresh_9 : decode cX8_fresh 9 = .ok (.iload_n 2, 1) := by decide +kernel
theorem dX8_fresh_10 : decode cX8_fresh 10 = .ok (.iload_n 1, 1) := by decide +kernel
theorem dX8_fresh_11 : decode cX8_fresh 11 = .ok (.iastore, 1) := by decide +kernel
theorem dX8_fresh_12 : decode cX8_fresh 12 = .ok (.aload_n 0, 1) := by decide +kernel
theorem dX8_fresh_13 : decode cX8_fresh 13 = .ok (.getfield 13, 3) := by decide +kernel
theorem dX8_fresh_16 : decode cX8_fresh 16 = .ok (.iload_n 2, 1) := by decide +kernel
theorem dX8_fresh_17 : decode cX8_fresh 17 = .ok (.iconst 0, 1) := by decide +kernel
theorem dX8_fresh_18 : decode cX8_fresh 18 = .ok (.bastore, 1) := by decide +kernel
theorem dX8_fresh_19 : decode cX8_fresh 19 = .ok (.aload_n 0, 1) := by decide +kernel
theorem dX8_fresh_20 : decode cX8_fresh 20 = .ok (.getfield 21, 3) := by decide +kernel
theorem dX8_fresh_23 : decode cX8_fresh 23 = .ok (.iload_n 2, 1) := by decide +kernel
theorem dX8_fresh_24 : decode cX8_fresh 24 = .ok (.iconst 0, 1) := by decide +kernel
theorem dX8_fresh_25 : decode cX8_fresh 25 = .ok (.iastore, 1) := by decide +kernel
theorem dX8_fresh_26 : decode cX8_fresh 26 = .ok (.iconst 0, 1) := by decide +kernel
theorem dX8_fresh_27 : decode cX8_fresh 27 = .ok (.istore_n 3, 1) := by decide +kernel
theorem dX8_fresh_28 : decode cX8_fresh 28 = .ok (.iload_n 3, 1) := by decide +kernel
theorem dX8_fresh_29 : decode cX8_fresh 29 = .ok (.sipush 1024, 3) := by decide +kernel
theorem dX8_fresh_32 : decode cX8_fresh 32 = .ok (.if_icmp .ge 22, 3) := by decide +kernel
theorem dX8_fresh_35 : decode cX8_fresh 35 = .ok (.aload_n 0, 1) := by decide +kernel
theorem dX8_fresh_36 : decode cX8_fresh 36 = .ok (.getfield 17, 3) := by decide +kernel
theorem dX8_fresh_39 : decode cX8_fresh 39 = .ok (.sipush 1024, 3) := by decide +kernel
theorem dX8_fresh_42 : decode cX8_fresh 42 = .ok (.iload_n 2, 1) := by decide +kernel
theorem dX8_fresh_43 : decode cX8_fresh 43 = .ok (.imul, 1) := by decide +kernel
theorem dX8_fresh_44 : decode cX8_fresh 44 = .ok (.iload_n 3, 1) := by decide +kernel
theorem dX8_fresh_45 : decode cX8_fresh 45 = .ok (.iadd, 1) := by decide +kernel
theorem dX8_fresh_46 : decode cX8_fresh 46 = .ok (.lconst 0, 1) := by decide +kernel
theorem dX8_fresh_47 : decode cX8_fresh 47 = .ok (.lastore, 1) := by decide +kernel
theorem dX8_fresh_48 : decode cX8_fresh 48 = .ok (.iinc 3 1, 3) := by decide +kernel
theorem dX8_fresh_51 : decode cX8_fresh 51 = .ok (.goto (-23), 3) := by decide +kernel
theorem dX8_fresh_54 : decode cX8_fresh 54 = .ok (.iconst 0, 1) := by decide +kernel
theorem dX8_fresh_55 : decode cX8_fresh 55 = .ok (.istore_n 3, 1) := by decide +kernel
theorem dX8_fresh_56 : decode cX8_fresh 56 = .ok (.iload_n 3, 1) := by decide +kernel
theorem dX8_fresh_57 : decode cX8_fresh 57 = .ok (.bipush 40, 2) := by decide +kernel
theorem dX8_fresh_59 : decode cX8_fresh 59 = .ok (.if_icmp .ge 21, 3) := by decide +kernel
theorem dX8_fresh_62 : decode cX8_fresh 62 = .ok (.aload_n 0, 1) := by decide +kernel
theorem dX8_fresh_63 : decode cX8_fresh 63 = .ok (.getfield 33, 3) := by decide +kernel
theorem dX8_fresh_66 : decode cX8_fresh 66 = .ok (.bipush 40, 2) := by decide +kernel
theorem dX8_fresh_68 : decode cX8_fresh 68 = .ok (.iload_n 2, 1) := by decide +kernel
theorem dX8_fresh_69 : decode cX8_fresh 69 = .ok (.imul, 1) := by decide +kernel
theorem dX8_fresh_70 : decode cX8_fresh 70 = .ok (.iload_n 3, 1) := by decide +kernel
theorem dX8_fresh_71 : decode cX8_fresh 71 = .ok (.iadd, 1) := by decide +kernel
theorem dX8_fresh_72 : decode cX8_fresh 72 = .ok (.iconst 0, 1) := by decide +kernel
theorem dX8_fresh_73 : decode cX8_fresh 73 = .ok (.iastore, 1) := by decide +kernel
theorem dX8_fresh_74 : decode cX8_fresh 74 = .ok (.iinc 3 1, 3) := by decide +kernel
theorem dX8_fresh_77 : decode cX8_fresh 77 = .ok (.goto (-21), 3) := by decide +kernel
theorem dX8_fresh_80 : decode cX8_fresh 80 = .ok (.iconst 0, 1) := by decide +kernel
theorem dX8_fresh_81 : decode cX8_fresh 81 = .ok (.istore_n 3, 1) := by decide +kernel
theorem dX8_fresh_82 : decode cX8_fresh 82 = .ok (.iload_n 3, 1) := by decide +kernel
theorem dX8_fresh_83 : decode cX8_fresh 83 = .ok (.bipush 10, 2) := by decide +kernel
theorem dX8_fresh_85 : decode cX8_fresh 85 = .ok (.if_icmp .ge 21, 3) := by decide +kernel
theorem dX8_fresh_88 : decode cX8_fresh 88 = .ok (.aload_n 0, 1) := by decide +kernel
theorem dX8_fresh_89 : decode cX8_fresh 89 = .ok (.getfield 36, 3) := by decide +kernel
theorem dX8_fresh_92 : decode cX8_fresh 92 = .ok (.bipush 10, 2) := by decide +kernel
theorem dX8_fresh_94 : decode cX8_fresh 94 = .ok (.iload_n 2, 1) := by decide +kernel
theorem dX8_fresh_95 : decode cX8_fresh 95 = .ok (.imul, 1) := by decide +kernel
theorem dX8_fresh_96 : decode cX8_fresh 96 = .ok (.iload_n 3, 1) := by decide +kernel
theorem dX8_fresh_97 : decode cX8_fresh 97 = .ok (.iadd, 1) := by decide +kernel
theorem dX8_fresh_98 : decode cX8_fresh 98 = .ok (.iconst 0, 1) := by decide +kernel
theorem dX8_fresh_99 : decode cX8_fresh 99 = .ok (.iastore, 1) := by decide +kernel
theorem dX8_fresh_100 : decode cX8_fresh 100 = .ok (.iinc 3 1, 3) := by decide +kernel
theorem dX8_fresh_103 : decode cX8_fresh 103 = .ok (.goto (-21), 3) := by decide +kernel
theorem dX8_fresh_106 : decode cX8_fresh 106 = .ok (.aload_n 0, 1) := by decide +kernel
theorem dX8_fresh_107 : decode cX8_fresh 107 = .ok (.dup, 1) := by decide +kernel
theorem dX8_fresh_108 : decode cX8_fresh 108 = .ok (.getfield 84, 3) := by decide +kernel
theorem dX8_fresh_111 : decode cX8_fresh 111 = .ok (.iconst 1, 1) := by decide +kernel
theorem dX8_fresh_112 : decode cX8_fresh 112 = .ok (.iadd, 1) := by decide +kernel
theorem dX8_fresh_113 : decode cX8_fresh 113 = .ok (.putfield 84, 3) := by decide +kernel
theorem dX8_fresh_116 : decode cX8_fresh 116 = .ok (.iload_n 2, 1) := by decide +kernel
theorem dX8_fresh_117 : decode cX8_fresh 117 = .ok (.ireturn, 1) := by decide +kernel
theorem dX8_worth_0 : decode cX8_worth 0 = .ok (.iload_n 1, 1) := by decide +kernel
theorem dX8_worth_1 : decode cX8_worth 1 = .ok (.i2l, 1) := by decide +kernel
theorem dX8_worth_2 : decode cX8_worth 2 = .ok (.lconst 0, 1) := by decide +kernel
theorem dX8_worth_3 : decode cX8_worth 3 = .ok (.ldc2_w 152, 3) := by decide +kernel
theorem dX8_worth_6 : decode cX8_worth 6 = .ok (.invokestatic 89, 3) := by decide +kernel
theorem dX8_worth_9 : decode cX8_worth 9 = .ok (.ifCond .ne 9, 3) := by decide +kernel
theorem dX8_worth_12 : decode cX8_worth 12 = .ok (.sipush (-1002), 3) := by decide +kernel
theorem dX8_worth_15 : decode cX8_worth 15 = .ok (.goto 23, 3) := by decide +kernel
theorem dX8_worth_18 : decode cX8_worth 18 = .ok (.aload_n 0, 1) := by decide +kernel
theorem dX8_worth_19 : decode cX8_worth 19 = .ok (.getfield 84, 3) := by decide +kernel
theorem dX8_worth_22 : decode cX8_worth 22 = .ok (.bipush 12, 2) := by decide +kernel
theorem dX8_worth_24 : decode cX8_worth 24 = .ok (.if_icmp .ne 9, 3) := by decide +kernel
theorem dX8_worth_27 : decode cX8_worth 27 = .ok (.sipush (-1004), 3) := by decide +kernel
theorem dX8_worth_30 : decode cX8_worth 30 = .ok (.goto 8, 3) := by decide +kernel
theorem dX8_worth_33 : decode cX8_worth 33 = .ok (.aload_n 0, 1) := by decide +kernel
theorem dX8_worth_34 : decode cX8_worth 34 = .ok (.iload_n 1, 1) := by decide +kernel
theorem dX8_worth_35 : decode cX8_worth 35 = .ok (.invokevirtual 154, 3) := by decide +kernel
theorem dX8_worth_38 : decode cX8_worth 38 = .ok (.ireturn, 1) := by decide +kernel
theorem dX8_sum_0 : decode cX8_sum 0 = .ok (.aload_n 0, 1) := by decide +kernel
theorem dX8_sum_1 : decode cX8_sum 1 = .ok (.getfield 84, 3) := by decide +kernel
theorem dX8_sum_4 : decode cX8_sum 4 = .ok (.bipush 12, 2) := by decide +kernel
theorem dX8_sum_6 : decode cX8_sum 6 = .ok (.if_icmp .ne 9, 3) := by decide +kernel
theorem dX8_sum_9 : decode cX8_sum 9 = .ok (.sipush (-1004), 3) := by decide +kernel
theorem dX8_sum_12 : decode cX8_sum 12 = .ok (.goto 8, 3) := by decide +kernel
theorem dX8_sum_15 : decode cX8_sum 15 = .ok (.aload_n 0, 1) := by decide +kernel
theorem dX8_sum_16 : decode cX8_sum 16 = .ok (.iconst 5, 1) := by decide +kernel
theorem dX8_sum_17 : decode cX8_sum 17 = .ok (.invokevirtual 154, 3) := by decide +kernel
theorem dX8_sum_20 : decode cX8_sum 20 = .ok (.ireturn, 1) := by decide +kernel
theorem dX8_made_0 : decode cX8_made 0 = .ok (.aload_n 0, 1) := by decide +kernel
theorem dX8_made_1 : decode cX8_made 1 = .ok (.iload_n 2, 1) := by decide +kernel
theorem dX8_made_2 : decode cX8_made 2 = .ok (.invokevirtual 157, 3) := by decide +kernel
theorem dX8_made_5 : decode cX8_made 5 = .ok (.ifCond .eq 11, 3) := by decide +kernel
theorem dX8_made_8 : decode cX8_made 8 = .ok (.aload_n 0, 1) := by decide +kernel
theorem dX8_made_9 : decode cX8_made 9 = .ok (.iload_n 3, 1) := by decide +kernel
theorem dX8_made_10 : decode cX8_made 10 = .ok (.invokevirtual 160, 3) := by decide +kernel
theorem dX8_made_13 : decode cX8_made 13 = .ok (.ifCond .ne 7, 3) := by decide +kernel
theorem dX8_made_16 : decode cX8_made 16 = .ok (.sipush (-1001), 3) := by decide +kernel
theorem dX8_made_19 : decode cX8_made 19 = .ok (.ireturn, 1) := by decide +kernel
theorem dX8_made_20 : decode cX8_made 20 = .ok (.aload_n 0, 1) := by decide +kernel
theorem dX8_made_21 : decode cX8_made 21 = .ok (.getfield 84, 3) := by decide +kernel
theorem dX8_made_24 : decode cX8_made 24 = .ok (.bipush 12, 2) := by decide +kernel
theorem dX8_made_26 : decode cX8_made 26 = .ok (.if_icmp .ne 7, 3) := by decide +kernel
theorem dX8_made_29 : decode cX8_made 29 = .ok (.sipush (-1004), 3) := by decide +kernel
theorem dX8_made_32 : decode cX8_made 32 = .ok (.ireturn, 1) := by decide +kernel
theorem dX8_made_33 : decode cX8_made 33 = .ok (.aload_n 0, 1) := by decide +kernel
theorem dX8_made_34 : decode cX8_made 34 = .ok (.iload_n 1, 1) := by decide +kernel
theorem dX8_made_35 : decode cX8_made 35 = .ok (.invokevirtual 154, 3) := by decide +kernel
theorem dX8_made_38 : decode cX8_made 38 = .ok (.istore 4, 2) := by decide +kernel
theorem dX8_made_40 : decode cX8_made 40 = .ok (.aload_n 0, 1) := by decide +kernel
theorem dX8_made_41 : decode cX8_made 41 = .ok (.getfield 39, 3) := by decide +kernel
theorem dX8_made_44 : decode cX8_made 44 = .ok (.iload 4, 2) := by decide +kernel
theorem dX8_made_46 : decode cX8_made 46 = .ok (.iload_n 2, 1) := by decide +kernel
theorem dX8_made_47 : decode cX8_made 47 = .ok (.iastore, 1) := by decide +kernel
theorem dX8_made_48 : decode cX8_made 48 = .ok (.aload_n 0, 1) := by decide +kernel
theorem dX8_made_49 : decode cX8_made 49 = .ok (.getfield 42, 3) := by decide +kernel
theorem dX8_made_52 : decode cX8_made 52 = .ok (.iload 4, 2) := by decide +kernel
theorem dX8_made_54 : decode cX8_made 54 = .ok (.iload_n 3, 1) := by decide +kernel
theorem dX8_made_55 : decode cX8_made 55 = .ok (.iastore, 1) := by decide +kernel
theorem dX8_made_56 : decode cX8_made 56 = .ok (.aload_n 0, 1) := by decide +kernel
theorem dX8_made_57 : decode cX8_made 57 = .ok (.iload 4, 2) := by decide +kernel
theorem dX8_made_59 : decode cX8_made 59 = .ok (.invokevirtual 163, 3) := by decide +kernel
theorem dX8_made_62 : decode cX8_made 62 = .ok (.ifCond .ne 17, 3) := by decide +kernel
theorem dX8_made_65 : decode cX8_made 65 = .ok (.aload_n 0, 1) := by decide +kernel
theorem dX8_made_66 : decode cX8_made 66 = .ok (.dup, 1) := by decide +kernel
theorem dX8_made_67 : decode cX8_made 67 = .ok (.getfield 84, 3) := by decide +kernel
theorem dX8_made_70 : decode cX8_made 70 = .ok (.iconst 1, 1) := by decide +kernel
theorem dX8_made_71 : decode cX8_made 71 = .ok (.isub, 1) := by decide +kernel
theorem dX8_made_72 : decode cX8_made 72 = .ok (.putfield 84, 3) := by decide +kernel
theorem dX8_made_75 : decode cX8_made 75 = .ok (.sipush (-1005), 3) := by decide +kernel
theorem dX8_made_78 : decode cX8_made 78 = .ok (.ireturn, 1) := by decide +kernel
theorem dX8_made_79 : decode cX8_made 79 = .ok (.aload_n 0, 1) := by decide +kernel
theorem dX8_made_80 : decode cX8_made 80 = .ok (.getfield 13, 3) := by decide +kernel
theorem dX8_made_83 : decode cX8_made 83 = .ok (.iload_n 2, 1) := by decide +kernel
theorem dX8_made_84 : decode cX8_made 84 = .ok (.iconst 1, 1) := by decide +kernel
theorem dX8_made_85 : decode cX8_made 85 = .ok (.bastore, 1) := by decide +kernel
theorem dX8_made_86 : decode cX8_made 86 = .ok (.iload 4, 2) := by decide +kernel
theorem dX8_made_88 : decode cX8_made 88 = .ok (.ireturn, 1) := by decide +kernel
theorem dX8_part_0 : decode cX8_part 0 = .ok (.aload_n 0, 1) := by decide +kernel
theorem dX8_part_1 : decode cX8_part 1 = .ok (.bipush 6, 2) := by decide +kernel
theorem dX8_part_3 : decode cX8_part 3 = .ok (.iload_n 1, 1) := by decide +kernel
theorem dX8_part_4 : decode cX8_part 4 = .ok (.iload_n 2, 1) := by decide +kernel
theorem dX8_part_5 : decode cX8_part 5 = .ok (.invokevirtual 166, 3) := by decide +kernel
theorem dX8_part_8 : decode cX8_part 8 = .ok (.ireturn, 1) := by decide +kernel
theorem dX8_beyond_0 : decode cX8_beyond 0 = .ok (.aload_n 0, 1) := by decide +kernel
theorem dX8_beyond_1 : decode cX8_beyond 1 = .ok (.bipush 7, 2) := by decide +kernel
theorem dX8_beyond_3 : decode cX8_beyond 3 = .ok (.iload_n 1, 1) := by decide +kernel
theorem dX8_beyond_4 : decode cX8_beyond 4 = .ok (.iload_n 2, 1) := by decide +kernel
theorem dX8_beyond_5 : decode cX8_beyond 5 = .ok (.invokevirtual 166, 3) := by decide +kernel
theorem dX8_beyond_8 : decode cX8_beyond 8 = .ok (.ireturn, 1) := by decide +kernel
theorem dX8_kind_0 : decode cX8_kind 0 = .ok (.aload_n 0, 1) := by decide +kernel
theorem dX8_kind_1 : decode cX8_kind 1 = .ok (.iload_n 1, 1) := by decide +kernel
theorem dX8_kind_2 : decode cX8_kind 2 = .ok (.invokevirtual 157, 3) := by decide +kernel
theorem dX8_kind_5 : decode cX8_kind 5 = .ok (.ifCond .eq 12, 3) := by decide +kernel
theorem dX8_kind_8 : decode cX8_kind 8 = .ok (.aload_n 0, 1) := by decide +kernel
theorem dX8_kind_9 : decode cX8_kind 9 = .ok (.getfield 7, 3) := by decide +kernel
theorem dX8_kind_12 : decode cX8_kind 12 = .ok (.iload_n 1, 1) := by decide +kernel
theorem dX8_kind_13 : decode cX8_kind 13 = .ok (.iaload, 1) := by decide +kernel
theorem dX8_kind_14 : decode cX8_kind 14 = .ok (.goto 6, 3) := by decide +kernel
theorem dX8_kind_17 : decode cX8_kind 17 = .ok (.sipush (-1001), 3) := by decide +kernel
theorem dX8_kind_20 : decode cX8_kind 20 = .ok (.ireturn, 1) := by decide +kernel
theorem dX8_count_0 : decode cX8_count 0 = .ok (.iload_n 1, 1) := by decide +kernel
theorem dX8_count_1 : decode cX8_count 1 = .ok (.i2l, 1) := by decide +kernel
theorem dX8_count_2 : decode cX8_count 2 = .ok (.lconst 0, 1) := by decide +kernel
theorem dX8_count_3 : decode cX8_count 3 = .ok (.ldc2_w 170, 3) := by decide +kernel
theorem dX8_count_6 : decode cX8_count 6 = .ok (.invokestatic 89, 3) := by decide +kernel
theorem dX8_count_9 : decode cX8_count 9 = .ok (.ifCond .ne 7, 3) := by decide +kernel
theorem dX8_count_12 : decode cX8_count 12 = .ok (.sipush (-1002), 3) := by decide +kernel
theorem dX8_count_15 : decode cX8_count 15 = .ok (.ireturn, 1) := by decide +kernel
theorem dX8_count_16 : decode cX8_count 16 = .ok (.iload_n 1, 1) := by decide +kernel
theorem dX8_count_17 : decode cX8_count 17 = .ok (.iconst 2, 1) := by decide +kernel
theorem dX8_count_18 : decode cX8_count 18 = .ok (.if_icmp .ge 19, 3) := by decide +kernel
theorem dX8_count_21 : decode cX8_count 21 = .ok (.iload_n 1, 1) := by decide +kernel
theorem dX8_count_22 : decode cX8_count 22 = .ok (.ifCond .ne 10, 3) := by decide +kernel
theorem dX8_count_25 : decode cX8_count 25 = .ok (.aload_n 0, 1) := by decide +kernel
theorem dX8_count_26 : decode cX8_count 26 = .ok (.getfield 80, 3) := by decide +kernel
theorem dX8_count_29 : decode cX8_count 29 = .ok (.goto 7, 3) := by decide +kernel
theorem dX8_count_32 : decode cX8_count 32 = .ok (.aload_n 0, 1) := by decide +kernel
theorem dX8_count_33 : decode cX8_count 33 = .ok (.getfield 84, 3) := by decide +kernel
theorem dX8_count_36 : decode cX8_count 36 = .ok (.ireturn, 1) := by decide +kernel
theorem dX8_count_37 : decode cX8_count 37 = .ok (.aload_n 0, 1) := by decide +kernel
theorem dX8_count_38 : decode cX8_count 38 = .ok (.iload_n 2, 1) := by decide +kernel
theorem dX8_count_39 : decode cX8_count 39 = .ok (.invokevirtual 157, 3) := by decide +kernel
theorem dX8_count_42 : decode cX8_count 42 = .ok (.ifCond .ne 7, 3) := by decide +kernel
theorem dX8_count_45 : decode cX8_count 45 = .ok (.sipush (-1001), 3) := by decide +kernel
theorem dX8_count_48 : decode cX8_count 48 = .ok (.ireturn, 1) := by decide +kernel
theorem dX8_count_49 : decode cX8_count 49 = .ok (.iload_n 1, 1) := by decide +kernel
theorem dX8_count_50 : decode cX8_count 50 = .ok (.iconst 2, 1) := by decide +kernel
theorem dX8_count_51 : decode cX8_count 51 = .ok (.if_icmp .ne 7, 3) := by decide +kernel
theorem dX8_count_54 : decode cX8_count 54 = .ok (.iconst 1, 1) := by decide +kernel
theorem dX8_count_55 : decode cX8_count 55 = .ok (.goto 22, 3) := by decide +kernel
theorem dX8_count_58 : decode cX8_count 58 = .ok (.iload_n 1, 1) := by decide +kernel
theorem dX8_count_59 : decode cX8_count 59 = .ok (.iconst 3, 1) := by decide +kernel
theorem dX8_count_60 : decode cX8_count 60 = .ok (.if_icmp .ne 7, 3) := by decide +kernel
theorem dX8_count_63 : decode cX8_count 63 = .ok (.iconst 2, 1) := by decide +kernel
theorem dX8_count_64 : decode cX8_count 64 = .ok (.goto 13, 3) := by decide +kernel
theorem dX8_count_67 : decode cX8_count 67 = .ok (.iload_n 1, 1) := by decide +kernel
theorem dX8_count_68 : decode cX8_count 68 = .ok (.iconst 4, 1) := by decide +kernel
theorem dX8_count_69 : decode cX8_count 69 = .ok (.if_icmp .ne 7, 3) := by decide +kernel
theorem dX8_count_72 : decode cX8_count 72 = .ok (.iconst 4, 1) := by decide +kernel
theorem dX8_count_73 : decode cX8_count 73 = .ok (.goto 4, 3) := by decide +kernel
theorem dX8_count_76 : decode cX8_count 76 = .ok (.iconst 5, 1) := by decide +kernel
theorem dX8_count_77 : decode cX8_count 77 = .ok (.istore_n 3, 1) := by decide +kernel
theorem dX8_count_78 : decode cX8_count 78 = .ok (.iload_n 1, 1) := by decide +kernel
theorem dX8_count_79 : decode cX8_count 79 = .ok (.bipush 6, 2) := by decide +kernel
theorem dX8_count_81 : decode cX8_count 81 = .ok (.if_icmp .ne 20, 3) := by decide +kernel
theorem dX8_count_84 : decode cX8_count 84 = .ok (.aload_n 0, 1) := by decide +kernel
theorem dX8_count_85 : decode cX8_count 85 = .ok (.getfield 13, 3) := by decide +kernel
theorem dX8_count_88 : decode cX8_count 88 = .ok (.iload_n 2, 1) := by decide +kernel
theorem dX8_count_89 : decode cX8_count 89 = .ok (.baload, 1) := by decide +kernel
theorem dX8_count_90 : decode cX8_count 90 = .ok (.ifCond .eq 7, 3) := by decide +kernel
theorem dX8_count_93 : decode cX8_count 93 = .ok (.iconst 1, 1) := by decide +kernel
theorem dX8_count_94 : decode cX8_count 94 = .ok (.goto 27, 3) := by decide +kernel
theorem dX8_count_97 : decode cX8_count 97 = .ok (.iconst 0, 1) := by decide +kernel
theorem dX8_count_98 : decode cX8_count 98 = .ok (.goto 23, 3) := by decide +kernel
theorem dX8_count_101 : decode cX8_count 101 = .ok (.aload_n 0, 1) := by decide +kernel
theorem dX8_count_102 : decode cX8_count 102 = .ok (.getfield 7, 3) := by decide +kernel
theorem dX8_count_105 : decode cX8_count 105 = .ok (.iload_n 2, 1) := by decide +kernel
theorem dX8_count_106 : decode cX8_count 106 = .ok (.iaload, 1) := by decide +kernel
theorem dX8_count_107 : decode cX8_count 107 = .ok (.iload_n 3, 1) := by decide +kernel
theorem dX8_count_108 : decode cX8_count 108 = .ok (.if_icmp .ne 12, 3) := by decide +kernel
theorem dX8_count_111 : decode cX8_count 111 = .ok (.aload_n 0, 1) := by decide +kernel
theorem dX8_count_112 : decode cX8_count 112 = .ok (.getfield 21, 3) := by decide +kernel
theorem dX8_count_115 : decode cX8_count 115 = .ok (.iload_n 2, 1) := by decide +kernel
theorem dX8_count_116 : decode cX8_count 116 = .ok (.iaload, 1) := by decide +kernel
theorem dX8_count_117 : decode cX8_count 117 = .ok (.goto 4, 3) := by decide +kernel
theorem dX8_count_120 : decode cX8_count 120 = .ok (.iconst 0, 1) := by decide +kernel
theorem dX8_count_121 : decode cX8_count 121 = .ok (.ireturn, 1) := by decide +kernel
theorem dX8_isOf_0 : decode cX8_isOf 0 = .ok (.aload_n 0, 1) := by decide +kernel
theorem dX8_isOf_1 : decode cX8_isOf 1 = .ok (.aload_n 0, 1) := by decide +kernel
theorem dX8_isOf_2 : decode cX8_isOf 2 = .ok (.getfield 7, 3) := by decide +kernel
theorem dX8_isOf_5 : decode cX8_isOf 5 = .ok (.iload_n 1, 1) := by decide +kernel
theorem dX8_isOf_6 : decode cX8_isOf 6 = .ok (.iaload, 1) := by decide +kernel
theorem dX8_isOf_7 : decode cX8_isOf 7 = .ok (.iload_n 2, 1) := by decide +kernel
theorem dX8_isOf_8 : decode cX8_isOf 8 = .ok (.if_icmp .ne 7, 3) := by decide +kernel
theorem dX8_isOf_11 : decode cX8_isOf 11 = .ok (.iconst 0, 1) := by decide +kernel
theorem dX8_isOf_12 : decode cX8_isOf 12 = .ok (.goto 4, 3) := by decide +kernel
theorem dX8_isOf_15 : decode cX8_isOf 15 = .ok (.iconst 5, 1) := by decide +kernel
theorem dX8_isOf_16 : decode cX8_isOf 16 = .ok (.putfield 105, 3) := by decide +kernel
theorem dX8_isOf_19 : decode cX8_isOf 19 = .ok (.aload_n 0, 1) := by decide +kernel
theorem dX8_isOf_20 : decode cX8_isOf 20 = .ok (.getfield 105, 3) := by decide +kernel
theorem dX8_isOf_23 : decode cX8_isOf 23 = .ok (.ifCond .ne 7, 3) := by decide +kernel
theorem dX8_isOf_26 : decode cX8_isOf 26 = .ok (.iconst 1, 1) := by decide +kernel
theorem dX8_isOf_27 : decode cX8_isOf 27 = .ok (.goto 4, 3) := by decide +kernel
theorem dX8_isOf_30 : decode cX8_isOf 30 = .ok (.iconst 0, 1) := by decide +kernel
theorem dX8_isOf_31 : decode cX8_isOf 31 = .ok (.ireturn, 1) := by decide +kernel
theorem dX8_tell_0 : decode cX8_tell 0 = .ok (.aload_n 0, 1) := by decide +kernel
theorem dX8_tell_1 : decode cX8_tell 1 = .ok (.iload_n 1, 1) := by decide +kernel
theorem dX8_tell_2 : decode cX8_tell 2 = .ok (.invokevirtual 157, 3) := by decide +kernel
theorem dX8_tell_5 : decode cX8_tell 5 = .ok (.ifCond .eq 11, 3) := by decide +kernel
theorem dX8_tell_8 : decode cX8_tell 8 = .ok (.aload_n 0, 1) := by decide +kernel
theorem dX8_tell_9 : decode cX8_tell 9 = .ok (.iload_n 2, 1) := by decide +kernel
theorem dX8_tell_10 : decode cX8_tell 10 = .ok (.invokevirtual 160, 3) := by decide +kernel
theorem dX8_tell_13 : decode cX8_tell 13 = .ok (.ifCond .ne 7, 3) := by decide +kernel
theorem dX8_tell_16 : decode cX8_tell 16 = .ok (.sipush (-1001), 3) := by decide +kernel
theorem dX8_tell_19 : decode cX8_tell 19 = .ok (.ireturn, 1) := by decide +kernel
theorem dX8_tell_20 : decode cX8_tell 20 = .ok (.iload_n 2, 1) := by decide +kernel
theorem dX8_tell_21 : decode cX8_tell 21 = .ok (.ifCond .eq 17, 3) := by decide +kernel
theorem dX8_tell_24 : decode cX8_tell 24 = .ok (.iload_n 3, 1) := by decide +kernel
theorem dX8_tell_25 : decode cX8_tell 25 = .ok (.i2l, 1) := by decide +kernel
theorem dX8_tell_26 : decode cX8_tell 26 = .ok (.ldc2_w 172, 3) := by decide +kernel
theorem dX8_tell_29 : decode cX8_tell 29 = .ok (.ldc2_w 174, 3) := by decide +kernel
theorem dX8_tell_32 : decode cX8_tell 32 = .ok (.invokestatic 89, 3) := by decide +kernel
theorem dX8_tell_35 : decode cX8_tell 35 = .ok (.ifCond .ne 7, 3) := by decide +kernel
theorem dX8_tell_38 : decode cX8_tell 38 = .ok (.sipush (-1002), 3) := by decide +kernel
theorem dX8_tell_41 : decode cX8_tell 41 = .ok (.ireturn, 1) := by decide +kernel
theorem dX8_tell_42 : decode cX8_tell 42 = .ok (.aload_n 0, 1) := by decide +kernel
theorem dX8_tell_43 : decode cX8_tell 43 = .ok (.getfield 13, 3) := by decide +kernel
theorem dX8_tell_46 : decode cX8_tell 46 = .ok (.iload_n 1, 1) := by decide +kernel
theorem dX8_tell_47 : decode cX8_tell 47 = .ok (.baload, 1) := by decide +kernel
theorem dX8_tell_48 : decode cX8_tell 48 = .ok (.ifCond .eq 7, 3) := by decide +kernel
theorem dX8_tell_51 : decode cX8_tell 51 = .ok (.sipush (-1003), 3) := by decide +kernel
theorem dX8_tell_54 : decode cX8_tell 54 = .ok (.ireturn, 1) := by decide +kernel
theorem dX8_tell_55 : decode cX8_tell 55 = .ok (.aload_n 0, 1) := by decide +kernel
theorem dX8_tell_56 : decode cX8_tell 56 = .ok (.iload_n 1, 1) := by decide +kernel
theorem dX8_tell_57 : decode cX8_tell 57 = .ok (.iconst 0, 1) := by decide +kernel
theorem dX8_tell_58 : decode cX8_tell 58 = .ok (.invokevirtual 176, 3) := by decide +kernel
theorem dX8_tell_61 : decode cX8_tell 61 = .ok (.ifCond .ne 5, 3) := by decide +kernel
theorem dX8_tell_64 : decode cX8_tell 64 = .ok (.iconst 0, 1) := by decide +kernel
theorem dX8_tell_65 : decode cX8_tell 65 = .ok (.ireturn, 1) := by decide +kernel
theorem dX8_tell_66 : decode cX8_tell 66 = .ok (.aload_n 0, 1) := by decide +kernel
theorem dX8_tell_67 : decode cX8_tell 67 = .ok (.getfield 17, 3) := by decide +kernel
theorem dX8_tell_70 : decode cX8_tell 70 = .ok (.sipush 1024, 3) := by decide +kernel
theorem dX8_tell_73 : decode cX8_tell 73 = .ok (.iload_n 1, 1) := by decide +kernel
theorem dX8_tell_74 : decode cX8_tell 74 = .ok (.imul, 1) := by decide +kernel
theorem dX8_tell_75 : decode cX8_tell 75 = .ok (.iload_n 2, 1) := by decide +kernel
theorem dX8_tell_76 : decode cX8_tell 76 = .ok (.iadd, 1) := by decide +kernel
theorem dX8_tell_77 : decode cX8_tell 77 = .ok (.iload_n 3, 1) := by decide +kernel
theorem dX8_tell_78 : decode cX8_tell 78 = .ok (.i2l, 1) := by decide +kernel
theorem dX8_tell_79 : decode cX8_tell 79 = .ok (.lastore, 1) := by decide +kernel
theorem dX8_tell_80 : decode cX8_tell 80 = .ok (.iconst 1, 1) := by decide +kernel
theorem dX8_tell_81 : decode cX8_tell 81 = .ok (.ireturn, 1) := by decide +kernel
theorem dX8_read_0 : decode cX8_read 0 = .ok (.aload_n 0, 1) := by decide +kernel
theorem dX8_read_1 : decode cX8_read 1 = .ok (.iload_n 1, 1) := by decide +kernel
theorem dX8_read_2 : decode cX8_read 2 = .ok (.invokevirtual 157, 3) := by decide +kernel
theorem dX8_read_5 : decode cX8_read 5 = .ok (.ifCond .eq 10, 3) := by decide +kernel
theorem dX8_read_8 : decode cX8_read 8 = .ok (.iload_n 2, 1) := by decide +kernel
theorem dX8_read_9 : decode cX8_read 9 = .ok (.invokestatic 99, 3) := by decide +kernel
theorem dX8_read_12 : decode cX8_read 12 = .ok (.ifCond .ne 7, 3) := by decide +kernel
theorem dX8_read_15 : decode cX8_read 15 = .ok (.sipush (-1001), 3) := by decide +kernel
theorem dX8_read_18 : decode cX8_read 18 = .ok (.ireturn, 1) := by decide +kernel
theorem dX8_read_19 : decode cX8_read 19 = .ok (.aload_n 0, 1) := by decide +kernel
theorem dX8_read_20 : decode cX8_read 20 = .ok (.getfield 13, 3) := by decide +kernel
theorem dX8_read_23 : decode cX8_read 23 = .ok (.iload_n 1, 1) := by decide +kernel
theorem dX8_read_24 : decode cX8_read 24 = .ok (.baload, 1) := by decide +kernel
theorem dX8_read_25 : decode cX8_read 25 = .ok (.ifCond .eq 7, 3) := by decide +kernel
theorem dX8_read_28 : decode cX8_read 28 = .ok (.sipush (-1003), 3) := by decide +kernel
theorem dX8_read_31 : decode cX8_read 31 = .ok (.ireturn, 1) := by decide +kernel
theorem dX8_read_32 : decode cX8_read 32 = .ok (.aload_n 0, 1) := by decide +kernel
theorem dX8_read_33 : decode cX8_read 33 = .ok (.getfield 7, 3) := by decide +kernel
theorem dX8_read_36 : decode cX8_read 36 = .ok (.iload_n 1, 1) := by decide +kernel
theorem dX8_read_37 : decode cX8_read 37 = .ok (.iaload, 1) := by decide +kernel
theorem dX8_read_38 : decode cX8_read 38 = .ok (.ifCond .eq 7, 3) := by decide +kernel
theorem dX8_read_41 : decode cX8_read 41 = .ok (.iconst 5, 1) := by decide +kernel
theorem dX8_read_42 : decode cX8_read 42 = .ok (.goto 41, 3) := by decide +kernel
theorem dX8_read_45 : decode cX8_read 45 = .ok (.aload_n 0, 1) := by decide +kernel
theorem dX8_read_46 : decode cX8_read 46 = .ok (.getfield 55, 3) := by decide +kernel
theorem dX8_read_49 : decode cX8_read 49 = .ok (.iload_n 2, 1) := by decide +kernel
theorem dX8_read_50 : decode cX8_read 50 = .ok (.iaload, 1) := by decide +kernel
theorem dX8_read_51 : decode cX8_read 51 = .ok (.ifCond .ge 7, 3) := by decide +kernel
theorem dX8_read_54 : decode cX8_read 54 = .ok (.iconst 1, 1) := by decide +kernel
theorem dX8_read_55 : decode cX8_read 55 = .ok (.goto 28, 3) := by decide +kernel
theorem dX8_read_58 : decode cX8_read 58 = .ok (.aload_n 0, 1) := by decide +kernel
theorem dX8_read_59 : decode cX8_read 59 = .ok (.invokevirtual 93, 3) := by decide +kernel
theorem dX8_read_62 : decode cX8_read 62 = .ok (.ifCond .le 20, 3) := by decide +kernel
theorem dX8_read_65 : decode cX8_read 65 = .ok (.aload_n 0, 1) := by decide +kernel
theorem dX8_read_66 : decode cX8_read 66 = .ok (.getfield 55, 3) := by decide +kernel
theorem dX8_read_69 : decode cX8_read 69 = .ok (.iload_n 2, 1) := by decide +kernel
theorem dX8_read_70 : decode cX8_read 70 = .ok (.iaload, 1) := by decide +kernel
theorem dX8_read_71 : decode cX8_read 71 = .ok (.aload_n 0, 1) := by decide +kernel
theorem dX8_read_72 : decode cX8_read 72 = .ok (.invokevirtual 93, 3) := by decide +kernel
theorem dX8_read_75 : decode cX8_read 75 = .ok (.if_icmp .gt 7, 3) := by decide +kernel
theorem dX8_read_78 : decode cX8_read 78 = .ok (.iconst 3, 1) := by decide +kernel
theorem dX8_read_79 : decode cX8_read 79 = .ok (.goto 4, 3) := by decide +kernel
theorem dX8_read_82 : decode cX8_read 82 = .ok (.iconst 0, 1) := by decide +kernel
theorem dX8_read_83 : decode cX8_read 83 = .ok (.istore_n 3, 1) := by decide +kernel
theorem dX8_read_84 : decode cX8_read 84 = .ok (.iload_n 3, 1) := by decide +kernel
theorem dX8_read_85 : decode cX8_read 85 = .ok (.ifCond .le 10, 3) := by decide +kernel
theorem dX8_read_88 : decode cX8_read 88 = .ok (.aload_n 0, 1) := by decide +kernel
theorem dX8_read_89 : decode cX8_read 89 = .ok (.iload_n 3, 1) := by decide +kernel
theorem dX8_read_90 : decode cX8_read 90 = .ok (.putfield 105, 3) := by decide +kernel
theorem dX8_read_93 : decode cX8_read 93 = .ok (.iconst 0, 1) := by decide +kernel
theorem dX8_read_94 : decode cX8_read 94 = .ok (.ireturn, 1) := by decide +kernel
theorem dX8_read_95 : decode cX8_read 95 = .ok (.iconst 1, 1) := by decide +kernel
theorem dX8_read_96 : decode cX8_read 96 = .ok (.istore 4, 2) := by decide +kernel
theorem dX8_read_98 : decode cX8_read 98 = .ok (.iconst 1, 1) := by decide +kernel
theorem dX8_read_99 : decode cX8_read 99 = .ok (.istore 5, 2) := by decide +kernel
theorem dX8_read_101 : decode cX8_read 101 = .ok (.iload 5, 2) := by decide +kernel
theorem dX8_read_103 : decode cX8_read 103 = .ok (.aload_n 0, 1) := by decide +kernel
theorem dX8_read_104 : decode cX8_read 104 = .ok (.invokevirtual 93, 3) := by decide +kernel
theorem dX8_read_107 : decode cX8_read 107 = .ok (.if_icmp .gt 46, 3) := by decide +kernel
theorem dX8_read_110 : decode cX8_read 110 = .ok (.iload 4, 2) := by decide +kernel
theorem dX8_read_112 : decode cX8_read 112 = .ok (.ifCond .eq 32, 3) := by decide +kernel
theorem dX8_read_115 : decode cX8_read 115 = .ok (.aload_n 0, 1) := by decide +kernel
theorem dX8_read_116 : decode cX8_read 116 = .ok (.getfield 61, 3) := by decide +kernel
theorem dX8_read_119 : decode cX8_read 119 = .ok (.sipush 1100, 3) := by decide +kernel
theorem dX8_read_122 : decode cX8_read 122 = .ok (.iload_n 2, 1) := by decide +kernel
theorem dX8_read_123 : decode cX8_read 123 = .ok (.imul, 1) := by decide +kernel
theorem dX8_read_124 : decode cX8_read 124 = .ok (.iload 5, 2) := by decide +kernel
theorem dX8_read_126 : decode cX8_read 126 = .ok (.iadd, 1) := by decide +kernel
theorem dX8_read_127 : decode cX8_read 127 = .ok (.laload, 1) := by decide +kernel
theorem dX8_read_128 : decode cX8_read 128 = .ok (.ldc2_w 172, 3) := by decide +kernel
theorem dX8_read_131 : decode cX8_read 131 = .ok (.ldc2_w 174, 3) := by decide +kernel
theorem dX8_read_134 : decode cX8_read 134 = .ok (.invokestatic 89, 3) := by decide +kernel
theorem dX8_read_137 : decode cX8_read 137 = .ok (.ifCond .eq 7, 3) := by decide +kernel
theorem dX8_read_140 : decode cX8_read 140 = .ok (.iconst 1, 1) := by decide +kernel
theorem dX8_read_141 : decode cX8_read 141 = .ok (.goto 4, 3) := by decide +kernel
theorem dX8_read_144 : decode cX8_read 144 = .ok (.iconst 0, 1) := by decide +kernel
theorem dX8_read_145 : decode cX8_read 145 = .ok (.istore 4, 2) := by decide +kernel
theorem dX8_read_147 : decode cX8_read 147 = .ok (.iinc 5 1, 3) := by decide +kernel
theorem dX8_read_150 : decode cX8_read 150 = .ok (.goto (-49), 3) := by decide +kernel
theorem dX8_read_153 : decode cX8_read 153 = .ok (.iload 4, 2) := by decide +kernel
theorem dX8_read_155 : decode cX8_read 155 = .ok (.ifCond .ne 7, 3) := by decide +kernel
theorem dX8_read_158 : decode cX8_read 158 = .ok (.sipush (-1003), 3) := by decide +kernel
theorem dX8_read_161 : decode cX8_read 161 = .ok (.ireturn, 1) := by decide +kernel
theorem dX8_read_162 : decode cX8_read 162 = .ok (.iconst 1, 1) := by decide +kernel
theorem dX8_read_163 : decode cX8_read 163 = .ok (.istore 5, 2) := by decide +kernel
theorem dX8_read_165 : decode cX8_read 165 = .ok (.iload 5, 2) := by decide +kernel
theorem dX8_read_167 : decode cX8_read 167 = .ok (.aload_n 0, 1) := by decide +kernel
theorem dX8_read_168 : decode cX8_read 168 = .ok (.invokevirtual 93, 3) := by decide +kernel
theorem dX8_read_171 : decode cX8_read 171 = .ok (.if_icmp .gt 35, 3) := by decide +kernel
theorem dX8_read_174 : decode cX8_read 174 = .ok (.aload_n 0, 1) := by decide +kernel
theorem dX8_read_175 : decode cX8_read 175 = .ok (.getfield 17, 3) := by decide +kernel
theorem dX8_read_178 : decode cX8_read 178 = .ok (.sipush 1024, 3) := by decide +kernel
theorem dX8_read_181 : decode cX8_read 181 = .ok (.iload_n 1, 1) := by decide +kernel
theorem dX8_read_182 : decode cX8_read 182 = .ok (.imul, 1) := by decide +kernel
theorem dX8_read_183 : decode cX8_read 183 = .ok (.iload 5, 2) := by decide +kernel
theorem dX8_read_185 : decode cX8_read 185 = .ok (.iadd, 1) := by decide +kernel
theorem dX8_read_186 : decode cX8_read 186 = .ok (.aload_n 0, 1) := by decide +kernel
theorem dX8_read_187 : decode cX8_read 187 = .ok (.getfield 61, 3) := by decide +kernel
theorem dX8_read_190 : decode cX8_read 190 = .ok (.sipush 1100, 3) := by decide +kernel
theorem dX8_read_193 : decode cX8_read 193 = .ok (.iload_n 2, 1) := by decide +kernel
theorem dX8_read_194 : decode cX8_read 194 = .ok (.imul, 1) := by decide +kernel
theorem dX8_read_195 : decode cX8_read 195 = .ok (.iload 5, 2) := by decide +kernel
theorem dX8_read_197 : decode cX8_read 197 = .ok (.iadd, 1) := by decide +kernel
theorem dX8_read_198 : decode cX8_read 198 = .ok (.laload, 1) := by decide +kernel
theorem dX8_read_199 : decode cX8_read 199 = .ok (.lastore, 1) := by decide +kernel
theorem dX8_read_200 : decode cX8_read 200 = .ok (.iinc 5 1, 3) := by decide +kernel
theorem dX8_read_203 : decode cX8_read 203 = .ok (.goto (-38), 3) := by decide +kernel
theorem dX8_read_206 : decode cX8_read 206 = .ok (.aload_n 0, 1) := by decide +kernel
theorem dX8_read_207 : decode cX8_read 207 = .ok (.iconst 0, 1) := by decide +kernel
theorem dX8_read_208 : decode cX8_read 208 = .ok (.putfield 105, 3) := by decide +kernel
theorem dX8_read_211 : decode cX8_read 211 = .ok (.iconst 1, 1) := by decide +kernel
theorem dX8_read_212 : decode cX8_read 212 = .ok (.ireturn, 1) := by decide +kernel
theorem dX8_more_0 : decode cX8_more 0 = .ok (.aload_n 0, 1) := by decide +kernel
theorem dX8_more_1 : decode cX8_more 1 = .ok (.getfield 24, 3) := by decide +kernel
theorem dX8_more_4 : decode cX8_more 4 = .ok (.bipush 24, 2) := by decide +kernel
theorem dX8_more_6 : decode cX8_more 6 = .ok (.iload_n 1, 1) := by decide +kernel
theorem dX8_more_7 : decode cX8_more 7 = .ok (.imul, 1) := by decide +kernel
theorem dX8_more_8 : decode cX8_more 8 = .ok (.aload_n 0, 1) := by decide +kernel
theorem dX8_more_9 : decode cX8_more 9 = .ok (.getfield 21, 3) := by decide +kernel
theorem dX8_more_12 : decode cX8_more 12 = .ok (.iload_n 1, 1) := by decide +kernel
theorem dX8_more_13 : decode cX8_more 13 = .ok (.iaload, 1) := by decide +kernel
theorem dX8_more_14 : decode cX8_more 14 = .ok (.iadd, 1) := by decide +kernel
theorem dX8_more_15 : decode cX8_more 15 = .ok (.iload_n 2, 1) := by decide +kernel
theorem dX8_more_16 : decode cX8_more 16 = .ok (.iastore, 1) := by decide +kernel
theorem dX8_more_17 : decode cX8_more 17 = .ok (.aload_n 0, 1) := by decide +kernel
theorem dX8_more_18 : decode cX8_more 18 = .ok (.getfield 27, 3) := by decide +kernel
theorem dX8_more_21 : decode cX8_more 21 = .ok (.bipush 24, 2) := by decide +kernel
theorem dX8_more_23 : decode cX8_more 23 = .ok (.iload_n 1, 1) := by decide +kernel
theorem dX8_more_24 : decode cX8_more 24 = .ok (.imul, 1) := by decide +kernel
theorem dX8_more_25 : decode cX8_more 25 = .ok (.aload_n 0, 1) := by decide +kernel
theorem dX8_more_26 : decode cX8_more 26 = .ok (.getfield 21, 3) := by decide +kernel
theorem dX8_more_29 : decode cX8_more 29 = .ok (.iload_n 1, 1) := by decide +kernel
theorem dX8_more_30 : decode cX8_more 30 = .ok (.iaload, 1) := by decide +kernel
theorem dX8_more_31 : decode cX8_more 31 = .ok (.iadd, 1) := by decide +kernel
theorem dX8_more_32 : decode cX8_more 32 = .ok (.iload_n 3, 1) := by decide +kernel
theorem dX8_more_33 : decode cX8_more 33 = .ok (.iastore, 1) := by decide +kernel
theorem dX8_more_34 : decode cX8_more 34 = .ok (.aload_n 0, 1) := by decide +kernel
theorem dX8_more_35 : decode cX8_more 35 = .ok (.getfield 30, 3) := by decide +kernel
theorem dX8_more_38 : decode cX8_more 38 = .ok (.bipush 24, 2) := by decide +kernel
theorem dX8_more_40 : decode cX8_more 40 = .ok (.iload_n 1, 1) := by decide +kernel
theorem dX8_more_41 : decode cX8_more 41 = .ok (.imul, 1) := by decide +kernel
theorem dX8_more_42 : decode cX8_more 42 = .ok (.aload_n 0, 1) := by decide +kernel
theorem dX8_more_43 : decode cX8_more 43 = .ok (.getfield 21, 3) := by decide +kernel
theorem dX8_more_46 : decode cX8_more 46 = .ok (.iload_n 1, 1) := by decide +kernel
theorem dX8_more_47 : decode cX8_more 47 = .ok (.iaload, 1) := by decide +kernel
theorem dX8_more_48 : decode cX8_more 48 = .ok (.iadd, 1) := by decide +kernel
theorem dX8_more_49 : decode cX8_more 49 = .ok (.iload 4, 2) := by decide +kernel
theorem dX8_more_51 : decode cX8_more 51 = .ok (.iastore, 1) := by decide +kernel
theorem dX8_more_52 : decode cX8_more 52 = .ok (.aload_n 0, 1) := by decide +kernel
theorem dX8_more_53 : decode cX8_more 53 = .ok (.getfield 21, 3) := by decide +kernel
theorem dX8_more_56 : decode cX8_more 56 = .ok (.iload_n 1, 1) := by decide +kernel
theorem dX8_more_57 : decode cX8_more 57 = .ok (.dup2, 1) := by decide +kernel
theorem dX8_more_58 : decode cX8_more 58 = .ok (.iaload, 1) := by decide +kernel
theorem dX8_more_59 : decode cX8_more 59 = .ok (.iconst 1, 1) := by decide +kernel
theorem dX8_more_60 : decode cX8_more 60 = .ok (.iadd, 1) := by decide +kernel
theorem dX8_more_61 : decode cX8_more 61 = .ok (.iastore, 1) := by decide +kernel
theorem dX8_more_62 : decode cX8_more 62 = .ok (.aload_n 0, 1) := by decide +kernel
theorem dX8_more_63 : decode cX8_more 63 = .ok (.iload_n 1, 1) := by decide +kernel
theorem dX8_more_64 : decode cX8_more 64 = .ok (.invokevirtual 163, 3) := by decide +kernel
theorem dX8_more_67 : decode cX8_more 67 = .ok (.istore 5, 2) := by decide +kernel
theorem dX8_more_69 : decode cX8_more 69 = .ok (.aload_n 0, 1) := by decide +kernel
theorem dX8_more_70 : decode cX8_more 70 = .ok (.getfield 21, 3) := by decide +kernel
theorem dX8_more_73 : decode cX8_more 73 = .ok (.iload_n 1, 1) := by decide +kernel
theorem dX8_more_74 : decode cX8_more 74 = .ok (.iaload, 1) := by decide +kernel
theorem dX8_more_75 : decode cX8_more 75 = .ok (.ireturn, 1) := by decide +kernel
theorem dX8_refuse_0 : decode cX8_refuse 0 = .ok (.aload_n 0, 1) := by decide +kernel
theorem dX8_refuse_1 : decode cX8_refuse 1 = .ok (.iload_n 2, 1) := by decide +kernel
theorem dX8_refuse_2 : decode cX8_refuse 2 = .ok (.putfield 105, 3) := by decide +kernel
theorem dX8_refuse_5 : decode cX8_refuse 5 = .ok (.iload_n 1, 1) := by decide +kernel
theorem dX8_refuse_6 : decode cX8_refuse 6 = .ok (.ireturn, 1) := by decide +kernel
theorem dX8_line_0 : decode cX8_line 0 = .ok (.aload_n 0, 1) := by decide +kernel
theorem dX8_line_1 : decode cX8_line 1 = .ok (.iload_n 1, 1) := by decide +kernel
theorem dX8_line_2 : decode cX8_line 2 = .ok (.invokevirtual 157, 3) := by decide +kernel
theorem dX8_line_5 : decode cX8_line 5 = .ok (.ifCond .eq 19, 3) := by decide +kernel
theorem dX8_line_8 : decode cX8_line 8 = .ok (.aload_n 0, 1) := by decide +kernel
theorem dX8_line_9 : decode cX8_line 9 = .ok (.iload_n 2, 1) := by decide +kernel
theorem dX8_line_10 : decode cX8_line 10 = .ok (.invokevirtual 180, 3) := by decide +kernel
theorem dX8_line_13 : decode cX8_line 13 = .ok (.ifCond .eq 11, 3) := by decide +kernel
theorem dX8_line_16 : decode cX8_line 16 = .ok (.aload_n 0, 1) := by decide +kernel
theorem dX8_line_17 : decode cX8_line 17 = .ok (.iload_n 3, 1) := by decide +kernel
theorem dX8_line_18 : decode cX8_line 18 = .ok (.invokevirtual 180, 3) := by decide +kernel
theorem dX8_line_21 : decode cX8_line 21 = .ok (.ifCond .ne 7, 3) := by decide +kernel
theorem dX8_line_24 : decode cX8_line 24 = .ok (.sipush (-1001), 3) := by decide +kernel
theorem dX8_line_27 : decode cX8_line 27 = .ok (.ireturn, 1) := by decide +kernel
theorem dX8_line_28 : decode cX8_line 28 = .ok (.iload 4, 2) := by decide +kernel
theorem dX8_line_30 : decode cX8_line 30 = .ok (.i2l, 1) := by decide +kernel
theorem dX8_line_31 : decode cX8_line 31 = .ok (.lconst 0, 1) := by decide +kernel
theorem dX8_line_32 : decode cX8_line 32 = .ok (.ldc2_w 183, 3) := by decide +kernel
theorem dX8_line_35 : decode cX8_line 35 = .ok (.invokestatic 89, 3) := by decide +kernel
theorem dX8_line_38 : decode cX8_line 38 = .ok (.ifCond .ne 7, 3) := by decide +kernel
theorem dX8_line_41 : decode cX8_line 41 = .ok (.sipush (-1002), 3) := by decide +kernel
theorem dX8_line_44 : decode cX8_line 44 = .ok (.ireturn, 1) := by decide +kernel
theorem dX8_line_45 : decode cX8_line 45 = .ok (.aload_n 0, 1) := by decide +kernel
theorem dX8_line_46 : decode cX8_line 46 = .ok (.getfield 13, 3) := by decide +kernel
theorem dX8_line_49 : decode cX8_line 49 = .ok (.iload_n 1, 1) := by decide +kernel
theorem dX8_line_50 : decode cX8_line 50 = .ok (.baload, 1) := by decide +kernel
theorem dX8_line_51 : decode cX8_line 51 = .ok (.ifCond .ne 8, 3) := by decide +kernel
theorem dX8_line_54 : decode cX8_line 54 = .ok (.iload_n 2, 1) := by decide +kernel
theorem dX8_line_55 : decode cX8_line 55 = .ok (.iload_n 3, 1) := by decide +kernel
theorem dX8_line_56 : decode cX8_line 56 = .ok (.if_icmp .ne 7, 3) := by decide +kernel
theorem dX8_line_59 : decode cX8_line 59 = .ok (.sipush (-1003), 3) := by decide +kernel
theorem dX8_line_62 : decode cX8_line 62 = .ok (.ireturn, 1) := by decide +kernel
theorem dX8_line_63 : decode cX8_line 63 = .ok (.aload_n 0, 1) := by decide +kernel
theorem dX8_line_64 : decode cX8_line 64 = .ok (.getfield 105, 3) := by decide +kernel
theorem dX8_line_67 : decode cX8_line 67 = .ok (.istore 5, 2) := by decide +kernel
theorem dX8_line_69 : decode cX8_line 69 = .ok (.aload_n 0, 1) := by decide +kernel
theorem dX8_line_70 : decode cX8_line 70 = .ok (.iload_n 1, 1) := by decide +kernel
theorem dX8_line_71 : decode cX8_line 71 = .ok (.iconst 1, 1) := by decide +kernel
theorem dX8_line_72 : decode cX8_line 72 = .ok (.invokevirtual 176, 3) := by decide +kernel
theorem dX8_line_75 : decode cX8_line 75 = .ok (.ifCond .ne 5, 3) := by decide +kernel
theorem dX8_line_78 : decode cX8_line 78 = .ok (.iconst 0, 1) := by decide +kernel
theorem dX8_line_79 : decode cX8_line 79 = .ok (.ireturn, 1) := by decide +kernel
theorem dX8_line_80 : decode cX8_line 80 = .ok (.aload_n 0, 1) := by decide +kernel
theorem dX8_line_81 : decode cX8_line 81 = .ok (.getfield 21, 3) := by decide +kernel
theorem dX8_line_84 : decode cX8_line 84 = .ok (.iload_n 1, 1) := by decide +kernel
theorem dX8_line_85 : decode cX8_line 85 = .ok (.iaload, 1) := by decide +kernel
theorem dX8_line_86 : decode cX8_line 86 = .ok (.bipush 24, 2) := by decide +kernel
theorem dX8_line_88 : decode cX8_line 88 = .ok (.if_icmp .ne 15, 3) := by decide +kernel
theorem dX8_line_91 : decode cX8_line 91 = .ok (.aload_n 0, 1) := by decide +kernel
theorem dX8_line_92 : decode cX8_line 92 = .ok (.sipush (-1004), 3) := by decide +kernel
theorem dX8_line_95 : decode cX8_line 95 = .ok (.iload 5, 2) := by decide +kernel
theorem dX8_line_97 : decode cX8_line 97 = .ok (.invokevirtual 185, 3) := by decide +kernel
theorem dX8_line_100 : decode cX8_line 100 = .ok (.goto 12, 3) := by decide +kernel
theorem dX8_line_103 : decode cX8_line 103 = .ok (.aload_n 0, 1) := by decide +kernel
theorem dX8_line_104 : decode cX8_line 104 = .ok (.iload_n 1, 1) := by decide +kernel
theorem dX8_line_105 : decode cX8_line 105 = .ok (.iload_n 2, 1) := by decide +kernel
theorem dX8_line_106 : decode cX8_line 106 = .ok (.iload_n 3, 1) := by decide +kernel
theorem dX8_line_107 : decode cX8_line 107 = .ok (.iload 4, 2) := by decide +kernel
theorem dX8_line_109 : decode cX8_line 109 = .ok (.invokevirtual 189, 3) := by decide +kernel
theorem dX8_line_112 : decode cX8_line 112 = .ok (.ireturn, 1) := by decide +kernel
theorem dX8_spot_0 : decode cX8_spot 0 = .ok (.aload_n 0, 1) := by decide +kernel
theorem dX8_spot_1 : decode cX8_spot 1 = .ok (.iload_n 1, 1) := by decide +kernel
theorem dX8_spot_2 : decode cX8_spot 2 = .ok (.invokevirtual 157, 3) := by decide +kernel
theorem dX8_spot_5 : decode cX8_spot 5 = .ok (.ifCond .eq 11, 3) := by decide +kernel
theorem dX8_spot_8 : decode cX8_spot 8 = .ok (.aload_n 0, 1) := by decide +kernel
theorem dX8_spot_9 : decode cX8_spot 9 = .ok (.iload_n 3, 1) := by decide +kernel
theorem dX8_spot_10 : decode cX8_spot 10 = .ok (.invokevirtual 160, 3) := by decide +kernel
theorem dX8_spot_13 : decode cX8_spot 13 = .ok (.ifCond .ne 7, 3) := by decide +kernel
theorem dX8_spot_16 : decode cX8_spot 16 = .ok (.sipush (-1001), 3) := by decide +kernel
theorem dX8_spot_19 : decode cX8_spot 19 = .ok (.ireturn, 1) := by decide +kernel
theorem dX8_spot_20 : decode cX8_spot 20 = .ok (.iload_n 2, 1) := by decide +kernel
theorem dX8_spot_21 : decode cX8_spot 21 = .ok (.i2l, 1) := by decide +kernel
theorem dX8_spot_22 : decode cX8_spot 22 = .ok (.lconst 0, 1) := by decide +kernel
theorem dX8_spot_23 : decode cX8_spot 23 = .ok (.ldc2_w 183, 3) := by decide +kernel
theorem dX8_spot_26 : decode cX8_spot 26 = .ok (.invokestatic 89, 3) := by decide +kernel
theorem dX8_spot_29 : decode cX8_spot 29 = .ok (.ifCond .ne 7, 3) := by decide +kernel
theorem dX8_spot_32 : decode cX8_spot 32 = .ok (.sipush (-1002), 3) := by decide +kernel
theorem dX8_spot_35 : decode cX8_spot 35 = .ok (.ireturn, 1) := by decide +kernel
theorem dX8_spot_36 : decode cX8_spot 36 = .ok (.aload_n 0, 1) := by decide +kernel
theorem dX8_spot_37 : decode cX8_spot 37 = .ok (.getfield 13, 3) := by decide +kernel
theorem dX8_spot_40 : decode cX8_spot 40 = .ok (.iload_n 1, 1) := by decide +kernel
theorem dX8_spot_41 : decode cX8_spot 41 = .ok (.baload, 1) := by decide +kernel
theorem dX8_spot_42 : decode cX8_spot 42 = .ok (.ifCond .eq 7, 3) := by decide +kernel
theorem dX8_spot_45 : decode cX8_spot 45 = .ok (.sipush (-1003), 3) := by decide +kernel
theorem dX8_spot_48 : decode cX8_spot 48 = .ok (.ireturn, 1) := by decide +kernel
theorem dX8_spot_49 : decode cX8_spot 49 = .ok (.aload_n 0, 1) := by decide +kernel
theorem dX8_spot_50 : decode cX8_spot 50 = .ok (.getfield 105, 3) := by decide +kernel
theorem dX8_spot_53 : decode cX8_spot 53 = .ok (.istore 4, 2) := by decide +kernel
theorem dX8_spot_55 : decode cX8_spot 55 = .ok (.aload_n 0, 1) := by decide +kernel
theorem dX8_spot_56 : decode cX8_spot 56 = .ok (.iload_n 1, 1) := by decide +kernel
theorem dX8_spot_57 : decode cX8_spot 57 = .ok (.iconst 2, 1) := by decide +kernel
theorem dX8_spot_58 : decode cX8_spot 58 = .ok (.invokevirtual 176, 3) := by decide +kernel
theorem dX8_spot_61 : decode cX8_spot 61 = .ok (.ifCond .ne 5, 3) := by decide +kernel
theorem dX8_spot_64 : decode cX8_spot 64 = .ok (.iconst 0, 1) := by decide +kernel
theorem dX8_spot_65 : decode cX8_spot 65 = .ok (.ireturn, 1) := by decide +kernel
theorem dX8_spot_66 : decode cX8_spot 66 = .ok (.aload_n 0, 1) := by decide +kernel
theorem dX8_spot_67 : decode cX8_spot 67 = .ok (.getfield 21, 3) := by decide +kernel
theorem dX8_spot_70 : decode cX8_spot 70 = .ok (.iload_n 1, 1) := by decide +kernel
theorem dX8_spot_71 : decode cX8_spot 71 = .ok (.iaload, 1) := by decide +kernel
theorem dX8_spot_72 : decode cX8_spot 72 = .ok (.bipush 24, 2) := by decide +kernel
theorem dX8_spot_74 : decode cX8_spot 74 = .ok (.if_icmp .ne 15, 3) := by decide +kernel
theorem dX8_spot_77 : decode cX8_spot 77 = .ok (.aload_n 0, 1) := by decide +kernel
theorem dX8_spot_78 : decode cX8_spot 78 = .ok (.sipush (-1004), 3) := by decide +kernel
theorem dX8_spot_81 : decode cX8_spot 81 = .ok (.iload 4, 2) := by decide +kernel
theorem dX8_spot_83 : decode cX8_spot 83 = .ok (.invokevirtual 185, 3) := by decide +kernel
theorem dX8_spot_86 : decode cX8_spot 86 = .ok (.goto 11, 3) := by decide +kernel
theorem dX8_spot_89 : decode cX8_spot 89 = .ok (.aload_n 0, 1) := by decide +kernel
theorem dX8_spot_90 : decode cX8_spot 90 = .ok (.iload_n 1, 1) := by decide +kernel
theorem dX8_spot_91 : decode cX8_spot 91 = .ok (.iload_n 2, 1) := by decide +kernel
theorem dX8_spot_92 : decode cX8_spot 92 = .ok (.iload_n 3, 1) := by decide +kernel
theorem dX8_spot_93 : decode cX8_spot 93 = .ok (.iconst 0, 1) := by decide +kernel
theorem dX8_spot_94 : decode cX8_spot 94 = .ok (.invokevirtual 189, 3) := by decide +kernel
theorem dX8_spot_97 : decode cX8_spot 97 = .ok (.ireturn, 1) := by decide +kernel
theorem dX8_row_0 : decode cX8_row 0 = .ok (.aload_n 0, 1) := by decide +kernel
theorem dX8_row_1 : decode cX8_row 1 = .ok (.iload_n 1, 1) := by decide +kernel
theorem dX8_row_2 : decode cX8_row 2 = .ok (.invokevirtual 157, 3) := by decide +kernel
theorem dX8_row_5 : decode cX8_row 5 = .ok (.ifCond .eq 11, 3) := by decide +kernel
theorem dX8_row_8 : decode cX8_row 8 = .ok (.aload_n 0, 1) := by decide +kernel
theorem dX8_row_9 : decode cX8_row 9 = .ok (.iload_n 2, 1) := by decide +kernel
theorem dX8_row_10 : decode cX8_row 10 = .ok (.invokevirtual 180, 3) := by decide +kernel
theorem dX8_row_13 : decode cX8_row 13 = .ok (.ifCond .ne 7, 3) := by decide +kernel
theorem dX8_row_16 : decode cX8_row 16 = .ok (.sipush (-1001), 3) := by decide +kernel
theorem dX8_row_19 : decode cX8_row 19 = .ok (.ireturn, 1) := by decide +kernel
theorem dX8_row_20 : decode cX8_row 20 = .ok (.iload_n 3, 1) := by decide +kernel
theorem dX8_row_21 : decode cX8_row 21 = .ok (.i2l, 1) := by decide +kernel
theorem dX8_row_22 : decode cX8_row 22 = .ok (.ldc2_w 193, 3) := by decide +kernel
theorem dX8_row_25 : decode cX8_row 25 = .ok (.ldc2_w 195, 3) := by decide +kernel
theorem dX8_row_28 : decode cX8_row 28 = .ok (.invokestatic 89, 3) := by decide +kernel
theorem dX8_row_31 : decode cX8_row 31 = .ok (.ifCond .eq 48, 3) := by decide +kernel
theorem dX8_row_34 : decode cX8_row 34 = .ok (.iload 4, 2) := by decide +kernel
theorem dX8_row_36 : decode cX8_row 36 = .ok (.i2l, 1) := by decide +kernel
theorem dX8_row_37 : decode cX8_row 37 = .ok (.ldc2_w 193, 3) := by decide +kernel
theorem dX8_row_40 : decode cX8_row 40 = .ok (.ldc2_w 195, 3) := by decide +kernel
theorem dX8_row_43 : decode cX8_row 43 = .ok (.invokestatic 89, 3) := by decide +kernel
theorem dX8_row_46 : decode cX8_row 46 = .ok (.ifCond .eq 33, 3) := by decide +kernel
theorem dX8_row_49 : decode cX8_row 49 = .ok (.iload 5, 2) := by decide +kernel
theorem dX8_row_51 : decode cX8_row 51 = .ok (.i2l, 1) := by decide +kernel
theorem dX8_row_52 : decode cX8_row 52 = .ok (.ldc2_w 193, 3) := by decide +kernel
theorem dX8_row_55 : decode cX8_row 55 = .ok (.ldc2_w 195, 3) := by decide +kernel
theorem dX8_row_58 : decode cX8_row 58 = .ok (.invokestatic 89, 3) := by decide +kernel
theorem dX8_row_61 : decode cX8_row 61 = .ok (.ifCond .eq 18, 3) := by decide +kernel
theorem dX8_row_64 : decode cX8_row 64 = .ok (.iload 6, 2) := by decide +kernel
theorem dX8_row_66 : decode cX8_row 66 = .ok (.i2l, 1) := by decide +kernel
theorem dX8_row_67 : decode cX8_row 67 = .ok (.ldc2_w 193, 3) := by decide +kernel
theorem dX8_row_70 : decode cX8_row 70 = .ok (.ldc2_w 195, 3) := by decide +kernel
theorem dX8_row_73 : decode cX8_row 73 = .ok (.invokestatic 89, 3) := by decide +kernel
theorem dX8_row_76 : decode cX8_row 76 = .ok (.ifCond .ne 7, 3) := by decide +kernel
theorem dX8_row_79 : decode cX8_row 79 = .ok (.sipush (-1002), 3) := by decide +kernel
theorem dX8_row_82 : decode cX8_row 82 = .ok (.ireturn, 1) := by decide +kernel
theorem dX8_row_83 : decode cX8_row 83 = .ok (.aload_n 0, 1) := by decide +kernel
theorem dX8_row_84 : decode cX8_row 84 = .ok (.getfield 13, 3) := by decide +kernel
theorem dX8_row_87 : decode cX8_row 87 = .ok (.iload_n 1, 1) := by decide +kernel
theorem dX8_row_88 : decode cX8_row 88 = .ok (.baload, 1) := by decide +kernel
theorem dX8_row_89 : decode cX8_row 89 = .ok (.ifCond .eq 7, 3) := by decide +kernel
theorem dX8_row_92 : decode cX8_row 92 = .ok (.sipush (-1003), 3) := by decide +kernel
theorem dX8_row_95 : decode cX8_row 95 = .ok (.ireturn, 1) := by decide +kernel
theorem dX8_row_96 : decode cX8_row 96 = .ok (.aload_n 0, 1) := by decide +kernel
theorem dX8_row_97 : decode cX8_row 97 = .ok (.iload_n 1, 1) := by decide +kernel
theorem dX8_row_98 : decode cX8_row 98 = .ok (.iconst 3, 1) := by decide +kernel
theorem dX8_row_99 : decode cX8_row 99 = .ok (.invokevirtual 176, 3) := by decide +kernel
theorem dX8_row_102 : decode cX8_row 102 = .ok (.ifCond .ne 5, 3) := by decide +kernel
theorem dX8_row_105 : decode cX8_row 105 = .ok (.iconst 0, 1) := by decide +kernel
theorem dX8_row_106 : decode cX8_row 106 = .ok (.ireturn, 1) := by decide +kernel
theorem dX8_row_107 : decode cX8_row 107 = .ok (.bipush 40, 2) := by decide +kernel
theorem dX8_row_109 : decode cX8_row 109 = .ok (.iload_n 1, 1) := by decide +kernel
theorem dX8_row_110 : decode cX8_row 110 = .ok (.imul, 1) := by decide +kernel
theorem dX8_row_111 : decode cX8_row 111 = .ok (.iconst 4, 1) := by decide +kernel
theorem dX8_row_112 : decode cX8_row 112 = .ok (.iload_n 2, 1) := by decide +kernel
theorem dX8_row_113 : decode cX8_row 113 = .ok (.imul, 1) := by decide +kernel
theorem dX8_row_114 : decode cX8_row 114 = .ok (.iadd, 1) := by decide +kernel
theorem dX8_row_115 : decode cX8_row 115 = .ok (.istore 7, 2) := by decide +kernel
theorem dX8_row_117 : decode cX8_row 117 = .ok (.aload_n 0, 1) := by decide +kernel
theorem dX8_row_118 : decode cX8_row 118 = .ok (.getfield 33, 3) := by decide +kernel
theorem dX8_row_121 : decode cX8_row 121 = .ok (.iload 7, 2) := by decide +kernel
theorem dX8_row_123 : decode cX8_row 123 = .ok (.iload_n 3, 1) := by decide +kernel
theorem dX8_row_124 : decode cX8_row 124 = .ok (.iastore, 1) := by decide +kernel
theorem dX8_row_125 : decode cX8_row 125 = .ok (.aload_n 0, 1) := by decide +kernel
theorem dX8_row_126 : decode cX8_row 126 = .ok (.getfield 33, 3) := by decide +kernel
theorem dX8_row_129 : decode cX8_row 129 = .ok (.iload 7, 2) := by decide +kernel
theorem dX8_row_131 : decode cX8_row 131 = .ok (.iconst 1, 1) := by decide +kernel
theorem dX8_row_132 : decode cX8_row 132 = .ok (.iadd, 1) := by decide +kernel
theorem dX8_row_133 : decode cX8_row 133 = .ok (.iload 4, 2) := by decide +kernel
theorem dX8_row_135 : decode cX8_row 135 = .ok (.iastore, 1) := by decide +kernel
theorem dX8_row_136 : decode cX8_row 136 = .ok (.aload_n 0, 1) := by decide +kernel
theorem dX8_row_137 : decode cX8_row 137 = .ok (.getfield 33, 3) := by decide +kernel
theorem dX8_row_140 : decode cX8_row 140 = .ok (.iload 7, 2) := by decide +kernel
theorem dX8_row_142 : decode cX8_row 142 = .ok (.iconst 2, 1) := by decide +kernel
theorem dX8_row_143 : decode cX8_row 143 = .ok (.iadd, 1) := by decide +kernel
theorem dX8_row_144 : decode cX8_row 144 = .ok (.iload 5, 2) := by decide +kernel
theorem dX8_row_146 : decode cX8_row 146 = .ok (.iastore, 1) := by decide +kernel
theorem dX8_row_147 : decode cX8_row 147 = .ok (.aload_n 0, 1) := by decide +kernel
theorem dX8_row_148 : decode cX8_row 148 = .ok (.getfield 33, 3) := by decide +kernel
theorem dX8_row_151 : decode cX8_row 151 = .ok (.iload 7, 2) := by decide +kernel
theorem dX8_row_153 : decode cX8_row 153 = .ok (.iconst 3, 1) := by decide +kernel
theorem dX8_row_154 : decode cX8_row 154 = .ok (.iadd, 1) := by decide +kernel
theorem dX8_row_155 : decode cX8_row 155 = .ok (.iload 6, 2) := by decide +kernel
theorem dX8_row_157 : decode cX8_row 157 = .ok (.iastore, 1) := by decide +kernel
theorem dX8_row_158 : decode cX8_row 158 = .ok (.aload_n 0, 1) := by decide +kernel
theorem dX8_row_159 : decode cX8_row 159 = .ok (.iload_n 1, 1) := by decide +kernel
theorem dX8_row_160 : decode cX8_row 160 = .ok (.invokevirtual 163, 3) := by decide +kernel
theorem dX8_row_163 : decode cX8_row 163 = .ok (.ifCond .eq 7, 3) := by decide +kernel
theorem dX8_row_166 : decode cX8_row 166 = .ok (.iconst 1, 1) := by decide +kernel
theorem dX8_row_167 : decode cX8_row 167 = .ok (.goto 4, 3) := by decide +kernel
theorem dX8_row_170 : decode cX8_row 170 = .ok (.iconst 0, 1) := by decide +kernel
theorem dX8_row_171 : decode cX8_row 171 = .ok (.ireturn, 1) := by decide +kernel
theorem dX8_rise_0 : decode cX8_rise 0 = .ok (.aload_n 0, 1) := by decide +kernel
theorem dX8_rise_1 : decode cX8_rise 1 = .ok (.iload_n 1, 1) := by decide +kernel
theorem dX8_rise_2 : decode cX8_rise 2 = .ok (.invokevirtual 157, 3) := by decide +kernel
theorem dX8_rise_5 : decode cX8_rise 5 = .ok (.ifCond .ne 7, 3) := by decide +kernel
theorem dX8_rise_8 : decode cX8_rise 8 = .ok (.sipush (-1001), 3) := by decide +kernel
theorem dX8_rise_11 : decode cX8_rise 11 = .ok (.ireturn, 1) := by decide +kernel
theorem dX8_rise_12 : decode cX8_rise 12 = .ok (.iload_n 2, 1) := by decide +kernel
theorem dX8_rise_13 : decode cX8_rise 13 = .ok (.i2l, 1) := by decide +kernel
theorem dX8_rise_14 : decode cX8_rise 14 = .ok (.ldc2_w 197, 3) := by decide +kernel
theorem dX8_rise_17 : decode cX8_rise 17 = .ok (.ldc2_w 183, 3) := by decide +kernel
theorem dX8_rise_20 : decode cX8_rise 20 = .ok (.invokestatic 89, 3) := by decide +kernel
theorem dX8_rise_23 : decode cX8_rise 23 = .ok (.ifCond .ne 7, 3) := by decide +kernel
theorem dX8_rise_26 : decode cX8_rise 26 = .ok (.sipush (-1002), 3) := by decide +kernel
theorem dX8_rise_29 : decode cX8_rise 29 = .ok (.ireturn, 1) := by decide +kernel
theorem dX8_rise_30 : decode cX8_rise 30 = .ok (.aload_n 0, 1) := by decide +kernel
theorem dX8_rise_31 : decode cX8_rise 31 = .ok (.getfield 13, 3) := by decide +kernel
theorem dX8_rise_34 : decode cX8_rise 34 = .ok (.iload_n 1, 1) := by decide +kernel
theorem dX8_rise_35 : decode cX8_rise 35 = .ok (.baload, 1) := by decide +kernel
theorem dX8_rise_36 : decode cX8_rise 36 = .ok (.ifCond .eq 7, 3) := by decide +kernel
theorem dX8_rise_39 : decode cX8_rise 39 = .ok (.sipush (-1003), 3) := by decide +kernel
theorem dX8_rise_42 : decode cX8_rise 42 = .ok (.ireturn, 1) := by decide +kernel
theorem dX8_rise_43 : decode cX8_rise 43 = .ok (.aload_n 0, 1) := by decide +kernel
theorem dX8_rise_44 : decode cX8_rise 44 = .ok (.getfield 105, 3) := by decide +kernel
theorem dX8_rise_47 : decode cX8_rise 47 = .ok (.istore_n 3, 1) := by decide +kernel
theorem dX8_rise_48 : decode cX8_rise 48 = .ok (.aload_n 0, 1) := by decide +kernel
theorem dX8_rise_49 : decode cX8_rise 49 = .ok (.iload_n 1, 1) := by decide +kernel
theorem dX8_rise_50 : decode cX8_rise 50 = .ok (.iconst 4, 1) := by decide +kernel
theorem dX8_rise_51 : decode cX8_rise 51 = .ok (.invokevirtual 176, 3) := by decide +kernel
theorem dX8_rise_54 : decode cX8_rise 54 = .ok (.ifCond .ne 5, 3) := by decide +kernel
theorem dX8_rise_57 : decode cX8_rise 57 = .ok (.iconst 0, 1) := by decide +kernel
theorem dX8_rise_58 : decode cX8_rise 58 = .ok (.ireturn, 1) := by decide +kernel
theorem dX8_rise_59 : decode cX8_rise 59 = .ok (.aload_n 0, 1) := by decide +kernel
theorem dX8_rise_60 : decode cX8_rise 60 = .ok (.getfield 21, 3) := by decide +kernel
theorem dX8_rise_63 : decode cX8_rise 63 = .ok (.iload_n 1, 1) := by decide +kernel
theorem dX8_rise_64 : decode cX8_rise 64 = .ok (.iaload, 1) := by decide +kernel
theorem dX8_rise_65 : decode cX8_rise 65 = .ok (.bipush 10, 2) := by decide +kernel
theorem dX8_rise_67 : decode cX8_rise 67 = .ok (.if_icmp .ne 12, 3) := by decide +kernel
theorem dX8_rise_70 : decode cX8_rise 70 = .ok (.aload_n 0, 1) := by decide +kernel
theorem dX8_rise_71 : decode cX8_rise 71 = .ok (.sipush (-1004), 3) := by decide +kernel
theorem dX8_rise_74 : decode cX8_rise 74 = .ok (.iload_n 3, 1) := by decide +kernel
theorem dX8_rise_75 : decode cX8_rise 75 = .ok (.invokevirtual 185, 3) := by decide +kernel
theorem dX8_rise_78 : decode cX8_rise 78 = .ok (.ireturn, 1) := by decide +kernel
theorem dX8_rise_79 : decode cX8_rise 79 = .ok (.aload_n 0, 1) := by decide +kernel
theorem dX8_rise_80 : decode cX8_rise 80 = .ok (.getfield 21, 3) := by decide +kernel
theorem dX8_rise_83 : decode cX8_rise 83 = .ok (.iload_n 1, 1) := by decide +kernel
theorem dX8_rise_84 : decode cX8_rise 84 = .ok (.iaload, 1) := by decide +kernel
theorem dX8_rise_85 : decode cX8_rise 85 = .ok (.ifCond .le 34, 3) := by decide +kernel
theorem dX8_rise_88 : decode cX8_rise 88 = .ok (.iload_n 2, 1) := by decide +kernel
theorem dX8_rise_89 : decode cX8_rise 89 = .ok (.aload_n 0, 1) := by decide +kernel
theorem dX8_rise_90 : decode cX8_rise 90 = .ok (.getfield 24, 3) := by decide +kernel
theorem dX8_rise_93 : decode cX8_rise 93 = .ok (.bipush 24, 2) := by decide +kernel
theorem dX8_rise_95 : decode cX8_rise 95 = .ok (.iload_n 1, 1) := by decide +kernel
theorem dX8_rise_96 : decode cX8_rise 96 = .ok (.imul, 1) := by decide +kernel
theorem dX8_rise_97 : decode cX8_rise 97 = .ok (.aload_n 0, 1) := by decide +kernel
theorem dX8_rise_98 : decode cX8_rise 98 = .ok (.getfield 21, 3) := by decide +kernel
theorem dX8_rise_101 : decode cX8_rise 101 = .ok (.iload_n 1, 1) := by decide +kernel
theorem dX8_rise_102 : decode cX8_rise 102 = .ok (.iaload, 1) := by decide +kernel
theorem dX8_rise_103 : decode cX8_rise 103 = .ok (.iadd, 1) := by decide +kernel
theorem dX8_rise_104 : decode cX8_rise 104 = .ok (.iconst 1, 1) := by decide +kernel
theorem dX8_rise_105 : decode cX8_rise 105 = .ok (.isub, 1) := by decide +kernel
theorem dX8_rise_106 : decode cX8_rise 106 = .ok (.iaload, 1) := by decide +kernel
theorem dX8_rise_107 : decode cX8_rise 107 = .ok (.if_icmp .le 12, 3) := by decide +kernel
theorem dX8_rise_110 : decode cX8_rise 110 = .ok (.aload_n 0, 1) := by decide +kernel
theorem dX8_rise_111 : decode cX8_rise 111 = .ok (.sipush (-1003), 3) := by decide +kernel
theorem dX8_rise_114 : decode cX8_rise 114 = .ok (.iload_n 3, 1) := by decide +kernel
theorem dX8_rise_115 : decode cX8_rise 115 = .ok (.invokevirtual 185, 3) := by decide +kernel
theorem dX8_rise_118 : decode cX8_rise 118 = .ok (.ireturn, 1) := by decide +kernel
theorem dX8_rise_119 : decode cX8_rise 119 = .ok (.aload_n 0, 1) := by decide +kernel
theorem dX8_rise_120 : decode cX8_rise 120 = .ok (.iload_n 1, 1) := by decide +kernel
theorem dX8_rise_121 : decode cX8_rise 121 = .ok (.iload_n 2, 1) := by decide +kernel
theorem dX8_rise_122 : decode cX8_rise 122 = .ok (.iconst 0, 1) := by decide +kernel
theorem dX8_rise_123 : decode cX8_rise 123 = .ok (.iconst 0, 1) := by decide +kernel
theorem dX8_rise_124 : decode cX8_rise 124 = .ok (.invokevirtual 189, 3) := by decide +kernel
theorem dX8_rise_127 : decode cX8_rise 127 = .ok (.ireturn, 1) := by decide +kernel
theorem dX8_add_0 : decode cX8_add 0 = .ok (.aload_n 0, 1) := by decide +kernel
theorem dX8_add_1 : decode cX8_add 1 = .ok (.iload_n 1, 1) := by decide +kernel
theorem dX8_add_2 : decode cX8_add 2 = .ok (.invokevirtual 157, 3) := by decide +kernel
theorem dX8_add_5 : decode cX8_add 5 = .ok (.ifCond .eq 11, 3) := by decide +kernel
theorem dX8_add_8 : decode cX8_add 8 = .ok (.aload_n 0, 1) := by decide +kernel
theorem dX8_add_9 : decode cX8_add 9 = .ok (.iload_n 2, 1) := by decide +kernel
theorem dX8_add_10 : decode cX8_add 10 = .ok (.invokevirtual 157, 3) := by decide +kernel
theorem dX8_add_13 : decode cX8_add 13 = .ok (.ifCond .ne 7, 3) := by decide +kernel
theorem dX8_add_16 : decode cX8_add 16 = .ok (.sipush (-1001), 3) := by decide +kernel
theorem dX8_add_19 : decode cX8_add 19 = .ok (.ireturn, 1) := by decide +kernel
theorem dX8_add_20 : decode cX8_add 20 = .ok (.iload_n 3, 1) := by decide +kernel
theorem dX8_add_21 : decode cX8_add 21 = .ok (.i2l, 1) := by decide +kernel
theorem dX8_add_22 : decode cX8_add 22 = .ok (.lconst 0, 1) := by decide +kernel
theorem dX8_add_23 : decode cX8_add 23 = .ok (.ldc2_w 199, 3) := by decide +kernel
theorem dX8_add_26 : decode cX8_add 26 = .ok (.invokestatic 89, 3) := by decide +kernel
theorem dX8_add_29 : decode cX8_add 29 = .ok (.ifCond .ne 7, 3) := by decide +kernel
theorem dX8_add_32 : decode cX8_add 32 = .ok (.sipush (-1002), 3) := by decide +kernel
theorem dX8_add_35 : decode cX8_add 35 = .ok (.ireturn, 1) := by decide +kernel
theorem dX8_add_36 : decode cX8_add 36 = .ok (.aload_n 0, 1) := by decide +kernel
theorem dX8_add_37 : decode cX8_add 37 = .ok (.getfield 13, 3) := by decide +kernel
theorem dX8_add_40 : decode cX8_add 40 = .ok (.iload_n 1, 1) := by decide +kernel
theorem dX8_add_41 : decode cX8_add 41 = .ok (.baload, 1) := by decide +kernel
theorem dX8_add_42 : decode cX8_add 42 = .ok (.ifCond .ne 8, 3) := by decide +kernel
theorem dX8_add_45 : decode cX8_add 45 = .ok (.iload_n 2, 1) := by decide +kernel
theorem dX8_add_46 : decode cX8_add 46 = .ok (.iload_n 1, 1) := by decide +kernel
theorem dX8_add_47 : decode cX8_add 47 = .ok (.if_icmp .lt 7, 3) := by decide +kernel
theorem dX8_add_50 : decode cX8_add 50 = .ok (.sipush (-1003), 3) := by decide +kernel
theorem dX8_add_53 : decode cX8_add 53 = .ok (.ireturn, 1) := by decide +kernel
theorem dX8_add_54 : decode cX8_add 54 = .ok (.aload_n 0, 1) := by decide +kernel
theorem dX8_add_55 : decode cX8_add 55 = .ok (.getfield 105, 3) := by decide +kernel
theorem dX8_add_58 : decode cX8_add 58 = .ok (.istore 4, 2) := by decide +kernel
theorem dX8_add_60 : decode cX8_add 60 = .ok (.aload_n 0, 1) := by decide +kernel
theorem dX8_add_61 : decode cX8_add 61 = .ok (.iload_n 1, 1) := by decide +kernel
theorem dX8_add_62 : decode cX8_add 62 = .ok (.iconst 5, 1) := by decide +kernel
theorem dX8_add_63 : decode cX8_add 63 = .ok (.invokevirtual 176, 3) := by decide +kernel
theorem dX8_add_66 : decode cX8_add 66 = .ok (.ifCond .ne 5, 3) := by decide +kernel
theorem dX8_add_69 : decode cX8_add 69 = .ok (.iconst 0, 1) := by decide +kernel
theorem dX8_add_70 : decode cX8_add 70 = .ok (.ireturn, 1) := by decide +kernel
theorem dX8_add_71 : decode cX8_add 71 = .ok (.aload_n 0, 1) := by decide +kernel
theorem dX8_add_72 : decode cX8_add 72 = .ok (.getfield 21, 3) := by decide +kernel
theorem dX8_add_75 : decode cX8_add 75 = .ok (.iload_n 1, 1) := by decide +kernel
theorem dX8_add_76 : decode cX8_add 76 = .ok (.iaload, 1) := by decide +kernel
theorem dX8_add_77 : decode cX8_add 77 = .ok (.iconst 4, 1) := by decide +kernel
theorem dX8_add_78 : decode cX8_add 78 = .ok (.if_icmp .ne 13, 3) := by decide +kernel
theorem dX8_add_81 : decode cX8_add 81 = .ok (.aload_n 0, 1) := by decide +kernel
theorem dX8_add_82 : decode cX8_add 82 = .ok (.sipush (-1004), 3) := by decide +kernel
theorem dX8_add_85 : decode cX8_add 85 = .ok (.iload 4, 2) := by decide +kernel
theorem dX8_add_87 : decode cX8_add 87 = .ok (.invokevirtual 185, 3) := by decide +kernel
theorem dX8_add_90 : decode cX8_add 90 = .ok (.ireturn, 1) := by decide +kernel
theorem dX8_add_91 : decode cX8_add 91 = .ok (.aload_n 0, 1) := by decide +kernel
theorem dX8_add_92 : decode cX8_add 92 = .ok (.iload_n 1, 1) := by decide +kernel
theorem dX8_add_93 : decode cX8_add 93 = .ok (.iload_n 2, 1) := by decide +kernel
theorem dX8_add_94 : decode cX8_add 94 = .ok (.iload_n 3, 1) := by decide +kernel
theorem dX8_add_95 : decode cX8_add 95 = .ok (.iconst 0, 1) := by decide +kernel
theorem dX8_add_96 : decode cX8_add 96 = .ok (.invokevirtual 189, 3) := by decide +kernel
theorem dX8_add_99 : decode cX8_add 99 = .ok (.istore 5, 2) := by decide +kernel
theorem dX8_add_101 : decode cX8_add 101 = .ok (.aload_n 0, 1) := by decide +kernel
theorem dX8_add_102 : decode cX8_add 102 = .ok (.iload_n 1, 1) := by decide +kernel
theorem dX8_add_103 : decode cX8_add 103 = .ok (.invokevirtual 163, 3) := by decide +kernel
theorem dX8_add_106 : decode cX8_add 106 = .ok (.ifCond .ne 30, 3) := by decide +kernel
theorem dX8_add_109 : decode cX8_add 109 = .ok (.aload_n 0, 1) := by decide +kernel
theorem dX8_add_110 : decode cX8_add 110 = .ok (.getfield 21, 3) := by decide +kernel
theorem dX8_add_113 : decode cX8_add 113 = .ok (.iload_n 1, 1) := by decide +kernel
theorem dX8_add_114 : decode cX8_add 114 = .ok (.dup2, 1) := by decide +kernel
theorem dX8_add_115 : decode cX8_add 115 = .ok (.iaload, 1) := by decide +kernel
theorem dX8_add_116 : decode cX8_add 116 = .ok (.iconst 1, 1) := by decide +kernel
theorem dX8_add_117 : decode cX8_add 117 = .ok (.isub, 1) := by decide +kernel
theorem dX8_add_118 : decode cX8_add 118 = .ok (.iastore, 1) := by decide +kernel
theorem dX8_add_119 : decode cX8_add 119 = .ok (.aload_n 0, 1) := by decide +kernel
theorem dX8_add_120 : decode cX8_add 120 = .ok (.iload_n 1, 1) := by decide +kernel
theorem dX8_add_121 : decode cX8_add 121 = .ok (.invokevirtual 163, 3) := by decide +kernel
theorem dX8_add_124 : decode cX8_add 124 = .ok (.istore 6, 2) := by decide +kernel
theorem dX8_add_126 : decode cX8_add 126 = .ok (.aload_n 0, 1) := by decide +kernel
theorem dX8_add_127 : decode cX8_add 127 = .ok (.sipush (-1005), 3) := by decide +kernel
theorem dX8_add_130 : decode cX8_add 130 = .ok (.iload 4, 2) := by decide +kernel
theorem dX8_add_132 : decode cX8_add 132 = .ok (.invokevirtual 185, 3) := by decide +kernel
theorem dX8_add_135 : decode cX8_add 135 = .ok (.ireturn, 1) := by decide +kernel
theorem dX8_add_136 : decode cX8_add 136 = .ok (.aload_n 0, 1) := by decide +kernel
theorem dX8_add_137 : decode cX8_add 137 = .ok (.getfield 13, 3) := by decide +kernel
theorem dX8_add_140 : decode cX8_add 140 = .ok (.iload_n 2, 1) := by decide +kernel
theorem dX8_add_141 : decode cX8_add 141 = .ok (.iconst 1, 1) := by decide +kernel
theorem dX8_add_142 : decode cX8_add 142 = .ok (.bastore, 1) := by decide +kernel
theorem dX8_add_143 : decode cX8_add 143 = .ok (.iload 5, 2) := by decide +kernel
theorem dX8_add_145 : decode cX8_add 145 = .ok (.ireturn, 1) := by decide +kernel
theorem dX8_price_0 : decode cX8_price 0 = .ok (.aload_n 0, 1) := by decide +kernel
theorem dX8_price_1 : decode cX8_price 1 = .ok (.iload_n 1, 1) := by decide +kernel
theorem dX8_price_2 : decode cX8_price 2 = .ok (.invokevirtual 157, 3) := by decide +kernel
theorem dX8_price_5 : decode cX8_price 5 = .ok (.ifCond .eq 11, 3) := by decide +kernel
theorem dX8_price_8 : decode cX8_price 8 = .ok (.aload_n 0, 1) := by decide +kernel
theorem dX8_price_9 : decode cX8_price 9 = .ok (.iload_n 2, 1) := by decide +kernel
theorem dX8_price_10 : decode cX8_price 10 = .ok (.invokevirtual 180, 3) := by decide +kernel
theorem dX8_price_13 : decode cX8_price 13 = .ok (.ifCond .ne 7, 3) := by decide +kernel
theorem dX8_price_16 : decode cX8_price 16 = .ok (.sipush (-1001), 3) := by decide +kernel
theorem dX8_price_19 : decode cX8_price 19 = .ok (.ireturn, 1) := by decide +kernel
theorem dX8_price_20 : decode cX8_price 20 = .ok (.iload_n 3, 1) := by decide +kernel
theorem dX8_price_21 : decode cX8_price 21 = .ok (.i2l, 1) := by decide +kernel
theorem dX8_price_22 : decode cX8_price 22 = .ok (.ldc2_w 201, 3) := by decide +kernel
theorem dX8_price_25 : decode cX8_price 25 = .ok (.ldc2_w 203, 3) := by decide +kernel
theorem dX8_price_28 : decode cX8_price 28 = .ok (.invokestatic 89, 3) := by decide +kernel
theorem dX8_price_31 : decode cX8_price 31 = .ok (.ifCond .ne 7, 3) := by decide +kernel
theorem dX8_price_34 : decode cX8_price 34 = .ok (.sipush (-1002), 3) := by decide +kernel
theorem dX8_price_37 : decode cX8_price 37 = .ok (.ireturn, 1) := by decide +kernel
theorem dX8_price_38 : decode cX8_price 38 = .ok (.aload_n 0, 1) := by decide +kernel
theorem dX8_price_39 : decode cX8_price 39 = .ok (.getfield 13, 3) := by decide +kernel
theorem dX8_price_42 : decode cX8_price 42 = .ok (.iload_n 1, 1) := by decide +kernel
theorem dX8_price_43 : decode cX8_price 43 = .ok (.baload, 1) := by decide +kernel
theorem dX8_price_44 : decode cX8_price 44 = .ok (.ifCond .eq 7, 3) := by decide +kernel
theorem dX8_price_47 : decode cX8_price 47 = .ok (.sipush (-1003), 3) := by decide +kernel
theorem dX8_price_50 : decode cX8_price 50 = .ok (.ireturn, 1) := by decide +kernel
theorem dX8_price_51 : decode cX8_price 51 = .ok (.aload_n 0, 1) := by decide +kernel
theorem dX8_price_52 : decode cX8_price 52 = .ok (.getfield 105, 3) := by decide +kernel
theorem dX8_price_55 : decode cX8_price 55 = .ok (.istore 4, 2) := by decide +kernel
theorem dX8_price_57 : decode cX8_price 57 = .ok (.aload_n 0, 1) := by decide +kernel
theorem dX8_price_58 : decode cX8_price 58 = .ok (.iload_n 1, 1) := by decide +kernel
theorem dX8_price_59 : decode cX8_price 59 = .ok (.iconst 5, 1) := by decide +kernel
theorem dX8_price_60 : decode cX8_price 60 = .ok (.invokevirtual 176, 3) := by decide +kernel
theorem dX8_price_63 : decode cX8_price 63 = .ok (.ifCond .ne 5, 3) := by decide +kernel
theorem dX8_price_66 : decode cX8_price 66 = .ok (.iconst 0, 1) := by decide +kernel
theorem dX8_price_67 : decode cX8_price 67 = .ok (.ireturn, 1) := by decide +kernel
theorem dX8_price_68 : decode cX8_price 68 = .ok (.aload_n 0, 1) := by decide +kernel
theorem dX8_price_69 : decode cX8_price 69 = .ok (.getfield 36, 3) := by decide +kernel
theorem dX8_price_72 : decode cX8_price 72 = .ok (.bipush 10, 2) := by decide +kernel
theorem dX8_price_74 : decode cX8_price 74 = .ok (.iload_n 1, 1) := by decide +kernel
theorem dX8_price_75 : decode cX8_price 75 = .ok (.imul, 1) := by decide +kernel
theorem dX8_price_76 : decode cX8_price 76 = .ok (.iload_n 2, 1) := by decide +kernel
theorem dX8_price_77 : decode cX8_price 77 = .ok (.iadd, 1) := by decide +kernel
theorem dX8_price_78 : decode cX8_price 78 = .ok (.iaload, 1) := by decide +kernel
theorem dX8_price_79 : decode cX8_price 79 = .ok (.istore 5, 2) := by decide +kernel
theorem dX8_price_81 : decode cX8_price 81 = .ok (.aload_n 0, 1) := by decide +kernel
theorem dX8_price_82 : decode cX8_price 82 = .ok (.getfield 36, 3) := by decide +kernel
theorem dX8_price_85 : decode cX8_price 85 = .ok (.bipush 10, 2) := by decide +kernel
theorem dX8_price_87 : decode cX8_price 87 = .ok (.iload_n 1, 1) := by decide +kernel
theorem dX8_price_88 : decode cX8_price 88 = .ok (.imul, 1) := by decide +kernel
theorem dX8_price_89 : decode cX8_price 89 = .ok (.iload_n 2, 1) := by decide +kernel
theorem dX8_price_90 : decode cX8_price 90 = .ok (.iadd, 1) := by decide +kernel
theorem dX8_price_91 : decode cX8_price 91 = .ok (.iload_n 3, 1) := by decide +kernel
theorem dX8_price_92 : decode cX8_price 92 = .ok (.iastore, 1) := by decide +kernel
theorem dX8_price_93 : decode cX8_price 93 = .ok (.aload_n 0, 1) := by decide +kernel
theorem dX8_price_94 : decode cX8_price 94 = .ok (.iload_n 1, 1) := by decide +kernel
theorem dX8_price_95 : decode cX8_price 95 = .ok (.invokevirtual 163, 3) := by decide +kernel
theorem dX8_price_98 : decode cX8_price 98 = .ok (.ifCond .ne 33, 3) := by decide +kernel
theorem dX8_price_101 : decode cX8_price 101 = .ok (.aload_n 0, 1) := by decide +kernel
theorem dX8_price_102 : decode cX8_price 102 = .ok (.getfield 36, 3) := by decide +kernel
theorem dX8_price_105 : decode cX8_price 105 = .ok (.bipush 10, 2) := by decide +kernel
theorem dX8_price_107 : decode cX8_price 107 = .ok (.iload_n 1, 1) := by decide +kernel
theorem dX8_price_108 : decode cX8_price 108 = .ok (.imul, 1) := by decide +kernel
theorem dX8_price_109 : decode cX8_price 109 = .ok (.iload_n 2, 1) := by decide +kernel
theorem dX8_price_110 : decode cX8_price 110 = .ok (.iadd, 1) := by decide +kernel
theorem dX8_price_111 : decode cX8_price 111 = .ok (.iload 5, 2) := by decide +kernel
theorem dX8_price_113 : decode cX8_price 113 = .ok (.iastore, 1) := by decide +kernel
theorem dX8_price_114 : decode cX8_price 114 = .ok (.aload_n 0, 1) := by decide +kernel
theorem dX8_price_115 : decode cX8_price 115 = .ok (.iload_n 1, 1) := by decide +kernel
theorem dX8_price_116 : decode cX8_price 116 = .ok (.invokevirtual 163, 3) := by decide +kernel
theorem dX8_price_119 : decode cX8_price 119 = .ok (.istore 6, 2) := by decide +kernel
theorem dX8_price_121 : decode cX8_price 121 = .ok (.aload_n 0, 1) := by decide +kernel
theorem dX8_price_122 : decode cX8_price 122 = .ok (.sipush (-1005), 3) := by decide +kernel
theorem dX8_price_125 : decode cX8_price 125 = .ok (.iload 4, 2) := by decide +kernel
theorem dX8_price_127 : decode cX8_price 127 = .ok (.invokevirtual 185, 3) := by decide +kernel
theorem dX8_price_130 : decode cX8_price 130 = .ok (.ireturn, 1) := by decide +kernel
theorem dX8_price_131 : decode cX8_price 131 = .ok (.iload 5, 2) := by decide +kernel
theorem dX8_price_133 : decode cX8_price 133 = .ok (.ireturn, 1) := by decide +kernel
theorem dX8_code_0 : decode cX8_code 0 = .ok (.aload_n 0, 1) := by decide +kernel
theorem dX8_code_1 : decode cX8_code 1 = .ok (.getfield 105, 3) := by decide +kernel
theorem dX8_code_4 : decode cX8_code 4 = .ok (.ireturn, 1) := by decide +kernel
theorem dX8_v_0 : decode cX8_v 0 = .ok (.aload_n 0, 1) := by decide +kernel
theorem dX8_v_1 : decode cX8_v 1 = .ok (.getfield 17, 3) := by decide +kernel
theorem dX8_v_4 : decode cX8_v 4 = .ok (.sipush 1024, 3) := by decide +kernel
theorem dX8_v_7 : decode cX8_v 7 = .ok (.iload_n 1, 1) := by decide +kernel
theorem dX8_v_8 : decode cX8_v 8 = .ok (.imul, 1) := by decide +kernel
theorem dX8_v_9 : decode cX8_v 9 = .ok (.iload_n 2, 1) := by decide +kernel
theorem dX8_v_10 : decode cX8_v 10 = .ok (.iadd, 1) := by decide +kernel
theorem dX8_v_11 : decode cX8_v 11 = .ok (.laload, 1) := by decide +kernel
theorem dX8_v_12 : decode cX8_v 12 = .ok (.lreturn, 1) := by decide +kernel
theorem dX8_value_0 : decode cX8_value 0 = .ok (.aload_n 0, 1) := by decide +kernel
theorem dX8_value_1 : decode cX8_value 1 = .ok (.iload_n 1, 1) := by decide +kernel
theorem dX8_value_2 : decode cX8_value 2 = .ok (.invokevirtual 157, 3) := by decide +kernel
theorem dX8_value_5 : decode cX8_value 5 = .ok (.ifCond .eq 20, 3) := by decide +kernel
theorem dX8_value_8 : decode cX8_value 8 = .ok (.aload_n 0, 1) := by decide +kernel
theorem dX8_value_9 : decode cX8_value 9 = .ok (.iload_n 2, 1) := by decide +kernel
theorem dX8_value_10 : decode cX8_value 10 = .ok (.invokevirtual 160, 3) := by decide +kernel
theorem dX8_value_13 : decode cX8_value 13 = .ok (.ifCond .eq 12, 3) := by decide +kernel
theorem dX8_value_16 : decode cX8_value 16 = .ok (.aload_n 0, 1) := by decide +kernel
theorem dX8_value_17 : decode cX8_value 17 = .ok (.iload_n 1, 1) := by decide +kernel
theorem dX8_value_18 : decode cX8_value 18 = .ok (.iload_n 2, 1) := by decide +kernel
theorem dX8_value_19 : decode cX8_value 19 = .ok (.invokevirtual 205, 3) := by decide +kernel
theorem dX8_value_22 : decode cX8_value 22 = .ok (.goto 6, 3) := by decide +kernel
theorem dX8_value_25 : decode cX8_value 25 = .ok (.ldc2_w 108, 3) := by decide +kernel
theorem dX8_value_28 : decode cX8_value 28 = .ok (.lreturn, 1) := by decide +kernel
theorem dX8_adds_0 : decode cX8_adds 0 = .ok (.aload_n 0, 1) := by decide +kernel
theorem dX8_adds_1 : decode cX8_adds 1 = .ok (.iload_n 1, 1) := by decide +kernel
theorem dX8_adds_2 : decode cX8_adds 2 = .ok (.invokevirtual 157, 3) := by decide +kernel
theorem dX8_adds_5 : decode cX8_adds 5 = .ok (.ifCond .eq 39, 3) := by decide +kernel
theorem dX8_adds_8 : decode cX8_adds 8 = .ok (.aload_n 0, 1) := by decide +kernel
theorem dX8_adds_9 : decode cX8_adds 9 = .ok (.iload_n 2, 1) := by decide +kernel
theorem dX8_adds_10 : decode cX8_adds 10 = .ok (.invokevirtual 160, 3) := by decide +kernel
theorem dX8_adds_13 : decode cX8_adds 13 = .ok (.ifCond .eq 31, 3) := by decide +kernel
theorem dX8_adds_16 : decode cX8_adds 16 = .ok (.aload_n 0, 1) := by decide +kernel
theorem dX8_adds_17 : decode cX8_adds 17 = .ok (.iload_n 3, 1) := by decide +kernel
theorem dX8_adds_18 : decode cX8_adds 18 = .ok (.invokevirtual 180, 3) := by decide +kernel
theorem dX8_adds_21 : decode cX8_adds 21 = .ok (.ifCond .eq 23, 3) := by decide +kernel
theorem dX8_adds_24 : decode cX8_adds 24 = .ok (.aload_n 0, 1) := by decide +kernel
theorem dX8_adds_25 : decode cX8_adds 25 = .ok (.iload_n 1, 1) := by decide +kernel
theorem dX8_adds_26 : decode cX8_adds 26 = .ok (.iload_n 2, 1) := by decide +kernel
theorem dX8_adds_27 : decode cX8_adds 27 = .ok (.iconst 1, 1) := by decide +kernel
theorem dX8_adds_28 : decode cX8_adds 28 = .ok (.iload_n 3, 1) := by decide +kernel
theorem dX8_adds_29 : decode cX8_adds 29 = .ok (.ishl, 1) := by decide +kernel
theorem dX8_adds_30 : decode cX8_adds 30 = .ok (.ior, 1) := by decide +kernel
theorem dX8_adds_31 : decode cX8_adds 31 = .ok (.invokevirtual 205, 3) := by decide +kernel
theorem dX8_adds_34 : decode cX8_adds 34 = .ok (.aload_n 0, 1) := by decide +kernel
theorem dX8_adds_35 : decode cX8_adds 35 = .ok (.iload_n 1, 1) := by decide +kernel
theorem dX8_adds_36 : decode cX8_adds 36 = .ok (.iload_n 2, 1) := by decide +kernel
theorem dX8_adds_37 : decode cX8_adds 37 = .ok (.invokevirtual 205, 3) := by decide +kernel
theorem dX8_adds_40 : decode cX8_adds 40 = .ok (.lsub, 1) := by decide +kernel
theorem dX8_adds_41 : decode cX8_adds 41 = .ok (.goto 6, 3) := by decide +kernel
theorem dX8_adds_44 : decode cX8_adds 44 = .ok (.ldc2_w 108, 3) := by decide +kernel
theorem dX8_adds_47 : decode cX8_adds 47 = .ok (.lreturn, 1) := by decide +kernel
theorem dX8_wrong_0 : decode cX8_wrong 0 = .ok (.iconst 0, 1) := by decide +kernel
theorem dX8_wrong_1 : decode cX8_wrong 1 = .ok (.istore_n 2, 1) := by decide +kernel
theorem dX8_wrong_2 : decode cX8_wrong 2 = .ok (.iload_n 2, 1) := by decide +kernel
theorem dX8_wrong_3 : decode cX8_wrong 3 = .ok (.aload_n 0, 1) := by decide +kernel
theorem dX8_wrong_4 : decode cX8_wrong 4 = .ok (.invokevirtual 93, 3) := by decide +kernel
theorem dX8_wrong_7 : decode cX8_wrong 7 = .ok (.if_icmp .gt 117, 3) := by decide +kernel
theorem dX8_wrong_10 : decode cX8_wrong 10 = .ok (.iconst 0, 1) := by decide +kernel
theorem dX8_wrong_11 : decode cX8_wrong 11 = .ok (.istore_n 3, 1) := by decide +kernel
theorem dX8_wrong_12 : decode cX8_wrong 12 = .ok (.iload_n 3, 1) := by decide +kernel
theorem dX8_wrong_13 : decode cX8_wrong 13 = .ok (.aload_n 0, 1) := by decide +kernel
theorem dX8_wrong_14 : decode cX8_wrong 14 = .ok (.getfield 80, 3) := by decide +kernel
theorem dX8_wrong_17 : decode cX8_wrong 17 = .ok (.if_icmp .ge 101, 3) := by decide +kernel
theorem dX8_wrong_20 : decode cX8_wrong 20 = .ok (.iload_n 3, 1) := by decide +kernel
theorem dX8_wrong_21 : decode cX8_wrong 21 = .ok (.iconst 1, 1) := by decide +kernel
theorem dX8_wrong_22 : decode cX8_wrong 22 = .ok (.iadd, 1) := by decide +kernel
theorem dX8_wrong_23 : decode cX8_wrong 23 = .ok (.istore 4, 2) := by decide +kernel
theorem dX8_wrong_25 : decode cX8_wrong 25 = .ok (.iload 4, 2) := by decide +kernel
theorem dX8_wrong_27 : decode cX8_wrong 27 = .ok (.aload_n 0, 1) := by decide +kernel
theorem dX8_wrong_28 : decode cX8_wrong 28 = .ok (.getfield 80, 3) := by decide +kernel
theorem dX8_wrong_31 : decode cX8_wrong 31 = .ok (.if_icmp .ge 81, 3) := by decide +kernel
theorem dX8_wrong_34 : decode cX8_wrong 34 = .ok (.iconst 1, 1) := by decide +kernel
theorem dX8_wrong_35 : decode cX8_wrong 35 = .ok (.iload_n 3, 1) := by decide +kernel
theorem dX8_wrong_36 : decode cX8_wrong 36 = .ok (.ishl, 1) := by decide +kernel
theorem dX8_wrong_37 : decode cX8_wrong 37 = .ok (.iconst 1, 1) := by decide +kernel
theorem dX8_wrong_38 : decode cX8_wrong 38 = .ok (.iload 4, 2) := by decide +kernel
theorem dX8_wrong_40 : decode cX8_wrong 40 = .ok (.ishl, 1) := by decide +kernel
theorem dX8_wrong_41 : decode cX8_wrong 41 = .ok (.ior, 1) := by decide +kernel
theorem dX8_wrong_42 : decode cX8_wrong 42 = .ok (.istore 5, 2) := by decide +kernel
theorem dX8_wrong_44 : decode cX8_wrong 44 = .ok (.iload_n 2, 1) := by decide +kernel
theorem dX8_wrong_45 : decode cX8_wrong 45 = .ok (.iload 5, 2) := by decide +kernel
theorem dX8_wrong_47 : decode cX8_wrong 47 = .ok (.iand, 1) := by decide +kernel
theorem dX8_wrong_48 : decode cX8_wrong 48 = .ok (.ifCond .ne 58, 3) := by decide +kernel
theorem dX8_wrong_51 : decode cX8_wrong 51 = .ok (.aload_n 0, 1) := by decide +kernel
theorem dX8_wrong_52 : decode cX8_wrong 52 = .ok (.iload_n 1, 1) := by decide +kernel
theorem dX8_wrong_53 : decode cX8_wrong 53 = .ok (.iload_n 2, 1) := by decide +kernel
theorem dX8_wrong_54 : decode cX8_wrong 54 = .ok (.iconst 1, 1) := by decide +kernel
theorem dX8_wrong_55 : decode cX8_wrong 55 = .ok (.iload_n 3, 1) := by decide +kernel
theorem dX8_wrong_56 : decode cX8_wrong 56 = .ok (.ishl, 1) := by decide +kernel
theorem dX8_wrong_57 : decode cX8_wrong 57 = .ok (.ior, 1) := by decide +kernel
theorem dX8_wrong_58 : decode cX8_wrong 58 = .ok (.invokevirtual 205, 3) := by decide +kernel
theorem dX8_wrong_61 : decode cX8_wrong 61 = .ok (.aload_n 0, 1) := by decide +kernel
theorem dX8_wrong_62 : decode cX8_wrong 62 = .ok (.iload_n 1, 1) := by decide +kernel
theorem dX8_wrong_63 : decode cX8_wrong 63 = .ok (.iload_n 2, 1) := by decide +kernel
theorem dX8_wrong_64 : decode cX8_wrong 64 = .ok (.iconst 1, 1) := by decide +kernel
theorem dX8_wrong_65 : decode cX8_wrong 65 = .ok (.iload 4, 2) := by decide +kernel
theorem dX8_wrong_67 : decode cX8_wrong 67 = .ok (.ishl, 1) := by decide +kernel
theorem dX8_wrong_68 : decode cX8_wrong 68 = .ok (.ior, 1) := by decide +kernel
theorem dX8_wrong_69 : decode cX8_wrong 69 = .ok (.invokevirtual 205, 3) := by decide +kernel
theorem dX8_wrong_72 : decode cX8_wrong 72 = .ok (.ladd, 1) := by decide +kernel
theorem dX8_wrong_73 : decode cX8_wrong 73 = .ok (.aload_n 0, 1) := by decide +kernel
theorem dX8_wrong_74 : decode cX8_wrong 74 = .ok (.iload_n 1, 1) := by decide +kernel
theorem dX8_wrong_75 : decode cX8_wrong 75 = .ok (.iload_n 2, 1) := by decide +kernel
theorem dX8_wrong_76 : decode cX8_wrong 76 = .ok (.invokevirtual 205, 3) := by decide +kernel
theorem dX8_wrong_79 : decode cX8_wrong 79 = .ok (.aload_n 0, 1) := by decide +kernel
theorem dX8_wrong_80 : decode cX8_wrong 80 = .ok (.iload_n 1, 1) := by decide +kernel
theorem dX8_wrong_81 : decode cX8_wrong 81 = .ok (.iload_n 2, 1) := by decide +kernel
theorem dX8_wrong_82 : decode cX8_wrong 82 = .ok (.iload 5, 2) := by decide +kernel
theorem dX8_wrong_84 : decode cX8_wrong 84 = .ok (.ior, 1) := by decide +kernel
theorem dX8_wrong_85 : decode cX8_wrong 85 = .ok (.invokevirtual 205, 3) := by decide +kernel
theorem dX8_wrong_88 : decode cX8_wrong 88 = .ok (.ladd, 1) := by decide +kernel
theorem dX8_wrong_89 : decode cX8_wrong 89 = .ok (.lcmp, 1) := by decide +kernel
theorem dX8_wrong_90 : decode cX8_wrong 90 = .ok (.ifCond .ge 16, 3) := by decide +kernel
theorem dX8_wrong_93 : decode cX8_wrong 93 = .ok (.bipush 100, 2) := by decide +kernel
theorem dX8_wrong_95 : decode cX8_wrong 95 = .ok (.iload_n 2, 1) := by decide +kernel
theorem dX8_wrong_96 : decode cX8_wrong 96 = .ok (.imul, 1) := by decide +kernel
theorem dX8_wrong_97 : decode cX8_wrong 97 = .ok (.bipush 10, 2) := by decide +kernel
theorem dX8_wrong_99 : decode cX8_wrong 99 = .ok (.iload_n 3, 1) := by decide +kernel
theorem dX8_wrong_100 : decode cX8_wrong 100 = .ok (.imul, 1) := by decide +kernel
theorem dX8_wrong_101 : decode cX8_wrong 101 = .ok (.iadd, 1) := by decide +kernel
theorem dX8_wrong_102 : decode cX8_wrong 102 = .ok (.iload 4, 2) := by decide +kernel
theorem dX8_wrong_104 : decode cX8_wrong 104 = .ok (.iadd, 1) := by decide +kernel
theorem dX8_wrong_105 : decode cX8_wrong 105 = .ok (.ireturn, 1) := by decide +kernel
theorem dX8_wrong_106 : decode cX8_wrong 106 = .ok (.iinc 4 1, 3) := by decide +kernel
theorem dX8_wrong_109 : decode cX8_wrong 109 = .ok (.goto (-84), 3) := by decide +kernel
theorem dX8_wrong_112 : decode cX8_wrong 112 = .ok (.iinc 3 1, 3) := by decide +kernel
theorem dX8_wrong_115 : decode cX8_wrong 115 = .ok (.goto (-103), 3) := by decide +kernel
theorem dX8_wrong_118 : decode cX8_wrong 118 = .ok (.iinc 2 1, 3) := by decide +kernel
theorem dX8_wrong_121 : decode cX8_wrong 121 = .ok (.goto (-119), 3) := by decide +kernel
theorem dX8_wrong_124 : decode cX8_wrong 124 = .ok (.iconst (-1), 1) := by decide +kernel
theorem dX8_wrong_125 : decode cX8_wrong 125 = .ok (.ireturn, 1) := by decide +kernel
theorem dX8_falls_0 : decode cX8_falls 0 = .ok (.aload_n 0, 1) := by decide +kernel
theorem dX8_falls_1 : decode cX8_falls 1 = .ok (.iload_n 1, 1) := by decide +kernel
theorem dX8_falls_2 : decode cX8_falls 2 = .ok (.invokevirtual 157, 3) := by decide +kernel
theorem dX8_falls_5 : decode cX8_falls 5 = .ok (.ifCond .ne 9, 3) := by decide +kernel
theorem dX8_falls_8 : decode cX8_falls 8 = .ok (.sipush (-1001), 3) := by decide +kernel
theorem dX8_falls_11 : decode cX8_falls 11 = .ok (.goto 16, 3) := by decide +kernel
theorem dX8_falls_14 : decode cX8_falls 14 = .ok (.aload_n 0, 1) := by decide +kernel
theorem dX8_falls_15 : decode cX8_falls 15 = .ok (.iload_n 1, 1) := by decide +kernel
theorem dX8_falls_16 : decode cX8_falls 16 = .ok (.invokevirtual 208, 3) := by decide +kernel
theorem dX8_falls_19 : decode cX8_falls 19 = .ok (.ifCond .ge 7, 3) := by decide +kernel
theorem dX8_falls_22 : decode cX8_falls 22 = .ok (.iconst 1, 1) := by decide +kernel
theorem dX8_falls_23 : decode cX8_falls 23 = .ok (.goto 4, 3) := by decide +kernel
theorem dX8_falls_26 : decode cX8_falls 26 = .ok (.iconst 0, 1) := by decide +kernel
theorem dX8_falls_27 : decode cX8_falls 27 = .ok (.ireturn, 1) := by decide +kernel
theorem dX8_why_0 : decode cX8_why 0 = .ok (.aload_n 0, 1) := by decide +kernel
theorem dX8_why_1 : decode cX8_why 1 = .ok (.iload_n 1, 1) := by decide +kernel
theorem dX8_why_2 : decode cX8_why 2 = .ok (.invokevirtual 157, 3) := by decide +kernel
theorem dX8_why_5 : decode cX8_why 5 = .ok (.ifCond .ne 7, 3) := by decide +kernel
theorem dX8_why_8 : decode cX8_why 8 = .ok (.sipush (-1001), 3) := by decide +kernel
theorem dX8_why_11 : decode cX8_why 11 = .ok (.ireturn, 1) := by decide +kernel
theorem dX8_why_12 : decode cX8_why 12 = .ok (.iload_n 2, 1) := by decide +kernel
theorem dX8_why_13 : decode cX8_why 13 = .ok (.i2l, 1) := by decide +kernel
theorem dX8_why_14 : decode cX8_why 14 = .ok (.lconst 0, 1) := by decide +kernel
theorem dX8_why_15 : decode cX8_why 15 = .ok (.ldc2_w 103, 3) := by decide +kernel
theorem dX8_why_18 : decode cX8_why 18 = .ok (.invokestatic 89, 3) := by decide +kernel
theorem dX8_why_21 : decode cX8_why 21 = .ok (.ifCond .ne 7, 3) := by decide +kernel
theorem dX8_why_24 : decode cX8_why 24 = .ok (.sipush (-1002), 3) := by decide +kernel
theorem dX8_why_27 : decode cX8_why 27 = .ok (.ireturn, 1) := by decide +kernel
theorem dX8_why_28 : decode cX8_why 28 = .ok (.aload_n 0, 1) := by decide +kernel
theorem dX8_why_29 : decode cX8_why 29 = .ok (.iload_n 1, 1) := by decide +kernel
theorem dX8_why_30 : decode cX8_why 30 = .ok (.invokevirtual 208, 3) := by decide +kernel
theorem dX8_why_33 : decode cX8_why 33 = .ok (.istore_n 3, 1) := by decide +kernel
theorem dX8_why_34 : decode cX8_why 34 = .ok (.iload_n 3, 1) := by decide +kernel
theorem dX8_why_35 : decode cX8_why 35 = .ok (.ifCond .ge 7, 3) := by decide +kernel
theorem dX8_why_38 : decode cX8_why 38 = .ok (.iconst (-1), 1) := by decide +kernel
theorem dX8_why_39 : decode cX8_why 39 = .ok (.goto 33, 3) := by decide +kernel
theorem dX8_why_42 : decode cX8_why 42 = .ok (.iload_n 2, 1) := by decide +kernel
theorem dX8_why_43 : decode cX8_why 43 = .ok (.ifCond .ne 10, 3) := by decide +kernel
theorem dX8_why_46 : decode cX8_why 46 = .ok (.iload_n 3, 1) := by decide +kernel
theorem dX8_why_47 : decode cX8_why 47 = .ok (.bipush 100, 2) := by decide +kernel
theorem dX8_why_49 : decode cX8_why 49 = .ok (.idiv, 1) := by decide +kernel
theorem dX8_why_50 : decode cX8_why 50 = .ok (.goto 22, 3) := by decide +kernel
theorem dX8_why_53 : decode cX8_why 53 = .ok (.iload_n 2, 1) := by decide +kernel
theorem dX8_why_54 : decode cX8_why 54 = .ok (.iconst 1, 1) := by decide +kernel
theorem dX8_why_55 : decode cX8_why 55 = .ok (.if_icmp .ne 13, 3) := by decide +kernel
theorem dX8_why_58 : decode cX8_why 58 = .ok (.iload_n 3, 1) := by decide +kernel
theorem dX8_why_59 : decode cX8_why 59 = .ok (.bipush 10, 2) := by decide +kernel
theorem dX8_why_61 : decode cX8_why 61 = .ok (.idiv, 1) := by decide +kernel
theorem dX8_why_62 : decode cX8_why 62 = .ok (.bipush 10, 2) := by decide +kernel
theorem dX8_why_64 : decode cX8_why 64 = .ok (.irem, 1) := by decide +kernel
theorem dX8_why_65 : decode cX8_why 65 = .ok (.goto 7, 3) := by decide +kernel
theorem dX8_why_68 : decode cX8_why 68 = .ok (.iload_n 3, 1) := by decide +kernel
theorem dX8_why_69 : decode cX8_why 69 = .ok (.bipush 10, 2) := by decide +kernel
theorem dX8_why_71 : decode cX8_why 71 = .ok (.irem, 1) := by decide +kernel
theorem dX8_why_72 : decode cX8_why 72 = .ok (.ireturn, 1) := by decide +kernel
theorem dX8_leastOf_0 : decode cX8_leastOf 0 = .ok (.lconst 0, 1) := by decide +kernel
theorem dX8_leastOf_1 : decode cX8_leastOf 1 = .ok (.lstore_n 2, 1) := by decide +kernel
theorem dX8_leastOf_2 : decode cX8_leastOf 2 = .ok (.iconst 0, 1) := by decide +kernel
theorem dX8_leastOf_3 : decode cX8_leastOf 3 = .ok (.istore 4, 2) := by decide +kernel
theorem dX8_leastOf_5 : decode cX8_leastOf 5 = .ok (.iload 4, 2) := by decide +kernel
theorem dX8_leastOf_7 : decode cX8_leastOf 7 = .ok (.aload_n 0, 1) := by decide +kernel
theorem dX8_leastOf_8 : decode cX8_leastOf 8 = .ok (.invokevirtual 93, 3) := by decide +kernel
theorem dX8_leastOf_11 : decode cX8_leastOf 11 = .ok (.if_icmp .gt 33, 3) := by decide +kernel
theorem dX8_leastOf_14 : decode cX8_leastOf 14 = .ok (.aload_n 0, 1) := by decide +kernel
theorem dX8_leastOf_15 : decode cX8_leastOf 15 = .ok (.iload_n 1, 1) := by decide +kernel
theorem dX8_leastOf_16 : decode cX8_leastOf 16 = .ok (.iload 4, 2) := by decide +kernel
theorem dX8_leastOf_18 : decode cX8_leastOf 18 = .ok (.invokevirtual 205, 3) := by decide +kernel
theorem dX8_leastOf_21 : decode cX8_leastOf 21 = .ok (.lload_n 2, 1) := by decide +kernel
theorem dX8_leastOf_22 : decode cX8_leastOf 22 = .ok (.lcmp, 1) := by decide +kernel
theorem dX8_leastOf_23 : decode cX8_leastOf 23 = .ok (.ifCond .ge 13, 3) := by decide +kernel
theorem dX8_leastOf_26 : decode cX8_leastOf 26 = .ok (.aload_n 0, 1) := by decide +kernel
theorem dX8_leastOf_27 : decode cX8_leastOf 27 = .ok (.iload_n 1, 1) := by decide +kernel
theorem dX8_leastOf_28 : decode cX8_leastOf 28 = .ok (.iload 4, 2) := by decide +kernel
theorem dX8_leastOf_30 : decode cX8_leastOf 30 = .ok (.invokevirtual 205, 3) := by decide +kernel
theorem dX8_leastOf_33 : decode cX8_leastOf 33 = .ok (.goto 4, 3) := by decide +kernel
theorem dX8_leastOf_36 : decode cX8_leastOf 36 = .ok (.lload_n 2, 1) := by decide +kernel
theorem dX8_leastOf_37 : decode cX8_leastOf 37 = .ok (.lstore_n 2, 1) := by decide +kernel
theorem dX8_leastOf_38 : decode cX8_leastOf 38 = .ok (.iinc 4 1, 3) := by decide +kernel
theorem dX8_leastOf_41 : decode cX8_leastOf 41 = .ok (.goto (-36), 3) := by decide +kernel
theorem dX8_leastOf_44 : decode cX8_leastOf 44 = .ok (.lload_n 2, 1) := by decide +kernel
theorem dX8_leastOf_45 : decode cX8_leastOf 45 = .ok (.lreturn, 1) := by decide +kernel
theorem dX8_least_0 : decode cX8_least 0 = .ok (.aload_n 0, 1) := by decide +kernel
theorem dX8_least_1 : decode cX8_least 1 = .ok (.iload_n 1, 1) := by decide +kernel
theorem dX8_least_2 : decode cX8_least 2 = .ok (.invokevirtual 157, 3) := by decide +kernel
theorem dX8_least_5 : decode cX8_least 5 = .ok (.ifCond .eq 11, 3) := by decide +kernel
theorem dX8_least_8 : decode cX8_least 8 = .ok (.aload_n 0, 1) := by decide +kernel
theorem dX8_least_9 : decode cX8_least 9 = .ok (.iload_n 1, 1) := by decide +kernel
theorem dX8_least_10 : decode cX8_least 10 = .ok (.invokevirtual 211, 3) := by decide +kernel
theorem dX8_least_13 : decode cX8_least 13 = .ok (.goto 6, 3) := by decide +kernel
theorem dX8_least_16 : decode cX8_least 16 = .ok (.ldc2_w 108, 3) := by decide +kernel
theorem dX8_least_19 : decode cX8_least 19 = .ok (.lreturn, 1) := by decide +kernel
theorem dX8_isClosed_0 : decode cX8_isClosed 0 = .ok (.iconst 0, 1) := by decide +kernel
theorem dX8_isClosed_1 : decode cX8_isClosed 1 = .ok (.istore 4, 2) := by decide +kernel
theorem dX8_isClosed_3 : decode cX8_isClosed 3 = .ok (.iload 4, 2) := by decide +kernel
theorem dX8_isClosed_5 : decode cX8_isClosed 5 = .ok (.aload_n 0, 1) := by decide +kernel
theorem dX8_isClosed_6 : decode cX8_isClosed 6 = .ok (.invokevirtual 93, 3) := by decide +kernel
theorem dX8_isClosed_9 : decode cX8_isClosed 9 = .ok (.if_icmp .gt 81, 3) := by decide +kernel
theorem dX8_isClosed_12 : decode cX8_isClosed 12 = .ok (.iconst 0, 1) := by decide +kernel
theorem dX8_isClosed_13 : decode cX8_isClosed 13 = .ok (.istore 5, 2) := by decide +kernel
theorem dX8_isClosed_15 : decode cX8_isClosed 15 = .ok (.iload 5, 2) := by decide +kernel
theorem dX8_isClosed_17 : decode cX8_isClosed 17 = .ok (.iload 4, 2) := by decide +kernel
theorem dX8_isClosed_19 : decode cX8_isClosed 19 = .ok (.if_icmp .ge 65, 3) := by decide +kernel
theorem dX8_isClosed_22 : decode cX8_isClosed 22 = .ok (.aload_n 0, 1) := by decide +kernel
theorem dX8_isClosed_23 : decode cX8_isClosed 23 = .ok (.iload_n 1, 1) := by decide +kernel
theorem dX8_isClosed_24 : decode cX8_isClosed 24 = .ok (.iload 4, 2) := by decide +kernel
theorem dX8_isClosed_26 : decode cX8_isClosed 26 = .ok (.invokevirtual 205, 3) := by decide +kernel
theorem dX8_isClosed_29 : decode cX8_isClosed 29 = .ok (.lload_n 2, 1) := by decide +kernel
theorem dX8_isClosed_30 : decode cX8_isClosed 30 = .ok (.lcmp, 1) := by decide +kernel
theorem dX8_isClosed_31 : decode cX8_isClosed 31 = .ok (.ifCond .ne 47, 3) := by decide +kernel
theorem dX8_isClosed_34 : decode cX8_isClosed 34 = .ok (.aload_n 0, 1) := by decide +kernel
theorem dX8_isClosed_35 : decode cX8_isClosed 35 = .ok (.iload_n 1, 1) := by decide +kernel
theorem dX8_isClosed_36 : decode cX8_isClosed 36 = .ok (.iload 5, 2) := by decide +kernel
theorem dX8_isClosed_38 : decode cX8_isClosed 38 = .ok (.invokevirtual 205, 3) := by decide +kernel
theorem dX8_isClosed_41 : decode cX8_isClosed 41 = .ok (.lload_n 2, 1) := by decide +kernel
theorem dX8_isClosed_42 : decode cX8_isClosed 42 = .ok (.lcmp, 1) := by decide +kernel
theorem dX8_isClosed_43 : decode cX8_isClosed 43 = .ok (.ifCond .ne 35, 3) := by decide +kernel
theorem dX8_isClosed_46 : decode cX8_isClosed 46 = .ok (.aload_n 0, 1) := by decide +kernel
theorem dX8_isClosed_47 : decode cX8_isClosed 47 = .ok (.iload_n 1, 1) := by decide +kernel
theorem dX8_isClosed_48 : decode cX8_isClosed 48 = .ok (.iload 4, 2) := by decide +kernel
theorem dX8_isClosed_50 : decode cX8_isClosed 50 = .ok (.iload 5, 2) := by decide +kernel
theorem dX8_isClosed_52 : decode cX8_isClosed 52 = .ok (.iand, 1) := by decide +kernel
theorem dX8_isClosed_53 : decode cX8_isClosed 53 = .ok (.invokevirtual 205, 3) := by decide +kernel
theorem dX8_isClosed_56 : decode cX8_isClosed 56 = .ok (.lload_n 2, 1) := by decide +kernel
theorem dX8_isClosed_57 : decode cX8_isClosed 57 = .ok (.lcmp, 1) := by decide +kernel
theorem dX8_isClosed_58 : decode cX8_isClosed 58 = .ok (.ifCond .ne 18, 3) := by decide +kernel
theorem dX8_isClosed_61 : decode cX8_isClosed 61 = .ok (.aload_n 0, 1) := by decide +kernel
theorem dX8_isClosed_62 : decode cX8_isClosed 62 = .ok (.iload_n 1, 1) := by decide +kernel
theorem dX8_isClosed_63 : decode cX8_isClosed 63 = .ok (.iload 4, 2) := by decide +kernel
theorem dX8_isClosed_65 : decode cX8_isClosed 65 = .ok (.iload 5, 2) := by decide +kernel
theorem dX8_isClosed_67 : decode cX8_isClosed 67 = .ok (.ior, 1) := by decide +kernel
theorem dX8_isClosed_68 : decode cX8_isClosed 68 = .ok (.invokevirtual 205, 3) := by decide +kernel
theorem dX8_isClosed_71 : decode cX8_isClosed 71 = .ok (.lload_n 2, 1) := by decide +kernel
theorem dX8_isClosed_72 : decode cX8_isClosed 72 = .ok (.lcmp, 1) := by decide +kernel
theorem dX8_isClosed_73 : decode cX8_isClosed 73 = .ok (.ifCond .eq 5, 3) := by decide +kernel
theorem dX8_isClosed_76 : decode cX8_isClosed 76 = .ok (.iconst 0, 1) := by decide +kernel
theorem dX8_isClosed_77 : decode cX8_isClosed 77 = .ok (.ireturn, 1) := by decide +kernel
theorem dX8_isClosed_78 : decode cX8_isClosed 78 = .ok (.iinc 5 1, 3) := by decide +kernel
theorem dX8_isClosed_81 : decode cX8_isClosed 81 = .ok (.goto (-66), 3) := by decide +kernel
theorem dX8_isClosed_84 : decode cX8_isClosed 84 = .ok (.iinc 4 1, 3) := by decide +kernel
theorem dX8_isClosed_87 : decode cX8_isClosed 87 = .ok (.goto (-84), 3) := by decide +kernel
theorem dX8_isClosed_90 : decode cX8_isClosed 90 = .ok (.iconst 1, 1) := by decide +kernel
theorem dX8_isClosed_91 : decode cX8_isClosed 91 = .ok (.ireturn, 1) := by decide +kernel
theorem dX8_all_0 : decode cX8_all 0 = .ok (.aload_n 0, 1) := by decide +kernel
theorem dX8_all_1 : decode cX8_all 1 = .ok (.iload_n 1, 1) := by decide +kernel
theorem dX8_all_2 : decode cX8_all 2 = .ok (.invokevirtual 157, 3) := by decide +kernel
theorem dX8_all_5 : decode cX8_all 5 = .ok (.ifCond .ne 7, 3) := by decide +kernel
theorem dX8_all_8 : decode cX8_all 8 = .ok (.sipush (-1001), 3) := by decide +kernel
theorem dX8_all_11 : decode cX8_all 11 = .ok (.ireturn, 1) := by decide +kernel
theorem dX8_all_12 : decode cX8_all 12 = .ok (.iload_n 2, 1) := by decide +kernel
theorem dX8_all_13 : decode cX8_all 13 = .ok (.i2l, 1) := by decide +kernel
theorem dX8_all_14 : decode cX8_all 14 = .ok (.lconst 0, 1) := by decide +kernel
theorem dX8_all_15 : decode cX8_all 15 = .ok (.ldc2_w 97, 3) := by decide +kernel
theorem dX8_all_18 : decode cX8_all 18 = .ok (.invokestatic 89, 3) := by decide +kernel
theorem dX8_all_21 : decode cX8_all 21 = .ok (.ifCond .ne 7, 3) := by decide +kernel
theorem dX8_all_24 : decode cX8_all 24 = .ok (.sipush (-1002), 3) := by decide +kernel
theorem dX8_all_27 : decode cX8_all 27 = .ok (.ireturn, 1) := by decide +kernel
theorem dX8_all_28 : decode cX8_all 28 = .ok (.aload_n 0, 1) := by decide +kernel
theorem dX8_all_29 : decode cX8_all 29 = .ok (.iload_n 1, 1) := by decide +kernel
theorem dX8_all_30 : decode cX8_all 30 = .ok (.invokevirtual 211, 3) := by decide +kernel
theorem dX8_all_33 : decode cX8_all 33 = .ok (.lstore_n 3, 1) := by decide +kernel
theorem dX8_all_34 : decode cX8_all 34 = .ok (.iconst 0, 1) := by decide +kernel
theorem dX8_all_35 : decode cX8_all 35 = .ok (.istore 5, 2) := by decide +kernel
theorem dX8_all_37 : decode cX8_all 37 = .ok (.aload_n 0, 1) := by decide +kernel
theorem dX8_all_38 : decode cX8_all 38 = .ok (.invokevirtual 93, 3) := by decide +kernel
theorem dX8_all_41 : decode cX8_all 41 = .ok (.istore 6, 2) := by decide +kernel
theorem dX8_all_43 : decode cX8_all 43 = .ok (.iconst 0, 1) := by decide +kernel
theorem dX8_all_44 : decode cX8_all 44 = .ok (.istore 7, 2) := by decide +kernel
theorem dX8_all_46 : decode cX8_all 46 = .ok (.iconst 0, 1) := by decide +kernel
theorem dX8_all_47 : decode cX8_all 47 = .ok (.istore 8, 2) := by decide +kernel
theorem dX8_all_49 : decode cX8_all 49 = .ok (.iload 8, 2) := by decide +kernel
theorem dX8_all_51 : decode cX8_all 51 = .ok (.aload_n 0, 1) := by decide +kernel
theorem dX8_all_52 : decode cX8_all 52 = .ok (.invokevirtual 93, 3) := by decide +kernel
theorem dX8_all_55 : decode cX8_all 55 = .ok (.if_icmp .gt 38, 3) := by decide +kernel
theorem dX8_all_58 : decode cX8_all 58 = .ok (.aload_n 0, 1) := by decide +kernel
theorem dX8_all_59 : decode cX8_all 59 = .ok (.iload_n 1, 1) := by decide +kernel
theorem dX8_all_60 : decode cX8_all 60 = .ok (.iload 8, 2) := by decide +kernel
theorem dX8_all_62 : decode cX8_all 62 = .ok (.invokevirtual 205, 3) := by decide +kernel
theorem dX8_all_65 : decode cX8_all 65 = .ok (.lload_n 3, 1) := by decide +kernel
theorem dX8_all_66 : decode cX8_all 66 = .ok (.lcmp, 1) := by decide +kernel
theorem dX8_all_67 : decode cX8_all 67 = .ok (.ifCond .ne 20, 3) := by decide +kernel
theorem dX8_all_70 : decode cX8_all 70 = .ok (.iinc 5 1, 3) := by decide +kernel
theorem dX8_all_73 : decode cX8_all 73 = .ok (.iload 6, 2) := by decide +kernel
theorem dX8_all_75 : decode cX8_all 75 = .ok (.iload 8, 2) := by decide +kernel
theorem dX8_all_77 : decode cX8_all 77 = .ok (.iand, 1) := by decide +kernel
theorem dX8_all_78 : decode cX8_all 78 = .ok (.istore 6, 2) := by decide +kernel
theorem dX8_all_80 : decode cX8_all 80 = .ok (.iload 7, 2) := by decide +kernel
theorem dX8_all_82 : decode cX8_all 82 = .ok (.iload 8, 2) := by decide +kernel
theorem dX8_all_84 : decode cX8_all 84 = .ok (.ior, 1) := by decide +kernel
theorem dX8_all_85 : decode cX8_all 85 = .ok (.istore 7, 2) := by decide +kernel
theorem dX8_all_87 : decode cX8_all 87 = .ok (.iinc 8 1, 3) := by decide +kernel
theorem dX8_all_90 : decode cX8_all 90 = .ok (.goto (-41), 3) := by decide +kernel
theorem dX8_all_93 : decode cX8_all 93 = .ok (.iload_n 2, 1) := by decide +kernel
theorem dX8_all_94 : decode cX8_all 94 = .ok (.ifCond .ne 8, 3) := by decide +kernel
theorem dX8_all_97 : decode cX8_all 97 = .ok (.iload 5, 2) := by decide +kernel
theorem dX8_all_99 : decode cX8_all 99 = .ok (.goto 37, 3) := by decide +kernel
theorem dX8_all_102 : decode cX8_all 102 = .ok (.iload_n 2, 1) := by decide +kernel
theorem dX8_all_103 : decode cX8_all 103 = .ok (.iconst 1, 1) := by decide +kernel
theorem dX8_all_104 : decode cX8_all 104 = .ok (.if_icmp .ne 8, 3) := by decide +kernel
theorem dX8_all_107 : decode cX8_all 107 = .ok (.iload 6, 2) := by decide +kernel
theorem dX8_all_109 : decode cX8_all 109 = .ok (.goto 27, 3) := by decide +kernel
theorem dX8_all_112 : decode cX8_all 112 = .ok (.iload_n 2, 1) := by decide +kernel
theorem dX8_all_113 : decode cX8_all 113 = .ok (.iconst 2, 1) := by decide +kernel
theorem dX8_all_114 : decode cX8_all 114 = .ok (.if_icmp .ne 8, 3) := by decide +kernel
theorem dX8_all_117 : decode cX8_all 117 = .ok (.iload 7, 2) := by decide +kernel
theorem dX8_all_119 : decode cX8_all 119 = .ok (.goto 17, 3) := by decide +kernel
theorem dX8_all_122 : decode cX8_all 122 = .ok (.aload_n 0, 1) := by decide +kernel
theorem dX8_all_123 : decode cX8_all 123 = .ok (.iload_n 1, 1) := by decide +kernel
theorem dX8_all_124 : decode cX8_all 124 = .ok (.lload_n 3, 1) := by decide +kernel
theorem dX8_all_125 : decode cX8_all 125 = .ok (.invokevirtual 215, 3) := by decide +kernel
theorem dX8_all_128 : decode cX8_all 128 = .ok (.ifCond .eq 7, 3) := by decide +kernel
theorem dX8_all_131 : decode cX8_all 131 = .ok (.iconst 1, 1) := by decide +kernel
theorem dX8_all_132 : decode cX8_all 132 = .ok (.goto 4, 3) := by decide +kernel
theorem dX8_all_135 : decode cX8_all 135 = .ok (.iconst 0, 1) := by decide +kernel
theorem dX8_all_136 : decode cX8_all 136 = .ok (.ireturn, 1) := by decide +kernel
theorem dX8_one_0 : decode cX8_one 0 = .ok (.aload_n 0, 1) := by decide +kernel
theorem dX8_one_1 : decode cX8_one 1 = .ok (.iload_n 1, 1) := by decide +kernel
theorem dX8_one_2 : decode cX8_one 2 = .ok (.invokevirtual 157, 3) := by decide +kernel
theorem dX8_one_5 : decode cX8_one 5 = .ok (.ifCond .ne 7, 3) := by decide +kernel
theorem dX8_one_8 : decode cX8_one 8 = .ok (.sipush (-1001), 3) := by decide +kernel
theorem dX8_one_11 : decode cX8_one 11 = .ok (.ireturn, 1) := by decide +kernel
theorem dX8_one_12 : decode cX8_one 12 = .ok (.aload_n 0, 1) := by decide +kernel
theorem dX8_one_13 : decode cX8_one 13 = .ok (.iload_n 1, 1) := by decide +kernel
theorem dX8_one_14 : decode cX8_one 14 = .ok (.invokevirtual 211, 3) := by decide +kernel
theorem dX8_one_17 : decode cX8_one 17 = .ok (.lstore_n 3, 1) := by decide +kernel
theorem dX8_one_18 : decode cX8_one 18 = .ok (.iload_n 2, 1) := by decide +kernel
theorem dX8_one_19 : decode cX8_one 19 = .ok (.istore 5, 2) := by decide +kernel
theorem dX8_one_21 : decode cX8_one 21 = .ok (.iconst 0, 1) := by decide +kernel
theorem dX8_one_22 : decode cX8_one 22 = .ok (.istore 6, 2) := by decide +kernel
theorem dX8_one_24 : decode cX8_one 24 = .ok (.iload 6, 2) := by decide +kernel
theorem dX8_one_26 : decode cX8_one 26 = .ok (.aload_n 0, 1) := by decide +kernel
theorem dX8_one_27 : decode cX8_one 27 = .ok (.invokevirtual 93, 3) := by decide +kernel
theorem dX8_one_30 : decode cX8_one 30 = .ok (.if_icmp .gt 32, 3) := by decide +kernel
theorem dX8_one_33 : decode cX8_one 33 = .ok (.aload_n 0, 1) := by decide +kernel
theorem dX8_one_34 : decode cX8_one 34 = .ok (.iload_n 1, 1) := by decide +kernel
theorem dX8_one_35 : decode cX8_one 35 = .ok (.iload 6, 2) := by decide +kernel
theorem dX8_one_37 : decode cX8_one 37 = .ok (.invokevirtual 205, 3) := by decide +kernel
theorem dX8_one_40 : decode cX8_one 40 = .ok (.lload_n 3, 1) := by decide +kernel
theorem dX8_one_41 : decode cX8_one 41 = .ok (.lcmp, 1) := by decide +kernel
theorem dX8_one_42 : decode cX8_one 42 = .ok (.ifCond .ne 14, 3) := by decide +kernel
theorem dX8_one_45 : decode cX8_one 45 = .ok (.iload 5, 2) := by decide +kernel
theorem dX8_one_47 : decode cX8_one 47 = .ok (.ifCond .ne 6, 3) := by decide +kernel
theorem dX8_one_50 : decode cX8_one 50 = .ok (.iload 6, 2) := by decide +kernel
theorem dX8_one_52 : decode cX8_one 52 = .ok (.ireturn, 1) := by decide +kernel
theorem dX8_one_53 : decode cX8_one 53 = .ok (.iinc 5 (-1), 3) := by decide +kernel
theorem dX8_one_56 : decode cX8_one 56 = .ok (.iinc 6 1, 3) := by decide +kernel
theorem dX8_one_59 : decode cX8_one 59 = .ok (.goto (-35), 3) := by decide +kernel
theorem dX8_one_62 : decode cX8_one 62 = .ok (.iconst (-1), 1) := by decide +kernel
theorem dX8_one_63 : decode cX8_one 63 = .ok (.ireturn, 1) := by decide +kernel
theorem dX8_levelOf_0 : decode cX8_levelOf 0 = .ok (.iconst 0, 1) := by decide +kernel
theorem dX8_levelOf_1 : decode cX8_levelOf 1 = .ok (.istore_n 3, 1) := by decide +kernel
theorem dX8_levelOf_2 : decode cX8_levelOf 2 = .ok (.lconst 0, 1) := by decide +kernel
theorem dX8_levelOf_3 : decode cX8_levelOf 3 = .ok (.lstore 4, 2) := by decide +kernel
theorem dX8_levelOf_5 : decode cX8_levelOf 5 = .ok (.iconst 0, 1) := by decide +kernel
theorem dX8_levelOf_6 : decode cX8_levelOf 6 = .ok (.istore 6, 2) := by decide +kernel
theorem dX8_levelOf_8 : decode cX8_levelOf 8 = .ok (.iload 6, 2) := by decide +kernel
theorem dX8_levelOf_10 : decode cX8_levelOf 10 = .ok (.aload_n 0, 1) := by decide +kernel
theorem dX8_levelOf_11 : decode cX8_levelOf 11 = .ok (.invokevirtual 93, 3) := by decide +kernel
theorem dX8_levelOf_14 : decode cX8_levelOf 14 = .ok (.if_icmp .gt 46, 3) := by decide +kernel
theorem dX8_levelOf_17 : decode cX8_levelOf 17 = .ok (.iload 6, 2) := by decide +kernel
theorem dX8_levelOf_19 : decode cX8_levelOf 19 = .ok (.invokestatic 128, 3) := by decide +kernel
theorem dX8_levelOf_22 : decode cX8_levelOf 22 = .ok (.iload_n 2, 1) := by decide +kernel
theorem dX8_levelOf_23 : decode cX8_levelOf 23 = .ok (.if_icmp .ne 31, 3) := by decide +kernel
theorem dX8_levelOf_26 : decode cX8_levelOf 26 = .ok (.iload_n 3, 1) := by decide +kernel
theorem dX8_levelOf_27 : decode cX8_levelOf 27 = .ok (.ifCond .eq 16, 3) := by decide +kernel
theorem dX8_levelOf_30 : decode cX8_levelOf 30 = .ok (.aload_n 0, 1) := by decide +kernel
theorem dX8_levelOf_31 : decode cX8_levelOf 31 = .ok (.iload_n 1, 1) := by decide +kernel
theorem dX8_levelOf_32 : decode cX8_levelOf 32 = .ok (.iload 6, 2) := by decide +kernel
theorem dX8_levelOf_34 : decode cX8_levelOf 34 = .ok (.invokevirtual 205, 3) := by decide +kernel
theorem dX8_levelOf_37 : decode cX8_levelOf 37 = .ok (.lload 4, 2) := by decide +kernel
theorem dX8_levelOf_39 : decode cX8_levelOf 39 = .ok (.lcmp, 1) := by decide +kernel
theorem dX8_levelOf_40 : decode cX8_levelOf 40 = .ok (.ifCond .ge 14, 3) := by decide +kernel
theorem dX8_levelOf_43 : decode cX8_levelOf 43 = .ok (.iconst 1, 1) := by decide +kernel
theorem dX8_levelOf_44 : decode cX8_levelOf 44 = .ok (.istore_n 3, 1) := by decide +kernel
theorem dX8_levelOf_45 : decode cX8_levelOf 45 = .ok (.aload_n 0, 1) := by decide +kernel
theorem dX8_levelOf_46 : decode cX8_levelOf 46 = .ok (.iload_n 1, 1) := by decide +kernel
theorem dX8_levelOf_47 : decode cX8_levelOf 47 = .ok (.iload 6, 2) := by decide +kernel
theorem dX8_levelOf_49 : decode cX8_levelOf 49 = .ok (.invokevirtual 205, 3) := by decide +kernel
theorem dX8_levelOf_52 : decode cX8_levelOf 52 = .ok (.lstore 4, 2) := by decide +kernel
theorem dX8_levelOf_54 : decode cX8_levelOf 54 = .ok (.iinc 6 1, 3) := by decide +kernel
theorem dX8_levelOf_57 : decode cX8_levelOf 57 = .ok (.goto (-49), 3) := by decide +kernel
theorem dX8_levelOf_60 : decode cX8_levelOf 60 = .ok (.lload 4, 2) := by decide +kernel
theorem dX8_levelOf_62 : decode cX8_levelOf 62 = .ok (.lreturn, 1) := by decide +kernel
theorem dX8_level_0 : decode cX8_level 0 = .ok (.aload_n 0, 1) := by decide +kernel
theorem dX8_level_1 : decode cX8_level 1 = .ok (.iload_n 1, 1) := by decide +kernel
theorem dX8_level_2 : decode cX8_level 2 = .ok (.invokevirtual 157, 3) := by decide +kernel
theorem dX8_level_5 : decode cX8_level 5 = .ok (.ifCond .ne 9, 3) := by decide +kernel
theorem dX8_level_8 : decode cX8_level 8 = .ok (.ldc2_w 108, 3) := by decide +kernel
theorem dX8_level_11 : decode cX8_level 11 = .ok (.goto 29, 3) := by decide +kernel
theorem dX8_level_14 : decode cX8_level 14 = .ok (.iload_n 2, 1) := by decide +kernel
theorem dX8_level_15 : decode cX8_level 15 = .ok (.i2l, 1) := by decide +kernel
theorem dX8_level_16 : decode cX8_level 16 = .ok (.lconst 0, 1) := by decide +kernel
theorem dX8_level_17 : decode cX8_level 17 = .ok (.aload_n 0, 1) := by decide +kernel
theorem dX8_level_18 : decode cX8_level 18 = .ok (.getfield 80, 3) := by decide +kernel
theorem dX8_level_21 : decode cX8_level 21 = .ok (.i2l, 1) := by decide +kernel
theorem dX8_level_22 : decode cX8_level 22 = .ok (.invokestatic 89, 3) := by decide +kernel
theorem dX8_level_25 : decode cX8_level 25 = .ok (.ifCond .eq 12, 3) := by decide +kernel
theorem dX8_level_28 : decode cX8_level 28 = .ok (.aload_n 0, 1) := by decide +kernel
theorem dX8_level_29 : decode cX8_level 29 = .ok (.iload_n 1, 1) := by decide +kernel
theorem dX8_level_30 : decode cX8_level 30 = .ok (.iload_n 2, 1) := by decide +kernel
theorem dX8_level_31 : decode cX8_level 31 = .ok (.invokevirtual 219, 3) := by decide +kernel
theorem dX8_level_34 : decode cX8_level 34 = .ok (.goto 6, 3) := by decide +kernel
theorem dX8_level_37 : decode cX8_level 37 = .ok (.ldc2_w 110, 3) := by decide +kernel
theorem dX8_level_40 : decode cX8_level 40 = .ok (.lreturn, 1) := by decide +kernel
theorem dX8_findBends_0 : decode cX8_findBends 0 = .ok (.iconst 0, 1) := by decide +kernel
theorem dX8_findBends_1 : decode cX8_findBends 1 = .ok (.istore_n 2, 1) := by decide +kernel
theorem dX8_findBends_2 : decode cX8_findBends 2 = .ok (.iload_n 2, 1) := by decide +kernel
theorem dX8_findBends_3 : decode cX8_findBends 3 = .ok (.aload_n 0, 1) := by decide +kernel
theorem dX8_findBends_4 : decode cX8_findBends 4 = .ok (.getfield 80, 3) := by decide +kernel
theorem dX8_findBends_7 : decode cX8_findBends 7 = .ok (.if_icmp .gt 21, 3) := by decide +kernel
theorem dX8_findBends_10 : decode cX8_findBends 10 = .ok (.aload_n 0, 1) := by decide +kernel
theorem dX8_findBends_11 : decode cX8_findBends 11 = .ok (.getfield 70, 3) := by decide +kernel
theorem dX8_findBends_14 : decode cX8_findBends 14 = .ok (.iload_n 2, 1) := by decide +kernel
theorem dX8_findBends_15 : decode cX8_findBends 15 = .ok (.aload_n 0, 1) := by decide +kernel
theorem dX8_findBends_16 : decode cX8_findBends 16 = .ok (.iload_n 1, 1) := by decide +kernel
theorem dX8_findBends_17 : decode cX8_findBends 17 = .ok (.iload_n 2, 1) := by decide +kernel
theorem dX8_findBends_18 : decode cX8_findBends 18 = .ok (.invokevirtual 219, 3) := by decide +kernel
theorem dX8_findBends_21 : decode cX8_findBends 21 = .ok (.lastore, 1) := by decide +kernel
theorem dX8_findBends_22 : decode cX8_findBends 22 = .ok (.iinc 2 1, 3) := by decide +kernel
theorem dX8_findBends_25 : decode cX8_findBends 25 = .ok (.goto (-23), 3) := by decide +kernel
theorem dX8_findBends_28 : decode cX8_findBends 28 = .ok (.aload_n 0, 1) := by decide +kernel
theorem dX8_findBends_29 : decode cX8_findBends 29 = .ok (.getfield 67, 3) := by decide +kernel
theorem dX8_findBends_32 : decode cX8_findBends 32 = .ok (.iconst 0, 1) := by decide +kernel
theorem dX8_findBends_33 : decode cX8_findBends 33 = .ok (.iconst 0, 1) := by decide +kernel
theorem dX8_findBends_34 : decode cX8_findBends 34 = .ok (.iastore, 1) := by decide +kernel
theorem dX8_findBends_35 : decode cX8_findBends 35 = .ok (.iconst 0, 1) := by decide +kernel
theorem dX8_findBends_36 : decode cX8_findBends 36 = .ok (.istore_n 2, 1) := by decide +kernel
theorem dX8_findBends_37 : decode cX8_findBends 37 = .ok (.aload_n 0, 1) := by decide +kernel
theorem dX8_findBends_38 : decode cX8_findBends 38 = .ok (.getfield 67, 3) := by decide +kernel
theorem dX8_findBends_41 : decode cX8_findBends 41 = .ok (.iload_n 2, 1) := by decide +kernel
theorem dX8_findBends_42 : decode cX8_findBends 42 = .ok (.iaload, 1) := by decide +kernel
theorem dX8_findBends_43 : decode cX8_findBends 43 = .ok (.aload_n 0, 1) := by decide +kernel
theorem dX8_findBends_44 : decode cX8_findBends 44 = .ok (.getfield 80, 3) := by decide +kernel
theorem dX8_findBends_47 : decode cX8_findBends 47 = .ok (.if_icmp .ge 110, 3) := by decide +kernel
theorem dX8_findBends_50 : decode cX8_findBends 50 = .ok (.aload_n 0, 1) := by decide +kernel
theorem dX8_findBends_51 : decode cX8_findBends 51 = .ok (.getfield 67, 3) := by decide +kernel
theorem dX8_findBends_54 : decode cX8_findBends 54 = .ok (.iload_n 2, 1) := by decide +kernel
theorem dX8_findBends_55 : decode cX8_findBends 55 = .ok (.iaload, 1) := by decide +kernel
theorem dX8_findBends_56 : decode cX8_findBends 56 = .ok (.istore_n 3, 1) := by decide +kernel
theorem dX8_findBends_57 : decode cX8_findBends 57 = .ok (.iload_n 3, 1) := by decide +kernel
theorem dX8_findBends_58 : decode cX8_findBends 58 = .ok (.iconst 1, 1) := by decide +kernel
theorem dX8_findBends_59 : decode cX8_findBends 59 = .ok (.iadd, 1) := by decide +kernel
theorem dX8_findBends_60 : decode cX8_findBends 60 = .ok (.istore 4, 2) := by decide +kernel
theorem dX8_findBends_62 : decode cX8_findBends 62 = .ok (.iload_n 3, 1) := by decide +kernel
theorem dX8_findBends_63 : decode cX8_findBends 63 = .ok (.iconst 2, 1) := by decide +kernel
theorem dX8_findBends_64 : decode cX8_findBends 64 = .ok (.iadd, 1) := by decide +kernel
theorem dX8_findBends_65 : decode cX8_findBends 65 = .ok (.istore 5, 2) := by decide +kernel
theorem dX8_findBends_67 : decode cX8_findBends 67 = .ok (.iload 5, 2) := by decide +kernel
theorem dX8_findBends_69 : decode cX8_findBends 69 = .ok (.aload_n 0, 1) := by decide +kernel
theorem dX8_findBends_70 : decode cX8_findBends 70 = .ok (.getfield 80, 3) := by decide +kernel
theorem dX8_findBends_73 : decode cX8_findBends 73 = .ok (.if_icmp .gt 70, 3) := by decide +kernel
theorem dX8_findBends_76 : decode cX8_findBends 76 = .ok (.aload_n 0, 1) := by decide +kernel
theorem dX8_findBends_77 : decode cX8_findBends 77 = .ok (.getfield 70, 3) := by decide +kernel
theorem dX8_findBends_80 : decode cX8_findBends 80 = .ok (.iload 5, 2) := by decide +kernel
theorem dX8_findBends_82 : decode cX8_findBends 82 = .ok (.laload, 1) := by decide +kernel
theorem dX8_findBends_83 : decode cX8_findBends 83 = .ok (.aload_n 0, 1) := by decide +kernel
theorem dX8_findBends_84 : decode cX8_findBends 84 = .ok (.getfield 70, 3) := by decide +kernel
theorem dX8_findBends_87 : decode cX8_findBends 87 = .ok (.iload_n 3, 1) := by decide +kernel
theorem dX8_findBends_88 : decode cX8_findBends 88 = .ok (.laload, 1) := by decide +kernel
theorem dX8_findBends_89 : decode cX8_findBends 89 = .ok (.lsub, 1) := by decide +kernel
theorem dX8_findBends_90 : decode cX8_findBends 90 = .ok (.iload 4, 2) := by decide +kernel
theorem dX8_findBends_92 : decode cX8_findBends 92 = .ok (.iload_n 3, 1) := by decide +kernel
theorem dX8_findBends_93 : decode cX8_findBends 93 = .ok (.isub, 1) := by decide +kernel
theorem dX8_findBends_94 : decode cX8_findBends 94 = .ok (.i2l, 1) := by decide +kernel
theorem dX8_findBends_95 : decode cX8_findBends 95 = .ok (.lmul, 1) := by decide +kernel
theorem dX8_findBends_96 : decode cX8_findBends 96 = .ok (.lstore 6, 2) := by decide +kernel
theorem dX8_findBends_98 : decode cX8_findBends 98 = .ok (.aload_n 0, 1) := by decide +kernel
theorem dX8_findBends_99 : decode cX8_findBends 99 = .ok (.getfield 70, 3) := by decide +kernel
theorem dX8_findBends_102 : decode cX8_findBends 102 = .ok (.iload 4, 2) := by decide +kernel
theorem dX8_findBends_104 : decode cX8_findBends 104 = .ok (.laload, 1) := by decide +kernel
theorem dX8_findBends_105 : decode cX8_findBends 105 = .ok (.aload_n 0, 1) := by decide +kernel
theorem dX8_findBends_106 : decode cX8_findBends 106 = .ok (.getfield 70, 3) := by decide +kernel
theorem dX8_findBends_109 : decode cX8_findBends 109 = .ok (.iload_n 3, 1) := by decide +kernel
theorem dX8_findBends_110 : decode cX8_findBends 110 = .ok (.laload, 1) := by decide +kernel
theorem dX8_findBends_111 : decode cX8_findBends 111 = .ok (.lsub, 1) := by decide +kernel
theorem dX8_findBends_112 : decode cX8_findBends 112 = .ok (.iload 5, 2) := by decide +kernel
theorem dX8_findBends_114 : decode cX8_findBends 114 = .ok (.iload_n 3, 1) := by decide +kernel
theorem dX8_findBends_115 : decode cX8_findBends 115 = .ok (.isub, 1) := by decide +kernel
theorem dX8_findBends_116 : decode cX8_findBends 116 = .ok (.i2l, 1) := by decide +kernel
theorem dX8_findBends_117 : decode cX8_findBends 117 = .ok (.lmul, 1) := by decide +kernel
theorem dX8_findBends_118 : decode cX8_findBends 118 = .ok (.lstore 8, 2) := by decide +kernel
theorem dX8_findBends_120 : decode cX8_findBends 120 = .ok (.lload 6, 2) := by decide +kernel
theorem dX8_findBends_122 : decode cX8_findBends 122 = .ok (.lload 8, 2) := by decide +kernel
theorem dX8_findBends_124 : decode cX8_findBends 124 = .ok (.lcmp, 1) := by decide +kernel
theorem dX8_findBends_125 : decode cX8_findBends 125 = .ok (.ifCond .gt 8, 3) := by decide +kernel
theorem dX8_findBends_128 : decode cX8_findBends 128 = .ok (.iload 5, 2) := by decide +kernel
theorem dX8_findBends_130 : decode cX8_findBends 130 = .ok (.goto 5, 3) := by decide +kernel
theorem dX8_findBends_133 : decode cX8_findBends 133 = .ok (.iload 4, 2) := by decide +kernel
theorem dX8_findBends_135 : decode cX8_findBends 135 = .ok (.istore 4, 2) := by decide +kernel
theorem dX8_findBends_137 : decode cX8_findBends 137 = .ok (.iinc 5 1, 3) := by decide +kernel
theorem dX8_findBends_140 : decode cX8_findBends 140 = .ok (.goto (-73), 3) := by decide +kernel
theorem dX8_findBends_143 : decode cX8_findBends 143 = .ok (.iinc 2 1, 3) := by decide +kernel
theorem dX8_findBends_146 : decode cX8_findBends 146 = .ok (.aload_n 0, 1) := by decide +kernel
theorem dX8_findBends_147 : decode cX8_findBends 147 = .ok (.getfield 67, 3) := by decide +kernel
theorem dX8_findBends_150 : decode cX8_findBends 150 = .ok (.iload_n 2, 1) := by decide +kernel
theorem dX8_findBends_151 : decode cX8_findBends 151 = .ok (.iload 4, 2) := by decide +kernel
theorem dX8_findBends_153 : decode cX8_findBends 153 = .ok (.iastore, 1) := by decide +kernel
theorem dX8_findBends_154 : decode cX8_findBends 154 = .ok (.goto (-117), 3) := by decide +kernel
theorem dX8_findBends_157 : decode cX8_findBends 157 = .ok (.iload_n 2, 1) := by decide +kernel
theorem dX8_findBends_158 : decode cX8_findBends 158 = .ok (.ireturn, 1) := by decide +kernel
theorem dX8_bends_0 : decode cX8_bends 0 = .ok (.aload_n 0, 1) := by decide +kernel
theorem dX8_bends_1 : decode cX8_bends 1 = .ok (.iload_n 1, 1) := by decide +kernel
theorem dX8_bends_2 : decode cX8_bends 2 = .ok (.invokevirtual 157, 3) := by decide +kernel
theorem dX8_bends_5 : decode cX8_bends 5 = .ok (.ifCond .eq 11, 3) := by decide +kernel
theorem dX8_bends_8 : decode cX8_bends 8 = .ok (.aload_n 0, 1) := by decide +kernel
theorem dX8_bends_9 : decode cX8_bends 9 = .ok (.iload_n 1, 1) := by decide +kernel
theorem dX8_bends_10 : decode cX8_bends 10 = .ok (.invokevirtual 222, 3) := by decide +kernel
theorem dX8_bends_13 : decode cX8_bends 13 = .ok (.goto 6, 3) := by decide +kernel
theorem dX8_bends_16 : decode cX8_bends 16 = .ok (.sipush (-1001), 3) := by decide +kernel
theorem dX8_bends_19 : decode cX8_bends 19 = .ok (.ireturn, 1) := by decide +kernel
theorem dX8_bend_0 : decode cX8_bend 0 = .ok (.aload_n 0, 1) := by decide +kernel
theorem dX8_bend_1 : decode cX8_bend 1 = .ok (.iload_n 1, 1) := by decide +kernel
theorem dX8_bend_2 : decode cX8_bend 2 = .ok (.invokevirtual 157, 3) := by decide +kernel
theorem dX8_bend_5 : decode cX8_bend 5 = .ok (.ifCond .eq 20, 3) := by decide +kernel
theorem dX8_bend_8 : decode cX8_bend 8 = .ok (.iload_n 2, 1) := by decide +kernel
theorem dX8_bend_9 : decode cX8_bend 9 = .ok (.i2l, 1) := by decide +kernel
theorem dX8_bend_10 : decode cX8_bend 10 = .ok (.lconst 0, 1) := by decide +kernel
theorem dX8_bend_11 : decode cX8_bend 11 = .ok (.aload_n 0, 1) := by decide +kernel
theorem dX8_bend_12 : decode cX8_bend 12 = .ok (.iload_n 1, 1) := by decide +kernel
theorem dX8_bend_13 : decode cX8_bend 13 = .ok (.invokevirtual 222, 3) := by decide +kernel
theorem dX8_bend_16 : decode cX8_bend 16 = .ok (.iconst 1, 1) := by decide +kernel
theorem dX8_bend_17 : decode cX8_bend 17 = .ok (.isub, 1) := by decide +kernel
theorem dX8_bend_18 : decode cX8_bend 18 = .ok (.i2l, 1) := by decide +kernel
theorem dX8_bend_19 : decode cX8_bend 19 = .ok (.invokestatic 89, 3) := by decide +kernel
theorem dX8_bend_22 : decode cX8_bend 22 = .ok (.ifCond .ne 7, 3) := by decide +kernel
theorem dX8_bend_25 : decode cX8_bend 25 = .ok (.ldc2_w 108, 3) := by decide +kernel
theorem dX8_bend_28 : decode cX8_bend 28 = .ok (.lreturn, 1) := by decide +kernel
theorem dX8_bend_29 : decode cX8_bend 29 = .ok (.iload_n 3, 1) := by decide +kernel
theorem dX8_bend_30 : decode cX8_bend 30 = .ok (.i2l, 1) := by decide +kernel
theorem dX8_bend_31 : decode cX8_bend 31 = .ok (.lconst 0, 1) := by decide +kernel
theorem dX8_bend_32 : decode cX8_bend 32 = .ok (.ldc2_w 97, 3) := by decide +kernel
theorem dX8_bend_35 : decode cX8_bend 35 = .ok (.invokestatic 89, 3) := by decide +kernel
theorem dX8_bend_38 : decode cX8_bend 38 = .ok (.ifCond .ne 7, 3) := by decide +kernel
theorem dX8_bend_41 : decode cX8_bend 41 = .ok (.ldc2_w 110, 3) := by decide +kernel
theorem dX8_bend_44 : decode cX8_bend 44 = .ok (.lreturn, 1) := by decide +kernel
theorem dX8_bend_45 : decode cX8_bend 45 = .ok (.aload_n 0, 1) := by decide +kernel
theorem dX8_bend_46 : decode cX8_bend 46 = .ok (.getfield 70, 3) := by decide +kernel
theorem dX8_bend_49 : decode cX8_bend 49 = .ok (.aload_n 0, 1) := by decide +kernel
theorem dX8_bend_50 : decode cX8_bend 50 = .ok (.getfield 67, 3) := by decide +kernel
theorem dX8_bend_53 : decode cX8_bend 53 = .ok (.iload_n 2, 1) := by decide +kernel
theorem dX8_bend_54 : decode cX8_bend 54 = .ok (.iconst 1, 1) := by decide +kernel
theorem dX8_bend_55 : decode cX8_bend 55 = .ok (.iadd, 1) := by decide +kernel
theorem dX8_bend_56 : decode cX8_bend 56 = .ok (.iaload, 1) := by decide +kernel
theorem dX8_bend_57 : decode cX8_bend 57 = .ok (.laload, 1) := by decide +kernel
theorem dX8_bend_58 : decode cX8_bend 58 = .ok (.aload_n 0, 1) := by decide +kernel
theorem dX8_bend_59 : decode cX8_bend 59 = .ok (.getfield 70, 3) := by decide +kernel
theorem dX8_bend_62 : decode cX8_bend 62 = .ok (.aload_n 0, 1) := by decide +kernel
theorem dX8_bend_63 : decode cX8_bend 63 = .ok (.getfield 67, 3) := by decide +kernel
theorem dX8_bend_66 : decode cX8_bend 66 = .ok (.iload_n 2, 1) := by decide +kernel
theorem dX8_bend_67 : decode cX8_bend 67 = .ok (.iaload, 1) := by decide +kernel
theorem dX8_bend_68 : decode cX8_bend 68 = .ok (.laload, 1) := by decide +kernel
theorem dX8_bend_69 : decode cX8_bend 69 = .ok (.lsub, 1) := by decide +kernel
theorem dX8_bend_70 : decode cX8_bend 70 = .ok (.lstore 4, 2) := by decide +kernel
theorem dX8_bend_72 : decode cX8_bend 72 = .ok (.aload_n 0, 1) := by decide +kernel
theorem dX8_bend_73 : decode cX8_bend 73 = .ok (.getfield 67, 3) := by decide +kernel
theorem dX8_bend_76 : decode cX8_bend 76 = .ok (.iload_n 2, 1) := by decide +kernel
theorem dX8_bend_77 : decode cX8_bend 77 = .ok (.iconst 1, 1) := by decide +kernel
theorem dX8_bend_78 : decode cX8_bend 78 = .ok (.iadd, 1) := by decide +kernel
theorem dX8_bend_79 : decode cX8_bend 79 = .ok (.iaload, 1) := by decide +kernel
theorem dX8_bend_80 : decode cX8_bend 80 = .ok (.aload_n 0, 1) := by decide +kernel
theorem dX8_bend_81 : decode cX8_bend 81 = .ok (.getfield 67, 3) := by decide +kernel
theorem dX8_bend_84 : decode cX8_bend 84 = .ok (.iload_n 2, 1) := by decide +kernel
theorem dX8_bend_85 : decode cX8_bend 85 = .ok (.iaload, 1) := by decide +kernel
theorem dX8_bend_86 : decode cX8_bend 86 = .ok (.isub, 1) := by decide +kernel
theorem dX8_bend_87 : decode cX8_bend 87 = .ok (.i2l, 1) := by decide +kernel
theorem dX8_bend_88 : decode cX8_bend 88 = .ok (.lstore 6, 2) := by decide +kernel
theorem dX8_bend_90 : decode cX8_bend 90 = .ok (.lload 4, 2) := by decide +kernel
theorem dX8_bend_92 : decode cX8_bend 92 = .ok (.lload 6, 2) := by decide +kernel
theorem dX8_bend_94 : decode cX8_bend 94 = .ok (.invokestatic 120, 3) := by decide +kernel
theorem dX8_bend_97 : decode cX8_bend 97 = .ok (.lstore 8, 2) := by decide +kernel
theorem dX8_bend_99 : decode cX8_bend 99 = .ok (.iload_n 3, 1) := by decide +kernel
theorem dX8_bend_100 : decode cX8_bend 100 = .ok (.ifCond .ne 11, 3) := by decide +kernel
theorem dX8_bend_103 : decode cX8_bend 103 = .ok (.lload 4, 2) := by decide +kernel
theorem dX8_bend_105 : decode cX8_bend 105 = .ok (.lload 8, 2) := by decide +kernel
theorem dX8_bend_107 : decode cX8_bend 107 = .ok (.ldiv, 1) := by decide +kernel
theorem dX8_bend_108 : decode cX8_bend 108 = .ok (.goto 40, 3) := by decide +kernel
theorem dX8_bend_111 : decode cX8_bend 111 = .ok (.iload_n 3, 1) := by decide +kernel
theorem dX8_bend_112 : decode cX8_bend 112 = .ok (.iconst 1, 1) := by decide +kernel
theorem dX8_bend_113 : decode cX8_bend 113 = .ok (.if_icmp .ne 11, 3) := by decide +kernel
theorem dX8_bend_116 : decode cX8_bend 116 = .ok (.lload 6, 2) := by decide +kernel
theorem dX8_bend_118 : decode cX8_bend 118 = .ok (.lload 8, 2) := by decide +kernel
theorem dX8_bend_120 : decode cX8_bend 120 = .ok (.ldiv, 1) := by decide +kernel
theorem dX8_bend_121 : decode cX8_bend 121 = .ok (.goto 27, 3) := by decide +kernel
theorem dX8_bend_124 : decode cX8_bend 124 = .ok (.iload_n 3, 1) := by decide +kernel
theorem dX8_bend_125 : decode cX8_bend 125 = .ok (.iconst 2, 1) := by decide +kernel
theorem dX8_bend_126 : decode cX8_bend 126 = .ok (.if_icmp .ne 13, 3) := by decide +kernel
theorem dX8_bend_129 : decode cX8_bend 129 = .ok (.aload_n 0, 1) := by decide +kernel
theorem dX8_bend_130 : decode cX8_bend 130 = .ok (.getfield 67, 3) := by decide +kernel
theorem dX8_bend_133 : decode cX8_bend 133 = .ok (.iload_n 2, 1) := by decide +kernel
