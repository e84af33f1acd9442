theorem dX8_bend_134 : decode cX8_bend 134 = .ok (.iaload, 1) := by decide +kernel
theorem dX8_bend_135 : decode cX8_bend 135 = .ok (.i2l, 1) := by decide +kernel
theorem dX8_bend_136 : decode cX8_bend 136 = .ok (.goto 12, 3) := by decide +kernel
theorem dX8_bend_139 : decode cX8_bend 139 = .ok (.aload_n 0, 1) := by decide +kernel
theorem dX8_bend_140 : decode cX8_bend 140 = .ok (.getfield 67, 3) := by decide +kernel
theorem dX8_bend_143 : decode cX8_bend 143 = .ok (.iload_n 2, 1) := by decide +kernel
theorem dX8_bend_144 : decode cX8_bend 144 = .ok (.iconst 1, 1) := by decide +kernel
theorem dX8_bend_145 : decode cX8_bend 145 = .ok (.iadd, 1) := by decide +kernel
theorem dX8_bend_146 : decode cX8_bend 146 = .ok (.iaload, 1) := by decide +kernel
theorem dX8_bend_147 : decode cX8_bend 147 = .ok (.i2l, 1) := by decide +kernel
theorem dX8_bend_148 : decode cX8_bend 148 = .ok (.lreturn, 1) := by decide +kernel
theorem dX8_order_0 : decode cX8_order 0 = .ok (.aload_n 0, 1) := by decide +kernel
theorem dX8_order_1 : decode cX8_order 1 = .ok (.iload_n 1, 1) := by decide +kernel
theorem dX8_order_2 : decode cX8_order 2 = .ok (.invokevirtual 180, 3) := by decide +kernel
theorem dX8_order_5 : decode cX8_order 5 = .ok (.ifCond .ne 7, 3) := by decide +kernel
theorem dX8_order_8 : decode cX8_order 8 = .ok (.sipush (-1001), 3) := by decide +kernel
theorem dX8_order_11 : decode cX8_order 11 = .ok (.ireturn, 1) := by decide +kernel
theorem dX8_order_12 : decode cX8_order 12 = .ok (.iload_n 2, 1) := by decide +kernel
theorem dX8_order_13 : decode cX8_order 13 = .ok (.i2l, 1) := by decide +kernel
theorem dX8_order_14 : decode cX8_order 14 = .ok (.lconst 0, 1) := by decide +kernel
theorem dX8_order_15 : decode cX8_order 15 = .ok (.aload_n 0, 1) := by decide +kernel
theorem dX8_order_16 : decode cX8_order 16 = .ok (.getfield 80, 3) := by decide +kernel
theorem dX8_order_19 : decode cX8_order 19 = .ok (.iconst 1, 1) := by decide +kernel
theorem dX8_order_20 : decode cX8_order 20 = .ok (.isub, 1) := by decide +kernel
theorem dX8_order_21 : decode cX8_order 21 = .ok (.i2l, 1) := by decide +kernel
theorem dX8_order_22 : decode cX8_order 22 = .ok (.invokestatic 89, 3) := by decide +kernel
theorem dX8_order_25 : decode cX8_order 25 = .ok (.ifCond .ne 7, 3) := by decide +kernel
theorem dX8_order_28 : decode cX8_order 28 = .ok (.sipush (-1002), 3) := by decide +kernel
theorem dX8_order_31 : decode cX8_order 31 = .ok (.ireturn, 1) := by decide +kernel
theorem dX8_order_32 : decode cX8_order 32 = .ok (.iconst 0, 1) := by decide +kernel
theorem dX8_order_33 : decode cX8_order 33 = .ok (.istore_n 3, 1) := by decide +kernel
theorem dX8_order_34 : decode cX8_order 34 = .ok (.aload_n 0, 1) := by decide +kernel
theorem dX8_order_35 : decode cX8_order 35 = .ok (.getfield 45, 3) := by decide +kernel
theorem dX8_order_38 : decode cX8_order 38 = .ok (.iload_n 3, 1) := by decide +kernel
theorem dX8_order_39 : decode cX8_order 39 = .ok (.iaload, 1) := by decide +kernel
theorem dX8_order_40 : decode cX8_order 40 = .ok (.iload_n 1, 1) := by decide +kernel
theorem dX8_order_41 : decode cX8_order 41 = .ok (.if_icmp .eq 9, 3) := by decide +kernel
theorem dX8_order_44 : decode cX8_order 44 = .ok (.iinc 3 1, 3) := by decide +kernel
theorem dX8_order_47 : decode cX8_order 47 = .ok (.goto (-13), 3) := by decide +kernel
theorem dX8_order_50 : decode cX8_order 50 = .ok (.iload_n 3, 1) := by decide +kernel
theorem dX8_order_51 : decode cX8_order 51 = .ok (.istore 4, 2) := by decide +kernel
theorem dX8_order_53 : decode cX8_order 53 = .ok (.iload 4, 2) := by decide +kernel
theorem dX8_order_55 : decode cX8_order 55 = .ok (.iload_n 2, 1) := by decide +kernel
theorem dX8_order_56 : decode cX8_order 56 = .ok (.if_icmp .ge 25, 3) := by decide +kernel
theorem dX8_order_59 : decode cX8_order 59 = .ok (.aload_n 0, 1) := by decide +kernel
theorem dX8_order_60 : decode cX8_order 60 = .ok (.getfield 45, 3) := by decide +kernel
theorem dX8_order_63 : decode cX8_order 63 = .ok (.iload 4, 2) := by decide +kernel
theorem dX8_order_65 : decode cX8_order 65 = .ok (.aload_n 0, 1) := by decide +kernel
theorem dX8_order_66 : decode cX8_order 66 = .ok (.getfield 45, 3) := by decide +kernel
theorem dX8_order_69 : decode cX8_order 69 = .ok (.iload 4, 2) := by decide +kernel
theorem dX8_order_71 : decode cX8_order 71 = .ok (.iconst 1, 1) := by decide +kernel
theorem dX8_order_72 : decode cX8_order 72 = .ok (.iadd, 1) := by decide +kernel
theorem dX8_order_73 : decode cX8_order 73 = .ok (.iaload, 1) := by decide +kernel
theorem dX8_order_74 : decode cX8_order 74 = .ok (.iastore, 1) := by decide +kernel
theorem dX8_order_75 : decode cX8_order 75 = .ok (.iinc 4 1, 3) := by decide +kernel
theorem dX8_order_78 : decode cX8_order 78 = .ok (.goto (-25), 3) := by decide +kernel
theorem dX8_order_81 : decode cX8_order 81 = .ok (.iload_n 3, 1) := by decide +kernel
theorem dX8_order_82 : decode cX8_order 82 = .ok (.istore 4, 2) := by decide +kernel
theorem dX8_order_84 : decode cX8_order 84 = .ok (.iload 4, 2) := by decide +kernel
theorem dX8_order_86 : decode cX8_order 86 = .ok (.iload_n 2, 1) := by decide +kernel
theorem dX8_order_87 : decode cX8_order 87 = .ok (.if_icmp .le 25, 3) := by decide +kernel
theorem dX8_order_90 : decode cX8_order 90 = .ok (.aload_n 0, 1) := by decide +kernel
theorem dX8_order_91 : decode cX8_order 91 = .ok (.getfield 45, 3) := by decide +kernel
theorem dX8_order_94 : decode cX8_order 94 = .ok (.iload 4, 2) := by decide +kernel
theorem dX8_order_96 : decode cX8_order 96 = .ok (.aload_n 0, 1) := by decide +kernel
theorem dX8_order_97 : decode cX8_order 97 = .ok (.getfield 45, 3) := by decide +kernel
theorem dX8_order_100 : decode cX8_order 100 = .ok (.iload 4, 2) := by decide +kernel
theorem dX8_order_102 : decode cX8_order 102 = .ok (.iconst 1, 1) := by decide +kernel
theorem dX8_order_103 : decode cX8_order 103 = .ok (.isub, 1) := by decide +kernel
theorem dX8_order_104 : decode cX8_order 104 = .ok (.iaload, 1) := by decide +kernel
theorem dX8_order_105 : decode cX8_order 105 = .ok (.iastore, 1) := by decide +kernel
theorem dX8_order_106 : decode cX8_order 106 = .ok (.iinc 4 (-1), 3) := by decide +kernel
theorem dX8_order_109 : decode cX8_order 109 = .ok (.goto (-25), 3) := by decide +kernel
theorem dX8_order_112 : decode cX8_order 112 = .ok (.aload_n 0, 1) := by decide +kernel
theorem dX8_order_113 : decode cX8_order 113 = .ok (.getfield 45, 3) := by decide +kernel
theorem dX8_order_116 : decode cX8_order 116 = .ok (.iload_n 2, 1) := by decide +kernel
theorem dX8_order_117 : decode cX8_order 117 = .ok (.iload_n 1, 1) := by decide +kernel
theorem dX8_order_118 : decode cX8_order 118 = .ok (.iastore, 1) := by decide +kernel
theorem dX8_order_119 : decode cX8_order 119 = .ok (.iload_n 3, 1) := by decide +kernel
theorem dX8_order_120 : decode cX8_order 120 = .ok (.ireturn, 1) := by decide +kernel
theorem dX8_findCorner_0 : decode cX8_findCorner 0 = .ok (.iconst 0, 1) := by decide +kernel
theorem dX8_findCorner_1 : decode cX8_findCorner 1 = .ok (.istore_n 2, 1) := by decide +kernel
theorem dX8_findCorner_2 : decode cX8_findCorner 2 = .ok (.iconst 0, 1) := by decide +kernel
theorem dX8_findCorner_3 : decode cX8_findCorner 3 = .ok (.istore_n 3, 1) := by decide +kernel
theorem dX8_findCorner_4 : decode cX8_findCorner 4 = .ok (.iload_n 3, 1) := by decide +kernel
theorem dX8_findCorner_5 : decode cX8_findCorner 5 = .ok (.aload_n 0, 1) := by decide +kernel
theorem dX8_findCorner_6 : decode cX8_findCorner 6 = .ok (.getfield 80, 3) := by decide +kernel
theorem dX8_findCorner_9 : decode cX8_findCorner 9 = .ok (.if_icmp .ge 49, 3) := by decide +kernel
theorem dX8_findCorner_12 : decode cX8_findCorner 12 = .ok (.aload_n 0, 1) := by decide +kernel
theorem dX8_findCorner_13 : decode cX8_findCorner 13 = .ok (.getfield 45, 3) := by decide +kernel
theorem dX8_findCorner_16 : decode cX8_findCorner 16 = .ok (.iload_n 3, 1) := by decide +kernel
theorem dX8_findCorner_17 : decode cX8_findCorner 17 = .ok (.iaload, 1) := by decide +kernel
theorem dX8_findCorner_18 : decode cX8_findCorner 18 = .ok (.istore 4, 2) := by decide +kernel
theorem dX8_findCorner_20 : decode cX8_findCorner 20 = .ok (.aload_n 0, 1) := by decide +kernel
theorem dX8_findCorner_21 : decode cX8_findCorner 21 = .ok (.getfield 73, 3) := by decide +kernel
theorem dX8_findCorner_24 : decode cX8_findCorner 24 = .ok (.iload 4, 2) := by decide +kernel
theorem dX8_findCorner_26 : decode cX8_findCorner 26 = .ok (.aload_n 0, 1) := by decide +kernel
theorem dX8_findCorner_27 : decode cX8_findCorner 27 = .ok (.iload_n 1, 1) := by decide +kernel
theorem dX8_findCorner_28 : decode cX8_findCorner 28 = .ok (.iload_n 2, 1) := by decide +kernel
theorem dX8_findCorner_29 : decode cX8_findCorner 29 = .ok (.iconst 1, 1) := by decide +kernel
theorem dX8_findCorner_30 : decode cX8_findCorner 30 = .ok (.iload 4, 2) := by decide +kernel
theorem dX8_findCorner_32 : decode cX8_findCorner 32 = .ok (.ishl, 1) := by decide +kernel
theorem dX8_findCorner_33 : decode cX8_findCorner 33 = .ok (.ior, 1) := by decide +kernel
theorem dX8_findCorner_34 : decode cX8_findCorner 34 = .ok (.invokevirtual 205, 3) := by decide +kernel
theorem dX8_findCorner_37 : decode cX8_findCorner 37 = .ok (.aload_n 0, 1) := by decide +kernel
theorem dX8_findCorner_38 : decode cX8_findCorner 38 = .ok (.iload_n 1, 1) := by decide +kernel
theorem dX8_findCorner_39 : decode cX8_findCorner 39 = .ok (.iload_n 2, 1) := by decide +kernel
theorem dX8_findCorner_40 : decode cX8_findCorner 40 = .ok (.invokevirtual 205, 3) := by decide +kernel
theorem dX8_findCorner_43 : decode cX8_findCorner 43 = .ok (.lsub, 1) := by decide +kernel
theorem dX8_findCorner_44 : decode cX8_findCorner 44 = .ok (.lastore, 1) := by decide +kernel
theorem dX8_findCorner_45 : decode cX8_findCorner 45 = .ok (.iload_n 2, 1) := by decide +kernel
theorem dX8_findCorner_46 : decode cX8_findCorner 46 = .ok (.iconst 1, 1) := by decide +kernel
theorem dX8_findCorner_47 : decode cX8_findCorner 47 = .ok (.iload 4, 2) := by decide +kernel
theorem dX8_findCorner_49 : decode cX8_findCorner 49 = .ok (.ishl, 1) := by decide +kernel
theorem dX8_findCorner_50 : decode cX8_findCorner 50 = .ok (.ior, 1) := by decide +kernel
theorem dX8_findCorner_51 : decode cX8_findCorner 51 = .ok (.istore_n 2, 1) := by decide +kernel
theorem dX8_findCorner_52 : decode cX8_findCorner 52 = .ok (.iinc 3 1, 3) := by decide +kernel
theorem dX8_findCorner_55 : decode cX8_findCorner 55 = .ok (.goto (-51), 3) := by decide +kernel
theorem dX8_findCorner_58 : decode cX8_findCorner 58 = .ok (.return_, 1) := by decide +kernel
theorem dX8_corner_0 : decode cX8_corner 0 = .ok (.aload_n 0, 1) := by decide +kernel
theorem dX8_corner_1 : decode cX8_corner 1 = .ok (.iload_n 1, 1) := by decide +kernel
theorem dX8_corner_2 : decode cX8_corner 2 = .ok (.invokevirtual 157, 3) := by decide +kernel
theorem dX8_corner_5 : decode cX8_corner 5 = .ok (.ifCond .ne 7, 3) := by decide +kernel
theorem dX8_corner_8 : decode cX8_corner 8 = .ok (.sipush (-1001), 3) := by decide +kernel
theorem dX8_corner_11 : decode cX8_corner 11 = .ok (.ireturn, 1) := by decide +kernel
theorem dX8_corner_12 : decode cX8_corner 12 = .ok (.aload_n 0, 1) := by decide +kernel
theorem dX8_corner_13 : decode cX8_corner 13 = .ok (.iload_n 1, 1) := by decide +kernel
theorem dX8_corner_14 : decode cX8_corner 14 = .ok (.invokevirtual 225, 3) := by decide +kernel
theorem dX8_corner_17 : decode cX8_corner 17 = .ok (.iconst 0, 1) := by decide +kernel
theorem dX8_corner_18 : decode cX8_corner 18 = .ok (.istore_n 2, 1) := by decide +kernel
theorem dX8_corner_19 : decode cX8_corner 19 = .ok (.iload_n 2, 1) := by decide +kernel
theorem dX8_corner_20 : decode cX8_corner 20 = .ok (.aload_n 0, 1) := by decide +kernel
theorem dX8_corner_21 : decode cX8_corner 21 = .ok (.getfield 80, 3) := by decide +kernel
theorem dX8_corner_24 : decode cX8_corner 24 = .ok (.if_icmp .ge 21, 3) := by decide +kernel
theorem dX8_corner_27 : decode cX8_corner 27 = .ok (.aload_n 0, 1) := by decide +kernel
theorem dX8_corner_28 : decode cX8_corner 28 = .ok (.getfield 48, 3) := by decide +kernel
theorem dX8_corner_31 : decode cX8_corner 31 = .ok (.iload_n 2, 1) := by decide +kernel
theorem dX8_corner_32 : decode cX8_corner 32 = .ok (.aload_n 0, 1) := by decide +kernel
theorem dX8_corner_33 : decode cX8_corner 33 = .ok (.getfield 73, 3) := by decide +kernel
theorem dX8_corner_36 : decode cX8_corner 36 = .ok (.iload_n 2, 1) := by decide +kernel
theorem dX8_corner_37 : decode cX8_corner 37 = .ok (.laload, 1) := by decide +kernel
theorem dX8_corner_38 : decode cX8_corner 38 = .ok (.lastore, 1) := by decide +kernel
theorem dX8_corner_39 : decode cX8_corner 39 = .ok (.iinc 2 1, 3) := by decide +kernel
theorem dX8_corner_42 : decode cX8_corner 42 = .ok (.goto (-23), 3) := by decide +kernel
theorem dX8_corner_45 : decode cX8_corner 45 = .ok (.aload_n 0, 1) := by decide +kernel
theorem dX8_corner_46 : decode cX8_corner 46 = .ok (.lconst 1, 1) := by decide +kernel
theorem dX8_corner_47 : decode cX8_corner 47 = .ok (.putfield 51, 3) := by decide +kernel
theorem dX8_corner_50 : decode cX8_corner 50 = .ok (.iconst 1, 1) := by decide +kernel
theorem dX8_corner_51 : decode cX8_corner 51 = .ok (.ireturn, 1) := by decide +kernel
theorem dX8_mix_0 : decode cX8_mix 0 = .ok (.aload_n 0, 1) := by decide +kernel
theorem dX8_mix_1 : decode cX8_mix 1 = .ok (.iload_n 1, 1) := by decide +kernel
theorem dX8_mix_2 : decode cX8_mix 2 = .ok (.invokevirtual 157, 3) := by decide +kernel
theorem dX8_mix_5 : decode cX8_mix 5 = .ok (.ifCond .ne 7, 3) := by decide +kernel
theorem dX8_mix_8 : decode cX8_mix 8 = .ok (.sipush (-1001), 3) := by decide +kernel
theorem dX8_mix_11 : decode cX8_mix 11 = .ok (.ireturn, 1) := by decide +kernel
theorem dX8_mix_12 : decode cX8_mix 12 = .ok (.iload_n 2, 1) := by decide +kernel
theorem dX8_mix_13 : decode cX8_mix 13 = .ok (.i2l, 1) := by decide +kernel
theorem dX8_mix_14 : decode cX8_mix 14 = .ok (.lconst 0, 1) := by decide +kernel
theorem dX8_mix_15 : decode cX8_mix 15 = .ok (.ldc2_w 228, 3) := by decide +kernel
theorem dX8_mix_18 : decode cX8_mix 18 = .ok (.invokestatic 89, 3) := by decide +kernel
theorem dX8_mix_21 : decode cX8_mix 21 = .ok (.ifCond .eq 23, 3) := by decide +kernel
theorem dX8_mix_24 : decode cX8_mix 24 = .ok (.iload_n 3, 1) := by decide +kernel
theorem dX8_mix_25 : decode cX8_mix 25 = .ok (.i2l, 1) := by decide +kernel
theorem dX8_mix_26 : decode cX8_mix 26 = .ok (.lconst 0, 1) := by decide +kernel
theorem dX8_mix_27 : decode cX8_mix 27 = .ok (.ldc2_w 228, 3) := by decide +kernel
theorem dX8_mix_30 : decode cX8_mix 30 = .ok (.invokestatic 89, 3) := by decide +kernel
theorem dX8_mix_33 : decode cX8_mix 33 = .ok (.ifCond .eq 11, 3) := by decide +kernel
theorem dX8_mix_36 : decode cX8_mix 36 = .ok (.iload_n 2, 1) := by decide +kernel
theorem dX8_mix_37 : decode cX8_mix 37 = .ok (.ifCond .ne 11, 3) := by decide +kernel
theorem dX8_mix_40 : decode cX8_mix 40 = .ok (.iload_n 3, 1) := by decide +kernel
theorem dX8_mix_41 : decode cX8_mix 41 = .ok (.ifCond .ne 7, 3) := by decide +kernel
theorem dX8_mix_44 : decode cX8_mix 44 = .ok (.sipush (-1002), 3) := by decide +kernel
theorem dX8_mix_47 : decode cX8_mix 47 = .ok (.ireturn, 1) := by decide +kernel
theorem dX8_mix_48 : decode cX8_mix 48 = .ok (.aload_n 0, 1) := by decide +kernel
theorem dX8_mix_49 : decode cX8_mix 49 = .ok (.iload_n 1, 1) := by decide +kernel
theorem dX8_mix_50 : decode cX8_mix 50 = .ok (.invokevirtual 225, 3) := by decide +kernel
theorem dX8_mix_53 : decode cX8_mix 53 = .ok (.aload_n 0, 1) := by decide +kernel
theorem dX8_mix_54 : decode cX8_mix 54 = .ok (.getfield 51, 3) := by decide +kernel
theorem dX8_mix_57 : decode cX8_mix 57 = .ok (.iload_n 2, 1) := by decide +kernel
theorem dX8_mix_58 : decode cX8_mix 58 = .ok (.i2l, 1) := by decide +kernel
theorem dX8_mix_59 : decode cX8_mix 59 = .ok (.lmul, 1) := by decide +kernel
theorem dX8_mix_60 : decode cX8_mix 60 = .ok (.iload_n 3, 1) := by decide +kernel
theorem dX8_mix_61 : decode cX8_mix 61 = .ok (.i2l, 1) := by decide +kernel
theorem dX8_mix_62 : decode cX8_mix 62 = .ok (.ladd, 1) := by decide +kernel
theorem dX8_mix_63 : decode cX8_mix 63 = .ok (.ldc2_w 174, 3) := by decide +kernel
theorem dX8_mix_66 : decode cX8_mix 66 = .ok (.lcmp, 1) := by decide +kernel
theorem dX8_mix_67 : decode cX8_mix 67 = .ok (.ifCond .gt 7, 3) := by decide +kernel
theorem dX8_mix_70 : decode cX8_mix 70 = .ok (.iconst 1, 1) := by decide +kernel
theorem dX8_mix_71 : decode cX8_mix 71 = .ok (.goto 4, 3) := by decide +kernel
theorem dX8_mix_74 : decode cX8_mix 74 = .ok (.iconst 0, 1) := by decide +kernel
theorem dX8_mix_75 : decode cX8_mix 75 = .ok (.istore 4, 2) := by decide +kernel
theorem dX8_mix_77 : decode cX8_mix 77 = .ok (.iconst 0, 1) := by decide +kernel
theorem dX8_mix_78 : decode cX8_mix 78 = .ok (.istore 5, 2) := by decide +kernel
theorem dX8_mix_80 : decode cX8_mix 80 = .ok (.iload 5, 2) := by decide +kernel
theorem dX8_mix_82 : decode cX8_mix 82 = .ok (.aload_n 0, 1) := by decide +kernel
theorem dX8_mix_83 : decode cX8_mix 83 = .ok (.getfield 80, 3) := by decide +kernel
theorem dX8_mix_86 : decode cX8_mix 86 = .ok (.if_icmp .ge 52, 3) := by decide +kernel
theorem dX8_mix_89 : decode cX8_mix 89 = .ok (.iload 4, 2) := by decide +kernel
theorem dX8_mix_91 : decode cX8_mix 91 = .ok (.ifCond .eq 38, 3) := by decide +kernel
theorem dX8_mix_94 : decode cX8_mix 94 = .ok (.aload_n 0, 1) := by decide +kernel
theorem dX8_mix_95 : decode cX8_mix 95 = .ok (.getfield 48, 3) := by decide +kernel
theorem dX8_mix_98 : decode cX8_mix 98 = .ok (.iload 5, 2) := by decide +kernel
theorem dX8_mix_100 : decode cX8_mix 100 = .ok (.laload, 1) := by decide +kernel
theorem dX8_mix_101 : decode cX8_mix 101 = .ok (.iload_n 2, 1) := by decide +kernel
theorem dX8_mix_102 : decode cX8_mix 102 = .ok (.i2l, 1) := by decide +kernel
theorem dX8_mix_103 : decode cX8_mix 103 = .ok (.lmul, 1) := by decide +kernel
theorem dX8_mix_104 : decode cX8_mix 104 = .ok (.aload_n 0, 1) := by decide +kernel
theorem dX8_mix_105 : decode cX8_mix 105 = .ok (.getfield 73, 3) := by decide +kernel
theorem dX8_mix_108 : decode cX8_mix 108 = .ok (.iload 5, 2) := by decide +kernel
theorem dX8_mix_110 : decode cX8_mix 110 = .ok (.laload, 1) := by decide +kernel
theorem dX8_mix_111 : decode cX8_mix 111 = .ok (.iload_n 3, 1) := by decide +kernel
theorem dX8_mix_112 : decode cX8_mix 112 = .ok (.i2l, 1) := by decide +kernel
theorem dX8_mix_113 : decode cX8_mix 113 = .ok (.lmul, 1) := by decide +kernel
theorem dX8_mix_114 : decode cX8_mix 114 = .ok (.ladd, 1) := by decide +kernel
theorem dX8_mix_115 : decode cX8_mix 115 = .ok (.invokestatic 124, 3) := by decide +kernel
theorem dX8_mix_118 : decode cX8_mix 118 = .ok (.ldc2_w 230, 3) := by decide +kernel
theorem dX8_mix_121 : decode cX8_mix 121 = .ok (.lcmp, 1) := by decide +kernel
theorem dX8_mix_122 : decode cX8_mix 122 = .ok (.ifCond .gt 7, 3) := by decide +kernel
theorem dX8_mix_125 : decode cX8_mix 125 = .ok (.iconst 1, 1) := by decide +kernel
theorem dX8_mix_126 : decode cX8_mix 126 = .ok (.goto 4, 3) := by decide +kernel
theorem dX8_mix_129 : decode cX8_mix 129 = .ok (.iconst 0, 1) := by decide +kernel
theorem dX8_mix_130 : decode cX8_mix 130 = .ok (.istore 4, 2) := by decide +kernel
theorem dX8_mix_132 : decode cX8_mix 132 = .ok (.iinc 5 1, 3) := by decide +kernel
theorem dX8_mix_135 : decode cX8_mix 135 = .ok (.goto (-55), 3) := by decide +kernel
theorem dX8_mix_138 : decode cX8_mix 138 = .ok (.iload 4, 2) := by decide +kernel
theorem dX8_mix_140 : decode cX8_mix 140 = .ok (.ifCond .ne 7, 3) := by decide +kernel
theorem dX8_mix_143 : decode cX8_mix 143 = .ok (.sipush (-1005), 3) := by decide +kernel
theorem dX8_mix_146 : decode cX8_mix 146 = .ok (.ireturn, 1) := by decide +kernel
theorem dX8_mix_147 : decode cX8_mix 147 = .ok (.iconst 0, 1) := by decide +kernel
theorem dX8_mix_148 : decode cX8_mix 148 = .ok (.istore 5, 2) := by decide +kernel
theorem dX8_mix_150 : decode cX8_mix 150 = .ok (.iload 5, 2) := by decide +kernel
theorem dX8_mix_152 : decode cX8_mix 152 = .ok (.aload_n 0, 1) := by decide +kernel
theorem dX8_mix_153 : decode cX8_mix 153 = .ok (.getfield 80, 3) := by decide +kernel
theorem dX8_mix_156 : decode cX8_mix 156 = .ok (.if_icmp .ge 37, 3) := by decide +kernel
theorem dX8_mix_159 : decode cX8_mix 159 = .ok (.aload_n 0, 1) := by decide +kernel
theorem dX8_mix_160 : decode cX8_mix 160 = .ok (.getfield 48, 3) := by decide +kernel
theorem dX8_mix_163 : decode cX8_mix 163 = .ok (.iload 5, 2) := by decide +kernel
theorem dX8_mix_165 : decode cX8_mix 165 = .ok (.aload_n 0, 1) := by decide +kernel
theorem dX8_mix_166 : decode cX8_mix 166 = .ok (.getfield 48, 3) := by decide +kernel
theorem dX8_mix_169 : decode cX8_mix 169 = .ok (.iload 5, 2) := by decide +kernel
theorem dX8_mix_171 : decode cX8_mix 171 = .ok (.laload, 1) := by decide +kernel
theorem dX8_mix_172 : decode cX8_mix 172 = .ok (.iload_n 2, 1) := by decide +kernel
theorem dX8_mix_173 : decode cX8_mix 173 = .ok (.i2l, 1) := by decide +kernel
theorem dX8_mix_174 : decode cX8_mix 174 = .ok (.lmul, 1) := by decide +kernel
theorem dX8_mix_175 : decode cX8_mix 175 = .ok (.aload_n 0, 1) := by decide +kernel
theorem dX8_mix_176 : decode cX8_mix 176 = .ok (.getfield 73, 3) := by decide +kernel
theorem dX8_mix_179 : decode cX8_mix 179 = .ok (.iload 5, 2) := by decide +kernel
theorem dX8_mix_181 : decode cX8_mix 181 = .ok (.laload, 1) := by decide +kernel
theorem dX8_mix_182 : decode cX8_mix 182 = .ok (.iload_n 3, 1) := by decide +kernel
theorem dX8_mix_183 : decode cX8_mix 183 = .ok (.i2l, 1) := by decide +kernel
theorem dX8_mix_184 : decode cX8_mix 184 = .ok (.lmul, 1) := by decide +kernel
theorem dX8_mix_185 : decode cX8_mix 185 = .ok (.ladd, 1) := by decide +kernel
theorem dX8_mix_186 : decode cX8_mix 186 = .ok (.lastore, 1) := by decide +kernel
theorem dX8_mix_187 : decode cX8_mix 187 = .ok (.iinc 5 1, 3) := by decide +kernel
theorem dX8_mix_190 : decode cX8_mix 190 = .ok (.goto (-40), 3) := by decide +kernel
theorem dX8_mix_193 : decode cX8_mix 193 = .ok (.aload_n 0, 1) := by decide +kernel
theorem dX8_mix_194 : decode cX8_mix 194 = .ok (.aload_n 0, 1) := by decide +kernel
theorem dX8_mix_195 : decode cX8_mix 195 = .ok (.getfield 51, 3) := by decide +kernel
theorem dX8_mix_198 : decode cX8_mix 198 = .ok (.iload_n 2, 1) := by decide +kernel
theorem dX8_mix_199 : decode cX8_mix 199 = .ok (.i2l, 1) := by decide +kernel
theorem dX8_mix_200 : decode cX8_mix 200 = .ok (.lmul, 1) := by decide +kernel
theorem dX8_mix_201 : decode cX8_mix 201 = .ok (.iload_n 3, 1) := by decide +kernel
theorem dX8_mix_202 : decode cX8_mix 202 = .ok (.i2l, 1) := by decide +kernel
theorem dX8_mix_203 : decode cX8_mix 203 = .ok (.ladd, 1) := by decide +kernel
theorem dX8_mix_204 : decode cX8_mix 204 = .ok (.putfield 51, 3) := by decide +kernel
theorem dX8_mix_207 : decode cX8_mix 207 = .ok (.aload_n 0, 1) := by decide +kernel
theorem dX8_mix_208 : decode cX8_mix 208 = .ok (.getfield 51, 3) := by decide +kernel
theorem dX8_mix_211 : decode cX8_mix 211 = .ok (.l2i, 1) := by decide +kernel
theorem dX8_mix_212 : decode cX8_mix 212 = .ok (.ireturn, 1) := by decide +kernel
theorem dX8_share_0 : decode cX8_share 0 = .ok (.aload_n 0, 1) := by decide +kernel
theorem dX8_share_1 : decode cX8_share 1 = .ok (.iload_n 1, 1) := by decide +kernel
theorem dX8_share_2 : decode cX8_share 2 = .ok (.invokevirtual 180, 3) := by decide +kernel
theorem dX8_share_5 : decode cX8_share 5 = .ok (.ifCond .ne 7, 3) := by decide +kernel
theorem dX8_share_8 : decode cX8_share 8 = .ok (.ldc2_w 108, 3) := by decide +kernel
theorem dX8_share_11 : decode cX8_share 11 = .ok (.lreturn, 1) := by decide +kernel
theorem dX8_share_12 : decode cX8_share 12 = .ok (.lload_n 2, 1) := by decide +kernel
theorem dX8_share_13 : decode cX8_share 13 = .ok (.ldc2_w 232, 3) := by decide +kernel
theorem dX8_share_16 : decode cX8_share 16 = .ok (.ldc2_w 150, 3) := by decide +kernel
theorem dX8_share_19 : decode cX8_share 19 = .ok (.invokestatic 89, 3) := by decide +kernel
theorem dX8_share_22 : decode cX8_share 22 = .ok (.ifCond .ne 7, 3) := by decide +kernel
theorem dX8_share_25 : decode cX8_share 25 = .ok (.ldc2_w 110, 3) := by decide +kernel
theorem dX8_share_28 : decode cX8_share 28 = .ok (.lreturn, 1) := by decide +kernel
theorem dX8_share_29 : decode cX8_share 29 = .ok (.aload_n 0, 1) := by decide +kernel
theorem dX8_share_30 : decode cX8_share 30 = .ok (.getfield 48, 3) := by decide +kernel
theorem dX8_share_33 : decode cX8_share 33 = .ok (.iload_n 1, 1) := by decide +kernel
theorem dX8_share_34 : decode cX8_share 34 = .ok (.laload, 1) := by decide +kernel
theorem dX8_share_35 : decode cX8_share 35 = .ok (.lstore 4, 2) := by decide +kernel
theorem dX8_share_37 : decode cX8_share 37 = .ok (.aload_n 0, 1) := by decide +kernel
theorem dX8_share_38 : decode cX8_share 38 = .ok (.getfield 48, 3) := by decide +kernel
theorem dX8_share_41 : decode cX8_share 41 = .ok (.iload_n 1, 1) := by decide +kernel
theorem dX8_share_42 : decode cX8_share 42 = .ok (.lload_n 2, 1) := by decide +kernel
theorem dX8_share_43 : decode cX8_share 43 = .ok (.lastore, 1) := by decide +kernel
theorem dX8_share_44 : decode cX8_share 44 = .ok (.lload 4, 2) := by decide +kernel
theorem dX8_share_46 : decode cX8_share 46 = .ok (.lreturn, 1) := by decide +kernel
theorem dX8_shareOf_0 : decode cX8_shareOf 0 = .ok (.iload_n 1, 1) := by decide +kernel
theorem dX8_shareOf_1 : decode cX8_shareOf 1 = .ok (.iconst (-1), 1) := by decide +kernel
theorem dX8_shareOf_2 : decode cX8_shareOf 2 = .ok (.if_icmp .ne 10, 3) := by decide +kernel
theorem dX8_shareOf_5 : decode cX8_shareOf 5 = .ok (.aload_n 0, 1) := by decide +kernel
theorem dX8_shareOf_6 : decode cX8_shareOf 6 = .ok (.getfield 51, 3) := by decide +kernel
theorem dX8_shareOf_9 : decode cX8_shareOf 9 = .ok (.goto 23, 3) := by decide +kernel
theorem dX8_shareOf_12 : decode cX8_shareOf 12 = .ok (.aload_n 0, 1) := by decide +kernel
theorem dX8_shareOf_13 : decode cX8_shareOf 13 = .ok (.iload_n 1, 1) := by decide +kernel
theorem dX8_shareOf_14 : decode cX8_shareOf 14 = .ok (.invokevirtual 180, 3) := by decide +kernel
theorem dX8_shareOf_17 : decode cX8_shareOf 17 = .ok (.ifCond .eq 12, 3) := by decide +kernel
theorem dX8_shareOf_20 : decode cX8_shareOf 20 = .ok (.aload_n 0, 1) := by decide +kernel
theorem dX8_shareOf_21 : decode cX8_shareOf 21 = .ok (.getfield 48, 3) := by decide +kernel
theorem dX8_shareOf_24 : decode cX8_shareOf 24 = .ok (.iload_n 1, 1) := by decide +kernel
theorem dX8_shareOf_25 : decode cX8_shareOf 25 = .ok (.laload, 1) := by decide +kernel
theorem dX8_shareOf_26 : decode cX8_shareOf 26 = .ok (.goto 6, 3) := by decide +kernel
theorem dX8_shareOf_29 : decode cX8_shareOf 29 = .ok (.ldc2_w 108, 3) := by decide +kernel
theorem dX8_shareOf_32 : decode cX8_shareOf 32 = .ok (.lreturn, 1) := by decide +kernel
theorem dX8_sharesOf_0 : decode cX8_sharesOf 0 = .ok (.lconst 0, 1) := by decide +kernel
theorem dX8_sharesOf_1 : decode cX8_sharesOf 1 = .ok (.lstore_n 2, 1) := by decide +kernel
theorem dX8_sharesOf_2 : decode cX8_sharesOf 2 = .ok (.iconst 0, 1) := by decide +kernel
theorem dX8_sharesOf_3 : decode cX8_sharesOf 3 = .ok (.istore 4, 2) := by decide +kernel
theorem dX8_sharesOf_5 : decode cX8_sharesOf 5 = .ok (.iload 4, 2) := by decide +kernel
theorem dX8_sharesOf_7 : decode cX8_sharesOf 7 = .ok (.aload_n 0, 1) := by decide +kernel
theorem dX8_sharesOf_8 : decode cX8_sharesOf 8 = .ok (.getfield 80, 3) := by decide +kernel
theorem dX8_sharesOf_11 : decode cX8_sharesOf 11 = .ok (.if_icmp .ge 33, 3) := by decide +kernel
theorem dX8_sharesOf_14 : decode cX8_sharesOf 14 = .ok (.lload_n 2, 1) := by decide +kernel
theorem dX8_sharesOf_15 : decode cX8_sharesOf 15 = .ok (.iload_n 1, 1) := by decide +kernel
theorem dX8_sharesOf_16 : decode cX8_sharesOf 16 = .ok (.iload 4, 2) := by decide +kernel
theorem dX8_sharesOf_18 : decode cX8_sharesOf 18 = .ok (.ishr, 1) := by decide +kernel
theorem dX8_sharesOf_19 : decode cX8_sharesOf 19 = .ok (.iconst 1, 1) := by decide +kernel
theorem dX8_sharesOf_20 : decode cX8_sharesOf 20 = .ok (.iand, 1) := by decide +kernel
theorem dX8_sharesOf_21 : decode cX8_sharesOf 21 = .ok (.iconst 1, 1) := by decide +kernel
theorem dX8_sharesOf_22 : decode cX8_sharesOf 22 = .ok (.if_icmp .ne 13, 3) := by decide +kernel
theorem dX8_sharesOf_25 : decode cX8_sharesOf 25 = .ok (.aload_n 0, 1) := by decide +kernel
theorem dX8_sharesOf_26 : decode cX8_sharesOf 26 = .ok (.getfield 48, 3) := by decide +kernel
theorem dX8_sharesOf_29 : decode cX8_sharesOf 29 = .ok (.iload 4, 2) := by decide +kernel
theorem dX8_sharesOf_31 : decode cX8_sharesOf 31 = .ok (.laload, 1) := by decide +kernel
theorem dX8_sharesOf_32 : decode cX8_sharesOf 32 = .ok (.goto 4, 3) := by decide +kernel
theorem dX8_sharesOf_35 : decode cX8_sharesOf 35 = .ok (.lconst 0, 1) := by decide +kernel
theorem dX8_sharesOf_36 : decode cX8_sharesOf 36 = .ok (.ladd, 1) := by decide +kernel
theorem dX8_sharesOf_37 : decode cX8_sharesOf 37 = .ok (.lstore_n 2, 1) := by decide +kernel
theorem dX8_sharesOf_38 : decode cX8_sharesOf 38 = .ok (.iinc 4 1, 3) := by decide +kernel
theorem dX8_sharesOf_41 : decode cX8_sharesOf 41 = .ok (.goto (-36), 3) := by decide +kernel
theorem dX8_sharesOf_44 : decode cX8_sharesOf 44 = .ok (.lload_n 2, 1) := by decide +kernel
theorem dX8_sharesOf_45 : decode cX8_sharesOf 45 = .ok (.lreturn, 1) := by decide +kernel
theorem dX8_isIn_0 : decode cX8_isIn 0 = .ok (.iconst 0, 1) := by decide +kernel
theorem dX8_isIn_1 : decode cX8_isIn 1 = .ok (.istore_n 2, 1) := by decide +kernel
theorem dX8_isIn_2 : decode cX8_isIn 2 = .ok (.iload_n 2, 1) := by decide +kernel
theorem dX8_isIn_3 : decode cX8_isIn 3 = .ok (.aload_n 0, 1) := by decide +kernel
theorem dX8_isIn_4 : decode cX8_isIn 4 = .ok (.invokevirtual 93, 3) := by decide +kernel
theorem dX8_isIn_7 : decode cX8_isIn 7 = .ok (.if_icmp .gt 31, 3) := by decide +kernel
theorem dX8_isIn_10 : decode cX8_isIn 10 = .ok (.aload_n 0, 1) := by decide +kernel
theorem dX8_isIn_11 : decode cX8_isIn 11 = .ok (.iload_n 2, 1) := by decide +kernel
theorem dX8_isIn_12 : decode cX8_isIn 12 = .ok (.invokevirtual 234, 3) := by decide +kernel
theorem dX8_isIn_15 : decode cX8_isIn 15 = .ok (.aload_n 0, 1) := by decide +kernel
theorem dX8_isIn_16 : decode cX8_isIn 16 = .ok (.iload_n 1, 1) := by decide +kernel
theorem dX8_isIn_17 : decode cX8_isIn 17 = .ok (.iload_n 2, 1) := by decide +kernel
theorem dX8_isIn_18 : decode cX8_isIn 18 = .ok (.invokevirtual 205, 3) := by decide +kernel
theorem dX8_isIn_21 : decode cX8_isIn 21 = .ok (.aload_n 0, 1) := by decide +kernel
theorem dX8_isIn_22 : decode cX8_isIn 22 = .ok (.getfield 51, 3) := by decide +kernel
theorem dX8_isIn_25 : decode cX8_isIn 25 = .ok (.lmul, 1) := by decide +kernel
theorem dX8_isIn_26 : decode cX8_isIn 26 = .ok (.lcmp, 1) := by decide +kernel
theorem dX8_isIn_27 : decode cX8_isIn 27 = .ok (.ifCond .le 5, 3) := by decide +kernel
theorem dX8_isIn_30 : decode cX8_isIn 30 = .ok (.iload_n 2, 1) := by decide +kernel
theorem dX8_isIn_31 : decode cX8_isIn 31 = .ok (.ireturn, 1) := by decide +kernel
theorem dX8_isIn_32 : decode cX8_isIn 32 = .ok (.iinc 2 1, 3) := by decide +kernel
theorem dX8_isIn_35 : decode cX8_isIn 35 = .ok (.goto (-33), 3) := by decide +kernel
theorem dX8_isIn_38 : decode cX8_isIn 38 = .ok (.aload_n 0, 1) := by decide +kernel
theorem dX8_isIn_39 : decode cX8_isIn 39 = .ok (.aload_n 0, 1) := by decide +kernel
theorem dX8_isIn_40 : decode cX8_isIn 40 = .ok (.invokevirtual 93, 3) := by decide +kernel
theorem dX8_isIn_43 : decode cX8_isIn 43 = .ok (.invokevirtual 234, 3) := by decide +kernel
theorem dX8_isIn_46 : decode cX8_isIn 46 = .ok (.aload_n 0, 1) := by decide +kernel
theorem dX8_isIn_47 : decode cX8_isIn 47 = .ok (.iload_n 1, 1) := by decide +kernel
theorem dX8_isIn_48 : decode cX8_isIn 48 = .ok (.aload_n 0, 1) := by decide +kernel
theorem dX8_isIn_49 : decode cX8_isIn 49 = .ok (.invokevirtual 93, 3) := by decide +kernel
theorem dX8_isIn_52 : decode cX8_isIn 52 = .ok (.invokevirtual 205, 3) := by decide +kernel
theorem dX8_isIn_55 : decode cX8_isIn 55 = .ok (.aload_n 0, 1) := by decide +kernel
theorem dX8_isIn_56 : decode cX8_isIn 56 = .ok (.getfield 51, 3) := by decide +kernel
theorem dX8_isIn_59 : decode cX8_isIn 59 = .ok (.lmul, 1) := by decide +kernel
theorem dX8_isIn_60 : decode cX8_isIn 60 = .ok (.lcmp, 1) := by decide +kernel
theorem dX8_isIn_61 : decode cX8_isIn 61 = .ok (.ifCond .ge 10, 3) := by decide +kernel
theorem dX8_isIn_64 : decode cX8_isIn 64 = .ok (.aload_n 0, 1) := by decide +kernel
theorem dX8_isIn_65 : decode cX8_isIn 65 = .ok (.invokevirtual 93, 3) := by decide +kernel
theorem dX8_isIn_68 : decode cX8_isIn 68 = .ok (.goto 4, 3) := by decide +kernel
theorem dX8_isIn_71 : decode cX8_isIn 71 = .ok (.iconst (-1), 1) := by decide +kernel
theorem dX8_isIn_72 : decode cX8_isIn 72 = .ok (.ireturn, 1) := by decide +kernel
theorem dX8_in_0 : decode cX8_in 0 = .ok (.aload_n 0, 1) := by decide +kernel
theorem dX8_in_1 : decode cX8_in 1 = .ok (.iload_n 1, 1) := by decide +kernel
theorem dX8_in_2 : decode cX8_in 2 = .ok (.invokevirtual 157, 3) := by decide +kernel
theorem dX8_in_5 : decode cX8_in 5 = .ok (.ifCond .eq 11, 3) := by decide +kernel
theorem dX8_in_8 : decode cX8_in 8 = .ok (.aload_n 0, 1) := by decide +kernel
theorem dX8_in_9 : decode cX8_in 9 = .ok (.iload_n 1, 1) := by decide +kernel
theorem dX8_in_10 : decode cX8_in 10 = .ok (.invokevirtual 237, 3) := by decide +kernel
theorem dX8_in_13 : decode cX8_in 13 = .ok (.goto 6, 3) := by decide +kernel
theorem dX8_in_16 : decode cX8_in 16 = .ok (.sipush (-1001), 3) := by decide +kernel
theorem dX8_in_19 : decode cX8_in 19 = .ok (.ireturn, 1) := by decide +kernel
theorem dX8_proves_0 : decode cX8_proves 0 = .ok (.aload_n 0, 1) := by decide +kernel
theorem dX8_proves_1 : decode cX8_proves 1 = .ok (.iload_n 1, 1) := by decide +kernel
theorem dX8_proves_2 : decode cX8_proves 2 = .ok (.invokevirtual 157, 3) := by decide +kernel
theorem dX8_proves_5 : decode cX8_proves 5 = .ok (.ifCond .ne 7, 3) := by decide +kernel
theorem dX8_proves_8 : decode cX8_proves 8 = .ok (.sipush (-1001), 3) := by decide +kernel
theorem dX8_proves_11 : decode cX8_proves 11 = .ok (.ireturn, 1) := by decide +kernel
theorem dX8_proves_12 : decode cX8_proves 12 = .ok (.lconst 0, 1) := by decide +kernel
theorem dX8_proves_13 : decode cX8_proves 13 = .ok (.lstore_n 2, 1) := by decide +kernel
theorem dX8_proves_14 : decode cX8_proves 14 = .ok (.iconst 0, 1) := by decide +kernel
theorem dX8_proves_15 : decode cX8_proves 15 = .ok (.istore 4, 2) := by decide +kernel
theorem dX8_proves_17 : decode cX8_proves 17 = .ok (.iload 4, 2) := by decide +kernel
theorem dX8_proves_19 : decode cX8_proves 19 = .ok (.aload_n 0, 1) := by decide +kernel
theorem dX8_proves_20 : decode cX8_proves 20 = .ok (.getfield 80, 3) := by decide +kernel
theorem dX8_proves_23 : decode cX8_proves 23 = .ok (.if_icmp .ge 35, 3) := by decide +kernel
theorem dX8_proves_26 : decode cX8_proves 26 = .ok (.lload_n 2, 1) := by decide +kernel
theorem dX8_proves_27 : decode cX8_proves 27 = .ok (.aload_n 0, 1) := by decide +kernel
theorem dX8_proves_28 : decode cX8_proves 28 = .ok (.getfield 48, 3) := by decide +kernel
theorem dX8_proves_31 : decode cX8_proves 31 = .ok (.iload 4, 2) := by decide +kernel
theorem dX8_proves_33 : decode cX8_proves 33 = .ok (.laload, 1) := by decide +kernel
theorem dX8_proves_34 : decode cX8_proves 34 = .ok (.lconst 0, 1) := by decide +kernel
theorem dX8_proves_35 : decode cX8_proves 35 = .ok (.lcmp, 1) := by decide +kernel
theorem dX8_proves_36 : decode cX8_proves 36 = .ok (.ifCond .ge 13, 3) := by decide +kernel
theorem dX8_proves_39 : decode cX8_proves 39 = .ok (.aload_n 0, 1) := by decide +kernel
theorem dX8_proves_40 : decode cX8_proves 40 = .ok (.getfield 48, 3) := by decide +kernel
theorem dX8_proves_43 : decode cX8_proves 43 = .ok (.iload 4, 2) := by decide +kernel
theorem dX8_proves_45 : decode cX8_proves 45 = .ok (.laload, 1) := by decide +kernel
theorem dX8_proves_46 : decode cX8_proves 46 = .ok (.goto 4, 3) := by decide +kernel
theorem dX8_proves_49 : decode cX8_proves 49 = .ok (.lconst 0, 1) := by decide +kernel
theorem dX8_proves_50 : decode cX8_proves 50 = .ok (.ladd, 1) := by decide +kernel
theorem dX8_proves_51 : decode cX8_proves 51 = .ok (.lstore_n 2, 1) := by decide +kernel
theorem dX8_proves_52 : decode cX8_proves 52 = .ok (.iinc 4 1, 3) := by decide +kernel
theorem dX8_proves_55 : decode cX8_proves 55 = .ok (.goto (-38), 3) := by decide +kernel
theorem dX8_proves_58 : decode cX8_proves 58 = .ok (.aload_n 0, 1) := by decide +kernel
theorem dX8_proves_59 : decode cX8_proves 59 = .ok (.iload_n 1, 1) := by decide +kernel
theorem dX8_proves_60 : decode cX8_proves 60 = .ok (.invokevirtual 237, 3) := by decide +kernel
theorem dX8_proves_63 : decode cX8_proves 63 = .ok (.ifCond .ge 22, 3) := by decide +kernel
theorem dX8_proves_66 : decode cX8_proves 66 = .ok (.lload_n 2, 1) := by decide +kernel
theorem dX8_proves_67 : decode cX8_proves 67 = .ok (.aload_n 0, 1) := by decide +kernel
theorem dX8_proves_68 : decode cX8_proves 68 = .ok (.iload_n 1, 1) := by decide +kernel
theorem dX8_proves_69 : decode cX8_proves 69 = .ok (.invokevirtual 211, 3) := by decide +kernel
theorem dX8_proves_72 : decode cX8_proves 72 = .ok (.aload_n 0, 1) := by decide +kernel
theorem dX8_proves_73 : decode cX8_proves 73 = .ok (.getfield 51, 3) := by decide +kernel
theorem dX8_proves_76 : decode cX8_proves 76 = .ok (.lmul, 1) := by decide +kernel
theorem dX8_proves_77 : decode cX8_proves 77 = .ok (.lcmp, 1) := by decide +kernel
theorem dX8_proves_78 : decode cX8_proves 78 = .ok (.ifCond .ne 7, 3) := by decide +kernel
theorem dX8_proves_81 : decode cX8_proves 81 = .ok (.iconst 1, 1) := by decide +kernel
theorem dX8_proves_82 : decode cX8_proves 82 = .ok (.goto 4, 3) := by decide +kernel
theorem dX8_proves_85 : decode cX8_proves 85 = .ok (.iconst 0, 1) := by decide +kernel
theorem dX8_proves_86 : decode cX8_proves 86 = .ok (.ireturn, 1) := by decide +kernel
theorem dX8_greed_0 : decode cX8_greed 0 = .ok (.aload_n 0, 1) := by decide +kernel
theorem dX8_greed_1 : decode cX8_greed 1 = .ok (.iload_n 1, 1) := by decide +kernel
theorem dX8_greed_2 : decode cX8_greed 2 = .ok (.invokevirtual 157, 3) := by decide +kernel
theorem dX8_greed_5 : decode cX8_greed 5 = .ok (.ifCond .ne 7, 3) := by decide +kernel
theorem dX8_greed_8 : decode cX8_greed 8 = .ok (.sipush (-1001), 3) := by decide +kernel
theorem dX8_greed_11 : decode cX8_greed 11 = .ok (.ireturn, 1) := by decide +kernel
theorem dX8_greed_12 : decode cX8_greed 12 = .ok (.iload_n 2, 1) := by decide +kernel
theorem dX8_greed_13 : decode cX8_greed 13 = .ok (.i2l, 1) := by decide +kernel
theorem dX8_greed_14 : decode cX8_greed 14 = .ok (.lconst 0, 1) := by decide +kernel
theorem dX8_greed_15 : decode cX8_greed 15 = .ok (.ldc2_w 87, 3) := by decide +kernel
theorem dX8_greed_18 : decode cX8_greed 18 = .ok (.invokestatic 89, 3) := by decide +kernel
theorem dX8_greed_21 : decode cX8_greed 21 = .ok (.ifCond .ne 7, 3) := by decide +kernel
theorem dX8_greed_24 : decode cX8_greed 24 = .ok (.sipush (-1002), 3) := by decide +kernel
theorem dX8_greed_27 : decode cX8_greed 27 = .ok (.ireturn, 1) := by decide +kernel
theorem dX8_greed_28 : decode cX8_greed 28 = .ok (.iconst 0, 1) := by decide +kernel
theorem dX8_greed_29 : decode cX8_greed 29 = .ok (.istore_n 3, 1) := by decide +kernel
theorem dX8_greed_30 : decode cX8_greed 30 = .ok (.iconst 1, 1) := by decide +kernel
theorem dX8_greed_31 : decode cX8_greed 31 = .ok (.istore 4, 2) := by decide +kernel
theorem dX8_greed_33 : decode cX8_greed 33 = .ok (.iload 4, 2) := by decide +kernel
theorem dX8_greed_35 : decode cX8_greed 35 = .ok (.ifCond .eq 102, 3) := by decide +kernel
theorem dX8_greed_38 : decode cX8_greed 38 = .ok (.iload_n 3, 1) := by decide +kernel
theorem dX8_greed_39 : decode cX8_greed 39 = .ok (.invokestatic 128, 3) := by decide +kernel
theorem dX8_greed_42 : decode cX8_greed 42 = .ok (.iload_n 2, 1) := by decide +kernel
theorem dX8_greed_43 : decode cX8_greed 43 = .ok (.if_icmp .ge 94, 3) := by decide +kernel
theorem dX8_greed_46 : decode cX8_greed 46 = .ok (.iconst (-1), 1) := by decide +kernel
theorem dX8_greed_47 : decode cX8_greed 47 = .ok (.istore 5, 2) := by decide +kernel
theorem dX8_greed_49 : decode cX8_greed 49 = .ok (.lconst 0, 1) := by decide +kernel
theorem dX8_greed_50 : decode cX8_greed 50 = .ok (.lstore 6, 2) := by decide +kernel
theorem dX8_greed_52 : decode cX8_greed 52 = .ok (.iconst 0, 1) := by decide +kernel
theorem dX8_greed_53 : decode cX8_greed 53 = .ok (.istore 8, 2) := by decide +kernel
theorem dX8_greed_55 : decode cX8_greed 55 = .ok (.iload 8, 2) := by decide +kernel
theorem dX8_greed_57 : decode cX8_greed 57 = .ok (.aload_n 0, 1) := by decide +kernel
theorem dX8_greed_58 : decode cX8_greed 58 = .ok (.getfield 80, 3) := by decide +kernel
theorem dX8_greed_61 : decode cX8_greed 61 = .ok (.if_icmp .ge 45, 3) := by decide +kernel
theorem dX8_greed_64 : decode cX8_greed 64 = .ok (.aload_n 0, 1) := by decide +kernel
theorem dX8_greed_65 : decode cX8_greed 65 = .ok (.iload_n 1, 1) := by decide +kernel
theorem dX8_greed_66 : decode cX8_greed 66 = .ok (.iload_n 3, 1) := by decide +kernel
theorem dX8_greed_67 : decode cX8_greed 67 = .ok (.iconst 1, 1) := by decide +kernel
theorem dX8_greed_68 : decode cX8_greed 68 = .ok (.iload 8, 2) := by decide +kernel
theorem dX8_greed_70 : decode cX8_greed 70 = .ok (.ishl, 1) := by decide +kernel
theorem dX8_greed_71 : decode cX8_greed 71 = .ok (.ior, 1) := by decide +kernel
theorem dX8_greed_72 : decode cX8_greed 72 = .ok (.invokevirtual 205, 3) := by decide +kernel
theorem dX8_greed_75 : decode cX8_greed 75 = .ok (.aload_n 0, 1) := by decide +kernel
theorem dX8_greed_76 : decode cX8_greed 76 = .ok (.iload_n 1, 1) := by decide +kernel
theorem dX8_greed_77 : decode cX8_greed 77 = .ok (.iload_n 3, 1) := by decide +kernel
theorem dX8_greed_78 : decode cX8_greed 78 = .ok (.invokevirtual 205, 3) := by decide +kernel
theorem dX8_greed_81 : decode cX8_greed 81 = .ok (.lsub, 1) := by decide +kernel
theorem dX8_greed_82 : decode cX8_greed 82 = .ok (.lstore 9, 2) := by decide +kernel
theorem dX8_greed_84 : decode cX8_greed 84 = .ok (.lload 9, 2) := by decide +kernel
theorem dX8_greed_86 : decode cX8_greed 86 = .ok (.lload 6, 2) := by decide +kernel
theorem dX8_greed_88 : decode cX8_greed 88 = .ok (.lcmp, 1) := by decide +kernel
theorem dX8_greed_89 : decode cX8_greed 89 = .ok (.ifCond .le 11, 3) := by decide +kernel
theorem dX8_greed_92 : decode cX8_greed 92 = .ok (.lload 9, 2) := by decide +kernel
theorem dX8_greed_94 : decode cX8_greed 94 = .ok (.lstore 6, 2) := by decide +kernel
theorem dX8_greed_96 : decode cX8_greed 96 = .ok (.iload 8, 2) := by decide +kernel
theorem dX8_greed_98 : decode cX8_greed 98 = .ok (.istore 5, 2) := by decide +kernel
theorem dX8_greed_100 : decode cX8_greed 100 = .ok (.iinc 8 1, 3) := by decide +kernel
theorem dX8_greed_103 : decode cX8_greed 103 = .ok (.goto (-48), 3) := by decide +kernel
theorem dX8_greed_106 : decode cX8_greed 106 = .ok (.iload 5, 2) := by decide +kernel
theorem dX8_greed_108 : decode cX8_greed 108 = .ok (.ifCond .lt 7, 3) := by decide +kernel
theorem dX8_greed_111 : decode cX8_greed 111 = .ok (.iconst 1, 1) := by decide +kernel
theorem dX8_greed_112 : decode cX8_greed 112 = .ok (.goto 4, 3) := by decide +kernel
theorem dX8_greed_115 : decode cX8_greed 115 = .ok (.iconst 0, 1) := by decide +kernel
theorem dX8_greed_116 : decode cX8_greed 116 = .ok (.istore 4, 2) := by decide +kernel
theorem dX8_greed_118 : decode cX8_greed 118 = .ok (.iload_n 3, 1) := by decide +kernel
theorem dX8_greed_119 : decode cX8_greed 119 = .ok (.iload 4, 2) := by decide +kernel
theorem dX8_greed_121 : decode cX8_greed 121 = .ok (.ifCond .eq 10, 3) := by decide +kernel
theorem dX8_greed_124 : decode cX8_greed 124 = .ok (.iconst 1, 1) := by decide +kernel
theorem dX8_greed_125 : decode cX8_greed 125 = .ok (.iload 5, 2) := by decide +kernel
theorem dX8_greed_127 : decode cX8_greed 127 = .ok (.ishl, 1) := by decide +kernel
theorem dX8_greed_128 : decode cX8_greed 128 = .ok (.goto 4, 3) := by decide +kernel
theorem dX8_greed_131 : decode cX8_greed 131 = .ok (.iconst 0, 1) := by decide +kernel
theorem dX8_greed_132 : decode cX8_greed 132 = .ok (.ior, 1) := by decide +kernel
theorem dX8_greed_133 : decode cX8_greed 133 = .ok (.istore_n 3, 1) := by decide +kernel
theorem dX8_greed_134 : decode cX8_greed 134 = .ok (.goto (-101), 3) := by decide +kernel
theorem dX8_greed_137 : decode cX8_greed 137 = .ok (.iload_n 3, 1) := by decide +kernel
theorem dX8_greed_138 : decode cX8_greed 138 = .ok (.ireturn, 1) := by decide +kernel
theorem dX8_best_0 : decode cX8_best 0 = .ok (.aload_n 0, 1) := by decide +kernel
theorem dX8_best_1 : decode cX8_best 1 = .ok (.iload_n 1, 1) := by decide +kernel
theorem dX8_best_2 : decode cX8_best 2 = .ok (.invokevirtual 157, 3) := by decide +kernel
theorem dX8_best_5 : decode cX8_best 5 = .ok (.ifCond .ne 7, 3) := by decide +kernel
theorem dX8_best_8 : decode cX8_best 8 = .ok (.ldc2_w 108, 3) := by decide +kernel
theorem dX8_best_11 : decode cX8_best 11 = .ok (.lreturn, 1) := by decide +kernel
theorem dX8_best_12 : decode cX8_best 12 = .ok (.iload_n 2, 1) := by decide +kernel
theorem dX8_best_13 : decode cX8_best 13 = .ok (.i2l, 1) := by decide +kernel
theorem dX8_best_14 : decode cX8_best 14 = .ok (.lconst 0, 1) := by decide +kernel
theorem dX8_best_15 : decode cX8_best 15 = .ok (.ldc2_w 87, 3) := by decide +kernel
theorem dX8_best_18 : decode cX8_best 18 = .ok (.invokestatic 89, 3) := by decide +kernel
theorem dX8_best_21 : decode cX8_best 21 = .ok (.ifCond .ne 7, 3) := by decide +kernel
theorem dX8_best_24 : decode cX8_best 24 = .ok (.ldc2_w 110, 3) := by decide +kernel
theorem dX8_best_27 : decode cX8_best 27 = .ok (.lreturn, 1) := by decide +kernel
theorem dX8_best_28 : decode cX8_best 28 = .ok (.lconst 0, 1) := by decide +kernel
theorem dX8_best_29 : decode cX8_best 29 = .ok (.lstore_n 3, 1) := by decide +kernel
theorem dX8_best_30 : decode cX8_best 30 = .ok (.iconst 0, 1) := by decide +kernel
theorem dX8_best_31 : decode cX8_best 31 = .ok (.istore 5, 2) := by decide +kernel
theorem dX8_best_33 : decode cX8_best 33 = .ok (.iload 5, 2) := by decide +kernel
theorem dX8_best_35 : decode cX8_best 35 = .ok (.aload_n 0, 1) := by decide +kernel
theorem dX8_best_36 : decode cX8_best 36 = .ok (.invokevirtual 93, 3) := by decide +kernel
theorem dX8_best_39 : decode cX8_best 39 = .ok (.if_icmp .gt 42, 3) := by decide +kernel
theorem dX8_best_42 : decode cX8_best 42 = .ok (.iload 5, 2) := by decide +kernel
theorem dX8_best_44 : decode cX8_best 44 = .ok (.invokestatic 128, 3) := by decide +kernel
theorem dX8_best_47 : decode cX8_best 47 = .ok (.iload_n 2, 1) := by decide +kernel
theorem dX8_best_48 : decode cX8_best 48 = .ok (.if_icmp .gt 25, 3) := by decide +kernel
theorem dX8_best_51 : decode cX8_best 51 = .ok (.aload_n 0, 1) := by decide +kernel
theorem dX8_best_52 : decode cX8_best 52 = .ok (.iload_n 1, 1) := by decide +kernel
theorem dX8_best_53 : decode cX8_best 53 = .ok (.iload 5, 2) := by decide +kernel
theorem dX8_best_55 : decode cX8_best 55 = .ok (.invokevirtual 205, 3) := by decide +kernel
theorem dX8_best_58 : decode cX8_best 58 = .ok (.lload_n 3, 1) := by decide +kernel
theorem dX8_best_59 : decode cX8_best 59 = .ok (.lcmp, 1) := by decide +kernel
theorem dX8_best_60 : decode cX8_best 60 = .ok (.ifCond .le 13, 3) := by decide +kernel
theorem dX8_best_63 : decode cX8_best 63 = .ok (.aload_n 0, 1) := by decide +kernel
theorem dX8_best_64 : decode cX8_best 64 = .ok (.iload_n 1, 1) := by decide +kernel
theorem dX8_best_65 : decode cX8_best 65 = .ok (.iload 5, 2) := by decide +kernel
theorem dX8_best_67 : decode cX8_best 67 = .ok (.invokevirtual 205, 3) := by decide +kernel
theorem dX8_best_70 : decode cX8_best 70 = .ok (.goto 4, 3) := by decide +kernel
theorem dX8_best_73 : decode cX8_best 73 = .ok (.lload_n 3, 1) := by decide +kernel
theorem dX8_best_74 : decode cX8_best 74 = .ok (.lstore_n 3, 1) := by decide +kernel
theorem dX8_best_75 : decode cX8_best 75 = .ok (.iinc 5 1, 3) := by decide +kernel
theorem dX8_best_78 : decode cX8_best 78 = .ok (.goto (-45), 3) := by decide +kernel
theorem dX8_best_81 : decode cX8_best 81 = .ok (.lload_n 3, 1) := by decide +kernel
theorem dX8_best_82 : decode cX8_best 82 = .ok (.lreturn, 1) := by decide +kernel
theorem dJ6_bitCount_0f7a4_0 : decode cJ6_bitCount_0f7a4 0 = .ok (.iload_n 0, 1) := by decide +kernel
theorem dJ6_bitCount_0f7a4_1 : decode cJ6_bitCount_0f7a4 1 = .ok (.iload_n 0, 1) := by decide +kernel
theorem dJ6_bitCount_0f7a4_2 : decode cJ6_bitCount_0f7a4 2 = .ok (.iconst 1, 1) := by decide +kernel
theorem dJ6_bitCount_0f7a4_3 : decode cJ6_bitCount_0f7a4 3 = .ok (.iushr, 1) := by decide +kernel
theorem dJ6_bitCount_0f7a4_4 : decode cJ6_bitCount_0f7a4 4 = .ok (.ldc_w 265, 3) := by decide +kernel
theorem dJ6_bitCount_0f7a4_7 : decode cJ6_bitCount_0f7a4 7 = .ok (.iand, 1) := by decide +kernel
theorem dJ6_bitCount_0f7a4_8 : decode cJ6_bitCount_0f7a4 8 = .ok (.isub, 1) := by decide +kernel
theorem dJ6_bitCount_0f7a4_9 : decode cJ6_bitCount_0f7a4 9 = .ok (.istore_n 0, 1) := by decide +kernel
theorem dJ6_bitCount_0f7a4_10 : decode cJ6_bitCount_0f7a4 10 = .ok (.iload_n 0, 1) := by decide +kernel
theorem dJ6_bitCount_0f7a4_11 : decode cJ6_bitCount_0f7a4 11 = .ok (.ldc_w 266, 3) := by decide +kernel
theorem dJ6_bitCount_0f7a4_14 : decode cJ6_bitCount_0f7a4 14 = .ok (.iand, 1) := by decide +kernel
theorem dJ6_bitCount_0f7a4_15 : decode cJ6_bitCount_0f7a4 15 = .ok (.iload_n 0, 1) := by decide +kernel
theorem dJ6_bitCount_0f7a4_16 : decode cJ6_bitCount_0f7a4 16 = .ok (.iconst 2, 1) := by decide +kernel
theorem dJ6_bitCount_0f7a4_17 : decode cJ6_bitCount_0f7a4 17 = .ok (.iushr, 1) := by decide +kernel
theorem dJ6_bitCount_0f7a4_18 : decode cJ6_bitCount_0f7a4 18 = .ok (.ldc_w 266, 3) := by decide +kernel
theorem dJ6_bitCount_0f7a4_21 : decode cJ6_bitCount_0f7a4 21 = .ok (.iand, 1) := by decide +kernel
theorem dJ6_bitCount_0f7a4_22 : decode cJ6_bitCount_0f7a4 22 = .ok (.iadd, 1) := by decide +kernel
theorem dJ6_bitCount_0f7a4_23 : decode cJ6_bitCount_0f7a4 23 = .ok (.istore_n 0, 1) := by decide +kernel
theorem dJ6_bitCount_0f7a4_24 : decode cJ6_bitCount_0f7a4 24 = .ok (.iload_n 0, 1) := by decide +kernel
theorem dJ6_bitCount_0f7a4_25 : decode cJ6_bitCount_0f7a4 25 = .ok (.iload_n 0, 1) := by decide +kernel
theorem dJ6_bitCount_0f7a4_26 : decode cJ6_bitCount_0f7a4 26 = .ok (.iconst 4, 1) := by decide +kernel
theorem dJ6_bitCount_0f7a4_27 : decode cJ6_bitCount_0f7a4 27 = .ok (.iushr, 1) := by decide +kernel
theorem dJ6_bitCount_0f7a4_28 : decode cJ6_bitCount_0f7a4 28 = .ok (.iadd, 1) := by decide +kernel
theorem dJ6_bitCount_0f7a4_29 : decode cJ6_bitCount_0f7a4 29 = .ok (.ldc_w 267, 3) := by decide +kernel
theorem dJ6_bitCount_0f7a4_32 : decode cJ6_bitCount_0f7a4 32 = .ok (.iand, 1) := by decide +kernel
theorem dJ6_bitCount_0f7a4_33 : decode cJ6_bitCount_0f7a4 33 = .ok (.istore_n 0, 1) := by decide +kernel
theorem dJ6_bitCount_0f7a4_34 : decode cJ6_bitCount_0f7a4 34 = .ok (.iload_n 0, 1) := by decide +kernel
theorem dJ6_bitCount_0f7a4_35 : decode cJ6_bitCount_0f7a4 35 = .ok (.iload_n 0, 1) := by decide +kernel
theorem dJ6_bitCount_0f7a4_36 : decode cJ6_bitCount_0f7a4 36 = .ok (.bipush 8, 2) := by decide +kernel
theorem dJ6_bitCount_0f7a4_38 : decode cJ6_bitCount_0f7a4 38 = .ok (.iushr, 1) := by decide +kernel
theorem dJ6_bitCount_0f7a4_39 : decode cJ6_bitCount_0f7a4 39 = .ok (.iadd, 1) := by decide +kernel
theorem dJ6_bitCount_0f7a4_40 : decode cJ6_bitCount_0f7a4 40 = .ok (.istore_n 0, 1) := by decide +kernel
theorem dJ6_bitCount_0f7a4_41 : decode cJ6_bitCount_0f7a4 41 = .ok (.iload_n 0, 1) := by decide +kernel
theorem dJ6_bitCount_0f7a4_42 : decode cJ6_bitCount_0f7a4 42 = .ok (.iload_n 0, 1) := by decide +kernel
theorem dJ6_bitCount_0f7a4_43 : decode cJ6_bitCount_0f7a4 43 = .ok (.bipush 16, 2) := by decide +kernel
theorem dJ6_bitCount_0f7a4_45 : decode cJ6_bitCount_0f7a4 45 = .ok (.iushr, 1) := by decide +kernel
theorem dJ6_bitCount_0f7a4_46 : decode cJ6_bitCount_0f7a4 46 = .ok (.iadd, 1) := by decide +kernel
theorem dJ6_bitCount_0f7a4_47 : decode cJ6_bitCount_0f7a4 47 = .ok (.istore_n 0, 1) := by decide +kernel
theorem dJ6_bitCount_0f7a4_48 : decode cJ6_bitCount_0f7a4 48 = .ok (.iload_n 0, 1) := by decide +kernel
theorem dJ6_bitCount_0f7a4_49 : decode cJ6_bitCount_0f7a4 49 = .ok (.bipush 63, 2) := by decide +kernel
theorem dJ6_bitCount_0f7a4_51 : decode cJ6_bitCount_0f7a4 51 = .ok (.iand, 1) := by decide +kernel
theorem dJ6_bitCount_0f7a4_52 : decode cJ6_bitCount_0f7a4 52 = .ok (.ireturn, 1) := by decide +kernel
theorem dJ9_max_f86c9_0 : decode cJ9_max_f86c9 0 = .ok (.lload_n 0, 1) := by decide +kernel
theorem dJ9_max_f86c9_1 : decode cJ9_max_f86c9 1 = .ok (.lload_n 2, 1) := by decide +kernel
theorem dJ9_max_f86c9_2 : decode cJ9_max_f86c9 2 = .ok (.lcmp, 1) := by decide +kernel
theorem dJ9_max_f86c9_3 : decode cJ9_max_f86c9 3 = .ok (.ifCond .lt 7, 3) := by decide +kernel
theorem dJ9_max_f86c9_6 : decode cJ9_max_f86c9 6 = .ok (.lload_n 0, 1) := by decide +kernel
theorem dJ9_max_f86c9_7 : decode cJ9_max_f86c9 7 = .ok (.goto 4, 3) := by decide +kernel
theorem dJ9_max_f86c9_10 : decode cJ9_max_f86c9 10 = .ok (.lload_n 2, 1) := by decide +kernel
theorem dJ9_max_f86c9_11 : decode cJ9_max_f86c9 11 = .ok (.lreturn, 1) := by decide +kernel
theorem dJ9_min_f86c9_0 : decode cJ9_min_f86c9 0 = .ok (.lload_n 0, 1) := by decide +kernel
theorem dJ9_min_f86c9_1 : decode cJ9_min_f86c9 1 = .ok (.lload_n 2, 1) := by decide +kernel
theorem dJ9_min_f86c9_2 : decode cJ9_min_f86c9 2 = .ok (.lcmp, 1) := by decide +kernel
theorem dJ9_min_f86c9_3 : decode cJ9_min_f86c9 3 = .ok (.ifCond .gt 7, 3) := by decide +kernel
theorem dJ9_min_f86c9_6 : decode cJ9_min_f86c9 6 = .ok (.lload_n 0, 1) := by decide +kernel
theorem dJ9_min_f86c9_7 : decode cJ9_min_f86c9 7 = .ok (.goto 4, 3) := by decide +kernel
theorem dJ9_min_f86c9_10 : decode cJ9_min_f86c9 10 = .ok (.lload_n 2, 1) := by decide +kernel
theorem dJ9_min_f86c9_11 : decode cJ9_min_f86c9 11 = .ok (.lreturn, 1) := by decide +kernel
theorem dL_law_0 : decode cL_law 0 = .ok (.new 7, 3) := by decide +kernel
theorem dL_law_3 : decode cL_law 3 = .ok (.dup, 1) := by decide +kernel
theorem dL_law_4 : decode cL_law 4 = .ok (.invokespecial 9, 3) := by decide +kernel
theorem dL_law_7 : decode cL_law 7 = .ok (.astore_n 1, 1) := by decide +kernel
theorem dL_law_8 : decode cL_law 8 = .ok (.new 10, 3) := by decide +kernel
theorem dL_law_11 : decode cL_law 11 = .ok (.dup, 1) := by decide +kernel
theorem dL_law_12 : decode cL_law 12 = .ok (.invokespecial 12, 3) := by decide +kernel
theorem dL_law_15 : decode cL_law 15 = .ok (.astore_n 2, 1) := by decide +kernel
theorem dL_law_16 : decode cL_law 16 = .ok (.iconst 0, 1) := by decide +kernel
theorem dL_law_17 : decode cL_law 17 = .ok (.istore_n 3, 1) := by decide +kernel
theorem dL_law_18 : decode cL_law 18 = .ok (.iload_n 3, 1) := by decide +kernel
theorem dL_law_19 : decode cL_law 19 = .ok (.aload_n 0, 1) := by decide +kernel
theorem dL_law_20 : decode cL_law 20 = .ok (.arraylength, 1) := by decide +kernel
theorem dL_law_21 : decode cL_law 21 = .ok (.bipush 7, 2) := by decide +kernel
theorem dL_law_23 : decode cL_law 23 = .ok (.isub, 1) := by decide +kernel
theorem dL_law_24 : decode cL_law 24 = .ok (.if_icmp .gt 1555, 3) := by decide +kernel
theorem dL_law_27 : decode cL_law 27 = .ok (.aload_n 0, 1) := by decide +kernel
theorem dL_law_28 : decode cL_law 28 = .ok (.iload_n 3, 1) := by decide +kernel
theorem dL_law_29 : decode cL_law 29 = .ok (.iaload, 1) := by decide +kernel
theorem dL_law_30 : decode cL_law 30 = .ok (.bipush 63, 2) := by decide +kernel
theorem dL_law_32 : decode cL_law 32 = .ok (.iand, 1) := by decide +kernel
theorem dL_law_33 : decode cL_law 33 = .ok (.tableswitch 1540 0 38 #[171, 194, 237, 260, 344, 378, 401, 414, 447, 480, 503, 536, 579, 612, 665, 708, 783, 816, 859, 902, 915, 949, 993, 1016, 1049, 1073, 1106, 1139, 1173, 1196, 1240, 1273, 1296, 1339, 1403, 1427, 1450, 1473, 1506], 171) := by decide +kernel
theorem dL_law_204 : decode cL_law 204 = .ok (.aload_n 1, 1) := by decide +kernel
theorem dL_law_205 : decode cL_law 205 = .ok (.aload_n 0, 1) := by decide +kernel
theorem dL_law_206 : decode cL_law 206 = .ok (.iload_n 3, 1) := by decide +kernel
theorem dL_law_207 : decode cL_law 207 = .ok (.iconst 1, 1) := by decide +kernel
theorem dL_law_208 : decode cL_law 208 = .ok (.iadd, 1) := by decide +kernel
theorem dL_law_209 : decode cL_law 209 = .ok (.iaload, 1) := by decide +kernel
theorem dL_law_210 : decode cL_law 210 = .ok (.invokevirtual 13, 3) := by decide +kernel
theorem dL_law_213 : decode cL_law 213 = .ok (.aload_n 2, 1) := by decide +kernel
theorem dL_law_214 : decode cL_law 214 = .ok (.aload_n 0, 1) := by decide +kernel
theorem dL_law_215 : decode cL_law 215 = .ok (.iload_n 3, 1) := by decide +kernel
theorem dL_law_216 : decode cL_law 216 = .ok (.iconst 1, 1) := by decide +kernel
theorem dL_law_217 : decode cL_law 217 = .ok (.iadd, 1) := by decide +kernel
theorem dL_law_218 : decode cL_law 218 = .ok (.iaload, 1) := by decide +kernel
theorem dL_law_219 : decode cL_law 219 = .ok (.invokevirtual 17, 3) := by decide +kernel
theorem dL_law_222 : decode cL_law 222 = .ok (.if_icmp .eq 1351, 3) := by decide +kernel
theorem dL_law_225 : decode cL_law 225 = .ok (.iconst 0, 1) := by decide +kernel
theorem dL_law_226 : decode cL_law 226 = .ok (.ireturn, 1) := by decide +kernel
theorem dL_law_227 : decode cL_law 227 = .ok (.aload_n 1, 1) := by decide +kernel
theorem dL_law_228 : decode cL_law 228 = .ok (.aload_n 0, 1) := by decide +kernel
theorem dL_law_229 : decode cL_law 229 = .ok (.iload_n 3, 1) := by decide +kernel
theorem dL_law_230 : decode cL_law 230 = .ok (.iconst 1, 1) := by decide +kernel
theorem dL_law_231 : decode cL_law 231 = .ok (.iadd, 1) := by decide +kernel
theorem dL_law_232 : decode cL_law 232 = .ok (.iaload, 1) := by decide +kernel
theorem dL_law_233 : decode cL_law 233 = .ok (.aload_n 0, 1) := by decide +kernel
theorem dL_law_234 : decode cL_law 234 = .ok (.iload_n 3, 1) := by decide +kernel
theorem dL_law_235 : decode cL_law 235 = .ok (.iconst 2, 1) := by decide +kernel
theorem dL_law_236 : decode cL_law 236 = .ok (.iadd, 1) := by decide +kernel
theorem dL_law_237 : decode cL_law 237 = .ok (.iaload, 1) := by decide +kernel
theorem dL_law_238 : decode cL_law 238 = .ok (.aload_n 0, 1) := by decide +kernel
theorem dL_law_239 : decode cL_law 239 = .ok (.iload_n 3, 1) := by decide +kernel
theorem dL_law_240 : decode cL_law 240 = .ok (.iconst 3, 1) := by decide +kernel
theorem dL_law_241 : decode cL_law 241 = .ok (.iadd, 1) := by decide +kernel
theorem dL_law_242 : decode cL_law 242 = .ok (.iaload, 1) := by decide +kernel
theorem dL_law_243 : decode cL_law 243 = .ok (.invokevirtual 18, 3) := by decide +kernel
theorem dL_law_246 : decode cL_law 246 = .ok (.aload_n 2, 1) := by decide +kernel
theorem dL_law_247 : decode cL_law 247 = .ok (.aload_n 0, 1) := by decide +kernel
theorem dL_law_248 : decode cL_law 248 = .ok (.iload_n 3, 1) := by decide +kernel
theorem dL_law_249 : decode cL_law 249 = .ok (.iconst 1, 1) := by decide +kernel
theorem dL_law_250 : decode cL_law 250 = .ok (.iadd, 1) := by decide +kernel
theorem dL_law_251 : decode cL_law 251 = .ok (.iaload, 1) := by decide +kernel
theorem dL_law_252 : decode cL_law 252 = .ok (.aload_n 0, 1) := by decide +kernel
theorem dL_law_253 : decode cL_law 253 = .ok (.iload_n 3, 1) := by decide +kernel
theorem dL_law_254 : decode cL_law 254 = .ok (.iconst 2, 1) := by decide +kernel
theorem dL_law_255 : decode cL_law 255 = .ok (.iadd, 1) := by decide +kernel
theorem dL_law_256 : decode cL_law 256 = .ok (.iaload, 1) := by decide +kernel
theorem dL_law_257 : decode cL_law 257 = .ok (.aload_n 0, 1) := by decide +kernel
theorem dL_law_258 : decode cL_law 258 = .ok (.iload_n 3, 1) := by decide +kernel
theorem dL_law_259 : decode cL_law 259 = .ok (.iconst 3, 1) := by decide +kernel
theorem dL_law_260 : decode cL_law 260 = .ok (.iadd, 1) := by decide +kernel
theorem dL_law_261 : decode cL_law 261 = .ok (.iaload, 1) := by decide +kernel
theorem dL_law_262 : decode cL_law 262 = .ok (.invokevirtual 22, 3) := by decide +kernel
theorem dL_law_265 : decode cL_law 265 = .ok (.if_icmp .eq 1308, 3) := by decide +kernel
theorem dL_law_268 : decode cL_law 268 = .ok (.iconst 0, 1) := by decide +kernel
theorem dL_law_269 : decode cL_law 269 = .ok (.ireturn, 1) := by decide +kernel
theorem dL_law_270 : decode cL_law 270 = .ok (.aload_n 1, 1) := by decide +kernel
theorem dL_law_271 : decode cL_law 271 = .ok (.aload_n 0, 1) := by decide +kernel
theorem dL_law_272 : decode cL_law 272 = .ok (.iload_n 3, 1) := by decide +kernel
theorem dL_law_273 : decode cL_law 273 = .ok (.iconst 1, 1) := by decide +kernel
theorem dL_law_274 : decode cL_law 274 = .ok (.iadd, 1) := by decide +kernel
theorem dL_law_275 : decode cL_law 275 = .ok (.iaload, 1) := by decide +kernel
theorem dL_law_276 : decode cL_law 276 = .ok (.invokevirtual 23, 3) := by decide +kernel
theorem dL_law_279 : decode cL_law 279 = .ok (.aload_n 2, 1) := by decide +kernel
theorem dL_law_280 : decode cL_law 280 = .ok (.aload_n 0, 1) := by decide +kernel
theorem dL_law_281 : decode cL_law 281 = .ok (.iload_n 3, 1) := by decide +kernel
theorem dL_law_282 : decode cL_law 282 = .ok (.iconst 1, 1) := by decide +kernel
theorem dL_law_283 : decode cL_law 283 = .ok (.iadd, 1) := by decide +kernel
theorem dL_law_284 : decode cL_law 284 = .ok (.iaload, 1) := by decide +kernel
theorem dL_law_285 : decode cL_law 285 = .ok (.invokevirtual 26, 3) := by decide +kernel
theorem dL_law_288 : decode cL_law 288 = .ok (.if_icmp .eq 1285, 3) := by decide +kernel
theorem dL_law_291 : decode cL_law 291 = .ok (.iconst 0, 1) := by decide +kernel
theorem dL_law_292 : decode cL_law 292 = .ok (.ireturn, 1) := by decide +kernel
theorem dL_law_293 : decode cL_law 293 = .ok (.aload_n 1, 1) := by decide +kernel
theorem dL_law_294 : decode cL_law 294 = .ok (.aload_n 0, 1) := by decide +kernel
theorem dL_law_295 : decode cL_law 295 = .ok (.iload_n 3, 1) := by decide +kernel
theorem dL_law_296 : decode cL_law 296 = .ok (.iconst 1, 1) := by decide +kernel
theorem dL_law_297 : decode cL_law 297 = .ok (.iadd, 1) := by decide +kernel
theorem dL_law_298 : decode cL_law 298 = .ok (.iaload, 1) := by decide +kernel
theorem dL_law_299 : decode cL_law 299 = .ok (.aload_n 0, 1) := by decide +kernel
theorem dL_law_300 : decode cL_law 300 = .ok (.iload_n 3, 1) := by decide +kernel
theorem dL_law_301 : decode cL_law 301 = .ok (.iconst 2, 1) := by decide +kernel
theorem dL_law_302 : decode cL_law 302 = .ok (.iadd, 1) := by decide +kernel
theorem dL_law_303 : decode cL_law 303 = .ok (.iaload, 1) := by decide +kernel
theorem dL_law_304 : decode cL_law 304 = .ok (.aload_n 0, 1) := by decide +kernel
theorem dL_law_305 : decode cL_law 305 = .ok (.iload_n 3, 1) := by decide +kernel
theorem dL_law_306 : decode cL_law 306 = .ok (.iconst 3, 1) := by decide +kernel
theorem dL_law_307 : decode cL_law 307 = .ok (.iadd, 1) := by decide +kernel
theorem dL_law_308 : decode cL_law 308 = .ok (.iaload, 1) := by decide +kernel
theorem dL_law_309 : decode cL_law 309 = .ok (.aload_n 0, 1) := by decide +kernel
theorem dL_law_310 : decode cL_law 310 = .ok (.iload_n 3, 1) := by decide +kernel
theorem dL_law_311 : decode cL_law 311 = .ok (.iconst 4, 1) := by decide +kernel
theorem dL_law_312 : decode cL_law 312 = .ok (.iadd, 1) := by decide +kernel
theorem dL_law_313 : decode cL_law 313 = .ok (.iaload, 1) := by decide +kernel
theorem dL_law_314 : decode cL_law 314 = .ok (.i2l, 1) := by decide +kernel
theorem dL_law_315 : decode cL_law 315 = .ok (.bipush 32, 2) := by decide +kernel
theorem dL_law_317 : decode cL_law 317 = .ok (.lshl, 1) := by decide +kernel
theorem dL_law_318 : decode cL_law 318 = .ok (.aload_n 0, 1) := by decide +kernel
theorem dL_law_319 : decode cL_law 319 = .ok (.iload_n 3, 1) := by decide +kernel
theorem dL_law_320 : decode cL_law 320 = .ok (.iconst 5, 1) := by decide +kernel
theorem dL_law_321 : decode cL_law 321 = .ok (.iadd, 1) := by decide +kernel
theorem dL_law_322 : decode cL_law 322 = .ok (.iaload, 1) := by decide +kernel
theorem dL_law_323 : decode cL_law 323 = .ok (.i2l, 1) := by decide +kernel
theorem dL_law_324 : decode cL_law 324 = .ok (.ldc2_w 27, 3) := by decide +kernel
theorem dL_law_327 : decode cL_law 327 = .ok (.land, 1) := by decide +kernel
theorem dL_law_328 : decode cL_law 328 = .ok (.lor, 1) := by decide +kernel
theorem dL_law_329 : decode cL_law 329 = .ok (.invokevirtual 29, 3) := by decide +kernel
theorem dL_law_332 : decode cL_law 332 = .ok (.aload_n 2, 1) := by decide +kernel
theorem dL_law_333 : decode cL_law 333 = .ok (.aload_n 0, 1) := by decide +kernel
theorem dL_law_334 : decode cL_law 334 = .ok (.iload_n 3, 1) := by decide +kernel
theorem dL_law_335 : decode cL_law 335 = .ok (.iconst 1, 1) := by decide +kernel
theorem dL_law_336 : decode cL_law 336 = .ok (.iadd, 1) := by decide +kernel
theorem dL_law_337 : decode cL_law 337 = .ok (.iaload, 1) := by decide +kernel
theorem dL_law_338 : decode cL_law 338 = .ok (.aload_n 0, 1) := by decide +kernel
theorem dL_law_339 : decode cL_law 339 = .ok (.iload_n 3, 1) := by decide +kernel
theorem dL_law_340 : decode cL_law 340 = .ok (.iconst 2, 1) := by decide +kernel
theorem dL_law_341 : decode cL_law 341 = .ok (.iadd, 1) := by decide +kernel
theorem dL_law_342 : decode cL_law 342 = .ok (.iaload, 1) := by decide +kernel
theorem dL_law_343 : decode cL_law 343 = .ok (.aload_n 0, 1) := by decide +kernel
theorem dL_law_344 : decode cL_law 344 = .ok (.iload_n 3, 1) := by decide +kernel
theorem dL_law_345 : decode cL_law 345 = .ok (.iconst 3, 1) := by decide +kernel
theorem dL_law_346 : decode cL_law 346 = .ok (.iadd, 1) := by decide +kernel
theorem dL_law_347 : decode cL_law 347 = .ok (.iaload, 1) := by decide +kernel
theorem dL_law_348 : decode cL_law 348 = .ok (.aload_n 0, 1) := by decide +kernel
theorem dL_law_349 : decode cL_law 349 = .ok (.iload_n 3, 1) := by decide +kernel
theorem dL_law_350 : decode cL_law 350 = .ok (.iconst 4, 1) := by decide +kernel
theorem dL_law_351 : decode cL_law 351 = .ok (.iadd, 1) := by decide +kernel
theorem dL_law_352 : decode cL_law 352 = .ok (.iaload, 1) := by decide +kernel
theorem dL_law_353 : decode cL_law 353 = .ok (.i2l, 1) := by decide +kernel
theorem dL_law_354 : decode cL_law 354 = .ok (.bipush 32, 2) := by decide +kernel
theorem dL_law_356 : decode cL_law 356 = .ok (.lshl, 1) := by decide +kernel
theorem dL_law_357 : decode cL_law 357 = .ok (.aload_n 0, 1) := by decide +kernel
theorem dL_law_358 : decode cL_law 358 = .ok (.iload_n 3, 1) := by decide +kernel
theorem dL_law_359 : decode cL_law 359 = .ok (.iconst 5, 1) := by decide +kernel
theorem dL_law_360 : decode cL_law 360 = .ok (.iadd, 1) := by decide +kernel
theorem dL_law_361 : decode cL_law 361 = .ok (.iaload, 1) := by decide +kernel
theorem dL_law_362 : decode cL_law 362 = .ok (.i2l, 1) := by decide +kernel
theorem dL_law_363 : decode cL_law 363 = .ok (.ldc2_w 27, 3) := by decide +kernel
theorem dL_law_366 : decode cL_law 366 = .ok (.land, 1) := by decide +kernel
theorem dL_law_367 : decode cL_law 367 = .ok (.lor, 1) := by decide +kernel
theorem dL_law_368 : decode cL_law 368 = .ok (.invokevirtual 33, 3) := by decide +kernel
theorem dL_law_371 : decode cL_law 371 = .ok (.lcmp, 1) := by decide +kernel
theorem dL_law_372 : decode cL_law 372 = .ok (.ifCond .eq 1201, 3) := by decide +kernel
theorem dL_law_375 : decode cL_law 375 = .ok (.iconst 0, 1) := by decide +kernel
theorem dL_law_376 : decode cL_law 376 = .ok (.ireturn, 1) := by decide +kernel
theorem dL_law_377 : decode cL_law 377 = .ok (.aload_n 1, 1) := by decide +kernel
theorem dL_law_378 : decode cL_law 378 = .ok (.aload_n 0, 1) := by decide +kernel
theorem dL_law_379 : decode cL_law 379 = .ok (.iload_n 3, 1) := by decide +kernel
theorem dL_law_380 : decode cL_law 380 = .ok (.iconst 1, 1) := by decide +kernel
theorem dL_law_381 : decode cL_law 381 = .ok (.iadd, 1) := by decide +kernel
theorem dL_law_382 : decode cL_law 382 = .ok (.iaload, 1) := by decide +kernel
theorem dL_law_383 : decode cL_law 383 = .ok (.aload_n 0, 1) := by decide +kernel
theorem dL_law_384 : decode cL_law 384 = .ok (.iload_n 3, 1) := by decide +kernel
theorem dL_law_385 : decode cL_law 385 = .ok (.iconst 2, 1) := by decide +kernel
theorem dL_law_386 : decode cL_law 386 = .ok (.iadd, 1) := by decide +kernel
theorem dL_law_387 : decode cL_law 387 = .ok (.iaload, 1) := by decide +kernel
theorem dL_law_388 : decode cL_law 388 = .ok (.invokevirtual 34, 3) := by decide +kernel
theorem dL_law_391 : decode cL_law 391 = .ok (.aload_n 2, 1) := by decide +kernel
theorem dL_law_392 : decode cL_law 392 = .ok (.aload_n 0, 1) := by decide +kernel
theorem dL_law_393 : decode cL_law 393 = .ok (.iload_n 3, 1) := by decide +kernel
theorem dL_law_394 : decode cL_law 394 = .ok (.iconst 1, 1) := by decide +kernel
theorem dL_law_395 : decode cL_law 395 = .ok (.iadd, 1) := by decide +kernel
theorem dL_law_396 : decode cL_law 396 = .ok (.iaload, 1) := by decide +kernel
theorem dL_law_397 : decode cL_law 397 = .ok (.aload_n 0, 1) := by decide +kernel
theorem dL_law_398 : decode cL_law 398 = .ok (.iload_n 3, 1) := by decide +kernel
theorem dL_law_399 : decode cL_law 399 = .ok (.iconst 2, 1) := by decide +kernel
theorem dL_law_400 : decode cL_law 400 = .ok (.iadd, 1) := by decide +kernel
theorem dL_law_401 : decode cL_law 401 = .ok (.iaload, 1) := by decide +kernel
theorem dL_law_402 : decode cL_law 402 = .ok (.invokevirtual 38, 3) := by decide +kernel
theorem dL_law_405 : decode cL_law 405 = .ok (.lcmp, 1) := by decide +kernel
theorem dL_law_406 : decode cL_law 406 = .ok (.ifCond .eq 1167, 3) := by decide +kernel
theorem dL_law_409 : decode cL_law 409 = .ok (.iconst 0, 1) := by decide +kernel
theorem dL_law_410 : decode cL_law 410 = .ok (.ireturn, 1) := by decide +kernel
theorem dL_law_411 : decode cL_law 411 = .ok (.aload_n 1, 1) := by decide +kernel
theorem dL_law_412 : decode cL_law 412 = .ok (.aload_n 0, 1) := by decide +kernel
theorem dL_law_413 : decode cL_law 413 = .ok (.iload_n 3, 1) := by decide +kernel
theorem dL_law_414 : decode cL_law 414 = .ok (.iconst 1, 1) := by decide +kernel
theorem dL_law_415 : decode cL_law 415 = .ok (.iadd, 1) := by decide +kernel
theorem dL_law_416 : decode cL_law 416 = .ok (.iaload, 1) := by decide +kernel
theorem dL_law_417 : decode cL_law 417 = .ok (.invokevirtual 39, 3) := by decide +kernel
theorem dL_law_420 : decode cL_law 420 = .ok (.aload_n 2, 1) := by decide +kernel
theorem dL_law_421 : decode cL_law 421 = .ok (.aload_n 0, 1) := by decide +kernel
theorem dL_law_422 : decode cL_law 422 = .ok (.iload_n 3, 1) := by decide +kernel
theorem dL_law_423 : decode cL_law 423 = .ok (.iconst 1, 1) := by decide +kernel
theorem dL_law_424 : decode cL_law 424 = .ok (.iadd, 1) := by decide +kernel
theorem dL_law_425 : decode cL_law 425 = .ok (.iaload, 1) := by decide +kernel
theorem dL_law_426 : decode cL_law 426 = .ok (.invokevirtual 42, 3) := by decide +kernel
theorem dL_law_429 : decode cL_law 429 = .ok (.if_icmp .eq 1144, 3) := by decide +kernel
theorem dL_law_432 : decode cL_law 432 = .ok (.iconst 0, 1) := by decide +kernel
theorem dL_law_433 : decode cL_law 433 = .ok (.ireturn, 1) := by decide +kernel
theorem dL_law_434 : decode cL_law 434 = .ok (.aload_n 1, 1) := by decide +kernel
theorem dL_law_435 : decode cL_law 435 = .ok (.invokevirtual 43, 3) := by decide +kernel
theorem dL_law_438 : decode cL_law 438 = .ok (.aload_n 2, 1) := by decide +kernel
theorem dL_law_439 : decode cL_law 439 = .ok (.invokevirtual 47, 3) := by decide +kernel
theorem dL_law_442 : decode cL_law 442 = .ok (.if_icmp .eq 1131, 3) := by decide +kernel
theorem dL_law_445 : decode cL_law 445 = .ok (.iconst 0, 1) := by decide +kernel
theorem dL_law_446 : decode cL_law 446 = .ok (.ireturn, 1) := by decide +kernel
theorem dL_law_447 : decode cL_law 447 = .ok (.aload_n 1, 1) := by decide +kernel
theorem dL_law_448 : decode cL_law 448 = .ok (.aload_n 0, 1) := by decide +kernel
theorem dL_law_449 : decode cL_law 449 = .ok (.iload_n 3, 1) := by decide +kernel
theorem dL_law_450 : decode cL_law 450 = .ok (.iconst 1, 1) := by decide +kernel
theorem dL_law_451 : decode cL_law 451 = .ok (.iadd, 1) := by decide +kernel
theorem dL_law_452 : decode cL_law 452 = .ok (.iaload, 1) := by decide +kernel
theorem dL_law_453 : decode cL_law 453 = .ok (.aload_n 0, 1) := by decide +kernel
theorem dL_law_454 : decode cL_law 454 = .ok (.iload_n 3, 1) := by decide +kernel
theorem dL_law_455 : decode cL_law 455 = .ok (.iconst 2, 1) := by decide +kernel
theorem dL_law_456 : decode cL_law 456 = .ok (.iadd, 1) := by decide +kernel
theorem dL_law_457 : decode cL_law 457 = .ok (.iaload, 1) := by decide +kernel
theorem dL_law_458 : decode cL_law 458 = .ok (.invokevirtual 48, 3) := by decide +kernel
theorem dL_law_461 : decode cL_law 461 = .ok (.aload_n 2, 1) := by decide +kernel
theorem dL_law_462 : decode cL_law 462 = .ok (.aload_n 0, 1) := by decide +kernel
theorem dL_law_463 : decode cL_law 463 = .ok (.iload_n 3, 1) := by decide +kernel
theorem dL_law_464 : decode cL_law 464 = .ok (.iconst 1, 1) := by decide +kernel
theorem dL_law_465 : decode cL_law 465 = .ok (.iadd, 1) := by decide +kernel
theorem dL_law_466 : decode cL_law 466 = .ok (.iaload, 1) := by decide +kernel
theorem dL_law_467 : decode cL_law 467 = .ok (.aload_n 0, 1) := by decide +kernel
theorem dL_law_468 : decode cL_law 468 = .ok (.iload_n 3, 1) := by decide +kernel
theorem dL_law_469 : decode cL_law 469 = .ok (.iconst 2, 1) := by decide +kernel
theorem dL_law_470 : decode cL_law 470 = .ok (.iadd, 1) := by decide +kernel
theorem dL_law_471 : decode cL_law 471 = .ok (.iaload, 1) := by decide +kernel
theorem dL_law_472 : decode cL_law 472 = .ok (.invokevirtual 52, 3) := by decide +kernel
theorem dL_law_475 : decode cL_law 475 = .ok (.if_icmp .eq 1098, 3) := by decide +kernel
theorem dL_law_478 : decode cL_law 478 = .ok (.iconst 0, 1) := by decide +kernel
theorem dL_law_479 : decode cL_law 479 = .ok (.ireturn, 1) := by decide +kernel
theorem dL_law_480 : decode cL_law 480 = .ok (.aload_n 1, 1) := by decide +kernel
theorem dL_law_481 : decode cL_law 481 = .ok (.aload_n 0, 1) := by decide +kernel
theorem dL_law_482 : decode cL_law 482 = .ok (.iload_n 3, 1) := by decide +kernel
theorem dL_law_483 : decode cL_law 483 = .ok (.iconst 1, 1) := by decide +kernel
theorem dL_law_484 : decode cL_law 484 = .ok (.iadd, 1) := by decide +kernel
theorem dL_law_485 : decode cL_law 485 = .ok (.iaload, 1) := by decide +kernel
theorem dL_law_486 : decode cL_law 486 = .ok (.aload_n 0, 1) := by decide +kernel
theorem dL_law_487 : decode cL_law 487 = .ok (.iload_n 3, 1) := by decide +kernel
theorem dL_law_488 : decode cL_law 488 = .ok (.iconst 2, 1) := by decide +kernel
theorem dL_law_489 : decode cL_law 489 = .ok (.iadd, 1) := by decide +kernel
theorem dL_law_490 : decode cL_law 490 = .ok (.iaload, 1) := by decide +kernel
theorem dL_law_491 : decode cL_law 491 = .ok (.invokevirtual 53, 3) := by decide +kernel
theorem dL_law_494 : decode cL_law 494 = .ok (.aload_n 2, 1) := by decide +kernel
theorem dL_law_495 : decode cL_law 495 = .ok (.aload_n 0, 1) := by decide +kernel
theorem dL_law_496 : decode cL_law 496 = .ok (.iload_n 3, 1) := by decide +kernel
theorem dL_law_497 : decode cL_law 497 = .ok (.iconst 1, 1) := by decide +kernel
theorem dL_law_498 : decode cL_law 498 = .ok (.iadd, 1) := by decide +kernel
theorem dL_law_499 : decode cL_law 499 = .ok (.iaload, 1) := by decide +kernel
theorem dL_law_500 : decode cL_law 500 = .ok (.aload_n 0, 1) := by decide +kernel
theorem dL_law_501 : decode cL_law 501 = .ok (.iload_n 3, 1) := by decide +kernel
theorem dL_law_502 : decode cL_law 502 = .ok (.iconst 2, 1) := by decide +kernel
theorem dL_law_503 : decode cL_law 503 = .ok (.iadd, 1) := by decide +kernel
theorem dL_law_504 : decode cL_law 504 = .ok (.iaload, 1) := by decide +kernel
theorem dL_law_505 : decode cL_law 505 = .ok (.invokevirtual 56, 3) := by decide +kernel
theorem dL_law_508 : decode cL_law 508 = .ok (.if_icmp .eq 1065, 3) := by decide +kernel
theorem dL_law_511 : decode cL_law 511 = .ok (.iconst 0, 1) := by decide +kernel
theorem dL_law_512 : decode cL_law 512 = .ok (.ireturn, 1) := by decide +kernel
theorem dL_law_513 : decode cL_law 513 = .ok (.aload_n 1, 1) := by decide +kernel
theorem dL_law_514 : decode cL_law 514 = .ok (.aload_n 0, 1) := by decide +kernel
theorem dL_law_515 : decode cL_law 515 = .ok (.iload_n 3, 1) := by decide +kernel
theorem dL_law_516 : decode cL_law 516 = .ok (.iconst 1, 1) := by decide +kernel
theorem dL_law_517 : decode cL_law 517 = .ok (.iadd, 1) := by decide +kernel
theorem dL_law_518 : decode cL_law 518 = .ok (.iaload, 1) := by decide +kernel
theorem dL_law_519 : decode cL_law 519 = .ok (.invokevirtual 57, 3) := by decide +kernel
theorem dL_law_522 : decode cL_law 522 = .ok (.aload_n 2, 1) := by decide +kernel
theorem dL_law_523 : decode cL_law 523 = .ok (.aload_n 0, 1) := by decide +kernel
theorem dL_law_524 : decode cL_law 524 = .ok (.iload_n 3, 1) := by decide +kernel
theorem dL_law_525 : decode cL_law 525 = .ok (.iconst 1, 1) := by decide +kernel
theorem dL_law_526 : decode cL_law 526 = .ok (.iadd, 1) := by decide +kernel
theorem dL_law_527 : decode cL_law 527 = .ok (.iaload, 1) := by decide +kernel
theorem dL_law_528 : decode cL_law 528 = .ok (.invokevirtual 60, 3) := by decide +kernel
theorem dL_law_531 : decode cL_law 531 = .ok (.if_icmp .eq 1042, 3) := by decide +kernel
theorem dL_law_534 : decode cL_law 534 = .ok (.iconst 0, 1) := by decide +kernel
theorem dL_law_535 : decode cL_law 535 = .ok (.ireturn, 1) := by decide +kernel
theorem dL_law_536 : decode cL_law 536 = .ok (.aload_n 1, 1) := by decide +kernel
theorem dL_law_537 : decode cL_law 537 = .ok (.aload_n 0, 1) := by decide +kernel
theorem dL_law_538 : decode cL_law 538 = .ok (.iload_n 3, 1) := by decide +kernel
theorem dL_law_539 : decode cL_law 539 = .ok (.iconst 1, 1) := by decide +kernel
theorem dL_law_540 : decode cL_law 540 = .ok (.iadd, 1) := by decide +kernel
theorem dL_law_541 : decode cL_law 541 = .ok (.iaload, 1) := by decide +kernel
theorem dL_law_542 : decode cL_law 542 = .ok (.aload_n 0, 1) := by decide +kernel
theorem dL_law_543 : decode cL_law 543 = .ok (.iload_n 3, 1) := by decide +kernel
theorem dL_law_544 : decode cL_law 544 = .ok (.iconst 2, 1) := by decide +kernel
theorem dL_law_545 : decode cL_law 545 = .ok (.iadd, 1) := by decide +kernel
theorem dL_law_546 : decode cL_law 546 = .ok (.iaload, 1) := by decide +kernel
theorem dL_law_547 : decode cL_law 547 = .ok (.invokevirtual 61, 3) := by decide +kernel
theorem dL_law_550 : decode cL_law 550 = .ok (.aload_n 2, 1) := by decide +kernel
theorem dL_law_551 : decode cL_law 551 = .ok (.aload_n 0, 1) := by decide +kernel
theorem dL_law_552 : decode cL_law 552 = .ok (.iload_n 3, 1) := by decide +kernel
theorem dL_law_553 : decode cL_law 553 = .ok (.iconst 1, 1) := by decide +kernel
theorem dL_law_554 : decode cL_law 554 = .ok (.iadd, 1) := by decide +kernel
theorem dL_law_555 : decode cL_law 555 = .ok (.iaload, 1) := by decide +kernel
theorem dL_law_556 : decode cL_law 556 = .ok (.aload_n 0, 1) := by decide +kernel
theorem dL_law_557 : decode cL_law 557 = .ok (.iload_n 3, 1) := by decide +kernel
theorem dL_law_558 : decode cL_law 558 = .ok (.iconst 2, 1) := by decide +kernel
theorem dL_law_559 : decode cL_law 559 = .ok (.iadd, 1) := by decide +kernel
theorem dL_law_560 : decode cL_law 560 = .ok (.iaload, 1) := by decide +kernel
theorem dL_law_561 : decode cL_law 561 = .ok (.invokevirtual 64, 3) := by decide +kernel
theorem dL_law_564 : decode cL_law 564 = .ok (.if_icmp .eq 1009, 3) := by decide +kernel
theorem dL_law_567 : decode cL_law 567 = .ok (.iconst 0, 1) := by decide +kernel
theorem dL_law_568 : decode cL_law 568 = .ok (.ireturn, 1) := by decide +kernel
theorem dL_law_569 : decode cL_law 569 = .ok (.aload_n 1, 1) := by decide +kernel
theorem dL_law_570 : decode cL_law 570 = .ok (.aload_n 0, 1) := by decide +kernel
theorem dL_law_571 : decode cL_law 571 = .ok (.iload_n 3, 1) := by decide +kernel
theorem dL_law_572 : decode cL_law 572 = .ok (.iconst 1, 1) := by decide +kernel
theorem dL_law_573 : decode cL_law 573 = .ok (.iadd, 1) := by decide +kernel
theorem dL_law_574 : decode cL_law 574 = .ok (.iaload, 1) := by decide +kernel
theorem dL_law_575 : decode cL_law 575 = .ok (.aload_n 0, 1) := by decide +kernel
theorem dL_law_576 : decode cL_law 576 = .ok (.iload_n 3, 1) := by decide +kernel
theorem dL_law_577 : decode cL_law 577 = .ok (.iconst 2, 1) := by decide +kernel
theorem dL_law_578 : decode cL_law 578 = .ok (.iadd, 1) := by decide +kernel
theorem dL_law_579 : decode cL_law 579 = .ok (.iaload, 1) := by decide +kernel
theorem dL_law_580 : decode cL_law 580 = .ok (.aload_n 0, 1) := by decide +kernel
theorem dL_law_581 : decode cL_law 581 = .ok (.iload_n 3, 1) := by decide +kernel
theorem dL_law_582 : decode cL_law 582 = .ok (.iconst 3, 1) := by decide +kernel
theorem dL_law_583 : decode cL_law 583 = .ok (.iadd, 1) := by decide +kernel
theorem dL_law_584 : decode cL_law 584 = .ok (.iaload, 1) := by decide +kernel
theorem dL_law_585 : decode cL_law 585 = .ok (.invokevirtual 65, 3) := by decide +kernel
theorem dL_law_588 : decode cL_law 588 = .ok (.aload_n 2, 1) := by decide +kernel
theorem dL_law_589 : decode cL_law 589 = .ok (.aload_n 0, 1) := by decide +kernel
theorem dL_law_590 : decode cL_law 590 = .ok (.iload_n 3, 1) := by decide +kernel
theorem dL_law_591 : decode cL_law 591 = .ok (.iconst 1, 1) := by decide +kernel
theorem dL_law_592 : decode cL_law 592 = .ok (.iadd, 1) := by decide +kernel
theorem dL_law_593 : decode cL_law 593 = .ok (.iaload, 1) := by decide +kernel
theorem dL_law_594 : decode cL_law 594 = .ok (.aload_n 0, 1) := by decide +kernel
theorem dL_law_595 : decode cL_law 595 = .ok (.iload_n 3, 1) := by decide +kernel
theorem dL_law_596 : decode cL_law 596 = .ok (.iconst 2, 1) := by decide +kernel
theorem dL_law_597 : decode cL_law 597 = .ok (.iadd, 1) := by decide +kernel
theorem dL_law_598 : decode cL_law 598 = .ok (.iaload, 1) := by decide +kernel
theorem dL_law_599 : decode cL_law 599 = .ok (.aload_n 0, 1) := by decide +kernel
theorem dL_law_600 : decode cL_law 600 = .ok (.iload_n 3, 1) := by decide +kernel
theorem dL_law_601 : decode cL_law 601 = .ok (.iconst 3, 1) := by decide +kernel
theorem dL_law_602 : decode cL_law 602 = .ok (.iadd, 1) := by decide +kernel
theorem dL_law_603 : decode cL_law 603 = .ok (.iaload, 1) := by decide +kernel
theorem dL_law_604 : decode cL_law 604 = .ok (.invokevirtual 68, 3) := by decide +kernel
theorem dL_law_607 : decode cL_law 607 = .ok (.if_icmp .eq 966, 3) := by decide +kernel
theorem dL_law_610 : decode cL_law 610 = .ok (.iconst 0, 1) := by decide +kernel
theorem dL_law_611 : decode cL_law 611 = .ok (.ireturn, 1) := by decide +kernel
theorem dL_law_612 : decode cL_law 612 = .ok (.aload_n 1, 1) := by decide +kernel
theorem dL_law_613 : decode cL_law 613 = .ok (.aload_n 0, 1) := by decide +kernel
theorem dL_law_614 : decode cL_law 614 = .ok (.iload_n 3, 1) := by decide +kernel
theorem dL_law_615 : decode cL_law 615 = .ok (.iconst 1, 1) := by decide +kernel
theorem dL_law_616 : decode cL_law 616 = .ok (.iadd, 1) := by decide +kernel
theorem dL_law_617 : decode cL_law 617 = .ok (.iaload, 1) := by decide +kernel
theorem dL_law_618 : decode cL_law 618 = .ok (.aload_n 0, 1) := by decide +kernel
theorem dL_law_619 : decode cL_law 619 = .ok (.iload_n 3, 1) := by decide +kernel
theorem dL_law_620 : decode cL_law 620 = .ok (.iconst 2, 1) := by decide +kernel
theorem dL_law_621 : decode cL_law 621 = .ok (.iadd, 1) := by decide +kernel
theorem dL_law_622 : decode cL_law 622 = .ok (.iaload, 1) := by decide +kernel
theorem dL_law_623 : decode cL_law 623 = .ok (.invokevirtual 69, 3) := by decide +kernel
theorem dL_law_626 : decode cL_law 626 = .ok (.aload_n 2, 1) := by decide +kernel
theorem dL_law_627 : decode cL_law 627 = .ok (.aload_n 0, 1) := by decide +kernel
theorem dL_law_628 : decode cL_law 628 = .ok (.iload_n 3, 1) := by decide +kernel
theorem dL_law_629 : decode cL_law 629 = .ok (.iconst 1, 1) := by decide +kernel
theorem dL_law_630 : decode cL_law 630 = .ok (.iadd, 1) := by decide +kernel
theorem dL_law_631 : decode cL_law 631 = .ok (.iaload, 1) := by decide +kernel
theorem dL_law_632 : decode cL_law 632 = .ok (.aload_n 0, 1) := by decide +kernel
theorem dL_law_633 : decode cL_law 633 = .ok (.iload_n 3, 1) := by decide +kernel
theorem dL_law_634 : decode cL_law 634 = .ok (.iconst 2, 1) := by decide +kernel
theorem dL_law_635 : decode cL_law 635 = .ok (.iadd, 1) := by decide +kernel
theorem dL_law_636 : decode cL_law 636 = .ok (.iaload, 1) := by decide +kernel
theorem dL_law_637 : decode cL_law 637 = .ok (.invokevirtual 72, 3) := by decide +kernel
theorem dL_law_640 : decode cL_law 640 = .ok (.if_icmp .eq 933, 3) := by decide +kernel
theorem dL_law_643 : decode cL_law 643 = .ok (.iconst 0, 1) := by decide +kernel
theorem dL_law_644 : decode cL_law 644 = .ok (.ireturn, 1) := by decide +kernel
theorem dL_law_645 : decode cL_law 645 = .ok (.aload_n 1, 1) := by decide +kernel
theorem dL_law_646 : decode cL_law 646 = .ok (.aload_n 0, 1) := by decide +kernel
theorem dL_law_647 : decode cL_law 647 = .ok (.iload_n 3, 1) := by decide +kernel
theorem dL_law_648 : decode cL_law 648 = .ok (.iconst 1, 1) := by decide +kernel
theorem dL_law_649 : decode cL_law 649 = .ok (.iadd, 1) := by decide +kernel
theorem dL_law_650 : decode cL_law 650 = .ok (.iaload, 1) := by decide +kernel
theorem dL_law_651 : decode cL_law 651 = .ok (.aload_n 0, 1) := by decide +kernel
theorem dL_law_652 : decode cL_law 652 = .ok (.iload_n 3, 1) := by decide +kernel
theorem dL_law_653 : decode cL_law 653 = .ok (.iconst 2, 1) := by decide +kernel
theorem dL_law_654 : decode cL_law 654 = .ok (.iadd, 1) := by decide +kernel
theorem dL_law_655 : decode cL_law 655 = .ok (.iaload, 1) := by decide +kernel
theorem dL_law_656 : decode cL_law 656 = .ok (.aload_n 0, 1) := by decide +kernel
theorem dL_law_657 : decode cL_law 657 = .ok (.iload_n 3, 1) := by decide +kernel
theorem dL_law_658 : decode cL_law 658 = .ok (.iconst 3, 1) := by decide +kernel
theorem dL_law_659 : decode cL_law 659 = .ok (.iadd, 1) := by decide +kernel
theorem dL_law_660 : decode cL_law 660 = .ok (.iaload, 1) := by decide +kernel
theorem dL_law_661 : decode cL_law 661 = .ok (.aload_n 0, 1) := by decide +kernel
theorem dL_law_662 : decode cL_law 662 = .ok (.iload_n 3, 1) := by decide +kernel
theorem dL_law_663 : decode cL_law 663 = .ok (.iconst 4, 1) := by decide +kernel
theorem dL_law_664 : decode cL_law 664 = .ok (.iadd, 1) := by decide +kernel
theorem dL_law_665 : decode cL_law 665 = .ok (.iaload, 1) := by decide +kernel
theorem dL_law_666 : decode cL_law 666 = .ok (.invokevirtual 73, 3) := by decide +kernel
theorem dL_law_669 : decode cL_law 669 = .ok (.aload_n 2, 1) := by decide +kernel
theorem dL_law_670 : decode cL_law 670 = .ok (.aload_n 0, 1) := by decide +kernel
theorem dL_law_671 : decode cL_law 671 = .ok (.iload_n 3, 1) := by decide +kernel
theorem dL_law_672 : decode cL_law 672 = .ok (.iconst 1, 1) := by decide +kernel
theorem dL_law_673 : decode cL_law 673 = .ok (.iadd, 1) := by decide +kernel
theorem dL_law_674 : decode cL_law 674 = .ok (.iaload, 1) := by decide +kernel
theorem dL_law_675 : decode cL_law 675 = .ok (.aload_n 0, 1) := by decide +kernel
theorem dL_law_676 : decode cL_law 676 = .ok (.iload_n 3, 1) := by decide +kernel
theorem dL_law_677 : decode cL_law 677 = .ok (.iconst 2, 1) := by decide +kernel
theorem dL_law_678 : decode cL_law 678 = .ok (.iadd, 1) := by decide +kernel
theorem dL_law_679 : decode cL_law 679 = .ok (.iaload, 1) := by decide +kernel
theorem dL_law_680 : decode cL_law 680 = .ok (.aload_n 0, 1) := by decide +kernel
theorem dL_law_681 : decode cL_law 681 = .ok (.iload_n 3, 1) := by decide +kernel
theorem dL_law_682 : decode cL_law 682 = .ok (.iconst 3, 1) := by decide +kernel
theorem dL_law_683 : decode cL_law 683 = .ok (.iadd, 1) := by decide +kernel
theorem dL_law_684 : decode cL_law 684 = .ok (.iaload, 1) := by decide +kernel
theorem dL_law_685 : decode cL_law 685 = .ok (.aload_n 0, 1) := by decide +kernel
theorem dL_law_686 : decode cL_law 686 = .ok (.iload_n 3, 1) := by decide +kernel
theorem dL_law_687 : decode cL_law 687 = .ok (.iconst 4, 1) := by decide +kernel
theorem dL_law_688 : decode cL_law 688 = .ok (.iadd, 1) := by decide +kernel
theorem dL_law_689 : decode cL_law 689 = .ok (.iaload, 1) := by decide +kernel
theorem dL_law_690 : decode cL_law 690 = .ok (.invokevirtual 77, 3) := by decide +kernel
theorem dL_law_693 : decode cL_law 693 = .ok (.if_icmp .eq 880, 3) := by decide +kernel
theorem dL_law_696 : decode cL_law 696 = .ok (.iconst 0, 1) := by decide +kernel
theorem dL_law_697 : decode cL_law 697 = .ok (.ireturn, 1) := by decide +kernel
theorem dL_law_698 : decode cL_law 698 = .ok (.aload_n 1, 1) := by decide +kernel
theorem dL_law_699 : decode cL_law 699 = .ok (.aload_n 0, 1) := by decide +kernel
theorem dL_law_700 : decode cL_law 700 = .ok (.iload_n 3, 1) := by decide +kernel
theorem dL_law_701 : decode cL_law 701 = .ok (.iconst 1, 1) := by decide +kernel
theorem dL_law_702 : decode cL_law 702 = .ok (.iadd, 1) := by decide +kernel
theorem dL_law_703 : decode cL_law 703 = .ok (.iaload, 1) := by decide +kernel
theorem dL_law_704 : decode cL_law 704 = .ok (.aload_n 0, 1) := by decide +kernel
theorem dL_law_705 : decode cL_law 705 = .ok (.iload_n 3, 1) := by decide +kernel
theorem dL_law_706 : decode cL_law 706 = .ok (.iconst 2, 1) := by decide +kernel
theorem dL_law_707 : decode cL_law 707 = .ok (.iadd, 1) := by decide +kernel
theorem dL_law_708 : decode cL_law 708 = .ok (.iaload, 1) := by decide +kernel
theorem dL_law_709 : decode cL_law 709 = .ok (.aload_n 0, 1) := by decide +kernel
theorem dL_law_710 : decode cL_law 710 = .ok (.iload_n 3, 1) := by decide +kernel
theorem dL_law_711 : decode cL_law 711 = .ok (.iconst 3, 1) := by decide +kernel
theorem dL_law_712 : decode cL_law 712 = .ok (.iadd, 1) := by decide +kernel
theorem dL_law_713 : decode cL_law 713 = .ok (.iaload, 1) := by decide +kernel
theorem dL_law_714 : decode cL_law 714 = .ok (.invokevirtual 78, 3) := by decide +kernel
theorem dL_law_717 : decode cL_law 717 = .ok (.aload_n 2, 1) := by decide +kernel
theorem dL_law_718 : decode cL_law 718 = .ok (.aload_n 0, 1) := by decide +kernel
theorem dL_law_719 : decode cL_law 719 = .ok (.iload_n 3, 1) := by decide +kernel
theorem dL_law_720 : decode cL_law 720 = .ok (.iconst 1, 1) := by decide +kernel
theorem dL_law_721 : decode cL_law 721 = .ok (.iadd, 1) := by decide +kernel
theorem dL_law_722 : decode cL_law 722 = .ok (.iaload, 1) := by decide +kernel
theorem dL_law_723 : decode cL_law 723 = .ok (.aload_n 0, 1) := by decide +kernel
theorem dL_law_724 : decode cL_law 724 = .ok (.iload_n 3, 1) := by decide +kernel
theorem dL_law_725 : decode cL_law 725 = .ok (.iconst 2, 1) := by decide +kernel
theorem dL_law_726 : decode cL_law 726 = .ok (.iadd, 1) := by decide +kernel
theorem dL_law_727 : decode cL_law 727 = .ok (.iaload, 1) := by decide +kernel
theorem dL_law_728 : decode cL_law 728 = .ok (.aload_n 0, 1) := by decide +kernel
theorem dL_law_729 : decode cL_law 729 = .ok (.iload_n 3, 1) := by decide +kernel
theorem dL_law_730 : decode cL_law 730 = .ok (.iconst 3, 1) := by decide +kernel
theorem dL_law_731 : decode cL_law 731 = .ok (.iadd, 1) := by decide +kernel
theorem dL_law_732 : decode cL_law 732 = .ok (.iaload, 1) := by decide +kernel
theorem dL_law_733 : decode cL_law 733 = .ok (.invokevirtual 81, 3) := by decide +kernel
theorem dL_law_736 : decode cL_law 736 = .ok (.if_icmp .eq 837, 3) := by decide +kernel
theorem dL_law_739 : decode cL_law 739 = .ok (.iconst 0, 1) := by decide +kernel
theorem dL_law_740 : decode cL_law 740 = .ok (.ireturn, 1) := by decide +kernel
theorem dL_law_741 : decode cL_law 741 = .ok (.aload_n 1, 1) := by decide +kernel
theorem dL_law_742 : decode cL_law 742 = .ok (.aload_n 0, 1) := by decide +kernel
theorem dL_law_743 : decode cL_law 743 = .ok (.iload_n 3, 1) := by decide +kernel
theorem dL_law_744 : decode cL_law 744 = .ok (.iconst 1, 1) := by decide +kernel
theorem dL_law_745 : decode cL_law 745 = .ok (.iadd, 1) := by decide +kernel
theorem dL_law_746 : decode cL_law 746 = .ok (.iaload, 1) := by decide +kernel
theorem dL_law_747 : decode cL_law 747 = .ok (.aload_n 0, 1) := by decide +kernel
theorem dL_law_748 : decode cL_law 748 = .ok (.iload_n 3, 1) := by decide +kernel
theorem dL_law_749 : decode cL_law 749 = .ok (.iconst 2, 1) := by decide +kernel
theorem dL_law_750 : decode cL_law 750 = .ok (.iadd, 1) := by decide +kernel
theorem dL_law_751 : decode cL_law 751 = .ok (.iaload, 1) := by decide +kernel
theorem dL_law_752 : decode cL_law 752 = .ok (.aload_n 0, 1) := by decide +kernel
theorem dL_law_753 : decode cL_law 753 = .ok (.iload_n 3, 1) := by decide +kernel
theorem dL_law_754 : decode cL_law 754 = .ok (.iconst 3, 1) := by decide +kernel
theorem dL_law_755 : decode cL_law 755 = .ok (.iadd, 1) := by decide +kernel
theorem dL_law_756 : decode cL_law 756 = .ok (.iaload, 1) := by decide +kernel
theorem dL_law_757 : decode cL_law 757 = .ok (.aload_n 0, 1) := by decide +kernel
theorem dL_law_758 : decode cL_law 758 = .ok (.iload_n 3, 1) := by decide +kernel
theorem dL_law_759 : decode cL_law 759 = .ok (.iconst 4, 1) := by decide +kernel
theorem dL_law_760 : decode cL_law 760 = .ok (.iadd, 1) := by decide +kernel
theorem dL_law_761 : decode cL_law 761 = .ok (.iaload, 1) := by decide +kernel
theorem dL_law_762 : decode cL_law 762 = .ok (.aload_n 0, 1) := by decide +kernel
theorem dL_law_763 : decode cL_law 763 = .ok (.iload_n 3, 1) := by decide +kernel
theorem dL_law_764 : decode cL_law 764 = .ok (.iconst 5, 1) := by decide +kernel
theorem dL_law_765 : decode cL_law 765 = .ok (.iadd, 1) := by decide +kernel
theorem dL_law_766 : decode cL_law 766 = .ok (.iaload, 1) := by decide +kernel
theorem dL_law_767 : decode cL_law 767 = .ok (.aload_n 0, 1) := by decide +kernel
theorem dL_law_768 : decode cL_law 768 = .ok (.iload_n 3, 1) := by decide +kernel
theorem dL_law_769 : decode cL_law 769 = .ok (.bipush 6, 2) := by decide +kernel
theorem dL_law_771 : decode cL_law 771 = .ok (.iadd, 1) := by decide +kernel
theorem dL_law_772 : decode cL_law 772 = .ok (.iaload, 1) := by decide +kernel
theorem dL_law_773 : decode cL_law 773 = .ok (.invokevirtual 82, 3) := by decide +kernel
theorem dL_law_776 : decode cL_law 776 = .ok (.aload_n 2, 1) := by decide +kernel
theorem dL_law_777 : decode cL_law 777 = .ok (.aload_n 0, 1) := by decide +kernel
theorem dL_law_778 : decode cL_law 778 = .ok (.iload_n 3, 1) := by decide +kernel
theorem dL_law_779 : decode cL_law 779 = .ok (.iconst 1, 1) := by decide +kernel
theorem dL_law_780 : decode cL_law 780 = .ok (.iadd, 1) := by decide +kernel
theorem dL_law_781 : decode cL_law 781 = .ok (.iaload, 1) := by decide +kernel
theorem dL_law_782 : decode cL_law 782 = .ok (.aload_n 0, 1) := by decide +kernel
theorem dL_law_783 : decode cL_law 783 = .ok (.iload_n 3, 1) := by decide +kernel
theorem dL_law_784 : decode cL_law 784 = .ok (.iconst 2, 1) := by decide +kernel
theorem dL_law_785 : decode cL_law 785 = .ok (.iadd, 1) := by decide +kernel
theorem dL_law_786 : decode cL_law 786 = .ok (.iaload, 1) := by decide +kernel
theorem dL_law_787 : decode cL_law 787 = .ok (.aload_n 0, 1) := by decide +kernel
theorem dL_law_788 : decode cL_law 788 = .ok (.iload_n 3, 1) := by decide +kernel
theorem dL_law_789 : decode cL_law 789 = .ok (.iconst 3, 1) := by decide +kernel
theorem dL_law_790 : decode cL_law 790 = .ok (.iadd, 1) := by decide +kernel
theorem dL_law_791 : decode cL_law 791 = .ok (.iaload, 1) := by decide +kernel
theorem dL_law_792 : decode cL_law 792 = .ok (.aload_n 0, 1) := by decide +kernel
theorem dL_law_793 : decode cL_law 793 = .ok (.iload_n 3, 1) := by decide +kernel
theorem dL_law_794 : decode cL_law 794 = .ok (.iconst 4, 1) := by decide +kernel
theorem dL_law_795 : decode cL_law 795 = .ok (.iadd, 1) := by decide +kernel
theorem dL_law_796 : decode cL_law 796 = .ok (.iaload, 1) := by decide +kernel
theorem dL_law_797 : decode cL_law 797 = .ok (.aload_n 0, 1) := by decide +kernel
theorem dL_law_798 : decode cL_law 798 = .ok (.iload_n 3, 1) := by decide +kernel
theorem dL_law_799 : decode cL_law 799 = .ok (.iconst 5, 1) := by decide +kernel
theorem dL_law_800 : decode cL_law 800 = .ok (.iadd, 1) := by decide +kernel
theorem dL_law_801 : decode cL_law 801 = .ok (.iaload, 1) := by decide +kernel
theorem dL_law_802 : decode cL_law 802 = .ok (.aload_n 0, 1) := by decide +kernel
theorem dL_law_803 : decode cL_law 803 = .ok (.iload_n 3, 1) := by decide +kernel
theorem dL_law_804 : decode cL_law 804 = .ok (.bipush 6, 2) := by decide +kernel
theorem dL_law_806 : decode cL_law 806 = .ok (.iadd, 1) := by decide +kernel
theorem dL_law_807 : decode cL_law 807 = .ok (.iaload, 1) := by decide +kernel
theorem dL_law_808 : decode cL_law 808 = .ok (.invokevirtual 86, 3) := by decide +kernel
theorem dL_law_811 : decode cL_law 811 = .ok (.if_icmp .eq 762, 3) := by decide +kernel
theorem dL_law_814 : decode cL_law 814 = .ok (.iconst 0, 1) := by decide +kernel
theorem dL_law_815 : decode cL_law 815 = .ok (.ireturn, 1) := by decide +kernel
theorem dL_law_816 : decode cL_law 816 = .ok (.aload_n 1, 1) := by decide +kernel
theorem dL_law_817 : decode cL_law 817 = .ok (.aload_n 0, 1) := by decide +kernel
theorem dL_law_818 : decode cL_law 818 = .ok (.iload_n 3, 1) := by decide +kernel
theorem dL_law_819 : decode cL_law 819 = .ok (.iconst 1, 1) := by decide +kernel
theorem dL_law_820 : decode cL_law 820 = .ok (.iadd, 1) := by decide +kernel
theorem dL_law_821 : decode cL_law 821 = .ok (.iaload, 1) := by decide +kernel
theorem dL_law_822 : decode cL_law 822 = .ok (.aload_n 0, 1) := by decide +kernel
theorem dL_law_823 : decode cL_law 823 = .ok (.iload_n 3, 1) := by decide +kernel
theorem dL_law_824 : decode cL_law 824 = .ok (.iconst 2, 1) := by decide +kernel
theorem dL_law_825 : decode cL_law 825 = .ok (.iadd, 1) := by decide +kernel
theorem dL_law_826 : decode cL_law 826 = .ok (.iaload, 1) := by decide +kernel
theorem dL_law_827 : decode cL_law 827 = .ok (.invokevirtual 87, 3) := by decide +kernel
theorem dL_law_830 : decode cL_law 830 = .ok (.aload_n 2, 1) := by decide +kernel
theorem dL_law_831 : decode cL_law 831 = .ok (.aload_n 0, 1) := by decide +kernel
theorem dL_law_832 : decode cL_law 832 = .ok (.iload_n 3, 1) := by decide +kernel
theorem dL_law_833 : decode cL_law 833 = .ok (.iconst 1, 1) := by decide +kernel
theorem dL_law_834 : decode cL_law 834 = .ok (.iadd, 1) := by decide +kernel
theorem dL_law_835 : decode cL_law 835 = .ok (.iaload, 1) := by decide +kernel
theorem dL_law_836 : decode cL_law 836 = .ok (.aload_n 0, 1) := by decide +kernel
theorem dL_law_837 : decode cL_law 837 = .ok (.iload_n 3, 1) := by decide +kernel
theorem dL_law_838 : decode cL_law 838 = .ok (.iconst 2, 1) := by decide +kernel
theorem dL_law_839 : decode cL_law 839 = .ok (.iadd, 1) := by decide +kernel
theorem dL_law_840 : decode cL_law 840 = .ok (.iaload, 1) := by decide +kernel
theorem dL_law_841 : decode cL_law 841 = .ok (.invokevirtual 90, 3) := by decide +kernel
theorem dL_law_844 : decode cL_law 844 = .ok (.if_icmp .eq 729, 3) := by decide +kernel
theorem dL_law_847 : decode cL_law 847 = .ok (.iconst 0, 1) := by decide +kernel
theorem dL_law_848 : decode cL_law 848 = .ok (.ireturn, 1) := by decide +kernel
theorem dL_law_849 : decode cL_law 849 = .ok (.aload_n 1, 1) := by decide +kernel
theorem dL_law_850 : decode cL_law 850 = .ok (.aload_n 0, 1) := by decide +kernel
theorem dL_law_851 : decode cL_law 851 = .ok (.iload_n 3, 1) := by decide +kernel
theorem dL_law_852 : decode cL_law 852 = .ok (.iconst 1, 1) := by decide +kernel
theorem dL_law_853 : decode cL_law 853 = .ok (.iadd, 1) := by decide +kernel
theorem dL_law_854 : decode cL_law 854 = .ok (.iaload, 1) := by decide +kernel
theorem dL_law_855 : decode cL_law 855 = .ok (.aload_n 0, 1) := by decide +kernel
theorem dL_law_856 : decode cL_law 856 = .ok (.iload_n 3, 1) := by decide +kernel
theorem dL_law_857 : decode cL_law 857 = .ok (.iconst 2, 1) := by decide +kernel
theorem dL_law_858 : decode cL_law 858 = .ok (.iadd, 1) := by decide +kernel
theorem dL_law_859 : decode cL_law 859 = .ok (.iaload, 1) := by decide +kernel
theorem dL_law_860 : decode cL_law 860 = .ok (.aload_n 0, 1) := by decide +kernel
theorem dL_law_861 : decode cL_law 861 = .ok (.iload_n 3, 1) := by decide +kernel
theorem dL_law_862 : decode cL_law 862 = .ok (.iconst 3, 1) := by decide +kernel
theorem dL_law_863 : decode cL_law 863 = .ok (.iadd, 1) := by decide +kernel
theorem dL_law_864 : decode cL_law 864 = .ok (.iaload, 1) := by decide +kernel
theorem dL_law_865 : decode cL_law 865 = .ok (.invokevirtual 91, 3) := by decide +kernel
theorem dL_law_868 : decode cL_law 868 = .ok (.aload_n 2, 1) := by decide +kernel
theorem dL_law_869 : decode cL_law 869 = .ok (.aload_n 0, 1) := by decide +kernel
theorem dL_law_870 : decode cL_law 870 = .ok (.iload_n 3, 1) := by decide +kernel
theorem dL_law_871 : decode cL_law 871 = .ok (.iconst 1, 1) := by decide +kernel
theorem dL_law_872 : decode cL_law 872 = .ok (.iadd, 1) := by decide +kernel
theorem dL_law_873 : decode cL_law 873 = .ok (.iaload, 1) := by decide +kernel
theorem dL_law_874 : decode cL_law 874 = .ok (.aload_n 0, 1) := by decide +kernel
theorem dL_law_875 : decode cL_law 875 = .ok (.iload_n 3, 1) := by decide +kernel
theorem dL_law_876 : decode cL_law 876 = .ok (.iconst 2, 1) := by decide +kernel
theorem dL_law_877 : decode cL_law 877 = .ok (.iadd, 1) := by decide +kernel
theorem dL_law_878 : decode cL_law 878 = .ok (.iaload, 1) := by decide +kernel
theorem dL_law_879 : decode cL_law 879 = .ok (.aload_n 0, 1) := by decide +kernel
theorem dL_law_880 : decode cL_law 880 = .ok (.iload_n 3, 1) := by decide +kernel
theorem dL_law_881 : decode cL_law 881 = .ok (.iconst 3, 1) := by decide +kernel
theorem dL_law_882 : decode cL_law 882 = .ok (.iadd, 1) := by decide +kernel
theorem dL_law_883 : decode cL_law 883 = .ok (.iaload, 1) := by decide +kernel
theorem dL_law_884 : decode cL_law 884 = .ok (.invokevirtual 94, 3) := by decide +kernel
theorem dL_law_887 : decode cL_law 887 = .ok (.if_icmp .eq 686, 3) := by decide +kernel
theorem dL_law_890 : decode cL_law 890 = .ok (.iconst 0, 1) := by decide +kernel
theorem dL_law_891 : decode cL_law 891 = .ok (.ireturn, 1) := by decide +kernel
theorem dL_law_892 : decode cL_law 892 = .ok (.aload_n 1, 1) := by decide +kernel
theorem dL_law_893 : decode cL_law 893 = .ok (.aload_n 0, 1) := by decide +kernel
theorem dL_law_894 : decode cL_law 894 = .ok (.iload_n 3, 1) := by decide +kernel
theorem dL_law_895 : decode cL_law 895 = .ok (.iconst 1, 1) := by decide +kernel
theorem dL_law_896 : decode cL_law 896 = .ok (.iadd, 1) := by decide +kernel
theorem dL_law_897 : decode cL_law 897 = .ok (.iaload, 1) := by decide +kernel
theorem dL_law_898 : decode cL_law 898 = .ok (.aload_n 0, 1) := by decide +kernel
theorem dL_law_899 : decode cL_law 899 = .ok (.iload_n 3, 1) := by decide +kernel
theorem dL_law_900 : decode cL_law 900 = .ok (.iconst 2, 1) := by decide +kernel
theorem dL_law_901 : decode cL_law 901 = .ok (.iadd, 1) := by decide +kernel
theorem dL_law_902 : decode cL_law 902 = .ok (.iaload, 1) := by decide +kernel
theorem dL_law_903 : decode cL_law 903 = .ok (.aload_n 0, 1) := by decide +kernel
theorem dL_law_904 : decode cL_law 904 = .ok (.iload_n 3, 1) := by decide +kernel
theorem dL_law_905 : decode cL_law 905 = .ok (.iconst 3, 1) := by decide +kernel
theorem dL_law_906 : decode cL_law 906 = .ok (.iadd, 1) := by decide +kernel
theorem dL_law_907 : decode cL_law 907 = .ok (.iaload, 1) := by decide +kernel
theorem dL_law_908 : decode cL_law 908 = .ok (.invokevirtual 95, 3) := by decide +kernel
theorem dL_law_911 : decode cL_law 911 = .ok (.aload_n 2, 1) := by decide +kernel
theorem dL_law_912 : decode cL_law 912 = .ok (.aload_n 0, 1) := by decide +kernel
theorem dL_law_913 : decode cL_law 913 = .ok (.iload_n 3, 1) := by decide +kernel
theorem dL_law_914 : decode cL_law 914 = .ok (.iconst 1, 1) := by decide +kernel
theorem dL_law_915 : decode cL_law 915 = .ok (.iadd, 1) := by decide +kernel
theorem dL_law_916 : decode cL_law 916 = .ok (.iaload, 1) := by decide +kernel
theorem dL_law_917 : decode cL_law 917 = .ok (.aload_n 0, 1) := by decide +kernel
theorem dL_law_918 : decode cL_law 918 = .ok (.iload_n 3, 1) := by decide +kernel
theorem dL_law_919 : decode cL_law 919 = .ok (.iconst 2, 1) := by decide +kernel
theorem dL_law_920 : decode cL_law 920 = .ok (.iadd, 1) := by decide +kernel
theorem dL_law_921 : decode cL_law 921 = .ok (.iaload, 1) := by decide +kernel
theorem dL_law_922 : decode cL_law 922 = .ok (.aload_n 0, 1) := by decide +kernel
theorem dL_law_923 : decode cL_law 923 = .ok (.iload_n 3, 1) := by decide +kernel
theorem dL_law_924 : decode cL_law 924 = .ok (.iconst 3, 1) := by decide +kernel
theorem dL_law_925 : decode cL_law 925 = .ok (.iadd, 1) := by decide +kernel
theorem dL_law_926 : decode cL_law 926 = .ok (.iaload, 1) := by decide +kernel
theorem dL_law_927 : decode cL_law 927 = .ok (.invokevirtual 98, 3) := by decide +kernel
theorem dL_law_930 : decode cL_law 930 = .ok (.if_icmp .eq 643, 3) := by decide +kernel
theorem dL_law_933 : decode cL_law 933 = .ok (.iconst 0, 1) := by decide +kernel
theorem dL_law_934 : decode cL_law 934 = .ok (.ireturn, 1) := by decide +kernel
theorem dL_law_935 : decode cL_law 935 = .ok (.aload_n 1, 1) := by decide +kernel
theorem dL_law_936 : decode cL_law 936 = .ok (.invokevirtual 99, 3) := by decide +kernel
theorem dL_law_939 : decode cL_law 939 = .ok (.aload_n 2, 1) := by decide +kernel
theorem dL_law_940 : decode cL_law 940 = .ok (.invokevirtual 102, 3) := by decide +kernel
theorem dL_law_943 : decode cL_law 943 = .ok (.if_icmp .eq 630, 3) := by decide +kernel
theorem dL_law_946 : decode cL_law 946 = .ok (.iconst 0, 1) := by decide +kernel
theorem dL_law_947 : decode cL_law 947 = .ok (.ireturn, 1) := by decide +kernel
theorem dL_law_948 : decode cL_law 948 = .ok (.aload_n 1, 1) := by decide +kernel
theorem dL_law_949 : decode cL_law 949 = .ok (.aload_n 0, 1) := by decide +kernel
theorem dL_law_950 : decode cL_law 950 = .ok (.iload_n 3, 1) := by decide +kernel
theorem dL_law_951 : decode cL_law 951 = .ok (.iconst 1, 1) := by decide +kernel
theorem dL_law_952 : decode cL_law 952 = .ok (.iadd, 1) := by decide +kernel
theorem dL_law_953 : decode cL_law 953 = .ok (.iaload, 1) := by decide +kernel
theorem dL_law_954 : decode cL_law 954 = .ok (.aload_n 0, 1) := by decide +kernel
theorem dL_law_955 : decode cL_law 955 = .ok (.iload_n 3, 1) := by decide +kernel
theorem dL_law_956 : decode cL_law 956 = .ok (.iconst 2, 1) := by decide +kernel
theorem dL_law_957 : decode cL_law 957 = .ok (.iadd, 1) := by decide +kernel
theorem dL_law_958 : decode cL_law 958 = .ok (.iaload, 1) := by decide +kernel
theorem dL_law_959 : decode cL_law 959 = .ok (.invokevirtual 103, 3) := by decide +kernel
theorem dL_law_962 : decode cL_law 962 = .ok (.aload_n 2, 1) := by decide +kernel
theorem dL_law_963 : decode cL_law 963 = .ok (.aload_n 0, 1) := by decide +kernel
theorem dL_law_964 : decode cL_law 964 = .ok (.iload_n 3, 1) := by decide +kernel
theorem dL_law_965 : decode cL_law 965 = .ok (.iconst 1, 1) := by decide +kernel
theorem dL_law_966 : decode cL_law 966 = .ok (.iadd, 1) := by decide +kernel
theorem dL_law_967 : decode cL_law 967 = .ok (.iaload, 1) := by decide +kernel
theorem dL_law_968 : decode cL_law 968 = .ok (.aload_n 0, 1) := by decide +kernel
theorem dL_law_969 : decode cL_law 969 = .ok (.iload_n 3, 1) := by decide +kernel
theorem dL_law_970 : decode cL_law 970 = .ok (.iconst 2, 1) := by decide +kernel
theorem dL_law_971 : decode cL_law 971 = .ok (.iadd, 1) := by decide +kernel
theorem dL_law_972 : decode cL_law 972 = .ok (.iaload, 1) := by decide +kernel
theorem dL_law_973 : decode cL_law 973 = .ok (.invokevirtual 106, 3) := by decide +kernel
theorem dL_law_976 : decode cL_law 976 = .ok (.lcmp, 1) := by decide +kernel
theorem dL_law_977 : decode cL_law 977 = .ok (.ifCond .eq 596, 3) := by decide +kernel
theorem dL_law_980 : decode cL_law 980 = .ok (.iconst 0, 1) := by decide +kernel
theorem dL_law_981 : decode cL_law 981 = .ok (.ireturn, 1) := by decide +kernel
theorem dL_law_982 : decode cL_law 982 = .ok (.aload_n 1, 1) := by decide +kernel
theorem dL_law_983 : decode cL_law 983 = .ok (.aload_n 0, 1) := by decide +kernel
theorem dL_law_984 : decode cL_law 984 = .ok (.iload_n 3, 1) := by decide +kernel
theorem dL_law_985 : decode cL_law 985 = .ok (.iconst 1, 1) := by decide +kernel
theorem dL_law_986 : decode cL_law 986 = .ok (.iadd, 1) := by decide +kernel
theorem dL_law_987 : decode cL_law 987 = .ok (.iaload, 1) := by decide +kernel
theorem dL_law_988 : decode cL_law 988 = .ok (.aload_n 0, 1) := by decide +kernel
theorem dL_law_989 : decode cL_law 989 = .ok (.iload_n 3, 1) := by decide +kernel
theorem dL_law_990 : decode cL_law 990 = .ok (.iconst 2, 1) := by decide +kernel
theorem dL_law_991 : decode cL_law 991 = .ok (.iadd, 1) := by decide +kernel
theorem dL_law_992 : decode cL_law 992 = .ok (.iaload, 1) := by decide +kernel
theorem dL_law_993 : decode cL_law 993 = .ok (.aload_n 0, 1) := by decide +kernel
theorem dL_law_994 : decode cL_law 994 = .ok (.iload_n 3, 1) := by decide +kernel
theorem dL_law_995 : decode cL_law 995 = .ok (.iconst 3, 1) := by decide +kernel
theorem dL_law_996 : decode cL_law 996 = .ok (.iadd, 1) := by decide +kernel
theorem dL_law_997 : decode cL_law 997 = .ok (.iaload, 1) := by decide +kernel
theorem dL_law_998 : decode cL_law 998 = .ok (.invokevirtual 107, 3) := by decide +kernel
theorem dL_law_1001 : decode cL_law 1001 = .ok (.aload_n 2, 1) := by decide +kernel
theorem dL_law_1002 : decode cL_law 1002 = .ok (.aload_n 0, 1) := by decide +kernel
theorem dL_law_1003 : decode cL_law 1003 = .ok (.iload_n 3, 1) := by decide +kernel
theorem dL_law_1004 : decode cL_law 1004 = .ok (.iconst 1, 1) := by decide +kernel
theorem dL_law_1005 : decode cL_law 1005 = .ok (.iadd, 1) := by decide +kernel
theorem dL_law_1006 : decode cL_law 1006 = .ok (.iaload, 1) := by decide +kernel
theorem dL_law_1007 : decode cL_law 1007 = .ok (.aload_n 0, 1) := by decide +kernel
theorem dL_law_1008 : decode cL_law 1008 = .ok (.iload_n 3, 1) := by decide +kernel
theorem dL_law_1009 : decode cL_law 1009 = .ok (.iconst 2, 1) := by decide +kernel
theorem dL_law_1010 : decode cL_law 1010 = .ok (.iadd, 1) := by decide +kernel
theorem dL_law_1011 : decode cL_law 1011 = .ok (.iaload, 1) := by decide +kernel
theorem dL_law_1012 : decode cL_law 1012 = .ok (.aload_n 0, 1) := by decide +kernel
theorem dL_law_1013 : decode cL_law 1013 = .ok (.iload_n 3, 1) := by decide +kernel
theorem dL_law_1014 : decode cL_law 1014 = .ok (.iconst 3, 1) := by decide +kernel
theorem dL_law_1015 : decode cL_law 1015 = .ok (.iadd, 1) := by decide +kernel
theorem dL_law_1016 : decode cL_law 1016 = .ok (.iaload, 1) := by decide +kernel
theorem dL_law_1017 : decode cL_law 1017 = .ok (.invokevirtual 111, 3) := by decide +kernel
theorem dL_law_1020 : decode cL_law 1020 = .ok (.lcmp, 1) := by decide +kernel
theorem dL_law_1021 : decode cL_law 1021 = .ok (.ifCond .eq 552, 3) := by decide +kernel
theorem dL_law_1024 : decode cL_law 1024 = .ok (.iconst 0, 1) := by decide +kernel
theorem dL_law_1025 : decode cL_law 1025 = .ok (.ireturn, 1) := by decide +kernel
theorem dL_law_1026 : decode cL_law 1026 = .ok (.aload_n 1, 1) := by decide +kernel
theorem dL_law_1027 : decode cL_law 1027 = .ok (.aload_n 0, 1) := by decide +kernel
theorem dL_law_1028 : decode cL_law 1028 = .ok (.iload_n 3, 1) := by decide +kernel
theorem dL_law_1029 : decode cL_law 1029 = .ok (.iconst 1, 1) := by decide +kernel
theorem dL_law_1030 : decode cL_law 1030 = .ok (.iadd, 1) := by decide +kernel
theorem dL_law_1031 : decode cL_law 1031 = .ok (.iaload, 1) := by decide +kernel
theorem dL_law_1032 : decode cL_law 1032 = .ok (.invokevirtual 112, 3) := by decide +kernel
theorem dL_law_1035 : decode cL_law 1035 = .ok (.aload_n 2, 1) := by decide +kernel
theorem dL_law_1036 : decode cL_law 1036 = .ok (.aload_n 0, 1) := by decide +kernel
theorem dL_law_1037 : decode cL_law 1037 = .ok (.iload_n 3, 1) := by decide +kernel
theorem dL_law_1038 : decode cL_law 1038 = .ok (.iconst 1, 1) := by decide +kernel
theorem dL_law_1039 : decode cL_law 1039 = .ok (.iadd, 1) := by decide +kernel
theorem dL_law_1040 : decode cL_law 1040 = .ok (.iaload, 1) := by decide +kernel
theorem dL_law_1041 : decode cL_law 1041 = .ok (.invokevirtual 115, 3) := by decide +kernel
theorem dL_law_1044 : decode cL_law 1044 = .ok (.if_icmp .eq 529, 3) := by decide +kernel
theorem dL_law_1047 : decode cL_law 1047 = .ok (.iconst 0, 1) := by decide +kernel
theorem dL_law_1048 : decode cL_law 1048 = .ok (.ireturn, 1) := by decide +kernel
theorem dL_law_1049 : decode cL_law 1049 = .ok (.aload_n 1, 1) := by decide +kernel
theorem dL_law_1050 : decode cL_law 1050 = .ok (.aload_n 0, 1) := by decide +kernel
theorem dL_law_1051 : decode cL_law 1051 = .ok (.iload_n 3, 1) := by decide +kernel
theorem dL_law_1052 : decode cL_law 1052 = .ok (.iconst 1, 1) := by decide +kernel
theorem dL_law_1053 : decode cL_law 1053 = .ok (.iadd, 1) := by decide +kernel
theorem dL_law_1054 : decode cL_law 1054 = .ok (.iaload, 1) := by decide +kernel
theorem dL_law_1055 : decode cL_law 1055 = .ok (.aload_n 0, 1) := by decide +kernel
theorem dL_law_1056 : decode cL_law 1056 = .ok (.iload_n 3, 1) := by decide +kernel
theorem dL_law_1057 : decode cL_law 1057 = .ok (.iconst 2, 1) := by decide +kernel
theorem dL_law_1058 : decode cL_law 1058 = .ok (.iadd, 1) := by decide +kernel
theorem dL_law_1059 : decode cL_law 1059 = .ok (.iaload, 1) := by decide +kernel
theorem dL_law_1060 : decode cL_law 1060 = .ok (.invokevirtual 116, 3) := by decide +kernel
theorem dL_law_1063 : decode cL_law 1063 = .ok (.aload_n 2, 1) := by decide +kernel
theorem dL_law_1064 : decode cL_law 1064 = .ok (.aload_n 0, 1) := by decide +kernel
theorem dL_law_1065 : decode cL_law 1065 = .ok (.iload_n 3, 1) := by decide +kernel
theorem dL_law_1066 : decode cL_law 1066 = .ok (.iconst 1, 1) := by decide +kernel
theorem dL_law_1067 : decode cL_law 1067 = .ok (.iadd, 1) := by decide +kernel
theorem dL_law_1068 : decode cL_law 1068 = .ok (.iaload, 1) := by decide +kernel
theorem dL_law_1069 : decode cL_law 1069 = .ok (.aload_n 0, 1) := by decide +kernel
theorem dL_law_1070 : decode cL_law 1070 = .ok (.iload_n 3, 1) := by decide +kernel
theorem dL_law_1071 : decode cL_law 1071 = .ok (.iconst 2, 1) := by decide +kernel
theorem dL_law_1072 : decode cL_law 1072 = .ok (.iadd, 1) := by decide +kernel
theorem dL_law_1073 : decode cL_law 1073 = .ok (.iaload, 1) := by decide +kernel
theorem dL_law_1074 : decode cL_law 1074 = .ok (.invokevirtual 119, 3) := by decide +kernel
theorem dL_law_1077 : decode cL_law 1077 = .ok (.if_icmp .eq 496, 3) := by decide +kernel
theorem dL_law_1080 : decode cL_law 1080 = .ok (.iconst 0, 1) := by decide +kernel
theorem dL_law_1081 : decode cL_law 1081 = .ok (.ireturn, 1) := by decide +kernel
theorem dL_law_1082 : decode cL_law 1082 = .ok (.aload_n 1, 1) := by decide +kernel
theorem dL_law_1083 : decode cL_law 1083 = .ok (.aload_n 0, 1) := by decide +kernel
theorem dL_law_1084 : decode cL_law 1084 = .ok (.iload_n 3, 1) := by decide +kernel
theorem dL_law_1085 : decode cL_law 1085 = .ok (.iconst 1, 1) := by decide +kernel
theorem dL_law_1086 : decode cL_law 1086 = .ok (.iadd, 1) := by decide +kernel
theorem dL_law_1087 : decode cL_law 1087 = .ok (.iaload, 1) := by decide +kernel
theorem dL_law_1088 : decode cL_law 1088 = .ok (.invokevirtual 120, 3) := by decide +kernel
theorem dL_law_1091 : decode cL_law 1091 = .ok (.aload_n 2, 1) := by decide +kernel
theorem dL_law_1092 : decode cL_law 1092 = .ok (.aload_n 0, 1) := by decide +kernel
theorem dL_law_1093 : decode cL_law 1093 = .ok (.iload_n 3, 1) := by decide +kernel
theorem dL_law_1094 : decode cL_law 1094 = .ok (.iconst 1, 1) := by decide +kernel
theorem dL_law_1095 : decode cL_law 1095 = .ok (.iadd, 1) := by decide +kernel
theorem dL_law_1096 : decode cL_law 1096 = .ok (.iaload, 1) := by decide +kernel
theorem dL_law_1097 : decode cL_law 1097 = .ok (.invokevirtual 124, 3) := by decide +kernel
theorem dL_law_1100 : decode cL_law 1100 = .ok (.lcmp, 1) := by decide +kernel
theorem dL_law_1101 : decode cL_law 1101 = .ok (.ifCond .eq 472, 3) := by decide +kernel
theorem dL_law_1104 : decode cL_law 1104 = .ok (.iconst 0, 1) := by decide +kernel
theorem dL_law_1105 : decode cL_law 1105 = .ok (.ireturn, 1) := by decide +kernel
theorem dL_law_1106 : decode cL_law 1106 = .ok (.aload_n 1, 1) := by decide +kernel
theorem dL_law_1107 : decode cL_law 1107 = .ok (.aload_n 0, 1) := by decide +kernel
theorem dL_law_1108 : decode cL_law 1108 = .ok (.iload_n 3, 1) := by decide +kernel
theorem dL_law_1109 : decode cL_law 1109 = .ok (.iconst 1, 1) := by decide +kernel
theorem dL_law_1110 : decode cL_law 1110 = .ok (.iadd, 1) := by decide +kernel
theorem dL_law_1111 : decode cL_law 1111 = .ok (.iaload, 1) := by decide +kernel
theorem dL_law_1112 : decode cL_law 1112 = .ok (.aload_n 0, 1) := by decide +kernel
theorem dL_law_1113 : decode cL_law 1113 = .ok (.iload_n 3, 1) := by decide +kernel
theorem dL_law_1114 : decode cL_law 1114 = .ok (.iconst 2, 1) := by decide +kernel
theorem dL_law_1115 : decode cL_law 1115 = .ok (.iadd, 1) := by decide +kernel
theorem dL_law_1116 : decode cL_law 1116 = .ok (.iaload, 1) := by decide +kernel
theorem dL_law_1117 : decode cL_law 1117 = .ok (.invokevirtual 125, 3) := by decide +kernel
theorem dL_law_1120 : decode cL_law 1120 = .ok (.aload_n 2, 1) := by decide +kernel
theorem dL_law_1121 : decode cL_law 1121 = .ok (.aload_n 0, 1) := by decide +kernel
theorem dL_law_1122 : decode cL_law 1122 = .ok (.iload_n 3, 1) := by decide +kernel
theorem dL_law_1123 : decode cL_law 1123 = .ok (.iconst 1, 1) := by decide +kernel
theorem dL_law_1124 : decode cL_law 1124 = .ok (.iadd, 1) := by decide +kernel
theorem dL_law_1125 : decode cL_law 1125 = .ok (.iaload, 1) := by decide +kernel
theorem dL_law_1126 : decode cL_law 1126 = .ok (.aload_n 0, 1) := by decide +kernel
theorem dL_law_1127 : decode cL_law 1127 = .ok (.iload_n 3, 1) := by decide +kernel
theorem dL_law_1128 : decode cL_law 1128 = .ok (.iconst 2, 1) := by decide +kernel
theorem dL_law_1129 : decode cL_law 1129 = .ok (.iadd, 1) := by decide +kernel
theorem dL_law_1130 : decode cL_law 1130 = .ok (.iaload, 1) := by decide +kernel
theorem dL_law_1131 : decode cL_law 1131 = .ok (.invokevirtual 128, 3) := by decide +kernel
theorem dL_law_1134 : decode cL_law 1134 = .ok (.if_icmp .eq 439, 3) := by decide +kernel
theorem dL_law_1137 : decode cL_law 1137 = .ok (.iconst 0, 1) := by decide +kernel
theorem dL_law_1138 : decode cL_law 1138 = .ok (.ireturn, 1) := by decide +kernel
theorem dL_law_1139 : decode cL_law 1139 = .ok (.aload_n 1, 1) := by decide +kernel
theorem dL_law_1140 : decode cL_law 1140 = .ok (.aload_n 0, 1) := by decide +kernel
theorem dL_law_1141 : decode cL_law 1141 = .ok (.iload_n 3, 1) := by decide +kernel
theorem dL_law_1142 : decode cL_law 1142 = .ok (.iconst 1, 1) := by decide +kernel
theorem dL_law_1143 : decode cL_law 1143 = .ok (.iadd, 1) := by decide +kernel
theorem dL_law_1144 : decode cL_law 1144 = .ok (.iaload, 1) := by decide +kernel
theorem dL_law_1145 : decode cL_law 1145 = .ok (.aload_n 0, 1) := by decide +kernel
theorem dL_law_1146 : decode cL_law 1146 = .ok (.iload_n 3, 1) := by decide +kernel
theorem dL_law_1147 : decode cL_law 1147 = .ok (.iconst 2, 1) := by decide +kernel
theorem dL_law_1148 : decode cL_law 1148 = .ok (.iadd, 1) := by decide +kernel
theorem dL_law_1149 : decode cL_law 1149 = .ok (.iaload, 1) := by decide +kernel
theorem dL_law_1150 : decode cL_law 1150 = .ok (.invokevirtual 129, 3) := by decide +kernel
theorem dL_law_1153 : decode cL_law 1153 = .ok (.aload_n 2, 1) := by decide +kernel
theorem dL_law_1154 : decode cL_law 1154 = .ok (.aload_n 0, 1) := by decide +kernel
theorem dL_law_1155 : decode cL_law 1155 = .ok (.iload_n 3, 1) := by decide +kernel
theorem dL_law_1156 : decode cL_law 1156 = .ok (.iconst 1, 1) := by decide +kernel
theorem dL_law_1157 : decode cL_law 1157 = .ok (.iadd, 1) := by decide +kernel
theorem dL_law_1158 : decode cL_law 1158 = .ok (.iaload, 1) := by decide +kernel
theorem dL_law_1159 : decode cL_law 1159 = .ok (.aload_n 0, 1) := by decide +kernel
theorem dL_law_1160 : decode cL_law 1160 = .ok (.iload_n 3, 1) := by decide +kernel
theorem dL_law_1161 : decode cL_law 1161 = .ok (.iconst 2, 1) := by decide +kernel
theorem dL_law_1162 : decode cL_law 1162 = .ok (.iadd, 1) := by decide +kernel
theorem dL_law_1163 : decode cL_law 1163 = .ok (.iaload, 1) := by decide +kernel
theorem dL_law_1164 : decode cL_law 1164 = .ok (.invokevirtual 132, 3) := by decide +kernel
theorem dL_law_1167 : decode cL_law 1167 = .ok (.if_icmp .eq 406, 3) := by decide +kernel
theorem dL_law_1170 : decode cL_law 1170 = .ok (.iconst 0, 1) := by decide +kernel
theorem dL_law_1171 : decode cL_law 1171 = .ok (.ireturn, 1) := by decide +kernel
theorem dL_law_1172 : decode cL_law 1172 = .ok (.aload_n 1, 1) := by decide +kernel
theorem dL_law_1173 : decode cL_law 1173 = .ok (.aload_n 0, 1) := by decide +kernel
theorem dL_law_1174 : decode cL_law 1174 = .ok (.iload_n 3, 1) := by decide +kernel
theorem dL_law_1175 : decode cL_law 1175 = .ok (.iconst 1, 1) := by decide +kernel
theorem dL_law_1176 : decode cL_law 1176 = .ok (.iadd, 1) := by decide +kernel
theorem dL_law_1177 : decode cL_law 1177 = .ok (.iaload, 1) := by decide +kernel
theorem dL_law_1178 : decode cL_law 1178 = .ok (.aload_n 0, 1) := by decide +kernel
theorem dL_law_1179 : decode cL_law 1179 = .ok (.iload_n 3, 1) := by decide +kernel
theorem dL_law_1180 : decode cL_law 1180 = .ok (.iconst 2, 1) := by decide +kernel
theorem dL_law_1181 : decode cL_law 1181 = .ok (.iadd, 1) := by decide +kernel
theorem dL_law_1182 : decode cL_law 1182 = .ok (.iaload, 1) := by decide +kernel
theorem dL_law_1183 : decode cL_law 1183 = .ok (.invokevirtual 133, 3) := by decide +kernel
theorem dL_law_1186 : decode cL_law 1186 = .ok (.aload_n 2, 1) := by decide +kernel
theorem dL_law_1187 : decode cL_law 1187 = .ok (.aload_n 0, 1) := by decide +kernel
theorem dL_law_1188 : decode cL_law 1188 = .ok (.iload_n 3, 1) := by decide +kernel
theorem dL_law_1189 : decode cL_law 1189 = .ok (.iconst 1, 1) := by decide +kernel
theorem dL_law_1190 : decode cL_law 1190 = .ok (.iadd, 1) := by decide +kernel
theorem dL_law_1191 : decode cL_law 1191 = .ok (.iaload, 1) := by decide +kernel
theorem dL_law_1192 : decode cL_law 1192 = .ok (.aload_n 0, 1) := by decide +kernel
theorem dL_law_1193 : decode cL_law 1193 = .ok (.iload_n 3, 1) := by decide +kernel
theorem dL_law_1194 : decode cL_law 1194 = .ok (.iconst 2, 1) := by decide +kernel
theorem dL_law_1195 : decode cL_law 1195 = .ok (.iadd, 1) := by decide +kernel
theorem dL_law_1196 : decode cL_law 1196 = .ok (.iaload, 1) := by decide +kernel
theorem dL_law_1197 : decode cL_law 1197 = .ok (.invokevirtual 136, 3) := by decide +kernel
theorem dL_law_1200 : decode cL_law 1200 = .ok (.lcmp, 1) := by decide +kernel
theorem dL_law_1201 : decode cL_law 1201 = .ok (.ifCond .eq 372, 3) := by decide +kernel
theorem dL_law_1204 : decode cL_law 1204 = .ok (.iconst 0, 1) := by decide +kernel
theorem dL_law_1205 : decode cL_law 1205 = .ok (.ireturn, 1) := by decide +kernel
theorem dL_law_1206 : decode cL_law 1206 = .ok (.aload_n 1, 1) := by decide +kernel
theorem dL_law_1207 : decode cL_law 1207 = .ok (.aload_n 0, 1) := by decide +kernel
theorem dL_law_1208 : decode cL_law 1208 = .ok (.iload_n 3, 1) := by decide +kernel
theorem dL_law_1209 : decode cL_law 1209 = .ok (.iconst 1, 1) := by decide +kernel
theorem dL_law_1210 : decode cL_law 1210 = .ok (.iadd, 1) := by decide +kernel
theorem dL_law_1211 : decode cL_law 1211 = .ok (.iaload, 1) := by decide +kernel
theorem dL_law_1212 : decode cL_law 1212 = .ok (.invokevirtual 137, 3) := by decide +kernel
theorem dL_law_1215 : decode cL_law 1215 = .ok (.aload_n 2, 1) := by decide +kernel
theorem dL_law_1216 : decode cL_law 1216 = .ok (.aload_n 0, 1) := by decide +kernel
theorem dL_law_1217 : decode cL_law 1217 = .ok (.iload_n 3, 1) := by decide +kernel
theorem dL_law_1218 : decode cL_law 1218 = .ok (.iconst 1, 1) := by decide +kernel
theorem dL_law_1219 : decode cL_law 1219 = .ok (.iadd, 1) := by decide +kernel
theorem dL_law_1220 : decode cL_law 1220 = .ok (.iaload, 1) := by decide +kernel
theorem dL_law_1221 : decode cL_law 1221 = .ok (.invokevirtual 140, 3) := by decide +kernel
theorem dL_law_1224 : decode cL_law 1224 = .ok (.if_icmp .eq 349, 3) := by decide +kernel
theorem dL_law_1227 : decode cL_law 1227 = .ok (.iconst 0, 1) := by decide +kernel
theorem dL_law_1228 : decode cL_law 1228 = .ok (.ireturn, 1) := by decide +kernel
theorem dL_law_1229 : decode cL_law 1229 = .ok (.aload_n 1, 1) := by decide +kernel
theorem dL_law_1230 : decode cL_law 1230 = .ok (.aload_n 0, 1) := by decide +kernel
theorem dL_law_1231 : decode cL_law 1231 = .ok (.iload_n 3, 1) := by decide +kernel
theorem dL_law_1232 : decode cL_law 1232 = .ok (.iconst 1, 1) := by decide +kernel
theorem dL_law_1233 : decode cL_law 1233 = .ok (.iadd, 1) := by decide +kernel
theorem dL_law_1234 : decode cL_law 1234 = .ok (.iaload, 1) := by decide +kernel
theorem dL_law_1235 : decode cL_law 1235 = .ok (.aload_n 0, 1) := by decide +kernel
theorem dL_law_1236 : decode cL_law 1236 = .ok (.iload_n 3, 1) := by decide +kernel
theorem dL_law_1237 : decode cL_law 1237 = .ok (.iconst 2, 1) := by decide +kernel
theorem dL_law_1238 : decode cL_law 1238 = .ok (.iadd, 1) := by decide +kernel
theorem dL_law_1239 : decode cL_law 1239 = .ok (.iaload, 1) := by decide +kernel
theorem dL_law_1240 : decode cL_law 1240 = .ok (.aload_n 0, 1) := by decide +kernel
theorem dL_law_1241 : decode cL_law 1241 = .ok (.iload_n 3, 1) := by decide +kernel
theorem dL_law_1242 : decode cL_law 1242 = .ok (.iconst 3, 1) := by decide +kernel
theorem dL_law_1243 : decode cL_law 1243 = .ok (.iadd, 1) := by decide +kernel
theorem dL_law_1244 : decode cL_law 1244 = .ok (.iaload, 1) := by decide +kernel
theorem dL_law_1245 : decode cL_law 1245 = .ok (.invokevirtual 141, 3) := by decide +kernel
theorem dL_law_1248 : decode cL_law 1248 = .ok (.aload_n 2, 1) := by decide +kernel
theorem dL_law_1249 : decode cL_law 1249 = .ok (.aload_n 0, 1) := by decide +kernel
theorem dL_law_1250 : decode cL_law 1250 = .ok (.iload_n 3, 1) := by decide +kernel
theorem dL_law_1251 : decode cL_law 1251 = .ok (.iconst 1, 1) := by decide +kernel
theorem dL_law_1252 : decode cL_law 1252 = .ok (.iadd, 1) := by decide +kernel
theorem dL_law_1253 : decode cL_law 1253 = .ok (.iaload, 1) := by decide +kernel
theorem dL_law_1254 : decode cL_law 1254 = .ok (.aload_n 0, 1) := by decide +kernel
theorem dL_law_1255 : decode cL_law 1255 = .ok (.iload_n 3, 1) := by decide +kernel
theorem dL_law_1256 : decode cL_law 1256 = .ok (.iconst 2, 1) := by decide +kernel
theorem dL_law_1257 : decode cL_law 1257 = .ok (.iadd, 1) := by decide +kernel
theorem dL_law_1258 : decode cL_law 1258 = .ok (.iaload, 1) := by decide +kernel
theorem dL_law_1259 : decode cL_law 1259 = .ok (.aload_n 0, 1) := by decide +kernel
theorem dL_law_1260 : decode cL_law 1260 = .ok (.iload_n 3, 1) := by decide +kernel
theorem dL_law_1261 : decode cL_law 1261 = .ok (.iconst 3, 1) := by decide +kernel
theorem dL_law_1262 : decode cL_law 1262 = .ok (.iadd, 1) := by decide +kernel
theorem dL_law_1263 : decode cL_law 1263 = .ok (.iaload, 1) := by decide +kernel
theorem dL_law_1264 : decode cL_law 1264 = .ok (.invokevirtual 144, 3) := by decide +kernel
theorem dL_law_1267 : decode cL_law 1267 = .ok (.lcmp, 1) := by decide +kernel
theorem dL_law_1268 : decode cL_law 1268 = .ok (.ifCond .eq 305, 3) := by decide +kernel
theorem dL_law_1271 : decode cL_law 1271 = .ok (.iconst 0, 1) := by decide +kernel
theorem dL_law_1272 : decode cL_law 1272 = .ok (.ireturn, 1) := by decide +kernel
theorem dL_law_1273 : decode cL_law 1273 = .ok (.aload_n 1, 1) := by decide +kernel
theorem dL_law_1274 : decode cL_law 1274 = .ok (.aload_n 0, 1) := by decide +kernel
theorem dL_law_1275 : decode cL_law 1275 = .ok (.iload_n 3, 1) := by decide +kernel
theorem dL_law_1276 : decode cL_law 1276 = .ok (.iconst 1, 1) := by decide +kernel
theorem dL_law_1277 : decode cL_law 1277 = .ok (.iadd, 1) := by decide +kernel
theorem dL_law_1278 : decode cL_law 1278 = .ok (.iaload, 1) := by decide +kernel
theorem dL_law_1279 : decode cL_law 1279 = .ok (.aload_n 0, 1) := by decide +kernel
theorem dL_law_1280 : decode cL_law 1280 = .ok (.iload_n 3, 1) := by decide +kernel
theorem dL_law_1281 : decode cL_law 1281 = .ok (.iconst 2, 1) := by decide +kernel
theorem dL_law_1282 : decode cL_law 1282 = .ok (.iadd, 1) := by decide +kernel
theorem dL_law_1283 : decode cL_law 1283 = .ok (.iaload, 1) := by decide +kernel
theorem dL_law_1284 : decode cL_law 1284 = .ok (.invokevirtual 145, 3) := by decide +kernel
theorem dL_law_1287 : decode cL_law 1287 = .ok (.aload_n 2, 1) := by decide +kernel
theorem dL_law_1288 : decode cL_law 1288 = .ok (.aload_n 0, 1) := by decide +kernel
theorem dL_law_1289 : decode cL_law 1289 = .ok (.iload_n 3, 1) := by decide +kernel
theorem dL_law_1290 : decode cL_law 1290 = .ok (.iconst 1, 1) := by decide +kernel
theorem dL_law_1291 : decode cL_law 1291 = .ok (.iadd, 1) := by decide +kernel
theorem dL_law_1292 : decode cL_law 1292 = .ok (.iaload, 1) := by decide +kernel
theorem dL_law_1293 : decode cL_law 1293 = .ok (.aload_n 0, 1) := by decide +kernel
theorem dL_law_1294 : decode cL_law 1294 = .ok (.iload_n 3, 1) := by decide +kernel
theorem dL_law_1295 : decode cL_law 1295 = .ok (.iconst 2, 1) := by decide +kernel
theorem dL_law_1296 : decode cL_law 1296 = .ok (.iadd, 1) := by decide +kernel
theorem dL_law_1297 : decode cL_law 1297 = .ok (.iaload, 1) := by decide +kernel
theorem dL_law_1298 : decode cL_law 1298 = .ok (.invokevirtual 148, 3) := by decide +kernel
theorem dL_law_1301 : decode cL_law 1301 = .ok (.if_icmp .eq 272, 3) := by decide +kernel
theorem dL_law_1304 : decode cL_law 1304 = .ok (.iconst 0, 1) := by decide +kernel
theorem dL_law_1305 : decode cL_law 1305 = .ok (.ireturn, 1) := by decide +kernel
theorem dL_law_1306 : decode cL_law 1306 = .ok (.aload_n 1, 1) := by decide +kernel
theorem dL_law_1307 : decode cL_law 1307 = .ok (.aload_n 0, 1) := by decide +kernel
theorem dL_law_1308 : decode cL_law 1308 = .ok (.iload_n 3, 1) := by decide +kernel
theorem dL_law_1309 : decode cL_law 1309 = .ok (.iconst 1, 1) := by decide +kernel
theorem dL_law_1310 : decode cL_law 1310 = .ok (.iadd, 1) := by decide +kernel
theorem dL_law_1311 : decode cL_law 1311 = .ok (.iaload, 1) := by decide +kernel
theorem dL_law_1312 : decode cL_law 1312 = .ok (.invokevirtual 149, 3) := by decide +kernel
theorem dL_law_1315 : decode cL_law 1315 = .ok (.aload_n 2, 1) := by decide +kernel
theorem dL_law_1316 : decode cL_law 1316 = .ok (.aload_n 0, 1) := by decide +kernel
theorem dL_law_1317 : decode cL_law 1317 = .ok (.iload_n 3, 1) := by decide +kernel
theorem dL_law_1318 : decode cL_law 1318 = .ok (.iconst 1, 1) := by decide +kernel
theorem dL_law_1319 : decode cL_law 1319 = .ok (.iadd, 1) := by decide +kernel
theorem dL_law_1320 : decode cL_law 1320 = .ok (.iaload, 1) := by decide +kernel
theorem dL_law_1321 : decode cL_law 1321 = .ok (.invokevirtual 152, 3) := by decide +kernel
theorem dL_law_1324 : decode cL_law 1324 = .ok (.if_icmp .eq 249, 3) := by decide +kernel
theorem dL_law_1327 : decode cL_law 1327 = .ok (.iconst 0, 1) := by decide +kernel
theorem dL_law_1328 : decode cL_law 1328 = .ok (.ireturn, 1) := by decide +kernel
theorem dL_law_1329 : decode cL_law 1329 = .ok (.aload_n 1, 1) := by decide +kernel
theorem dL_law_1330 : decode cL_law 1330 = .ok (.aload_n 0, 1) := by decide +kernel
theorem dL_law_1331 : decode cL_law 1331 = .ok (.iload_n 3, 1) := by decide +kernel
theorem dL_law_1332 : decode cL_law 1332 = .ok (.iconst 1, 1) := by decide +kernel
theorem dL_law_1333 : decode cL_law 1333 = .ok (.iadd, 1) := by decide +kernel
theorem dL_law_1334 : decode cL_law 1334 = .ok (.iaload, 1) := by decide +kernel
theorem dL_law_1335 : decode cL_law 1335 = .ok (.aload_n 0, 1) := by decide +kernel
theorem dL_law_1336 : decode cL_law 1336 = .ok (.iload_n 3, 1) := by decide +kernel
theorem dL_law_1337 : decode cL_law 1337 = .ok (.iconst 2, 1) := by decide +kernel
theorem dL_law_1338 : decode cL_law 1338 = .ok (.iadd, 1) := by decide +kernel
theorem dL_law_1339 : decode cL_law 1339 = .ok (.iaload, 1) := by decide +kernel
theorem dL_law_1340 : decode cL_law 1340 = .ok (.aload_n 0, 1) := by decide +kernel
theorem dL_law_1341 : decode cL_law 1341 = .ok (.iload_n 3, 1) := by decide +kernel
theorem dL_law_1342 : decode cL_law 1342 = .ok (.iconst 3, 1) := by decide +kernel
theorem dL_law_1343 : decode cL_law 1343 = .ok (.iadd, 1) := by decide +kernel
theorem dL_law_1344 : decode cL_law 1344 = .ok (.iaload, 1) := by decide +kernel
theorem dL_law_1345 : decode cL_law 1345 = .ok (.invokevirtual 153, 3) := by decide +kernel
theorem dL_law_1348 : decode cL_law 1348 = .ok (.aload_n 2, 1) := by decide +kernel
theorem dL_law_1349 : decode cL_law 1349 = .ok (.aload_n 0, 1) := by decide +kernel
theorem dL_law_1350 : decode cL_law 1350 = .ok (.iload_n 3, 1) := by decide +kernel
theorem dL_law_1351 : decode cL_law 1351 = .ok (.iconst 1, 1) := by decide +kernel
theorem dL_law_1352 : decode cL_law 1352 = .ok (.iadd, 1) := by decide +kernel
theorem dL_law_1353 : decode cL_law 1353 = .ok (.iaload, 1) := by decide +kernel
theorem dL_law_1354 : decode cL_law 1354 = .ok (.aload_n 0, 1) := by decide +kernel
theorem dL_law_1355 : decode cL_law 1355 = .ok (.iload_n 3, 1) := by decide +kernel
theorem dL_law_1356 : decode cL_law 1356 = .ok (.iconst 2, 1) := by decide +kernel
theorem dL_law_1357 : decode cL_law 1357 = .ok (.iadd, 1) := by decide +kernel
theorem dL_law_1358 : decode cL_law 1358 = .ok (.iaload, 1) := by decide +kernel
theorem dL_law_1359 : decode cL_law 1359 = .ok (.aload_n 0, 1) := by decide +kernel
theorem dL_law_1360 : decode cL_law 1360 = .ok (.iload_n 3, 1) := by decide +kernel
theorem dL_law_1361 : decode cL_law 1361 = .ok (.iconst 3, 1) := by decide +kernel
theorem dL_law_1362 : decode cL_law 1362 = .ok (.iadd, 1) := by decide +kernel
theorem dL_law_1363 : decode cL_law 1363 = .ok (.iaload, 1) := by decide +kernel
theorem dL_law_1364 : decode cL_law 1364 = .ok (.invokevirtual 156, 3) := by decide +kernel
theorem dL_law_1367 : decode cL_law 1367 = .ok (.if_icmp .eq 206, 3) := by decide +kernel
theorem dL_law_1370 : decode cL_law 1370 = .ok (.iconst 0, 1) := by decide +kernel
theorem dL_law_1371 : decode cL_law 1371 = .ok (.ireturn, 1) := by decide +kernel
theorem dL_law_1372 : decode cL_law 1372 = .ok (.aload_n 1, 1) := by decide +kernel
theorem dL_law_1373 : decode cL_law 1373 = .ok (.aload_n 0, 1) := by decide +kernel
theorem dL_law_1374 : decode cL_law 1374 = .ok (.iload_n 3, 1) := by decide +kernel
theorem dL_law_1375 : decode cL_law 1375 = .ok (.iconst 1, 1) := by decide +kernel
theorem dL_law_1376 : decode cL_law 1376 = .ok (.iadd, 1) := by decide +kernel
theorem dL_law_1377 : decode cL_law 1377 = .ok (.iaload, 1) := by decide +kernel
theorem dL_law_1378 : decode cL_law 1378 = .ok (.aload_n 0, 1) := by decide +kernel
theorem dL_law_1379 : decode cL_law 1379 = .ok (.iload_n 3, 1) := by decide +kernel
theorem dL_law_1380 : decode cL_law 1380 = .ok (.iconst 2, 1) := by decide +kernel
theorem dL_law_1381 : decode cL_law 1381 = .ok (.iadd, 1) := by decide +kernel
theorem dL_law_1382 : decode cL_law 1382 = .ok (.iaload, 1) := by decide +kernel
theorem dL_law_1383 : decode cL_law 1383 = .ok (.i2l, 1) := by decide +kernel
theorem dL_law_1384 : decode cL_law 1384 = .ok (.bipush 32, 2) := by decide +kernel
theorem dL_law_1386 : decode cL_law 1386 = .ok (.lshl, 1) := by decide +kernel
theorem dL_law_1387 : decode cL_law 1387 = .ok (.aload_n 0, 1) := by decide +kernel
theorem dL_law_1388 : decode cL_law 1388 = .ok (.iload_n 3, 1) := by decide +kernel
theorem dL_law_1389 : decode cL_law 1389 = .ok (.iconst 3, 1) := by decide +kernel
theorem dL_law_1390 : decode cL_law 1390 = .ok (.iadd, 1) := by decide +kernel
theorem dL_law_1391 : decode cL_law 1391 = .ok (.iaload, 1) := by decide +kernel
theorem dL_law_1392 : decode cL_law 1392 = .ok (.i2l, 1) := by decide +kernel
theorem dL_law_1393 : decode cL_law 1393 = .ok (.ldc2_w 27, 3) := by decide +kernel
theorem dL_law_1396 : decode cL_law 1396 = .ok (.land, 1) := by decide +kernel
theorem dL_law_1397 : decode cL_law 1397 = .ok (.lor, 1) := by decide +kernel
theorem dL_law_1398 : decode cL_law 1398 = .ok (.invokevirtual 157, 3) := by decide +kernel
theorem dL_law_1401 : decode cL_law 1401 = .ok (.aload_n 2, 1) := by decide +kernel
theorem dL_law_1402 : decode cL_law 1402 = .ok (.aload_n 0, 1) := by decide +kernel
theorem dL_law_1403 : decode cL_law 1403 = .ok (.iload_n 3, 1) := by decide +kernel
theorem dL_law_1404 : decode cL_law 1404 = .ok (.iconst 1, 1) := by decide +kernel
theorem dL_law_1405 : decode cL_law 1405 = .ok (.iadd, 1) := by decide +kernel
theorem dL_law_1406 : decode cL_law 1406 = .ok (.iaload, 1) := by decide +kernel
theorem dL_law_1407 : decode cL_law 1407 = .ok (.aload_n 0, 1) := by decide +kernel
theorem dL_law_1408 : decode cL_law 1408 = .ok (.iload_n 3, 1) := by decide +kernel
theorem dL_law_1409 : decode cL_law 1409 = .ok (.iconst 2, 1) := by decide +kernel
theorem dL_law_1410 : decode cL_law 1410 = .ok (.iadd, 1) := by decide +kernel
theorem dL_law_1411 : decode cL_law 1411 = .ok (.iaload, 1) := by decide +kernel
theorem dL_law_1412 : decode cL_law 1412 = .ok (.i2l, 1) := by decide +kernel
theorem dL_law_1413 : decode cL_law 1413 = .ok (.bipush 32, 2) := by decide +kernel
theorem dL_law_1415 : decode cL_law 1415 = .ok (.lshl, 1) := by decide +kernel
theorem dL_law_1416 : decode cL_law 1416 = .ok (.aload_n 0, 1) := by decide +kernel
theorem dL_law_1417 : decode cL_law 1417 = .ok (.iload_n 3, 1) := by decide +kernel
theorem dL_law_1418 : decode cL_law 1418 = .ok (.iconst 3, 1) := by decide +kernel
theorem dL_law_1419 : decode cL_law 1419 = .ok (.iadd, 1) := by decide +kernel
theorem dL_law_1420 : decode cL_law 1420 = .ok (.iaload, 1) := by decide +kernel
theorem dL_law_1421 : decode cL_law 1421 = .ok (.i2l, 1) := by decide +kernel
theorem dL_law_1422 : decode cL_law 1422 = .ok (.ldc2_w 27, 3) := by decide +kernel
theorem dL_law_1425 : decode cL_law 1425 = .ok (.land, 1) := by decide +kernel
theorem dL_law_1426 : decode cL_law 1426 = .ok (.lor, 1) := by decide +kernel
theorem dL_law_1427 : decode cL_law 1427 = .ok (.invokevirtual 161, 3) := by decide +kernel
theorem dL_law_1430 : decode cL_law 1430 = .ok (.lcmp, 1) := by decide +kernel
theorem dL_law_1431 : decode cL_law 1431 = .ok (.ifCond .eq 142, 3) := by decide +kernel
theorem dL_law_1434 : decode cL_law 1434 = .ok (.iconst 0, 1) := by decide +kernel
theorem dL_law_1435 : decode cL_law 1435 = .ok (.ireturn, 1) := by decide +kernel
theorem dL_law_1436 : decode cL_law 1436 = .ok (.aload_n 1, 1) := by decide +kernel
theorem dL_law_1437 : decode cL_law 1437 = .ok (.aload_n 0, 1) := by decide +kernel
theorem dL_law_1438 : decode cL_law 1438 = .ok (.iload_n 3, 1) := by decide +kernel
theorem dL_law_1439 : decode cL_law 1439 = .ok (.iconst 1, 1) := by decide +kernel
theorem dL_law_1440 : decode cL_law 1440 = .ok (.iadd, 1) := by decide +kernel
theorem dL_law_1441 : decode cL_law 1441 = .ok (.iaload, 1) := by decide +kernel
theorem dL_law_1442 : decode cL_law 1442 = .ok (.invokevirtual 162, 3) := by decide +kernel
theorem dL_law_1445 : decode cL_law 1445 = .ok (.aload_n 2, 1) := by decide +kernel
theorem dL_law_1446 : decode cL_law 1446 = .ok (.aload_n 0, 1) := by decide +kernel
theorem dL_law_1447 : decode cL_law 1447 = .ok (.iload_n 3, 1) := by decide +kernel
theorem dL_law_1448 : decode cL_law 1448 = .ok (.iconst 1, 1) := by decide +kernel
theorem dL_law_1449 : decode cL_law 1449 = .ok (.iadd, 1) := by decide +kernel
theorem dL_law_1450 : decode cL_law 1450 = .ok (.iaload, 1) := by decide +kernel
theorem dL_law_1451 : decode cL_law 1451 = .ok (.invokevirtual 165, 3) := by decide +kernel
theorem dL_law_1454 : decode cL_law 1454 = .ok (.lcmp, 1) := by decide +kernel
theorem dL_law_1455 : decode cL_law 1455 = .ok (.ifCond .eq 118, 3) := by decide +kernel
theorem dL_law_1458 : decode cL_law 1458 = .ok (.iconst 0, 1) := by decide +kernel
theorem dL_law_1459 : decode cL_law 1459 = .ok (.ireturn, 1) := by decide +kernel
theorem dL_law_1460 : decode cL_law 1460 = .ok (.aload_n 1, 1) := by decide +kernel
theorem dL_law_1461 : decode cL_law 1461 = .ok (.aload_n 0, 1) := by decide +kernel
theorem dL_law_1462 : decode cL_law 1462 = .ok (.iload_n 3, 1) := by decide +kernel
theorem dL_law_1463 : decode cL_law 1463 = .ok (.iconst 1, 1) := by decide +kernel
theorem dL_law_1464 : decode cL_law 1464 = .ok (.iadd, 1) := by decide +kernel
theorem dL_law_1465 : decode cL_law 1465 = .ok (.iaload, 1) := by decide +kernel
theorem dL_law_1466 : decode cL_law 1466 = .ok (.invokevirtual 166, 3) := by decide +kernel
theorem dL_law_1469 : decode cL_law 1469 = .ok (.aload_n 2, 1) := by decide +kernel
theorem dL_law_1470 : decode cL_law 1470 = .ok (.aload_n 0, 1) := by decide +kernel
theorem dL_law_1471 : decode cL_law 1471 = .ok (.iload_n 3, 1) := by decide +kernel
theorem dL_law_1472 : decode cL_law 1472 = .ok (.iconst 1, 1) := by decide +kernel
theorem dL_law_1473 : decode cL_law 1473 = .ok (.iadd, 1) := by decide +kernel
theorem dL_law_1474 : decode cL_law 1474 = .ok (.iaload, 1) := by decide +kernel
theorem dL_law_1475 : decode cL_law 1475 = .ok (.invokevirtual 169, 3) := by decide +kernel
theorem dL_law_1478 : decode cL_law 1478 = .ok (.if_icmp .eq 95, 3) := by decide +kernel
theorem dL_law_1481 : decode cL_law 1481 = .ok (.iconst 0, 1) := by decide +kernel
theorem dL_law_1482 : decode cL_law 1482 = .ok (.ireturn, 1) := by decide +kernel
theorem dL_law_1483 : decode cL_law 1483 = .ok (.aload_n 1, 1) := by decide +kernel
theorem dL_law_1484 : decode cL_law 1484 = .ok (.aload_n 0, 1) := by decide +kernel
theorem dL_law_1485 : decode cL_law 1485 = .ok (.iload_n 3, 1) := by decide +kernel
theorem dL_law_1486 : decode cL_law 1486 = .ok (.iconst 1, 1) := by decide +kernel
theorem dL_law_1487 : decode cL_law 1487 = .ok (.iadd, 1) := by decide +kernel
theorem dL_law_1488 : decode cL_law 1488 = .ok (.iaload, 1) := by decide +kernel
theorem dL_law_1489 : decode cL_law 1489 = .ok (.invokevirtual 170, 3) := by decide +kernel
theorem dL_law_1492 : decode cL_law 1492 = .ok (.aload_n 2, 1) := by decide +kernel
theorem dL_law_1493 : decode cL_law 1493 = .ok (.aload_n 0, 1) := by decide +kernel
theorem dL_law_1494 : decode cL_law 1494 = .ok (.iload_n 3, 1) := by decide +kernel
theorem dL_law_1495 : decode cL_law 1495 = .ok (.iconst 1, 1) := by decide +kernel
theorem dL_law_1496 : decode cL_law 1496 = .ok (.iadd, 1) := by decide +kernel
theorem dL_law_1497 : decode cL_law 1497 = .ok (.iaload, 1) := by decide +kernel
theorem dL_law_1498 : decode cL_law 1498 = .ok (.invokevirtual 173, 3) := by decide +kernel
theorem dL_law_1501 : decode cL_law 1501 = .ok (.if_icmp .eq 72, 3) := by decide +kernel
theorem dL_law_1504 : decode cL_law 1504 = .ok (.iconst 0, 1) := by decide +kernel
theorem dL_law_1505 : decode cL_law 1505 = .ok (.ireturn, 1) := by decide +kernel
theorem dL_law_1506 : decode cL_law 1506 = .ok (.aload_n 1, 1) := by decide +kernel
theorem dL_law_1507 : decode cL_law 1507 = .ok (.aload_n 0, 1) := by decide +kernel
theorem dL_law_1508 : decode cL_law 1508 = .ok (.iload_n 3, 1) := by decide +kernel
theorem dL_law_1509 : decode cL_law 1509 = .ok (.iconst 1, 1) := by decide +kernel
theorem dL_law_1510 : decode cL_law 1510 = .ok (.iadd, 1) := by decide +kernel
theorem dL_law_1511 : decode cL_law 1511 = .ok (.iaload, 1) := by decide +kernel
theorem dL_law_1512 : decode cL_law 1512 = .ok (.aload_n 0, 1) := by decide +kernel
theorem dL_law_1513 : decode cL_law 1513 = .ok (.iload_n 3, 1) := by decide +kernel
theorem dL_law_1514 : decode cL_law 1514 = .ok (.iconst 2, 1) := by decide +kernel
theorem dL_law_1515 : decode cL_law 1515 = .ok (.iadd, 1) := by decide +kernel
theorem dL_law_1516 : decode cL_law 1516 = .ok (.iaload, 1) := by decide +kernel
theorem dL_law_1517 : decode cL_law 1517 = .ok (.invokevirtual 174, 3) := by decide +kernel
theorem dL_law_1520 : decode cL_law 1520 = .ok (.aload_n 2, 1) := by decide +kernel
theorem dL_law_1521 : decode cL_law 1521 = .ok (.aload_n 0, 1) := by decide +kernel
theorem dL_law_1522 : decode cL_law 1522 = .ok (.iload_n 3, 1) := by decide +kernel
theorem dL_law_1523 : decode cL_law 1523 = .ok (.iconst 1, 1) := by decide +kernel
theorem dL_law_1524 : decode cL_law 1524 = .ok (.iadd, 1) := by decide +kernel
theorem dL_law_1525 : decode cL_law 1525 = .ok (.iaload, 1) := by decide +kernel
theorem dL_law_1526 : decode cL_law 1526 = .ok (.aload_n 0, 1) := by decide +kernel
theorem dL_law_1527 : decode cL_law 1527 = .ok (.iload_n 3, 1) := by decide +kernel
theorem dL_law_1528 : decode cL_law 1528 = .ok (.iconst 2, 1) := by decide +kernel
theorem dL_law_1529 : decode cL_law 1529 = .ok (.iadd, 1) := by decide +kernel
theorem dL_law_1530 : decode cL_law 1530 = .ok (.iaload, 1) := by decide +kernel
theorem dL_law_1531 : decode cL_law 1531 = .ok (.invokevirtual 177, 3) := by decide +kernel
theorem dL_law_1534 : decode cL_law 1534 = .ok (.if_icmp .eq 39, 3) := by decide +kernel
theorem dL_law_1537 : decode cL_law 1537 = .ok (.iconst 0, 1) := by decide +kernel
theorem dL_law_1538 : decode cL_law 1538 = .ok (.ireturn, 1) := by decide +kernel
theorem dL_law_1539 : decode cL_law 1539 = .ok (.aload_n 1, 1) := by decide +kernel
theorem dL_law_1540 : decode cL_law 1540 = .ok (.aload_n 0, 1) := by decide +kernel
theorem dL_law_1541 : decode cL_law 1541 = .ok (.iload_n 3, 1) := by decide +kernel
theorem dL_law_1542 : decode cL_law 1542 = .ok (.iconst 1, 1) := by decide +kernel
theorem dL_law_1543 : decode cL_law 1543 = .ok (.iadd, 1) := by decide +kernel
theorem dL_law_1544 : decode cL_law 1544 = .ok (.iaload, 1) := by decide +kernel
theorem dL_law_1545 : decode cL_law 1545 = .ok (.aload_n 0, 1) := by decide +kernel
theorem dL_law_1546 : decode cL_law 1546 = .ok (.iload_n 3, 1) := by decide +kernel
theorem dL_law_1547 : decode cL_law 1547 = .ok (.iconst 2, 1) := by decide +kernel
theorem dL_law_1548 : decode cL_law 1548 = .ok (.iadd, 1) := by decide +kernel
theorem dL_law_1549 : decode cL_law 1549 = .ok (.iaload, 1) := by decide +kernel
theorem dL_law_1550 : decode cL_law 1550 = .ok (.invokevirtual 178, 3) := by decide +kernel
theorem dL_law_1553 : decode cL_law 1553 = .ok (.aload_n 2, 1) := by decide +kernel
theorem dL_law_1554 : decode cL_law 1554 = .ok (.aload_n 0, 1) := by decide +kernel
theorem dL_law_1555 : decode cL_law 1555 = .ok (.iload_n 3, 1) := by decide +kernel
theorem dL_law_1556 : decode cL_law 1556 = .ok (.iconst 1, 1) := by decide +kernel
theorem dL_law_1557 : decode cL_law 1557 = .ok (.iadd, 1) := by decide +kernel
theorem dL_law_1558 : decode cL_law 1558 = .ok (.iaload, 1) := by decide +kernel
theorem dL_law_1559 : decode cL_law 1559 = .ok (.aload_n 0, 1) := by decide +kernel
theorem dL_law_1560 : decode cL_law 1560 = .ok (.iload_n 3, 1) := by decide +kernel
theorem dL_law_1561 : decode cL_law 1561 = .ok (.iconst 2, 1) := by decide +kernel
theorem dL_law_1562 : decode cL_law 1562 = .ok (.iadd, 1) := by decide +kernel
theorem dL_law_1563 : decode cL_law 1563 = .ok (.iaload, 1) := by decide +kernel
theorem dL_law_1564 : decode cL_law 1564 = .ok (.invokevirtual 181, 3) := by decide +kernel
theorem dL_law_1567 : decode cL_law 1567 = .ok (.lcmp, 1) := by decide +kernel
theorem dL_law_1568 : decode cL_law 1568 = .ok (.ifCond .eq 5, 3) := by decide +kernel
theorem dL_law_1571 : decode cL_law 1571 = .ok (.iconst 0, 1) := by decide +kernel
theorem dL_law_1572 : decode cL_law 1572 = .ok (.ireturn, 1) := by decide +kernel
theorem dL_law_1573 : decode cL_law 1573 = .ok (.iinc 3 7, 3) := by decide +kernel
theorem dL_law_1576 : decode cL_law 1576 = .ok (.goto (-1558), 3) := by decide +kernel
theorem dL_law_1579 : decode cL_law 1579 = .ok (.iconst 1, 1) := by decide +kernel
theorem dL_law_1580 : decode cL_law 1580 = .ok (.ireturn, 1) := by decide +kernel
