theorem dX0_init_0 : decode cX0_init 0 = .ok (.aload_n 0, 1) := by decide +kernel
theorem dX0_init_1 : decode cX0_init 1 = .ok (.invokespecial 1, 3) := by decide +kernel
theorem dX0_init_4 : decode cX0_init 4 = .ok (.return_, 1) := by decide +kernel
theorem dX0_findBreak_0 : decode cX0_findBreak 0 = .ok (.iconst 0, 1) := by decide +kernel
theorem dX0_findBreak_1 : decode cX0_findBreak 1 = .ok (.istore_n 2, 1) := by decide +kernel
theorem dX0_findBreak_2 : decode cX0_findBreak 2 = .ok (.iload_n 2, 1) := by decide +kernel
theorem dX0_findBreak_3 : decode cX0_findBreak 3 = .ok (.aload_n 1, 1) := by decide +kernel
theorem dX0_findBreak_4 : decode cX0_findBreak 4 = .ok (.getfield 7, 3) := by decide +kernel
theorem dX0_findBreak_7 : decode cX0_findBreak 7 = .ok (.if_icmp .ge 45, 3) := by decide +kernel
theorem dX0_findBreak_10 : decode cX0_findBreak 10 = .ok (.iconst 0, 1) := by decide +kernel
theorem dX0_findBreak_11 : decode cX0_findBreak 11 = .ok (.istore_n 3, 1) := by decide +kernel
theorem dX0_findBreak_12 : decode cX0_findBreak 12 = .ok (.iload_n 3, 1) := by decide +kernel
theorem dX0_findBreak_13 : decode cX0_findBreak 13 = .ok (.aload_n 1, 1) := by decide +kernel
theorem dX0_findBreak_14 : decode cX0_findBreak 14 = .ok (.getfield 13, 3) := by decide +kernel
theorem dX0_findBreak_17 : decode cX0_findBreak 17 = .ok (.if_icmp .ge 29, 3) := by decide +kernel
theorem dX0_findBreak_20 : decode cX0_findBreak 20 = .ok (.iload_n 2, 1) := by decide +kernel
theorem dX0_findBreak_21 : decode cX0_findBreak 21 = .ok (.iload_n 3, 1) := by decide +kernel
theorem dX0_findBreak_22 : decode cX0_findBreak 22 = .ok (.invokestatic 16, 3) := by decide +kernel
theorem dX0_findBreak_25 : decode cX0_findBreak 25 = .ok (.ifCond .ne 15, 3) := by decide +kernel
theorem dX0_findBreak_28 : decode cX0_findBreak 28 = .ok (.aload_n 0, 1) := by decide +kernel
theorem dX0_findBreak_29 : decode cX0_findBreak 29 = .ok (.aload_n 1, 1) := by decide +kernel
theorem dX0_findBreak_30 : decode cX0_findBreak 30 = .ok (.iload_n 2, 1) := by decide +kernel
theorem dX0_findBreak_31 : decode cX0_findBreak 31 = .ok (.iload_n 3, 1) := by decide +kernel
theorem dX0_findBreak_32 : decode cX0_findBreak 32 = .ok (.invokevirtual 22, 3) := by decide +kernel
theorem dX0_findBreak_35 : decode cX0_findBreak 35 = .ok (.ifCond .eq 5, 3) := by decide +kernel
theorem dX0_findBreak_38 : decode cX0_findBreak 38 = .ok (.iconst 1, 1) := by decide +kernel
theorem dX0_findBreak_39 : decode cX0_findBreak 39 = .ok (.ireturn, 1) := by decide +kernel
theorem dX0_findBreak_40 : decode cX0_findBreak 40 = .ok (.iinc 3 1, 3) := by decide +kernel
theorem dX0_findBreak_43 : decode cX0_findBreak 43 = .ok (.goto (-31), 3) := by decide +kernel
theorem dX0_findBreak_46 : decode cX0_findBreak 46 = .ok (.iinc 2 1, 3) := by decide +kernel
theorem dX0_findBreak_49 : decode cX0_findBreak 49 = .ok (.goto (-47), 3) := by decide +kernel
theorem dX0_findBreak_52 : decode cX0_findBreak 52 = .ok (.iconst 0, 1) := by decide +kernel
theorem dX0_findBreak_53 : decode cX0_findBreak 53 = .ok (.ireturn, 1) := by decide +kernel
theorem dX0_findSecond_0 : decode cX0_findSecond 0 = .ok (.iload_n 3, 1) := by decide +kernel
theorem dX0_findSecond_1 : decode cX0_findSecond 1 = .ok (.iconst 1, 1) := by decide +kernel
theorem dX0_findSecond_2 : decode cX0_findSecond 2 = .ok (.iadd, 1) := by decide +kernel
theorem dX0_findSecond_3 : decode cX0_findSecond 3 = .ok (.istore 4, 2) := by decide +kernel
theorem dX0_findSecond_5 : decode cX0_findSecond 5 = .ok (.iload 4, 2) := by decide +kernel
theorem dX0_findSecond_7 : decode cX0_findSecond 7 = .ok (.aload_n 1, 1) := by decide +kernel
theorem dX0_findSecond_8 : decode cX0_findSecond 8 = .ok (.getfield 13, 3) := by decide +kernel
theorem dX0_findSecond_11 : decode cX0_findSecond 11 = .ok (.if_icmp .ge 49, 3) := by decide +kernel
theorem dX0_findSecond_14 : decode cX0_findSecond 14 = .ok (.aload_n 1, 1) := by decide +kernel
theorem dX0_findSecond_15 : decode cX0_findSecond 15 = .ok (.iload_n 2, 1) := by decide +kernel
theorem dX0_findSecond_16 : decode cX0_findSecond 16 = .ok (.iconst 1, 1) := by decide +kernel
theorem dX0_findSecond_17 : decode cX0_findSecond 17 = .ok (.iload_n 3, 1) := by decide +kernel
theorem dX0_findSecond_18 : decode cX0_findSecond 18 = .ok (.ishl, 1) := by decide +kernel
theorem dX0_findSecond_19 : decode cX0_findSecond 19 = .ok (.ior, 1) := by decide +kernel
theorem dX0_findSecond_20 : decode cX0_findSecond 20 = .ok (.iload 4, 2) := by decide +kernel
theorem dX0_findSecond_22 : decode cX0_findSecond 22 = .ok (.invokevirtual 28, 3) := by decide +kernel
theorem dX0_findSecond_25 : decode cX0_findSecond 25 = .ok (.aload_n 1, 1) := by decide +kernel
theorem dX0_findSecond_26 : decode cX0_findSecond 26 = .ok (.iload_n 2, 1) := by decide +kernel
theorem dX0_findSecond_27 : decode cX0_findSecond 27 = .ok (.iload 4, 2) := by decide +kernel
theorem dX0_findSecond_29 : decode cX0_findSecond 29 = .ok (.invokevirtual 28, 3) := by decide +kernel
theorem dX0_findSecond_32 : decode cX0_findSecond 32 = .ok (.lcmp, 1) := by decide +kernel
theorem dX0_findSecond_33 : decode cX0_findSecond 33 = .ok (.ifCond .le 21, 3) := by decide +kernel
theorem dX0_findSecond_36 : decode cX0_findSecond 36 = .ok (.aload_n 0, 1) := by decide +kernel
theorem dX0_findSecond_37 : decode cX0_findSecond 37 = .ok (.iload_n 2, 1) := by decide +kernel
theorem dX0_findSecond_38 : decode cX0_findSecond 38 = .ok (.putfield 32, 3) := by decide +kernel
theorem dX0_findSecond_41 : decode cX0_findSecond 41 = .ok (.aload_n 0, 1) := by decide +kernel
theorem dX0_findSecond_42 : decode cX0_findSecond 42 = .ok (.iload_n 3, 1) := by decide +kernel
theorem dX0_findSecond_43 : decode cX0_findSecond 43 = .ok (.putfield 35, 3) := by decide +kernel
theorem dX0_findSecond_46 : decode cX0_findSecond 46 = .ok (.aload_n 0, 1) := by decide +kernel
theorem dX0_findSecond_47 : decode cX0_findSecond 47 = .ok (.iload 4, 2) := by decide +kernel
theorem dX0_findSecond_49 : decode cX0_findSecond 49 = .ok (.putfield 38, 3) := by decide +kernel
theorem dX0_findSecond_52 : decode cX0_findSecond 52 = .ok (.iconst 1, 1) := by decide +kernel
theorem dX0_findSecond_53 : decode cX0_findSecond 53 = .ok (.ireturn, 1) := by decide +kernel
theorem dX0_findSecond_54 : decode cX0_findSecond 54 = .ok (.iinc 4 1, 3) := by decide +kernel
theorem dX0_findSecond_57 : decode cX0_findSecond 57 = .ok (.goto (-52), 3) := by decide +kernel
theorem dX0_findSecond_60 : decode cX0_findSecond 60 = .ok (.iconst 0, 1) := by decide +kernel
theorem dX0_findSecond_61 : decode cX0_findSecond 61 = .ok (.ireturn, 1) := by decide +kernel
theorem dX1_init_0 : decode cX1_init 0 = .ok (.aload_n 0, 1) := by decide +kernel
theorem dX1_init_1 : decode cX1_init 1 = .ok (.invokespecial 3, 3) := by decide +kernel
theorem dX1_init_4 : decode cX1_init 4 = .ok (.aload_n 0, 1) := by decide +kernel
theorem dX1_init_5 : decode cX1_init 5 = .ok (.bipush 10, 2) := by decide +kernel
theorem dX1_init_7 : decode cX1_init 7 = .ok (.newarray .int, 2) := by decide +kernel
theorem dX1_init_9 : decode cX1_init 9 = .ok (.putfield 9, 3) := by decide +kernel
theorem dX1_init_12 : decode cX1_init 12 = .ok (.return_, 1) := by decide +kernel
theorem dX1_gather_0 : decode cX1_gather 0 = .ok (.aload_n 1, 1) := by decide +kernel
theorem dX1_gather_1 : decode cX1_gather 1 = .ok (.invokevirtual 15, 3) := by decide +kernel
theorem dX1_gather_4 : decode cX1_gather 4 = .ok (.lstore_n 2, 1) := by decide +kernel
theorem dX1_gather_5 : decode cX1_gather 5 = .ok (.aload_n 1, 1) := by decide +kernel
theorem dX1_gather_6 : decode cX1_gather 6 = .ok (.getfield 21, 3) := by decide +kernel
theorem dX1_gather_9 : decode cX1_gather 9 = .ok (.iconst 1, 1) := by decide +kernel
theorem dX1_gather_10 : decode cX1_gather 10 = .ok (.isub, 1) := by decide +kernel
theorem dX1_gather_11 : decode cX1_gather 11 = .ok (.istore 4, 2) := by decide +kernel
theorem dX1_gather_13 : decode cX1_gather 13 = .ok (.aload_n 0, 1) := by decide +kernel
theorem dX1_gather_14 : decode cX1_gather 14 = .ok (.iconst 0, 1) := by decide +kernel
theorem dX1_gather_15 : decode cX1_gather 15 = .ok (.putfield 25, 3) := by decide +kernel
theorem dX1_gather_18 : decode cX1_gather 18 = .ok (.aload_n 0, 1) := by decide +kernel
theorem dX1_gather_19 : decode cX1_gather 19 = .ok (.iload 4, 2) := by decide +kernel
theorem dX1_gather_21 : decode cX1_gather 21 = .ok (.putfield 28, 3) := by decide +kernel
theorem dX1_gather_24 : decode cX1_gather 24 = .ok (.aload_n 0, 1) := by decide +kernel
theorem dX1_gather_25 : decode cX1_gather 25 = .ok (.iconst 0, 1) := by decide +kernel
theorem dX1_gather_26 : decode cX1_gather 26 = .ok (.putfield 31, 3) := by decide +kernel
theorem dX1_gather_29 : decode cX1_gather 29 = .ok (.iconst 0, 1) := by decide +kernel
theorem dX1_gather_30 : decode cX1_gather 30 = .ok (.istore 5, 2) := by decide +kernel
theorem dX1_gather_32 : decode cX1_gather 32 = .ok (.iload 5, 2) := by decide +kernel
theorem dX1_gather_34 : decode cX1_gather 34 = .ok (.bipush 10, 2) := by decide +kernel
theorem dX1_gather_36 : decode cX1_gather 36 = .ok (.if_icmp .ge 18, 3) := by decide +kernel
theorem dX1_gather_39 : decode cX1_gather 39 = .ok (.aload_n 0, 1) := by decide +kernel
theorem dX1_gather_40 : decode cX1_gather 40 = .ok (.getfield 9, 3) := by decide +kernel
theorem dX1_gather_43 : decode cX1_gather 43 = .ok (.iload 5, 2) := by decide +kernel
theorem dX1_gather_45 : decode cX1_gather 45 = .ok (.iload 4, 2) := by decide +kernel
theorem dX1_gather_47 : decode cX1_gather 47 = .ok (.iastore, 1) := by decide +kernel
theorem dX1_gather_48 : decode cX1_gather 48 = .ok (.iinc 5 1, 3) := by decide +kernel
theorem dX1_gather_51 : decode cX1_gather 51 = .ok (.goto (-19), 3) := by decide +kernel
theorem dX1_gather_54 : decode cX1_gather 54 = .ok (.iconst 0, 1) := by decide +kernel
theorem dX1_gather_55 : decode cX1_gather 55 = .ok (.istore 5, 2) := by decide +kernel
theorem dX1_gather_57 : decode cX1_gather 57 = .ok (.iload 5, 2) := by decide +kernel
theorem dX1_gather_59 : decode cX1_gather 59 = .ok (.iload 4, 2) := by decide +kernel
theorem dX1_gather_61 : decode cX1_gather 61 = .ok (.if_icmp .gt 27, 3) := by decide +kernel
theorem dX1_gather_64 : decode cX1_gather 64 = .ok (.aload_n 1, 1) := by decide +kernel
theorem dX1_gather_65 : decode cX1_gather 65 = .ok (.getfield 34, 3) := by decide +kernel
theorem dX1_gather_68 : decode cX1_gather 68 = .ok (.iload 5, 2) := by decide +kernel
theorem dX1_gather_70 : decode cX1_gather 70 = .ok (.laload, 1) := by decide +kernel
theorem dX1_gather_71 : decode cX1_gather 71 = .ok (.lload_n 2, 1) := by decide +kernel
theorem dX1_gather_72 : decode cX1_gather 72 = .ok (.lcmp, 1) := by decide +kernel
theorem dX1_gather_73 : decode cX1_gather 73 = .ok (.ifCond .ne 9, 3) := by decide +kernel
theorem dX1_gather_76 : decode cX1_gather 76 = .ok (.aload_n 0, 1) := by decide +kernel
theorem dX1_gather_77 : decode cX1_gather 77 = .ok (.iload 5, 2) := by decide +kernel
theorem dX1_gather_79 : decode cX1_gather 79 = .ok (.invokevirtual 38, 3) := by decide +kernel
theorem dX1_gather_82 : decode cX1_gather 82 = .ok (.iinc 5 1, 3) := by decide +kernel
theorem dX1_gather_85 : decode cX1_gather 85 = .ok (.goto (-28), 3) := by decide +kernel
theorem dX1_gather_88 : decode cX1_gather 88 = .ok (.return_, 1) := by decide +kernel
theorem dX1_take_0 : decode cX1_take 0 = .ok (.aload_n 0, 1) := by decide +kernel
theorem dX1_take_1 : decode cX1_take 1 = .ok (.dup, 1) := by decide +kernel
theorem dX1_take_2 : decode cX1_take 2 = .ok (.getfield 25, 3) := by decide +kernel
theorem dX1_take_5 : decode cX1_take 5 = .ok (.iconst 1, 1) := by decide +kernel
theorem dX1_take_6 : decode cX1_take 6 = .ok (.iadd, 1) := by decide +kernel
theorem dX1_take_7 : decode cX1_take 7 = .ok (.putfield 25, 3) := by decide +kernel
theorem dX1_take_10 : decode cX1_take 10 = .ok (.aload_n 0, 1) := by decide +kernel
theorem dX1_take_11 : decode cX1_take 11 = .ok (.dup, 1) := by decide +kernel
theorem dX1_take_12 : decode cX1_take 12 = .ok (.getfield 28, 3) := by decide +kernel
theorem dX1_take_15 : decode cX1_take 15 = .ok (.iload_n 1, 1) := by decide +kernel
theorem dX1_take_16 : decode cX1_take 16 = .ok (.iand, 1) := by decide +kernel
theorem dX1_take_17 : decode cX1_take 17 = .ok (.putfield 28, 3) := by decide +kernel
theorem dX1_take_20 : decode cX1_take 20 = .ok (.aload_n 0, 1) := by decide +kernel
theorem dX1_take_21 : decode cX1_take 21 = .ok (.dup, 1) := by decide +kernel
theorem dX1_take_22 : decode cX1_take 22 = .ok (.getfield 31, 3) := by decide +kernel
theorem dX1_take_25 : decode cX1_take 25 = .ok (.iload_n 1, 1) := by decide +kernel
theorem dX1_take_26 : decode cX1_take 26 = .ok (.ior, 1) := by decide +kernel
theorem dX1_take_27 : decode cX1_take 27 = .ok (.putfield 31, 3) := by decide +kernel
theorem dX1_take_30 : decode cX1_take 30 = .ok (.iconst 0, 1) := by decide +kernel
theorem dX1_take_31 : decode cX1_take 31 = .ok (.istore_n 2, 1) := by decide +kernel
theorem dX1_take_32 : decode cX1_take 32 = .ok (.iload_n 2, 1) := by decide +kernel
theorem dX1_take_33 : decode cX1_take 33 = .ok (.bipush 10, 2) := by decide +kernel
theorem dX1_take_35 : decode cX1_take 35 = .ok (.if_icmp .ge 27, 3) := by decide +kernel
theorem dX1_take_38 : decode cX1_take 38 = .ok (.iload_n 1, 1) := by decide +kernel
theorem dX1_take_39 : decode cX1_take 39 = .ok (.iload_n 2, 1) := by decide +kernel
theorem dX1_take_40 : decode cX1_take 40 = .ok (.invokestatic 42, 3) := by decide +kernel
theorem dX1_take_43 : decode cX1_take 43 = .ok (.ifCond .eq 13, 3) := by decide +kernel
theorem dX1_take_46 : decode cX1_take 46 = .ok (.aload_n 0, 1) := by decide +kernel
theorem dX1_take_47 : decode cX1_take 47 = .ok (.getfield 9, 3) := by decide +kernel
theorem dX1_take_50 : decode cX1_take 50 = .ok (.iload_n 2, 1) := by decide +kernel
theorem dX1_take_51 : decode cX1_take 51 = .ok (.dup2, 1) := by decide +kernel
theorem dX1_take_52 : decode cX1_take 52 = .ok (.iaload, 1) := by decide +kernel
theorem dX1_take_53 : decode cX1_take 53 = .ok (.iload_n 1, 1) := by decide +kernel
theorem dX1_take_54 : decode cX1_take 54 = .ok (.iand, 1) := by decide +kernel
theorem dX1_take_55 : decode cX1_take 55 = .ok (.iastore, 1) := by decide +kernel
theorem dX1_take_56 : decode cX1_take 56 = .ok (.iinc 2 1, 3) := by decide +kernel
theorem dX1_take_59 : decode cX1_take 59 = .ok (.goto (-27), 3) := by decide +kernel
theorem dX1_take_62 : decode cX1_take 62 = .ok (.return_, 1) := by decide +kernel
theorem dX1_isClosed_0 : decode cX1_isClosed 0 = .ok (.iconst 0, 1) := by decide +kernel
theorem dX1_isClosed_1 : decode cX1_isClosed 1 = .ok (.istore_n 2, 1) := by decide +kernel
theorem dX1_isClosed_2 : decode cX1_isClosed 2 = .ok (.iconst 0, 1) := by decide +kernel
theorem dX1_isClosed_3 : decode cX1_isClosed 3 = .ok (.istore_n 3, 1) := by decide +kernel
theorem dX1_isClosed_4 : decode cX1_isClosed 4 = .ok (.iload_n 3, 1) := by decide +kernel
theorem dX1_isClosed_5 : decode cX1_isClosed 5 = .ok (.aload_n 1, 1) := by decide +kernel
theorem dX1_isClosed_6 : decode cX1_isClosed 6 = .ok (.getfield 21, 3) := by decide +kernel
theorem dX1_isClosed_9 : decode cX1_isClosed 9 = .ok (.if_icmp .ge 42, 3) := by decide +kernel
theorem dX1_isClosed_12 : decode cX1_isClosed 12 = .ok (.aload_n 0, 1) := by decide +kernel
theorem dX1_isClosed_13 : decode cX1_isClosed 13 = .ok (.getfield 28, 3) := by decide +kernel
theorem dX1_isClosed_16 : decode cX1_isClosed 16 = .ok (.iload_n 3, 1) := by decide +kernel
theorem dX1_isClosed_17 : decode cX1_isClosed 17 = .ok (.iconst (-1), 1) := by decide +kernel
theorem dX1_isClosed_18 : decode cX1_isClosed 18 = .ok (.ixor, 1) := by decide +kernel
theorem dX1_isClosed_19 : decode cX1_isClosed 19 = .ok (.iand, 1) := by decide +kernel
theorem dX1_isClosed_20 : decode cX1_isClosed 20 = .ok (.ifCond .ne 25, 3) := by decide +kernel
theorem dX1_isClosed_23 : decode cX1_isClosed 23 = .ok (.iload_n 3, 1) := by decide +kernel
theorem dX1_isClosed_24 : decode cX1_isClosed 24 = .ok (.aload_n 0, 1) := by decide +kernel
theorem dX1_isClosed_25 : decode cX1_isClosed 25 = .ok (.getfield 31, 3) := by decide +kernel
theorem dX1_isClosed_28 : decode cX1_isClosed 28 = .ok (.iconst (-1), 1) := by decide +kernel
theorem dX1_isClosed_29 : decode cX1_isClosed 29 = .ok (.ixor, 1) := by decide +kernel
theorem dX1_isClosed_30 : decode cX1_isClosed 30 = .ok (.iand, 1) := by decide +kernel
theorem dX1_isClosed_31 : decode cX1_isClosed 31 = .ok (.ifCond .ne 14, 3) := by decide +kernel
theorem dX1_isClosed_34 : decode cX1_isClosed 34 = .ok (.aload_n 0, 1) := by decide +kernel
theorem dX1_isClosed_35 : decode cX1_isClosed 35 = .ok (.iload_n 3, 1) := by decide +kernel
theorem dX1_isClosed_36 : decode cX1_isClosed 36 = .ok (.invokevirtual 46, 3) := by decide +kernel
theorem dX1_isClosed_39 : decode cX1_isClosed 39 = .ok (.ifCond .eq 6, 3) := by decide +kernel
theorem dX1_isClosed_42 : decode cX1_isClosed 42 = .ok (.iinc 2 1, 3) := by decide +kernel
theorem dX1_isClosed_45 : decode cX1_isClosed 45 = .ok (.iinc 3 1, 3) := by decide +kernel
theorem dX1_isClosed_48 : decode cX1_isClosed 48 = .ok (.goto (-44), 3) := by decide +kernel
theorem dX1_isClosed_51 : decode cX1_isClosed 51 = .ok (.iload_n 2, 1) := by decide +kernel
theorem dX1_isClosed_52 : decode cX1_isClosed 52 = .ok (.aload_n 0, 1) := by decide +kernel
theorem dX1_isClosed_53 : decode cX1_isClosed 53 = .ok (.getfield 25, 3) := by decide +kernel
theorem dX1_isClosed_56 : decode cX1_isClosed 56 = .ok (.if_icmp .ne 7, 3) := by decide +kernel
theorem dX1_isClosed_59 : decode cX1_isClosed 59 = .ok (.iconst 1, 1) := by decide +kernel
theorem dX1_isClosed_60 : decode cX1_isClosed 60 = .ok (.goto 4, 3) := by decide +kernel
theorem dX1_isClosed_63 : decode cX1_isClosed 63 = .ok (.iconst 0, 1) := by decide +kernel
theorem dX1_isClosed_64 : decode cX1_isClosed 64 = .ok (.ireturn, 1) := by decide +kernel
theorem dX1_hasCompanions_0 : decode cX1_hasCompanions 0 = .ok (.iconst 0, 1) := by decide +kernel
theorem dX1_hasCompanions_1 : decode cX1_hasCompanions 1 = .ok (.istore_n 2, 1) := by decide +kernel
theorem dX1_hasCompanions_2 : decode cX1_hasCompanions 2 = .ok (.iload_n 2, 1) := by decide +kernel
theorem dX1_hasCompanions_3 : decode cX1_hasCompanions 3 = .ok (.bipush 10, 2) := by decide +kernel
theorem dX1_hasCompanions_5 : decode cX1_hasCompanions 5 = .ok (.if_icmp .ge 32, 3) := by decide +kernel
theorem dX1_hasCompanions_8 : decode cX1_hasCompanions 8 = .ok (.iload_n 1, 1) := by decide +kernel
theorem dX1_hasCompanions_9 : decode cX1_hasCompanions 9 = .ok (.iload_n 2, 1) := by decide +kernel
theorem dX1_hasCompanions_10 : decode cX1_hasCompanions 10 = .ok (.invokestatic 42, 3) := by decide +kernel
theorem dX1_hasCompanions_13 : decode cX1_hasCompanions 13 = .ok (.ifCond .eq 18, 3) := by decide +kernel
theorem dX1_hasCompanions_16 : decode cX1_hasCompanions 16 = .ok (.aload_n 0, 1) := by decide +kernel
theorem dX1_hasCompanions_17 : decode cX1_hasCompanions 17 = .ok (.getfield 9, 3) := by decide +kernel
theorem dX1_hasCompanions_20 : decode cX1_hasCompanions 20 = .ok (.iload_n 2, 1) := by decide +kernel
theorem dX1_hasCompanions_21 : decode cX1_hasCompanions 21 = .ok (.iaload, 1) := by decide +kernel
theorem dX1_hasCompanions_22 : decode cX1_hasCompanions 22 = .ok (.iload_n 1, 1) := by decide +kernel
theorem dX1_hasCompanions_23 : decode cX1_hasCompanions 23 = .ok (.iconst (-1), 1) := by decide +kernel
theorem dX1_hasCompanions_24 : decode cX1_hasCompanions 24 = .ok (.ixor, 1) := by decide +kernel
theorem dX1_hasCompanions_25 : decode cX1_hasCompanions 25 = .ok (.iand, 1) := by decide +kernel
theorem dX1_hasCompanions_26 : decode cX1_hasCompanions 26 = .ok (.ifCond .eq 5, 3) := by decide +kernel
theorem dX1_hasCompanions_29 : decode cX1_hasCompanions 29 = .ok (.iconst 0, 1) := by decide +kernel
theorem dX1_hasCompanions_30 : decode cX1_hasCompanions 30 = .ok (.ireturn, 1) := by decide +kernel
theorem dX1_hasCompanions_31 : decode cX1_hasCompanions 31 = .ok (.iinc 2 1, 3) := by decide +kernel
theorem dX1_hasCompanions_34 : decode cX1_hasCompanions 34 = .ok (.goto (-32), 3) := by decide +kernel
theorem dX1_hasCompanions_37 : decode cX1_hasCompanions 37 = .ok (.iconst 1, 1) := by decide +kernel
theorem dX1_hasCompanions_38 : decode cX1_hasCompanions 38 = .ok (.ireturn, 1) := by decide +kernel
theorem dX2_init_0 : decode cX2_init 0 = .ok (.aload_n 0, 1) := by decide +kernel
theorem dX2_init_1 : decode cX2_init 1 = .ok (.invokespecial 3, 3) := by decide +kernel
theorem dX2_init_4 : decode cX2_init 4 = .ok (.aload_n 0, 1) := by decide +kernel
theorem dX2_init_5 : decode cX2_init 5 = .ok (.bipush 11, 2) := by decide +kernel
theorem dX2_init_7 : decode cX2_init 7 = .ok (.newarray .long, 2) := by decide +kernel
theorem dX2_init_9 : decode cX2_init 9 = .ok (.putfield 9, 3) := by decide +kernel
theorem dX2_init_12 : decode cX2_init 12 = .ok (.aload_n 0, 1) := by decide +kernel
theorem dX2_init_13 : decode cX2_init 13 = .ok (.bipush 11, 2) := by decide +kernel
theorem dX2_init_15 : decode cX2_init 15 = .ok (.newarray .int, 2) := by decide +kernel
theorem dX2_init_17 : decode cX2_init 17 = .ok (.putfield 15, 3) := by decide +kernel
theorem dX2_init_20 : decode cX2_init 20 = .ok (.return_, 1) := by decide +kernel
theorem dX2_gather_0 : decode cX2_gather 0 = .ok (.aload_n 0, 1) := by decide +kernel
theorem dX2_gather_1 : decode cX2_gather 1 = .ok (.aload_n 1, 1) := by decide +kernel
theorem dX2_gather_2 : decode cX2_gather 2 = .ok (.getfield 19, 3) := by decide +kernel
theorem dX2_gather_5 : decode cX2_gather 5 = .ok (.putfield 25, 3) := by decide +kernel
theorem dX2_gather_8 : decode cX2_gather 8 = .ok (.iconst 0, 1) := by decide +kernel
theorem dX2_gather_9 : decode cX2_gather 9 = .ok (.istore_n 2, 1) := by decide +kernel
theorem dX2_gather_10 : decode cX2_gather 10 = .ok (.iload_n 2, 1) := by decide +kernel
theorem dX2_gather_11 : decode cX2_gather 11 = .ok (.aload_n 0, 1) := by decide +kernel
theorem dX2_gather_12 : decode cX2_gather 12 = .ok (.getfield 25, 3) := by decide +kernel
theorem dX2_gather_15 : decode cX2_gather 15 = .ok (.if_icmp .gt 25, 3) := by decide +kernel
theorem dX2_gather_18 : decode cX2_gather 18 = .ok (.aload_n 0, 1) := by decide +kernel
theorem dX2_gather_19 : decode cX2_gather 19 = .ok (.getfield 9, 3) := by decide +kernel
theorem dX2_gather_22 : decode cX2_gather 22 = .ok (.iload_n 2, 1) := by decide +kernel
theorem dX2_gather_23 : decode cX2_gather 23 = .ok (.aload_n 1, 1) := by decide +kernel
theorem dX2_gather_24 : decode cX2_gather 24 = .ok (.getfield 26, 3) := by decide +kernel
theorem dX2_gather_27 : decode cX2_gather 27 = .ok (.iconst 1, 1) := by decide +kernel
theorem dX2_gather_28 : decode cX2_gather 28 = .ok (.iload_n 2, 1) := by decide +kernel
theorem dX2_gather_29 : decode cX2_gather 29 = .ok (.ishl, 1) := by decide +kernel
theorem dX2_gather_30 : decode cX2_gather 30 = .ok (.iconst 1, 1) := by decide +kernel
theorem dX2_gather_31 : decode cX2_gather 31 = .ok (.isub, 1) := by decide +kernel
theorem dX2_gather_32 : decode cX2_gather 32 = .ok (.laload, 1) := by decide +kernel
theorem dX2_gather_33 : decode cX2_gather 33 = .ok (.lastore, 1) := by decide +kernel
theorem dX2_gather_34 : decode cX2_gather 34 = .ok (.iinc 2 1, 3) := by decide +kernel
theorem dX2_gather_37 : decode cX2_gather 37 = .ok (.goto (-27), 3) := by decide +kernel
theorem dX2_gather_40 : decode cX2_gather 40 = .ok (.iconst 0, 1) := by decide +kernel
theorem dX2_gather_41 : decode cX2_gather 41 = .ok (.istore_n 2, 1) := by decide +kernel
theorem dX2_gather_42 : decode cX2_gather 42 = .ok (.iload_n 2, 1) := by decide +kernel
theorem dX2_gather_43 : decode cX2_gather 43 = .ok (.aload_n 1, 1) := by decide +kernel
theorem dX2_gather_44 : decode cX2_gather 44 = .ok (.getfield 29, 3) := by decide +kernel
theorem dX2_gather_47 : decode cX2_gather 47 = .ok (.if_icmp .ge 35, 3) := by decide +kernel
theorem dX2_gather_50 : decode cX2_gather 50 = .ok (.iload_n 2, 1) := by decide +kernel
theorem dX2_gather_51 : decode cX2_gather 51 = .ok (.invokestatic 32, 3) := by decide +kernel
theorem dX2_gather_54 : decode cX2_gather 54 = .ok (.istore_n 3, 1) := by decide +kernel
theorem dX2_gather_55 : decode cX2_gather 55 = .ok (.aload_n 0, 1) := by decide +kernel
theorem dX2_gather_56 : decode cX2_gather 56 = .ok (.getfield 9, 3) := by decide +kernel
theorem dX2_gather_59 : decode cX2_gather 59 = .ok (.iload_n 3, 1) := by decide +kernel
theorem dX2_gather_60 : decode cX2_gather 60 = .ok (.aload_n 0, 1) := by decide +kernel
theorem dX2_gather_61 : decode cX2_gather 61 = .ok (.getfield 9, 3) := by decide +kernel
theorem dX2_gather_64 : decode cX2_gather 64 = .ok (.iload_n 3, 1) := by decide +kernel
theorem dX2_gather_65 : decode cX2_gather 65 = .ok (.laload, 1) := by decide +kernel
theorem dX2_gather_66 : decode cX2_gather 66 = .ok (.aload_n 1, 1) := by decide +kernel
theorem dX2_gather_67 : decode cX2_gather 67 = .ok (.getfield 26, 3) := by decide +kernel
theorem dX2_gather_70 : decode cX2_gather 70 = .ok (.iload_n 2, 1) := by decide +kernel
theorem dX2_gather_71 : decode cX2_gather 71 = .ok (.laload, 1) := by decide +kernel
theorem dX2_gather_72 : decode cX2_gather 72 = .ok (.invokestatic 38, 3) := by decide +kernel
theorem dX2_gather_75 : decode cX2_gather 75 = .ok (.lastore, 1) := by decide +kernel
theorem dX2_gather_76 : decode cX2_gather 76 = .ok (.iinc 2 1, 3) := by decide +kernel
theorem dX2_gather_79 : decode cX2_gather 79 = .ok (.goto (-37), 3) := by decide +kernel
theorem dX2_gather_82 : decode cX2_gather 82 = .ok (.return_, 1) := by decide +kernel
theorem dX2_findTurns_0 : decode cX2_findTurns 0 = .ok (.aload_n 0, 1) := by decide +kernel
theorem dX2_findTurns_1 : decode cX2_findTurns 1 = .ok (.iconst 0, 1) := by decide +kernel
theorem dX2_findTurns_2 : decode cX2_findTurns 2 = .ok (.putfield 44, 3) := by decide +kernel
theorem dX2_findTurns_5 : decode cX2_findTurns 5 = .ok (.aload_n 0, 1) := by decide +kernel
theorem dX2_findTurns_6 : decode cX2_findTurns 6 = .ok (.getfield 15, 3) := by decide +kernel
theorem dX2_findTurns_9 : decode cX2_findTurns 9 = .ok (.iconst 0, 1) := by decide +kernel
theorem dX2_findTurns_10 : decode cX2_findTurns 10 = .ok (.iconst 0, 1) := by decide +kernel
theorem dX2_findTurns_11 : decode cX2_findTurns 11 = .ok (.iastore, 1) := by decide +kernel
theorem dX2_findTurns_12 : decode cX2_findTurns 12 = .ok (.iconst 0, 1) := by decide +kernel
theorem dX2_findTurns_13 : decode cX2_findTurns 13 = .ok (.istore_n 1, 1) := by decide +kernel
theorem dX2_findTurns_14 : decode cX2_findTurns 14 = .ok (.iload_n 1, 1) := by decide +kernel
theorem dX2_findTurns_15 : decode cX2_findTurns 15 = .ok (.aload_n 0, 1) := by decide +kernel
theorem dX2_findTurns_16 : decode cX2_findTurns 16 = .ok (.getfield 25, 3) := by decide +kernel
theorem dX2_findTurns_19 : decode cX2_findTurns 19 = .ok (.if_icmp .ge 59, 3) := by decide +kernel
theorem dX2_findTurns_22 : decode cX2_findTurns 22 = .ok (.aload_n 0, 1) := by decide +kernel
theorem dX2_findTurns_23 : decode cX2_findTurns 23 = .ok (.getfield 15, 3) := by decide +kernel
theorem dX2_findTurns_26 : decode cX2_findTurns 26 = .ok (.aload_n 0, 1) := by decide +kernel
theorem dX2_findTurns_27 : decode cX2_findTurns 27 = .ok (.getfield 44, 3) := by decide +kernel
theorem dX2_findTurns_30 : decode cX2_findTurns 30 = .ok (.iaload, 1) := by decide +kernel
theorem dX2_findTurns_31 : decode cX2_findTurns 31 = .ok (.aload_n 0, 1) := by decide +kernel
theorem dX2_findTurns_32 : decode cX2_findTurns 32 = .ok (.getfield 25, 3) := by decide +kernel
theorem dX2_findTurns_35 : decode cX2_findTurns 35 = .ok (.if_icmp .ge 43, 3) := by decide +kernel
theorem dX2_findTurns_38 : decode cX2_findTurns 38 = .ok (.aload_n 0, 1) := by decide +kernel
theorem dX2_findTurns_39 : decode cX2_findTurns 39 = .ok (.getfield 15, 3) := by decide +kernel
theorem dX2_findTurns_42 : decode cX2_findTurns 42 = .ok (.aload_n 0, 1) := by decide +kernel
theorem dX2_findTurns_43 : decode cX2_findTurns 43 = .ok (.getfield 44, 3) := by decide +kernel
theorem dX2_findTurns_46 : decode cX2_findTurns 46 = .ok (.iconst 1, 1) := by decide +kernel
theorem dX2_findTurns_47 : decode cX2_findTurns 47 = .ok (.iadd, 1) := by decide +kernel
theorem dX2_findTurns_48 : decode cX2_findTurns 48 = .ok (.aload_n 0, 1) := by decide +kernel
theorem dX2_findTurns_49 : decode cX2_findTurns 49 = .ok (.aload_n 0, 1) := by decide +kernel
theorem dX2_findTurns_50 : decode cX2_findTurns 50 = .ok (.getfield 15, 3) := by decide +kernel
theorem dX2_findTurns_53 : decode cX2_findTurns 53 = .ok (.aload_n 0, 1) := by decide +kernel
theorem dX2_findTurns_54 : decode cX2_findTurns 54 = .ok (.getfield 44, 3) := by decide +kernel
theorem dX2_findTurns_57 : decode cX2_findTurns 57 = .ok (.iaload, 1) := by decide +kernel
theorem dX2_findTurns_58 : decode cX2_findTurns 58 = .ok (.invokevirtual 47, 3) := by decide +kernel
theorem dX2_findTurns_61 : decode cX2_findTurns 61 = .ok (.iastore, 1) := by decide +kernel
theorem dX2_findTurns_62 : decode cX2_findTurns 62 = .ok (.aload_n 0, 1) := by decide +kernel
theorem dX2_findTurns_63 : decode cX2_findTurns 63 = .ok (.dup, 1) := by decide +kernel
theorem dX2_findTurns_64 : decode cX2_findTurns 64 = .ok (.getfield 44, 3) := by decide +kernel
theorem dX2_findTurns_67 : decode cX2_findTurns 67 = .ok (.iconst 1, 1) := by decide +kernel
theorem dX2_findTurns_68 : decode cX2_findTurns 68 = .ok (.iadd, 1) := by decide +kernel
theorem dX2_findTurns_69 : decode cX2_findTurns 69 = .ok (.putfield 44, 3) := by decide +kernel
theorem dX2_findTurns_72 : decode cX2_findTurns 72 = .ok (.iinc 1 1, 3) := by decide +kernel
theorem dX2_findTurns_75 : decode cX2_findTurns 75 = .ok (.goto (-61), 3) := by decide +kernel
theorem dX2_findTurns_78 : decode cX2_findTurns 78 = .ok (.return_, 1) := by decide +kernel
theorem dX2_nextTurn_0 : decode cX2_nextTurn 0 = .ok (.iload_n 1, 1) := by decide +kernel
theorem dX2_nextTurn_1 : decode cX2_nextTurn 1 = .ok (.iconst 1, 1) := by decide +kernel
theorem dX2_nextTurn_2 : decode cX2_nextTurn 2 = .ok (.iadd, 1) := by decide +kernel
theorem dX2_nextTurn_3 : decode cX2_nextTurn 3 = .ok (.istore_n 2, 1) := by decide +kernel
theorem dX2_nextTurn_4 : decode cX2_nextTurn 4 = .ok (.iload_n 1, 1) := by decide +kernel
theorem dX2_nextTurn_5 : decode cX2_nextTurn 5 = .ok (.iconst 2, 1) := by decide +kernel
theorem dX2_nextTurn_6 : decode cX2_nextTurn 6 = .ok (.iadd, 1) := by decide +kernel
theorem dX2_nextTurn_7 : decode cX2_nextTurn 7 = .ok (.istore_n 3, 1) := by decide +kernel
theorem dX2_nextTurn_8 : decode cX2_nextTurn 8 = .ok (.iload_n 3, 1) := by decide +kernel
theorem dX2_nextTurn_9 : decode cX2_nextTurn 9 = .ok (.aload_n 0, 1) := by decide +kernel
theorem dX2_nextTurn_10 : decode cX2_nextTurn 10 = .ok (.getfield 25, 3) := by decide +kernel
theorem dX2_nextTurn_13 : decode cX2_nextTurn 13 = .ok (.if_icmp .gt 51, 3) := by decide +kernel
theorem dX2_nextTurn_16 : decode cX2_nextTurn 16 = .ok (.aload_n 0, 1) := by decide +kernel
theorem dX2_nextTurn_17 : decode cX2_nextTurn 17 = .ok (.getfield 9, 3) := by decide +kernel
theorem dX2_nextTurn_20 : decode cX2_nextTurn 20 = .ok (.iload_n 3, 1) := by decide +kernel
theorem dX2_nextTurn_21 : decode cX2_nextTurn 21 = .ok (.laload, 1) := by decide +kernel
theorem dX2_nextTurn_22 : decode cX2_nextTurn 22 = .ok (.aload_n 0, 1) := by decide +kernel
theorem dX2_nextTurn_23 : decode cX2_nextTurn 23 = .ok (.getfield 9, 3) := by decide +kernel
theorem dX2_nextTurn_26 : decode cX2_nextTurn 26 = .ok (.iload_n 1, 1) := by decide +kernel
theorem dX2_nextTurn_27 : decode cX2_nextTurn 27 = .ok (.laload, 1) := by decide +kernel
theorem dX2_nextTurn_28 : decode cX2_nextTurn 28 = .ok (.lsub, 1) := by decide +kernel
theorem dX2_nextTurn_29 : decode cX2_nextTurn 29 = .ok (.iload_n 2, 1) := by decide +kernel
theorem dX2_nextTurn_30 : decode cX2_nextTurn 30 = .ok (.iload_n 1, 1) := by decide +kernel
theorem dX2_nextTurn_31 : decode cX2_nextTurn 31 = .ok (.isub, 1) := by decide +kernel
theorem dX2_nextTurn_32 : decode cX2_nextTurn 32 = .ok (.i2l, 1) := by decide +kernel
theorem dX2_nextTurn_33 : decode cX2_nextTurn 33 = .ok (.lmul, 1) := by decide +kernel
theorem dX2_nextTurn_34 : decode cX2_nextTurn 34 = .ok (.aload_n 0, 1) := by decide +kernel
theorem dX2_nextTurn_35 : decode cX2_nextTurn 35 = .ok (.getfield 9, 3) := by decide +kernel
theorem dX2_nextTurn_38 : decode cX2_nextTurn 38 = .ok (.iload_n 2, 1) := by decide +kernel
theorem dX2_nextTurn_39 : decode cX2_nextTurn 39 = .ok (.laload, 1) := by decide +kernel
theorem dX2_nextTurn_40 : decode cX2_nextTurn 40 = .ok (.aload_n 0, 1) := by decide +kernel
theorem dX2_nextTurn_41 : decode cX2_nextTurn 41 = .ok (.getfield 9, 3) := by decide +kernel
theorem dX2_nextTurn_44 : decode cX2_nextTurn 44 = .ok (.iload_n 1, 1) := by decide +kernel
theorem dX2_nextTurn_45 : decode cX2_nextTurn 45 = .ok (.laload, 1) := by decide +kernel
theorem dX2_nextTurn_46 : decode cX2_nextTurn 46 = .ok (.lsub, 1) := by decide +kernel
theorem dX2_nextTurn_47 : decode cX2_nextTurn 47 = .ok (.iload_n 3, 1) := by decide +kernel
theorem dX2_nextTurn_48 : decode cX2_nextTurn 48 = .ok (.iload_n 1, 1) := by decide +kernel
theorem dX2_nextTurn_49 : decode cX2_nextTurn 49 = .ok (.isub, 1) := by decide +kernel
theorem dX2_nextTurn_50 : decode cX2_nextTurn 50 = .ok (.i2l, 1) := by decide +kernel
theorem dX2_nextTurn_51 : decode cX2_nextTurn 51 = .ok (.lmul, 1) := by decide +kernel
theorem dX2_nextTurn_52 : decode cX2_nextTurn 52 = .ok (.lcmp, 1) := by decide +kernel
theorem dX2_nextTurn_53 : decode cX2_nextTurn 53 = .ok (.ifCond .gt 5, 3) := by decide +kernel
theorem dX2_nextTurn_56 : decode cX2_nextTurn 56 = .ok (.iload_n 3, 1) := by decide +kernel
theorem dX2_nextTurn_57 : decode cX2_nextTurn 57 = .ok (.istore_n 2, 1) := by decide +kernel
theorem dX2_nextTurn_58 : decode cX2_nextTurn 58 = .ok (.iinc 3 1, 3) := by decide +kernel
theorem dX2_nextTurn_61 : decode cX2_nextTurn 61 = .ok (.goto (-53), 3) := by decide +kernel
theorem dX2_nextTurn_64 : decode cX2_nextTurn 64 = .ok (.iload_n 2, 1) := by decide +kernel
theorem dX2_nextTurn_65 : decode cX2_nextTurn 65 = .ok (.ireturn, 1) := by decide +kernel
theorem dX2_top_0 : decode cX2_top 0 = .ok (.aload_n 0, 1) := by decide +kernel
theorem dX2_top_1 : decode cX2_top 1 = .ok (.iload_n 1, 1) := by decide +kernel
theorem dX2_top_2 : decode cX2_top 2 = .ok (.invokevirtual 50, 3) := by decide +kernel
theorem dX2_top_5 : decode cX2_top 5 = .ok (.aload_n 0, 1) := by decide +kernel
theorem dX2_top_6 : decode cX2_top 6 = .ok (.iload_n 1, 1) := by decide +kernel
theorem dX2_top_7 : decode cX2_top 7 = .ok (.invokevirtual 54, 3) := by decide +kernel
theorem dX2_top_10 : decode cX2_top 10 = .ok (.i2l, 1) := by decide +kernel
theorem dX2_top_11 : decode cX2_top 11 = .ok (.ldiv, 1) := by decide +kernel
theorem dX2_top_12 : decode cX2_top 12 = .ok (.lreturn, 1) := by decide +kernel
theorem dX2_bottom_0 : decode cX2_bottom 0 = .ok (.aload_n 0, 1) := by decide +kernel
theorem dX2_bottom_1 : decode cX2_bottom 1 = .ok (.iload_n 1, 1) := by decide +kernel
theorem dX2_bottom_2 : decode cX2_bottom 2 = .ok (.invokevirtual 57, 3) := by decide +kernel
theorem dX2_bottom_5 : decode cX2_bottom 5 = .ok (.aload_n 0, 1) := by decide +kernel
theorem dX2_bottom_6 : decode cX2_bottom 6 = .ok (.iload_n 1, 1) := by decide +kernel
theorem dX2_bottom_7 : decode cX2_bottom 7 = .ok (.invokevirtual 54, 3) := by decide +kernel
theorem dX2_bottom_10 : decode cX2_bottom 10 = .ok (.idiv, 1) := by decide +kernel
theorem dX2_bottom_11 : decode cX2_bottom 11 = .ok (.i2l, 1) := by decide +kernel
theorem dX2_bottom_12 : decode cX2_bottom 12 = .ok (.lreturn, 1) := by decide +kernel
theorem dX2_climb_0 : decode cX2_climb 0 = .ok (.aload_n 0, 1) := by decide +kernel
theorem dX2_climb_1 : decode cX2_climb 1 = .ok (.getfield 9, 3) := by decide +kernel
theorem dX2_climb_4 : decode cX2_climb 4 = .ok (.aload_n 0, 1) := by decide +kernel
theorem dX2_climb_5 : decode cX2_climb 5 = .ok (.getfield 15, 3) := by decide +kernel
theorem dX2_climb_8 : decode cX2_climb 8 = .ok (.iload_n 1, 1) := by decide +kernel
theorem dX2_climb_9 : decode cX2_climb 9 = .ok (.iconst 1, 1) := by decide +kernel
theorem dX2_climb_10 : decode cX2_climb 10 = .ok (.iadd, 1) := by decide +kernel
theorem dX2_climb_11 : decode cX2_climb 11 = .ok (.iaload, 1) := by decide +kernel
theorem dX2_climb_12 : decode cX2_climb 12 = .ok (.laload, 1) := by decide +kernel
theorem dX2_climb_13 : decode cX2_climb 13 = .ok (.aload_n 0, 1) := by decide +kernel
theorem dX2_climb_14 : decode cX2_climb 14 = .ok (.getfield 9, 3) := by decide +kernel
theorem dX2_climb_17 : decode cX2_climb 17 = .ok (.aload_n 0, 1) := by decide +kernel
theorem dX2_climb_18 : decode cX2_climb 18 = .ok (.getfield 15, 3) := by decide +kernel
theorem dX2_climb_21 : decode cX2_climb 21 = .ok (.iload_n 1, 1) := by decide +kernel
theorem dX2_climb_22 : decode cX2_climb 22 = .ok (.iaload, 1) := by decide +kernel
theorem dX2_climb_23 : decode cX2_climb 23 = .ok (.laload, 1) := by decide +kernel
theorem dX2_climb_24 : decode cX2_climb 24 = .ok (.lsub, 1) := by decide +kernel
theorem dX2_climb_25 : decode cX2_climb 25 = .ok (.lreturn, 1) := by decide +kernel
theorem dX2_width_0 : decode cX2_width 0 = .ok (.aload_n 0, 1) := by decide +kernel
theorem dX2_width_1 : decode cX2_width 1 = .ok (.getfield 15, 3) := by decide +kernel
theorem dX2_width_4 : decode cX2_width 4 = .ok (.iload_n 1, 1) := by decide +kernel
theorem dX2_width_5 : decode cX2_width 5 = .ok (.iconst 1, 1) := by decide +kernel
theorem dX2_width_6 : decode cX2_width 6 = .ok (.iadd, 1) := by decide +kernel
theorem dX2_width_7 : decode cX2_width 7 = .ok (.iaload, 1) := by decide +kernel
theorem dX2_width_8 : decode cX2_width 8 = .ok (.aload_n 0, 1) := by decide +kernel
theorem dX2_width_9 : decode cX2_width 9 = .ok (.getfield 15, 3) := by decide +kernel
theorem dX2_width_12 : decode cX2_width 12 = .ok (.iload_n 1, 1) := by decide +kernel
theorem dX2_width_13 : decode cX2_width 13 = .ok (.iaload, 1) := by decide +kernel
theorem dX2_width_14 : decode cX2_width 14 = .ok (.isub, 1) := by decide +kernel
theorem dX2_width_15 : decode cX2_width 15 = .ok (.ireturn, 1) := by decide +kernel
theorem dX2_commonDivisor_0 : decode cX2_commonDivisor 0 = .ok (.aload_n 0, 1) := by decide +kernel
theorem dX2_commonDivisor_1 : decode cX2_commonDivisor 1 = .ok (.iload_n 1, 1) := by decide +kernel
theorem dX2_commonDivisor_2 : decode cX2_commonDivisor 2 = .ok (.invokevirtual 57, 3) := by decide +kernel
theorem dX2_commonDivisor_5 : decode cX2_commonDivisor 5 = .ok (.istore_n 2, 1) := by decide +kernel
theorem dX2_commonDivisor_6 : decode cX2_commonDivisor 6 = .ok (.iload_n 2, 1) := by decide +kernel
theorem dX2_commonDivisor_7 : decode cX2_commonDivisor 7 = .ok (.iconst 1, 1) := by decide +kernel
theorem dX2_commonDivisor_8 : decode cX2_commonDivisor 8 = .ok (.if_icmp .le 34, 3) := by decide +kernel
theorem dX2_commonDivisor_11 : decode cX2_commonDivisor 11 = .ok (.aload_n 0, 1) := by decide +kernel
theorem dX2_commonDivisor_12 : decode cX2_commonDivisor 12 = .ok (.iload_n 1, 1) := by decide +kernel
theorem dX2_commonDivisor_13 : decode cX2_commonDivisor 13 = .ok (.invokevirtual 57, 3) := by decide +kernel
theorem dX2_commonDivisor_16 : decode cX2_commonDivisor 16 = .ok (.iload_n 2, 1) := by decide +kernel
theorem dX2_commonDivisor_17 : decode cX2_commonDivisor 17 = .ok (.irem, 1) := by decide +kernel
theorem dX2_commonDivisor_18 : decode cX2_commonDivisor 18 = .ok (.ifCond .ne 18, 3) := by decide +kernel
theorem dX2_commonDivisor_21 : decode cX2_commonDivisor 21 = .ok (.aload_n 0, 1) := by decide +kernel
theorem dX2_commonDivisor_22 : decode cX2_commonDivisor 22 = .ok (.iload_n 1, 1) := by decide +kernel
theorem dX2_commonDivisor_23 : decode cX2_commonDivisor 23 = .ok (.invokevirtual 50, 3) := by decide +kernel
theorem dX2_commonDivisor_26 : decode cX2_commonDivisor 26 = .ok (.iload_n 2, 1) := by decide +kernel
theorem dX2_commonDivisor_27 : decode cX2_commonDivisor 27 = .ok (.i2l, 1) := by decide +kernel
theorem dX2_commonDivisor_28 : decode cX2_commonDivisor 28 = .ok (.lrem, 1) := by decide +kernel
theorem dX2_commonDivisor_29 : decode cX2_commonDivisor 29 = .ok (.lconst 0, 1) := by decide +kernel
theorem dX2_commonDivisor_30 : decode cX2_commonDivisor 30 = .ok (.lcmp, 1) := by decide +kernel
theorem dX2_commonDivisor_31 : decode cX2_commonDivisor 31 = .ok (.ifCond .ne 5, 3) := by decide +kernel
theorem dX2_commonDivisor_34 : decode cX2_commonDivisor 34 = .ok (.iload_n 2, 1) := by decide +kernel
theorem dX2_commonDivisor_35 : decode cX2_commonDivisor 35 = .ok (.ireturn, 1) := by decide +kernel
theorem dX2_commonDivisor_36 : decode cX2_commonDivisor 36 = .ok (.iinc 2 (-1), 3) := by decide +kernel
theorem dX2_commonDivisor_39 : decode cX2_commonDivisor 39 = .ok (.goto (-33), 3) := by decide +kernel
theorem dX2_commonDivisor_42 : decode cX2_commonDivisor 42 = .ok (.iconst 1, 1) := by decide +kernel
theorem dX2_commonDivisor_43 : decode cX2_commonDivisor 43 = .ok (.ireturn, 1) := by decide +kernel
theorem dX3_init_0 : decode cX3_init 0 = .ok (.aload_n 0, 1) := by decide +kernel
theorem dX3_init_1 : decode cX3_init 1 = .ok (.invokespecial 3, 3) := by decide +kernel
theorem dX3_init_4 : decode cX3_init 4 = .ok (.aload_n 0, 1) := by decide +kernel
theorem dX3_init_5 : decode cX3_init 5 = .ok (.bipush 40, 2) := by decide +kernel
theorem dX3_init_7 : decode cX3_init 7 = .ok (.newarray .int, 2) := by decide +kernel
theorem dX3_init_9 : decode cX3_init 9 = .ok (.putfield 9, 3) := by decide +kernel
theorem dX3_init_12 : decode cX3_init 12 = .ok (.aload_n 0, 1) := by decide +kernel
theorem dX3_init_13 : decode cX3_init 13 = .ok (.bipush 16, 2) := by decide +kernel
theorem dX3_init_15 : decode cX3_init 15 = .ok (.newarray .long, 2) := by decide +kernel
theorem dX3_init_17 : decode cX3_init 17 = .ok (.putfield 15, 3) := by decide +kernel
theorem dX3_init_20 : decode cX3_init 20 = .ok (.return_, 1) := by decide +kernel
theorem dX3_clear_0 : decode cX3_clear 0 = .ok (.iconst 0, 1) := by decide +kernel
theorem dX3_clear_1 : decode cX3_clear 1 = .ok (.istore_n 1, 1) := by decide +kernel
theorem dX3_clear_2 : decode cX3_clear 2 = .ok (.iload_n 1, 1) := by decide +kernel
theorem dX3_clear_3 : decode cX3_clear 3 = .ok (.bipush 40, 2) := by decide +kernel
theorem dX3_clear_5 : decode cX3_clear 5 = .ok (.if_icmp .ge 16, 3) := by decide +kernel
theorem dX3_clear_8 : decode cX3_clear 8 = .ok (.aload_n 0, 1) := by decide +kernel
theorem dX3_clear_9 : decode cX3_clear 9 = .ok (.getfield 9, 3) := by decide +kernel
theorem dX3_clear_12 : decode cX3_clear 12 = .ok (.iload_n 1, 1) := by decide +kernel
theorem dX3_clear_13 : decode cX3_clear 13 = .ok (.iconst 0, 1) := by decide +kernel
theorem dX3_clear_14 : decode cX3_clear 14 = .ok (.iastore, 1) := by decide +kernel
theorem dX3_clear_15 : decode cX3_clear 15 = .ok (.iinc 1 1, 3) := by decide +kernel
theorem dX3_clear_18 : decode cX3_clear 18 = .ok (.goto (-16), 3) := by decide +kernel
theorem dX3_clear_21 : decode cX3_clear 21 = .ok (.return_, 1) := by decide +kernel
theorem dX3_write_0 : decode cX3_write 0 = .ok (.iload_n 1, 1) := by decide +kernel
theorem dX3_write_1 : decode cX3_write 1 = .ok (.iconst 4, 1) := by decide +kernel
theorem dX3_write_2 : decode cX3_write 2 = .ok (.imul, 1) := by decide +kernel
theorem dX3_write_3 : decode cX3_write 3 = .ok (.istore 6, 2) := by decide +kernel
theorem dX3_write_5 : decode cX3_write 5 = .ok (.aload_n 0, 1) := by decide +kernel
theorem dX3_write_6 : decode cX3_write 6 = .ok (.getfield 9, 3) := by decide +kernel
theorem dX3_write_9 : decode cX3_write 9 = .ok (.iload 6, 2) := by decide +kernel
theorem dX3_write_11 : decode cX3_write 11 = .ok (.iload_n 2, 1) := by decide +kernel
theorem dX3_write_12 : decode cX3_write 12 = .ok (.iastore, 1) := by decide +kernel
theorem dX3_write_13 : decode cX3_write 13 = .ok (.aload_n 0, 1) := by decide +kernel
theorem dX3_write_14 : decode cX3_write 14 = .ok (.getfield 9, 3) := by decide +kernel
theorem dX3_write_17 : decode cX3_write 17 = .ok (.iload 6, 2) := by decide +kernel
theorem dX3_write_19 : decode cX3_write 19 = .ok (.iconst 1, 1) := by decide +kernel
theorem dX3_write_20 : decode cX3_write 20 = .ok (.iadd, 1) := by decide +kernel
theorem dX3_write_21 : decode cX3_write 21 = .ok (.iload_n 3, 1) := by decide +kernel
theorem dX3_write_22 : decode cX3_write 22 = .ok (.iastore, 1) := by decide +kernel
theorem dX3_write_23 : decode cX3_write 23 = .ok (.aload_n 0, 1) := by decide +kernel
theorem dX3_write_24 : decode cX3_write 24 = .ok (.getfield 9, 3) := by decide +kernel
theorem dX3_write_27 : decode cX3_write 27 = .ok (.iload 6, 2) := by decide +kernel
theorem dX3_write_29 : decode cX3_write 29 = .ok (.iconst 2, 1) := by decide +kernel
theorem dX3_write_30 : decode cX3_write 30 = .ok (.iadd, 1) := by decide +kernel
theorem dX3_write_31 : decode cX3_write 31 = .ok (.iload 4, 2) := by decide +kernel
theorem dX3_write_33 : decode cX3_write 33 = .ok (.iastore, 1) := by decide +kernel
theorem dX3_write_34 : decode cX3_write 34 = .ok (.aload_n 0, 1) := by decide +kernel
theorem dX3_write_35 : decode cX3_write 35 = .ok (.getfield 9, 3) := by decide +kernel
theorem dX3_write_38 : decode cX3_write 38 = .ok (.iload 6, 2) := by decide +kernel
theorem dX3_write_40 : decode cX3_write 40 = .ok (.iconst 3, 1) := by decide +kernel
theorem dX3_write_41 : decode cX3_write 41 = .ok (.iadd, 1) := by decide +kernel
theorem dX3_write_42 : decode cX3_write 42 = .ok (.iload 5, 2) := by decide +kernel
theorem dX3_write_44 : decode cX3_write 44 = .ok (.iastore, 1) := by decide +kernel
theorem dX3_write_45 : decode cX3_write 45 = .ok (.return_, 1) := by decide +kernel
theorem dX3_rankOfFew_0 : decode cX3_rankOfFew 0 = .ok (.aload_n 0, 1) := by decide +kernel
theorem dX3_rankOfFew_1 : decode cX3_rankOfFew 1 = .ok (.iload_n 1, 1) := by decide +kernel
theorem dX3_rankOfFew_2 : decode cX3_rankOfFew 2 = .ok (.invokevirtual 19, 3) := by decide +kernel
theorem dX3_rankOfFew_5 : decode cX3_rankOfFew 5 = .ok (.istore_n 2, 1) := by decide +kernel
theorem dX3_rankOfFew_6 : decode cX3_rankOfFew 6 = .ok (.iconst 0, 1) := by decide +kernel
theorem dX3_rankOfFew_7 : decode cX3_rankOfFew 7 = .ok (.istore_n 3, 1) := by decide +kernel
theorem dX3_rankOfFew_8 : decode cX3_rankOfFew 8 = .ok (.iconst 0, 1) := by decide +kernel
theorem dX3_rankOfFew_9 : decode cX3_rankOfFew 9 = .ok (.istore 4, 2) := by decide +kernel
theorem dX3_rankOfFew_11 : decode cX3_rankOfFew 11 = .ok (.iload 4, 2) := by decide +kernel
theorem dX3_rankOfFew_13 : decode cX3_rankOfFew 13 = .ok (.iconst 4, 1) := by decide +kernel
theorem dX3_rankOfFew_14 : decode cX3_rankOfFew 14 = .ok (.if_icmp .ge 43, 3) := by decide +kernel
theorem dX3_rankOfFew_17 : decode cX3_rankOfFew 17 = .ok (.aload_n 0, 1) := by decide +kernel
theorem dX3_rankOfFew_18 : decode cX3_rankOfFew 18 = .ok (.iload 4, 2) := by decide +kernel
theorem dX3_rankOfFew_20 : decode cX3_rankOfFew 20 = .ok (.iload_n 3, 1) := by decide +kernel
theorem dX3_rankOfFew_21 : decode cX3_rankOfFew 21 = .ok (.iload_n 2, 1) := by decide +kernel
theorem dX3_rankOfFew_22 : decode cX3_rankOfFew 22 = .ok (.invokevirtual 23, 3) := by decide +kernel
theorem dX3_rankOfFew_25 : decode cX3_rankOfFew 25 = .ok (.istore 5, 2) := by decide +kernel
theorem dX3_rankOfFew_27 : decode cX3_rankOfFew 27 = .ok (.iload 5, 2) := by decide +kernel
theorem dX3_rankOfFew_29 : decode cX3_rankOfFew 29 = .ok (.iconst (-1), 1) := by decide +kernel
theorem dX3_rankOfFew_30 : decode cX3_rankOfFew 30 = .ok (.if_icmp .eq 21, 3) := by decide +kernel
theorem dX3_rankOfFew_33 : decode cX3_rankOfFew 33 = .ok (.aload_n 0, 1) := by decide +kernel
theorem dX3_rankOfFew_34 : decode cX3_rankOfFew 34 = .ok (.iload_n 3, 1) := by decide +kernel
theorem dX3_rankOfFew_35 : decode cX3_rankOfFew 35 = .ok (.iload 5, 2) := by decide +kernel
theorem dX3_rankOfFew_37 : decode cX3_rankOfFew 37 = .ok (.invokevirtual 27, 3) := by decide +kernel
theorem dX3_rankOfFew_40 : decode cX3_rankOfFew 40 = .ok (.aload_n 0, 1) := by decide +kernel
theorem dX3_rankOfFew_41 : decode cX3_rankOfFew 41 = .ok (.iload 4, 2) := by decide +kernel
theorem dX3_rankOfFew_43 : decode cX3_rankOfFew 43 = .ok (.iload_n 3, 1) := by decide +kernel
theorem dX3_rankOfFew_44 : decode cX3_rankOfFew 44 = .ok (.iload_n 2, 1) := by decide +kernel
theorem dX3_rankOfFew_45 : decode cX3_rankOfFew 45 = .ok (.invokevirtual 31, 3) := by decide +kernel
theorem dX3_rankOfFew_48 : decode cX3_rankOfFew 48 = .ok (.iinc 3 1, 3) := by decide +kernel
theorem dX3_rankOfFew_51 : decode cX3_rankOfFew 51 = .ok (.iinc 4 1, 3) := by decide +kernel
theorem dX3_rankOfFew_54 : decode cX3_rankOfFew 54 = .ok (.goto (-43), 3) := by decide +kernel
theorem dX3_rankOfFew_57 : decode cX3_rankOfFew 57 = .ok (.iload_n 3, 1) := by decide +kernel
theorem dX3_rankOfFew_58 : decode cX3_rankOfFew 58 = .ok (.ireturn, 1) := by decide +kernel
theorem dX3_copyRows_0 : decode cX3_copyRows 0 = .ok (.iconst 0, 1) := by decide +kernel
theorem dX3_copyRows_1 : decode cX3_copyRows 1 = .ok (.istore_n 2, 1) := by decide +kernel
theorem dX3_copyRows_2 : decode cX3_copyRows 2 = .ok (.iconst 0, 1) := by decide +kernel
theorem dX3_copyRows_3 : decode cX3_copyRows 3 = .ok (.istore_n 3, 1) := by decide +kernel
theorem dX3_copyRows_4 : decode cX3_copyRows 4 = .ok (.iload_n 3, 1) := by decide +kernel
theorem dX3_copyRows_5 : decode cX3_copyRows 5 = .ok (.bipush 10, 2) := by decide +kernel
theorem dX3_copyRows_7 : decode cX3_copyRows 7 = .ok (.if_icmp .ge 63, 3) := by decide +kernel
theorem dX3_copyRows_10 : decode cX3_copyRows 10 = .ok (.iload_n 2, 1) := by decide +kernel
theorem dX3_copyRows_11 : decode cX3_copyRows 11 = .ok (.iconst 4, 1) := by decide +kernel
theorem dX3_copyRows_12 : decode cX3_copyRows 12 = .ok (.if_icmp .ge 58, 3) := by decide +kernel
theorem dX3_copyRows_15 : decode cX3_copyRows 15 = .ok (.iload_n 1, 1) := by decide +kernel
theorem dX3_copyRows_16 : decode cX3_copyRows 16 = .ok (.iload_n 3, 1) := by decide +kernel
theorem dX3_copyRows_17 : decode cX3_copyRows 17 = .ok (.invokestatic 35, 3) := by decide +kernel
theorem dX3_copyRows_20 : decode cX3_copyRows 20 = .ok (.ifCond .eq 44, 3) := by decide +kernel
theorem dX3_copyRows_23 : decode cX3_copyRows 23 = .ok (.iconst 0, 1) := by decide +kernel
theorem dX3_copyRows_24 : decode cX3_copyRows 24 = .ok (.istore 4, 2) := by decide +kernel
theorem dX3_copyRows_26 : decode cX3_copyRows 26 = .ok (.iload 4, 2) := by decide +kernel
theorem dX3_copyRows_28 : decode cX3_copyRows 28 = .ok (.iconst 4, 1) := by decide +kernel
theorem dX3_copyRows_29 : decode cX3_copyRows 29 = .ok (.if_icmp .ge 32, 3) := by decide +kernel
theorem dX3_copyRows_32 : decode cX3_copyRows 32 = .ok (.aload_n 0, 1) := by decide +kernel
theorem dX3_copyRows_33 : decode cX3_copyRows 33 = .ok (.getfield 15, 3) := by decide +kernel
theorem dX3_copyRows_36 : decode cX3_copyRows 36 = .ok (.iload_n 2, 1) := by decide +kernel
theorem dX3_copyRows_37 : decode cX3_copyRows 37 = .ok (.iconst 4, 1) := by decide +kernel
theorem dX3_copyRows_38 : decode cX3_copyRows 38 = .ok (.imul, 1) := by decide +kernel
theorem dX3_copyRows_39 : decode cX3_copyRows 39 = .ok (.iload 4, 2) := by decide +kernel
theorem dX3_copyRows_41 : decode cX3_copyRows 41 = .ok (.iadd, 1) := by decide +kernel
theorem dX3_copyRows_42 : decode cX3_copyRows 42 = .ok (.aload_n 0, 1) := by decide +kernel
theorem dX3_copyRows_43 : decode cX3_copyRows 43 = .ok (.getfield 9, 3) := by decide +kernel
theorem dX3_copyRows_46 : decode cX3_copyRows 46 = .ok (.iload_n 3, 1) := by decide +kernel
theorem dX3_copyRows_47 : decode cX3_copyRows 47 = .ok (.iconst 4, 1) := by decide +kernel
theorem dX3_copyRows_48 : decode cX3_copyRows 48 = .ok (.imul, 1) := by decide +kernel
theorem dX3_copyRows_49 : decode cX3_copyRows 49 = .ok (.iload 4, 2) := by decide +kernel
theorem dX3_copyRows_51 : decode cX3_copyRows 51 = .ok (.iadd, 1) := by decide +kernel
theorem dX3_copyRows_52 : decode cX3_copyRows 52 = .ok (.iaload, 1) := by decide +kernel
theorem dX3_copyRows_53 : decode cX3_copyRows 53 = .ok (.i2l, 1) := by decide +kernel
theorem dX3_copyRows_54 : decode cX3_copyRows 54 = .ok (.lastore, 1) := by decide +kernel
theorem dX3_copyRows_55 : decode cX3_copyRows 55 = .ok (.iinc 4 1, 3) := by decide +kernel
theorem dX3_copyRows_58 : decode cX3_copyRows 58 = .ok (.goto (-32), 3) := by decide +kernel
theorem dX3_copyRows_61 : decode cX3_copyRows 61 = .ok (.iinc 2 1, 3) := by decide +kernel
theorem dX3_copyRows_64 : decode cX3_copyRows 64 = .ok (.iinc 3 1, 3) := by decide +kernel
theorem dX3_copyRows_67 : decode cX3_copyRows 67 = .ok (.goto (-63), 3) := by decide +kernel
theorem dX3_copyRows_70 : decode cX3_copyRows 70 = .ok (.iload_n 2, 1) := by decide +kernel
theorem dX3_copyRows_71 : decode cX3_copyRows 71 = .ok (.ireturn, 1) := by decide +kernel
theorem dX3_findPivot_0 : decode cX3_findPivot 0 = .ok (.iload_n 2, 1) := by decide +kernel
theorem dX3_findPivot_1 : decode cX3_findPivot 1 = .ok (.istore 4, 2) := by decide +kernel
theorem dX3_findPivot_3 : decode cX3_findPivot 3 = .ok (.iload 4, 2) := by decide +kernel
theorem dX3_findPivot_5 : decode cX3_findPivot 5 = .ok (.iload_n 3, 1) := by decide +kernel
theorem dX3_findPivot_6 : decode cX3_findPivot 6 = .ok (.if_icmp .ge 28, 3) := by decide +kernel
theorem dX3_findPivot_9 : decode cX3_findPivot 9 = .ok (.aload_n 0, 1) := by decide +kernel
theorem dX3_findPivot_10 : decode cX3_findPivot 10 = .ok (.getfield 15, 3) := by decide +kernel
theorem dX3_findPivot_13 : decode cX3_findPivot 13 = .ok (.iload 4, 2) := by decide +kernel
theorem dX3_findPivot_15 : decode cX3_findPivot 15 = .ok (.iconst 4, 1) := by decide +kernel
theorem dX3_findPivot_16 : decode cX3_findPivot 16 = .ok (.imul, 1) := by decide +kernel
theorem dX3_findPivot_17 : decode cX3_findPivot 17 = .ok (.iload_n 1, 1) := by decide +kernel
theorem dX3_findPivot_18 : decode cX3_findPivot 18 = .ok (.iadd, 1) := by decide +kernel
theorem dX3_findPivot_19 : decode cX3_findPivot 19 = .ok (.laload, 1) := by decide +kernel
theorem dX3_findPivot_20 : decode cX3_findPivot 20 = .ok (.lconst 0, 1) := by decide +kernel
theorem dX3_findPivot_21 : decode cX3_findPivot 21 = .ok (.lcmp, 1) := by decide +kernel
theorem dX3_findPivot_22 : decode cX3_findPivot 22 = .ok (.ifCond .eq 6, 3) := by decide +kernel
theorem dX3_findPivot_25 : decode cX3_findPivot 25 = .ok (.iload 4, 2) := by decide +kernel
theorem dX3_findPivot_27 : decode cX3_findPivot 27 = .ok (.ireturn, 1) := by decide +kernel
theorem dX3_findPivot_28 : decode cX3_findPivot 28 = .ok (.iinc 4 1, 3) := by decide +kernel
theorem dX3_findPivot_31 : decode cX3_findPivot 31 = .ok (.goto (-28), 3) := by decide +kernel
theorem dX3_findPivot_34 : decode cX3_findPivot 34 = .ok (.iconst (-1), 1) := by decide +kernel
theorem dX3_findPivot_35 : decode cX3_findPivot 35 = .ok (.ireturn, 1) := by decide +kernel
theorem dX3_swapRows_0 : decode cX3_swapRows 0 = .ok (.iconst 0, 1) := by decide +kernel
theorem dX3_swapRows_1 : decode cX3_swapRows 1 = .ok (.istore_n 3, 1) := by decide +kernel
theorem dX3_swapRows_2 : decode cX3_swapRows 2 = .ok (.iload_n 3, 1) := by decide +kernel
theorem dX3_swapRows_3 : decode cX3_swapRows 3 = .ok (.iconst 4, 1) := by decide +kernel
theorem dX3_swapRows_4 : decode cX3_swapRows 4 = .ok (.if_icmp .ge 53, 3) := by decide +kernel
theorem dX3_swapRows_7 : decode cX3_swapRows 7 = .ok (.aload_n 0, 1) := by decide +kernel
theorem dX3_swapRows_8 : decode cX3_swapRows 8 = .ok (.getfield 15, 3) := by decide +kernel
theorem dX3_swapRows_11 : decode cX3_swapRows 11 = .ok (.iload_n 1, 1) := by decide +kernel
theorem dX3_swapRows_12 : decode cX3_swapRows 12 = .ok (.iconst 4, 1) := by decide +kernel
theorem dX3_swapRows_13 : decode cX3_swapRows 13 = .ok (.imul, 1) := by decide +kernel
theorem dX3_swapRows_14 : decode cX3_swapRows 14 = .ok (.iload_n 3, 1) := by decide +kernel
theorem dX3_swapRows_15 : decode cX3_swapRows 15 = .ok (.iadd, 1) := by decide +kernel
theorem dX3_swapRows_16 : decode cX3_swapRows 16 = .ok (.laload, 1) := by decide +kernel
theorem dX3_swapRows_17 : decode cX3_swapRows 17 = .ok (.lstore 4, 2) := by decide +kernel
theorem dX3_swapRows_19 : decode cX3_swapRows 19 = .ok (.aload_n 0, 1) := by decide +kernel
theorem dX3_swapRows_20 : decode cX3_swapRows 20 = .ok (.getfield 15, 3) := by decide +kernel
theorem dX3_swapRows_23 : decode cX3_swapRows 23 = .ok (.iload_n 1, 1) := by decide +kernel
theorem dX3_swapRows_24 : decode cX3_swapRows 24 = .ok (.iconst 4, 1) := by decide +kernel
theorem dX3_swapRows_25 : decode cX3_swapRows 25 = .ok (.imul, 1) := by decide +kernel
theorem dX3_swapRows_26 : decode cX3_swapRows 26 = .ok (.iload_n 3, 1) := by decide +kernel
theorem dX3_swapRows_27 : decode cX3_swapRows 27 = .ok (.iadd, 1) := by decide +kernel
theorem dX3_swapRows_28 : decode cX3_swapRows 28 = .ok (.aload_n 0, 1) := by decide +kernel
theorem dX3_swapRows_29 : decode cX3_swapRows 29 = .ok (.getfield 15, 3) := by decide +kernel
theorem dX3_swapRows_32 : decode cX3_swapRows 32 = .ok (.iload_n 2, 1) := by decide +kernel
theorem dX3_swapRows_33 : decode cX3_swapRows 33 = .ok (.iconst 4, 1) := by decide +kernel
theorem dX3_swapRows_34 : decode cX3_swapRows 34 = .ok (.imul, 1) := by decide +kernel
theorem dX3_swapRows_35 : decode cX3_swapRows 35 = .ok (.iload_n 3, 1) := by decide +kernel
theorem dX3_swapRows_36 : decode cX3_swapRows 36 = .ok (.iadd, 1) := by decide +kernel
theorem dX3_swapRows_37 : decode cX3_swapRows 37 = .ok (.laload, 1) := by decide +kernel
theorem dX3_swapRows_38 : decode cX3_swapRows 38 = .ok (.lastore, 1) := by decide +kernel
theorem dX3_swapRows_39 : decode cX3_swapRows 39 = .ok (.aload_n 0, 1) := by decide +kernel
theorem dX3_swapRows_40 : decode cX3_swapRows 40 = .ok (.getfield 15, 3) := by decide +kernel
theorem dX3_swapRows_43 : decode cX3_swapRows 43 = .ok (.iload_n 2, 1) := by decide +kernel
theorem dX3_swapRows_44 : decode cX3_swapRows 44 = .ok (.iconst 4, 1) := by decide +kernel
theorem dX3_swapRows_45 : decode cX3_swapRows 45 = .ok (.imul, 1) := by decide +kernel
theorem dX3_swapRows_46 : decode cX3_swapRows 46 = .ok (.iload_n 3, 1) := by decide +kernel
theorem dX3_swapRows_47 : decode cX3_swapRows 47 = .ok (.iadd, 1) := by decide +kernel
theorem dX3_swapRows_48 : decode cX3_swapRows 48 = .ok (.lload 4, 2) := by decide +kernel
theorem dX3_swapRows_50 : decode cX3_swapRows 50 = .ok (.lastore, 1) := by decide +kernel
theorem dX3_swapRows_51 : decode cX3_swapRows 51 = .ok (.iinc 3 1, 3) := by decide +kernel
theorem dX3_swapRows_54 : decode cX3_swapRows 54 = .ok (.goto (-52), 3) := by decide +kernel
theorem dX3_swapRows_57 : decode cX3_swapRows 57 = .ok (.return_, 1) := by decide +kernel
theorem dX3_clearBelow_0 : decode cX3_clearBelow 0 = .ok (.aload_n 0, 1) := by decide +kernel
theorem dX3_clearBelow_1 : decode cX3_clearBelow 1 = .ok (.getfield 15, 3) := by decide +kernel
theorem dX3_clearBelow_4 : decode cX3_clearBelow 4 = .ok (.iload_n 2, 1) := by decide +kernel
theorem dX3_clearBelow_5 : decode cX3_clearBelow 5 = .ok (.iconst 4, 1) := by decide +kernel
theorem dX3_clearBelow_6 : decode cX3_clearBelow 6 = .ok (.imul, 1) := by decide +kernel
theorem dX3_clearBelow_7 : decode cX3_clearBelow 7 = .ok (.iload_n 1, 1) := by decide +kernel
theorem dX3_clearBelow_8 : decode cX3_clearBelow 8 = .ok (.iadd, 1) := by decide +kernel
theorem dX3_clearBelow_9 : decode cX3_clearBelow 9 = .ok (.laload, 1) := by decide +kernel
theorem dX3_clearBelow_10 : decode cX3_clearBelow 10 = .ok (.lstore 4, 2) := by decide +kernel
theorem dX3_clearBelow_12 : decode cX3_clearBelow 12 = .ok (.iload_n 2, 1) := by decide +kernel
theorem dX3_clearBelow_13 : decode cX3_clearBelow 13 = .ok (.iconst 1, 1) := by decide +kernel
theorem dX3_clearBelow_14 : decode cX3_clearBelow 14 = .ok (.iadd, 1) := by decide +kernel
theorem dX3_clearBelow_15 : decode cX3_clearBelow 15 = .ok (.istore 6, 2) := by decide +kernel
theorem dX3_clearBelow_17 : decode cX3_clearBelow 17 = .ok (.iload 6, 2) := by decide +kernel
theorem dX3_clearBelow_19 : decode cX3_clearBelow 19 = .ok (.iload_n 3, 1) := by decide +kernel
theorem dX3_clearBelow_20 : decode cX3_clearBelow 20 = .ok (.if_icmp .ge 78, 3) := by decide +kernel
theorem dX3_clearBelow_23 : decode cX3_clearBelow 23 = .ok (.aload_n 0, 1) := by decide +kernel
theorem dX3_clearBelow_24 : decode cX3_clearBelow 24 = .ok (.getfield 15, 3) := by decide +kernel
theorem dX3_clearBelow_27 : decode cX3_clearBelow 27 = .ok (.iload 6, 2) := by decide +kernel
theorem dX3_clearBelow_29 : decode cX3_clearBelow 29 = .ok (.iconst 4, 1) := by decide +kernel
theorem dX3_clearBelow_30 : decode cX3_clearBelow 30 = .ok (.imul, 1) := by decide +kernel
theorem dX3_clearBelow_31 : decode cX3_clearBelow 31 = .ok (.iload_n 1, 1) := by decide +kernel
theorem dX3_clearBelow_32 : decode cX3_clearBelow 32 = .ok (.iadd, 1) := by decide +kernel
theorem dX3_clearBelow_33 : decode cX3_clearBelow 33 = .ok (.laload, 1) := by decide +kernel
theorem dX3_clearBelow_34 : decode cX3_clearBelow 34 = .ok (.lstore 7, 2) := by decide +kernel
theorem dX3_clearBelow_36 : decode cX3_clearBelow 36 = .ok (.iload_n 1, 1) := by decide +kernel
theorem dX3_clearBelow_37 : decode cX3_clearBelow 37 = .ok (.istore 9, 2) := by decide +kernel
theorem dX3_clearBelow_39 : decode cX3_clearBelow 39 = .ok (.iload 9, 2) := by decide +kernel
theorem dX3_clearBelow_41 : decode cX3_clearBelow 41 = .ok (.iconst 4, 1) := by decide +kernel
theorem dX3_clearBelow_42 : decode cX3_clearBelow 42 = .ok (.if_icmp .ge 50, 3) := by decide +kernel
theorem dX3_clearBelow_45 : decode cX3_clearBelow 45 = .ok (.iload 6, 2) := by decide +kernel
theorem dX3_clearBelow_47 : decode cX3_clearBelow 47 = .ok (.iconst 4, 1) := by decide +kernel
theorem dX3_clearBelow_48 : decode cX3_clearBelow 48 = .ok (.imul, 1) := by decide +kernel
theorem dX3_clearBelow_49 : decode cX3_clearBelow 49 = .ok (.iload 9, 2) := by decide +kernel
theorem dX3_clearBelow_51 : decode cX3_clearBelow 51 = .ok (.iadd, 1) := by decide +kernel
theorem dX3_clearBelow_52 : decode cX3_clearBelow 52 = .ok (.istore 10, 2) := by decide +kernel
theorem dX3_clearBelow_54 : decode cX3_clearBelow 54 = .ok (.aload_n 0, 1) := by decide +kernel
theorem dX3_clearBelow_55 : decode cX3_clearBelow 55 = .ok (.getfield 15, 3) := by decide +kernel
theorem dX3_clearBelow_58 : decode cX3_clearBelow 58 = .ok (.iload 10, 2) := by decide +kernel
theorem dX3_clearBelow_60 : decode cX3_clearBelow 60 = .ok (.aload_n 0, 1) := by decide +kernel
theorem dX3_clearBelow_61 : decode cX3_clearBelow 61 = .ok (.getfield 15, 3) := by decide +kernel
theorem dX3_clearBelow_64 : decode cX3_clearBelow 64 = .ok (.iload 10, 2) := by decide +kernel
theorem dX3_clearBelow_66 : decode cX3_clearBelow 66 = .ok (.laload, 1) := by decide +kernel
theorem dX3_clearBelow_67 : decode cX3_clearBelow 67 = .ok (.lload 4, 2) := by decide +kernel
theorem dX3_clearBelow_69 : decode cX3_clearBelow 69 = .ok (.lmul, 1) := by decide +kernel
theorem dX3_clearBelow_70 : decode cX3_clearBelow 70 = .ok (.aload_n 0, 1) := by decide +kernel
theorem dX3_clearBelow_71 : decode cX3_clearBelow 71 = .ok (.getfield 15, 3) := by decide +kernel
theorem dX3_clearBelow_74 : decode cX3_clearBelow 74 = .ok (.iload_n 2, 1) := by decide +kernel
theorem dX3_clearBelow_75 : decode cX3_clearBelow 75 = .ok (.iconst 4, 1) := by decide +kernel
theorem dX3_clearBelow_76 : decode cX3_clearBelow 76 = .ok (.imul, 1) := by decide +kernel
theorem dX3_clearBelow_77 : decode cX3_clearBelow 77 = .ok (.iload 9, 2) := by decide +kernel
theorem dX3_clearBelow_79 : decode cX3_clearBelow 79 = .ok (.iadd, 1) := by decide +kernel
theorem dX3_clearBelow_80 : decode cX3_clearBelow 80 = .ok (.laload, 1) := by decide +kernel
theorem dX3_clearBelow_81 : decode cX3_clearBelow 81 = .ok (.lload 7, 2) := by decide +kernel
theorem dX3_clearBelow_83 : decode cX3_clearBelow 83 = .ok (.lmul, 1) := by decide +kernel
theorem dX3_clearBelow_84 : decode cX3_clearBelow 84 = .ok (.lsub, 1) := by decide +kernel
theorem dX3_clearBelow_85 : decode cX3_clearBelow 85 = .ok (.lastore, 1) := by decide +kernel
theorem dX3_clearBelow_86 : decode cX3_clearBelow 86 = .ok (.iinc 9 1, 3) := by decide +kernel
theorem dX3_clearBelow_89 : decode cX3_clearBelow 89 = .ok (.goto (-50), 3) := by decide +kernel
theorem dX3_clearBelow_92 : decode cX3_clearBelow 92 = .ok (.iinc 6 1, 3) := by decide +kernel
theorem dX3_clearBelow_95 : decode cX3_clearBelow 95 = .ok (.goto (-78), 3) := by decide +kernel
theorem dX3_clearBelow_98 : decode cX3_clearBelow 98 = .ok (.return_, 1) := by decide +kernel
theorem dX4_init_0 : decode cX4_init 0 = .ok (.aload_n 0, 1) := by decide +kernel
theorem dX4_init_1 : decode cX4_init 1 = .ok (.invokespecial 3, 3) := by decide +kernel
theorem dX4_init_4 : decode cX4_init 4 = .ok (.aload_n 0, 1) := by decide +kernel
theorem dX4_init_5 : decode cX4_init 5 = .ok (.bipush 10, 2) := by decide +kernel
theorem dX4_init_7 : decode cX4_init 7 = .ok (.newarray .int, 2) := by decide +kernel
theorem dX4_init_9 : decode cX4_init 9 = .ok (.putfield 9, 3) := by decide +kernel
theorem dX4_init_12 : decode cX4_init 12 = .ok (.aload_n 0, 1) := by decide +kernel
theorem dX4_init_13 : decode cX4_init 13 = .ok (.bipush 10, 2) := by decide +kernel
theorem dX4_init_15 : decode cX4_init 15 = .ok (.newarray .long, 2) := by decide +kernel
theorem dX4_init_17 : decode cX4_init 17 = .ok (.putfield 15, 3) := by decide +kernel
theorem dX4_init_20 : decode cX4_init 20 = .ok (.aload_n 0, 1) := by decide +kernel
theorem dX4_init_21 : decode cX4_init 21 = .ok (.bipush 10, 2) := by decide +kernel
theorem dX4_init_23 : decode cX4_init 23 = .ok (.newarray .long, 2) := by decide +kernel
theorem dX4_init_25 : decode cX4_init 25 = .ok (.putfield 19, 3) := by decide +kernel
theorem dX4_init_28 : decode cX4_init 28 = .ok (.aload_n 0, 1) := by decide +kernel
theorem dX4_init_29 : decode cX4_init 29 = .ok (.iconst 1, 1) := by decide +kernel
theorem dX4_init_30 : decode cX4_init 30 = .ok (.putfield 22, 3) := by decide +kernel
theorem dX4_init_33 : decode cX4_init 33 = .ok (.return_, 1) := by decide +kernel
theorem dX4_begin_0 : decode cX4_begin 0 = .ok (.aload_n 0, 1) := by decide +kernel
theorem dX4_begin_1 : decode cX4_begin 1 = .ok (.iload_n 1, 1) := by decide +kernel
theorem dX4_begin_2 : decode cX4_begin 2 = .ok (.putfield 26, 3) := by decide +kernel
theorem dX4_begin_5 : decode cX4_begin 5 = .ok (.aload_n 0, 1) := by decide +kernel
theorem dX4_begin_6 : decode cX4_begin 6 = .ok (.iconst 1, 1) := by decide +kernel
theorem dX4_begin_7 : decode cX4_begin 7 = .ok (.putfield 22, 3) := by decide +kernel
theorem dX4_begin_10 : decode cX4_begin 10 = .ok (.iconst 0, 1) := by decide +kernel
theorem dX4_begin_11 : decode cX4_begin 11 = .ok (.istore_n 2, 1) := by decide +kernel
theorem dX4_begin_12 : decode cX4_begin 12 = .ok (.iload_n 2, 1) := by decide +kernel
theorem dX4_begin_13 : decode cX4_begin 13 = .ok (.aload_n 0, 1) := by decide +kernel
theorem dX4_begin_14 : decode cX4_begin 14 = .ok (.getfield 26, 3) := by decide +kernel
theorem dX4_begin_17 : decode cX4_begin 17 = .ok (.if_icmp .ge 23, 3) := by decide +kernel
theorem dX4_begin_20 : decode cX4_begin 20 = .ok (.aload_n 0, 1) := by decide +kernel
theorem dX4_begin_21 : decode cX4_begin 21 = .ok (.getfield 9, 3) := by decide +kernel
theorem dX4_begin_24 : decode cX4_begin 24 = .ok (.iload_n 2, 1) := by decide +kernel
theorem dX4_begin_25 : decode cX4_begin 25 = .ok (.iload_n 2, 1) := by decide +kernel
theorem dX4_begin_26 : decode cX4_begin 26 = .ok (.iastore, 1) := by decide +kernel
theorem dX4_begin_27 : decode cX4_begin 27 = .ok (.aload_n 0, 1) := by decide +kernel
theorem dX4_begin_28 : decode cX4_begin 28 = .ok (.getfield 15, 3) := by decide +kernel
theorem dX4_begin_31 : decode cX4_begin 31 = .ok (.iload_n 2, 1) := by decide +kernel
theorem dX4_begin_32 : decode cX4_begin 32 = .ok (.lconst 0, 1) := by decide +kernel
theorem dX4_begin_33 : decode cX4_begin 33 = .ok (.lastore, 1) := by decide +kernel
theorem dX4_begin_34 : decode cX4_begin 34 = .ok (.iinc 2 1, 3) := by decide +kernel
theorem dX4_begin_37 : decode cX4_begin 37 = .ok (.goto (-25), 3) := by decide +kernel
theorem dX4_begin_40 : decode cX4_begin 40 = .ok (.return_, 1) := by decide +kernel
theorem dX4_moveTo_0 : decode cX4_moveTo 0 = .ok (.aload_n 0, 1) := by decide +kernel
theorem dX4_moveTo_1 : decode cX4_moveTo 1 = .ok (.iload_n 1, 1) := by decide +kernel
theorem dX4_moveTo_2 : decode cX4_moveTo 2 = .ok (.invokevirtual 29, 3) := by decide +kernel
theorem dX4_moveTo_5 : decode cX4_moveTo 5 = .ok (.istore_n 3, 1) := by decide +kernel
theorem dX4_moveTo_6 : decode cX4_moveTo 6 = .ok (.iload_n 3, 1) := by decide +kernel
theorem dX4_moveTo_7 : decode cX4_moveTo 7 = .ok (.istore 4, 2) := by decide +kernel
theorem dX4_moveTo_9 : decode cX4_moveTo 9 = .ok (.iload 4, 2) := by decide +kernel
theorem dX4_moveTo_11 : decode cX4_moveTo 11 = .ok (.iload_n 2, 1) := by decide +kernel
theorem dX4_moveTo_12 : decode cX4_moveTo 12 = .ok (.if_icmp .ge 25, 3) := by decide +kernel
theorem dX4_moveTo_15 : decode cX4_moveTo 15 = .ok (.aload_n 0, 1) := by decide +kernel
theorem dX4_moveTo_16 : decode cX4_moveTo 16 = .ok (.getfield 9, 3) := by decide +kernel
theorem dX4_moveTo_19 : decode cX4_moveTo 19 = .ok (.iload 4, 2) := by decide +kernel
theorem dX4_moveTo_21 : decode cX4_moveTo 21 = .ok (.aload_n 0, 1) := by decide +kernel
theorem dX4_moveTo_22 : decode cX4_moveTo 22 = .ok (.getfield 9, 3) := by decide +kernel
theorem dX4_moveTo_25 : decode cX4_moveTo 25 = .ok (.iload 4, 2) := by decide +kernel
theorem dX4_moveTo_27 : decode cX4_moveTo 27 = .ok (.iconst 1, 1) := by decide +kernel
theorem dX4_moveTo_28 : decode cX4_moveTo 28 = .ok (.iadd, 1) := by decide +kernel
theorem dX4_moveTo_29 : decode cX4_moveTo 29 = .ok (.iaload, 1) := by decide +kernel
theorem dX4_moveTo_30 : decode cX4_moveTo 30 = .ok (.iastore, 1) := by decide +kernel
theorem dX4_moveTo_31 : decode cX4_moveTo 31 = .ok (.iinc 4 1, 3) := by decide +kernel
theorem dX4_moveTo_34 : decode cX4_moveTo 34 = .ok (.goto (-25), 3) := by decide +kernel
theorem dX4_moveTo_37 : decode cX4_moveTo 37 = .ok (.iload_n 3, 1) := by decide +kernel
theorem dX4_moveTo_38 : decode cX4_moveTo 38 = .ok (.istore 4, 2) := by decide +kernel
theorem dX4_moveTo_40 : decode cX4_moveTo 40 = .ok (.iload 4, 2) := by decide +kernel
theorem dX4_moveTo_42 : decode cX4_moveTo 42 = .ok (.iload_n 2, 1) := by decide +kernel
theorem dX4_moveTo_43 : decode cX4_moveTo 43 = .ok (.if_icmp .le 25, 3) := by decide +kernel
theorem dX4_moveTo_46 : decode cX4_moveTo 46 = .ok (.aload_n 0, 1) := by decide +kernel
theorem dX4_moveTo_47 : decode cX4_moveTo 47 = .ok (.getfield 9, 3) := by decide +kernel
theorem dX4_moveTo_50 : decode cX4_moveTo 50 = .ok (.iload 4, 2) := by decide +kernel
theorem dX4_moveTo_52 : decode cX4_moveTo 52 = .ok (.aload_n 0, 1) := by decide +kernel
theorem dX4_moveTo_53 : decode cX4_moveTo 53 = .ok (.getfield 9, 3) := by decide +kernel
theorem dX4_moveTo_56 : decode cX4_moveTo 56 = .ok (.iload 4, 2) := by decide +kernel
theorem dX4_moveTo_58 : decode cX4_moveTo 58 = .ok (.iconst 1, 1) := by decide +kernel
theorem dX4_moveTo_59 : decode cX4_moveTo 59 = .ok (.isub, 1) := by decide +kernel
theorem dX4_moveTo_60 : decode cX4_moveTo 60 = .ok (.iaload, 1) := by decide +kernel
theorem dX4_moveTo_61 : decode cX4_moveTo 61 = .ok (.iastore, 1) := by decide +kernel
theorem dX4_moveTo_62 : decode cX4_moveTo 62 = .ok (.iinc 4 (-1), 3) := by decide +kernel
theorem dX4_moveTo_65 : decode cX4_moveTo 65 = .ok (.goto (-25), 3) := by decide +kernel
theorem dX4_moveTo_68 : decode cX4_moveTo 68 = .ok (.aload_n 0, 1) := by decide +kernel
theorem dX4_moveTo_69 : decode cX4_moveTo 69 = .ok (.getfield 9, 3) := by decide +kernel
theorem dX4_moveTo_72 : decode cX4_moveTo 72 = .ok (.iload_n 2, 1) := by decide +kernel
theorem dX4_moveTo_73 : decode cX4_moveTo 73 = .ok (.iload_n 1, 1) := by decide +kernel
theorem dX4_moveTo_74 : decode cX4_moveTo 74 = .ok (.iastore, 1) := by decide +kernel
theorem dX4_moveTo_75 : decode cX4_moveTo 75 = .ok (.iload_n 3, 1) := by decide +kernel
theorem dX4_moveTo_76 : decode cX4_moveTo 76 = .ok (.ireturn, 1) := by decide +kernel
theorem dX4_placeOf_0 : decode cX4_placeOf 0 = .ok (.iconst 0, 1) := by decide +kernel
theorem dX4_placeOf_1 : decode cX4_placeOf 1 = .ok (.istore_n 2, 1) := by decide +kernel
theorem dX4_placeOf_2 : decode cX4_placeOf 2 = .ok (.iload_n 2, 1) := by decide +kernel
theorem dX4_placeOf_3 : decode cX4_placeOf 3 = .ok (.aload_n 0, 1) := by decide +kernel
theorem dX4_placeOf_4 : decode cX4_placeOf 4 = .ok (.getfield 26, 3) := by decide +kernel
theorem dX4_placeOf_7 : decode cX4_placeOf 7 = .ok (.if_icmp .ge 21, 3) := by decide +kernel
theorem dX4_placeOf_10 : decode cX4_placeOf 10 = .ok (.aload_n 0, 1) := by decide +kernel
theorem dX4_placeOf_11 : decode cX4_placeOf 11 = .ok (.getfield 9, 3) := by decide +kernel
theorem dX4_placeOf_14 : decode cX4_placeOf 14 = .ok (.iload_n 2, 1) := by decide +kernel
theorem dX4_placeOf_15 : decode cX4_placeOf 15 = .ok (.iaload, 1) := by decide +kernel
theorem dX4_placeOf_16 : decode cX4_placeOf 16 = .ok (.iload_n 1, 1) := by decide +kernel
theorem dX4_placeOf_17 : decode cX4_placeOf 17 = .ok (.if_icmp .ne 5, 3) := by decide +kernel
theorem dX4_placeOf_20 : decode cX4_placeOf 20 = .ok (.iload_n 2, 1) := by decide +kernel
theorem dX4_placeOf_21 : decode cX4_placeOf 21 = .ok (.ireturn, 1) := by decide +kernel
theorem dX4_placeOf_22 : decode cX4_placeOf 22 = .ok (.iinc 2 1, 3) := by decide +kernel
theorem dX4_placeOf_25 : decode cX4_placeOf 25 = .ok (.goto (-23), 3) := by decide +kernel
theorem dX4_placeOf_28 : decode cX4_placeOf 28 = .ok (.iconst 0, 1) := by decide +kernel
theorem dX4_placeOf_29 : decode cX4_placeOf 29 = .ok (.ireturn, 1) := by decide +kernel
theorem dX4_findCorner_0 : decode cX4_findCorner 0 = .ok (.iconst 0, 1) := by decide +kernel
theorem dX4_findCorner_1 : decode cX4_findCorner 1 = .ok (.istore_n 2, 1) := by decide +kernel
theorem dX4_findCorner_2 : decode cX4_findCorner 2 = .ok (.iconst 0, 1) := by decide +kernel
theorem dX4_findCorner_3 : decode cX4_findCorner 3 = .ok (.istore_n 3, 1) := by decide +kernel
theorem dX4_findCorner_4 : decode cX4_findCorner 4 = .ok (.iload_n 3, 1) := by decide +kernel
theorem dX4_findCorner_5 : decode cX4_findCorner 5 = .ok (.aload_n 0, 1) := by decide +kernel
theorem dX4_findCorner_6 : decode cX4_findCorner 6 = .ok (.getfield 26, 3) := by decide +kernel
theorem dX4_findCorner_9 : decode cX4_findCorner 9 = .ok (.if_icmp .ge 42, 3) := by decide +kernel
theorem dX4_findCorner_12 : decode cX4_findCorner 12 = .ok (.aload_n 0, 1) := by decide +kernel
theorem dX4_findCorner_13 : decode cX4_findCorner 13 = .ok (.getfield 19, 3) := by decide +kernel
theorem dX4_findCorner_16 : decode cX4_findCorner 16 = .ok (.aload_n 0, 1) := by decide +kernel
theorem dX4_findCorner_17 : decode cX4_findCorner 17 = .ok (.getfield 9, 3) := by decide +kernel
theorem dX4_findCorner_20 : decode cX4_findCorner 20 = .ok (.iload_n 3, 1) := by decide +kernel
theorem dX4_findCorner_21 : decode cX4_findCorner 21 = .ok (.iaload, 1) := by decide +kernel
theorem dX4_findCorner_22 : decode cX4_findCorner 22 = .ok (.aload_n 1, 1) := by decide +kernel
theorem dX4_findCorner_23 : decode cX4_findCorner 23 = .ok (.iload_n 2, 1) := by decide +kernel
theorem dX4_findCorner_24 : decode cX4_findCorner 24 = .ok (.aload_n 0, 1) := by decide +kernel
theorem dX4_findCorner_25 : decode cX4_findCorner 25 = .ok (.getfield 9, 3) := by decide +kernel
theorem dX4_findCorner_28 : decode cX4_findCorner 28 = .ok (.iload_n 3, 1) := by decide +kernel
theorem dX4_findCorner_29 : decode cX4_findCorner 29 = .ok (.iaload, 1) := by decide +kernel
theorem dX4_findCorner_30 : decode cX4_findCorner 30 = .ok (.invokevirtual 33, 3) := by decide +kernel
theorem dX4_findCorner_33 : decode cX4_findCorner 33 = .ok (.lastore, 1) := by decide +kernel
theorem dX4_findCorner_34 : decode cX4_findCorner 34 = .ok (.iload_n 2, 1) := by decide +kernel
theorem dX4_findCorner_35 : decode cX4_findCorner 35 = .ok (.iconst 1, 1) := by decide +kernel
theorem dX4_findCorner_36 : decode cX4_findCorner 36 = .ok (.aload_n 0, 1) := by decide +kernel
theorem dX4_findCorner_37 : decode cX4_findCorner 37 = .ok (.getfield 9, 3) := by decide +kernel
theorem dX4_findCorner_40 : decode cX4_findCorner 40 = .ok (.iload_n 3, 1) := by decide +kernel
theorem dX4_findCorner_41 : decode cX4_findCorner 41 = .ok (.iaload, 1) := by decide +kernel
theorem dX4_findCorner_42 : decode cX4_findCorner 42 = .ok (.ishl, 1) := by decide +kernel
theorem dX4_findCorner_43 : decode cX4_findCorner 43 = .ok (.ior, 1) := by decide +kernel
theorem dX4_findCorner_44 : decode cX4_findCorner 44 = .ok (.istore_n 2, 1) := by decide +kernel
theorem dX4_findCorner_45 : decode cX4_findCorner 45 = .ok (.iinc 3 1, 3) := by decide +kernel
theorem dX4_findCorner_48 : decode cX4_findCorner 48 = .ok (.goto (-44), 3) := by decide +kernel
theorem dX4_findCorner_51 : decode cX4_findCorner 51 = .ok (.return_, 1) := by decide +kernel
theorem dX4_blended_0 : decode cX4_blended 0 = .ok (.aload_n 0, 1) := by decide +kernel
theorem dX4_blended_1 : decode cX4_blended 1 = .ok (.getfield 15, 3) := by decide +kernel
theorem dX4_blended_4 : decode cX4_blended 4 = .ok (.iload_n 1, 1) := by decide +kernel
theorem dX4_blended_5 : decode cX4_blended 5 = .ok (.laload, 1) := by decide +kernel
theorem dX4_blended_6 : decode cX4_blended 6 = .ok (.iload_n 2, 1) := by decide +kernel
theorem dX4_blended_7 : decode cX4_blended 7 = .ok (.i2l, 1) := by decide +kernel
theorem dX4_blended_8 : decode cX4_blended 8 = .ok (.lmul, 1) := by decide +kernel
theorem dX4_blended_9 : decode cX4_blended 9 = .ok (.aload_n 0, 1) := by decide +kernel
theorem dX4_blended_10 : decode cX4_blended 10 = .ok (.getfield 19, 3) := by decide +kernel
theorem dX4_blended_13 : decode cX4_blended 13 = .ok (.iload_n 1, 1) := by decide +kernel
theorem dX4_blended_14 : decode cX4_blended 14 = .ok (.laload, 1) := by decide +kernel
theorem dX4_blended_15 : decode cX4_blended 15 = .ok (.iload_n 3, 1) := by decide +kernel
theorem dX4_blended_16 : decode cX4_blended 16 = .ok (.i2l, 1) := by decide +kernel
theorem dX4_blended_17 : decode cX4_blended 17 = .ok (.lmul, 1) := by decide +kernel
theorem dX4_blended_18 : decode cX4_blended 18 = .ok (.ladd, 1) := by decide +kernel
theorem dX4_blended_19 : decode cX4_blended 19 = .ok (.lreturn, 1) := by decide +kernel
theorem dX4_isLargeBlend_0 : decode cX4_isLargeBlend 0 = .ok (.aload_n 0, 1) := by decide +kernel
theorem dX4_isLargeBlend_1 : decode cX4_isLargeBlend 1 = .ok (.getfield 22, 3) := by decide +kernel
theorem dX4_isLargeBlend_4 : decode cX4_isLargeBlend 4 = .ok (.iload_n 1, 1) := by decide +kernel
theorem dX4_isLargeBlend_5 : decode cX4_isLargeBlend 5 = .ok (.imul, 1) := by decide +kernel
theorem dX4_isLargeBlend_6 : decode cX4_isLargeBlend 6 = .ok (.iload_n 2, 1) := by decide +kernel
theorem dX4_isLargeBlend_7 : decode cX4_isLargeBlend 7 = .ok (.iadd, 1) := by decide +kernel
theorem dX4_isLargeBlend_8 : decode cX4_isLargeBlend 8 = .ok (.ldc 39, 2) := by decide +kernel
theorem dX4_isLargeBlend_10 : decode cX4_isLargeBlend 10 = .ok (.if_icmp .le 5, 3) := by decide +kernel
theorem dX4_isLargeBlend_13 : decode cX4_isLargeBlend 13 = .ok (.iconst 1, 1) := by decide +kernel
theorem dX4_isLargeBlend_14 : decode cX4_isLargeBlend 14 = .ok (.ireturn, 1) := by decide +kernel
theorem dX4_isLargeBlend_15 : decode cX4_isLargeBlend 15 = .ok (.iconst 0, 1) := by decide +kernel
theorem dX4_isLargeBlend_16 : decode cX4_isLargeBlend 16 = .ok (.istore_n 3, 1) := by decide +kernel
theorem dX4_isLargeBlend_17 : decode cX4_isLargeBlend 17 = .ok (.iload_n 3, 1) := by decide +kernel
theorem dX4_isLargeBlend_18 : decode cX4_isLargeBlend 18 = .ok (.aload_n 0, 1) := by decide +kernel
theorem dX4_isLargeBlend_19 : decode cX4_isLargeBlend 19 = .ok (.getfield 26, 3) := by decide +kernel
theorem dX4_isLargeBlend_22 : decode cX4_isLargeBlend 22 = .ok (.if_icmp .ge 27, 3) := by decide +kernel
theorem dX4_isLargeBlend_25 : decode cX4_isLargeBlend 25 = .ok (.aload_n 0, 1) := by decide +kernel
theorem dX4_isLargeBlend_26 : decode cX4_isLargeBlend 26 = .ok (.iload_n 3, 1) := by decide +kernel
theorem dX4_isLargeBlend_27 : decode cX4_isLargeBlend 27 = .ok (.iload_n 1, 1) := by decide +kernel
theorem dX4_isLargeBlend_28 : decode cX4_isLargeBlend 28 = .ok (.iload_n 2, 1) := by decide +kernel
theorem dX4_isLargeBlend_29 : decode cX4_isLargeBlend 29 = .ok (.invokevirtual 40, 3) := by decide +kernel
theorem dX4_isLargeBlend_32 : decode cX4_isLargeBlend 32 = .ok (.ldc2_w 44, 3) := by decide +kernel
theorem dX4_isLargeBlend_35 : decode cX4_isLargeBlend 35 = .ok (.invokestatic 46, 3) := by decide +kernel
theorem dX4_isLargeBlend_38 : decode cX4_isLargeBlend 38 = .ok (.ifCond .ne 5, 3) := by decide +kernel
theorem dX4_isLargeBlend_41 : decode cX4_isLargeBlend 41 = .ok (.iconst 1, 1) := by decide +kernel
theorem dX4_isLargeBlend_42 : decode cX4_isLargeBlend 42 = .ok (.ireturn, 1) := by decide +kernel
theorem dX4_isLargeBlend_43 : decode cX4_isLargeBlend 43 = .ok (.iinc 3 1, 3) := by decide +kernel
theorem dX4_isLargeBlend_46 : decode cX4_isLargeBlend 46 = .ok (.goto (-29), 3) := by decide +kernel
theorem dX4_isLargeBlend_49 : decode cX4_isLargeBlend 49 = .ok (.iconst 0, 1) := by decide +kernel
theorem dX4_isLargeBlend_50 : decode cX4_isLargeBlend 50 = .ok (.ireturn, 1) := by decide +kernel
theorem dX4_blend_0 : decode cX4_blend 0 = .ok (.aload_n 0, 1) := by decide +kernel
theorem dX4_blend_1 : decode cX4_blend 1 = .ok (.aload_n 0, 1) := by decide +kernel
theorem dX4_blend_2 : decode cX4_blend 2 = .ok (.getfield 22, 3) := by decide +kernel
theorem dX4_blend_5 : decode cX4_blend 5 = .ok (.iload_n 1, 1) := by decide +kernel
theorem dX4_blend_6 : decode cX4_blend 6 = .ok (.imul, 1) := by decide +kernel
theorem dX4_blend_7 : decode cX4_blend 7 = .ok (.iload_n 2, 1) := by decide +kernel
theorem dX4_blend_8 : decode cX4_blend 8 = .ok (.iadd, 1) := by decide +kernel
theorem dX4_blend_9 : decode cX4_blend 9 = .ok (.putfield 22, 3) := by decide +kernel
theorem dX4_blend_12 : decode cX4_blend 12 = .ok (.iconst 0, 1) := by decide +kernel
theorem dX4_blend_13 : decode cX4_blend 13 = .ok (.istore_n 3, 1) := by decide +kernel
theorem dX4_blend_14 : decode cX4_blend 14 = .ok (.iload_n 3, 1) := by decide +kernel
theorem dX4_blend_15 : decode cX4_blend 15 = .ok (.aload_n 0, 1) := by decide +kernel
theorem dX4_blend_16 : decode cX4_blend 16 = .ok (.getfield 26, 3) := by decide +kernel
theorem dX4_blend_19 : decode cX4_blend 19 = .ok (.if_icmp .ge 22, 3) := by decide +kernel
theorem dX4_blend_22 : decode cX4_blend 22 = .ok (.aload_n 0, 1) := by decide +kernel
theorem dX4_blend_23 : decode cX4_blend 23 = .ok (.getfield 15, 3) := by decide +kernel
theorem dX4_blend_26 : decode cX4_blend 26 = .ok (.iload_n 3, 1) := by decide +kernel
theorem dX4_blend_27 : decode cX4_blend 27 = .ok (.aload_n 0, 1) := by decide +kernel
theorem dX4_blend_28 : decode cX4_blend 28 = .ok (.iload_n 3, 1) := by decide +kernel
theorem dX4_blend_29 : decode cX4_blend 29 = .ok (.iload_n 1, 1) := by decide +kernel
theorem dX4_blend_30 : decode cX4_blend 30 = .ok (.iload_n 2, 1) := by decide +kernel
theorem dX4_blend_31 : decode cX4_blend 31 = .ok (.invokevirtual 40, 3) := by decide +kernel
theorem dX4_blend_34 : decode cX4_blend 34 = .ok (.lastore, 1) := by decide +kernel
theorem dX4_blend_35 : decode cX4_blend 35 = .ok (.iinc 3 1, 3) := by decide +kernel
theorem dX4_blend_38 : decode cX4_blend 38 = .ok (.goto (-24), 3) := by decide +kernel
theorem dX4_blend_41 : decode cX4_blend 41 = .ok (.return_, 1) := by decide +kernel
theorem dX4_faultIn_0 : decode cX4_faultIn 0 = .ok (.iconst 0, 1) := by decide +kernel
theorem dX4_faultIn_1 : decode cX4_faultIn 1 = .ok (.istore_n 2, 1) := by decide +kernel
theorem dX4_faultIn_2 : decode cX4_faultIn 2 = .ok (.iload_n 2, 1) := by decide +kernel
theorem dX4_faultIn_3 : decode cX4_faultIn 3 = .ok (.aload_n 1, 1) := by decide +kernel
theorem dX4_faultIn_4 : decode cX4_faultIn 4 = .ok (.getfield 50, 3) := by decide +kernel
theorem dX4_faultIn_7 : decode cX4_faultIn 7 = .ok (.if_icmp .ge 32, 3) := by decide +kernel
theorem dX4_faultIn_10 : decode cX4_faultIn 10 = .ok (.aload_n 0, 1) := by decide +kernel
theorem dX4_faultIn_11 : decode cX4_faultIn 11 = .ok (.iload_n 2, 1) := by decide +kernel
theorem dX4_faultIn_12 : decode cX4_faultIn 12 = .ok (.invokevirtual 53, 3) := by decide +kernel
theorem dX4_faultIn_15 : decode cX4_faultIn 15 = .ok (.aload_n 1, 1) := by decide +kernel
theorem dX4_faultIn_16 : decode cX4_faultIn 16 = .ok (.getfield 57, 3) := by decide +kernel
theorem dX4_faultIn_19 : decode cX4_faultIn 19 = .ok (.iload_n 2, 1) := by decide +kernel
theorem dX4_faultIn_20 : decode cX4_faultIn 20 = .ok (.laload, 1) := by decide +kernel
theorem dX4_faultIn_21 : decode cX4_faultIn 21 = .ok (.aload_n 0, 1) := by decide +kernel
theorem dX4_faultIn_22 : decode cX4_faultIn 22 = .ok (.getfield 22, 3) := by decide +kernel
theorem dX4_faultIn_25 : decode cX4_faultIn 25 = .ok (.i2l, 1) := by decide +kernel
theorem dX4_faultIn_26 : decode cX4_faultIn 26 = .ok (.lmul, 1) := by decide +kernel
theorem dX4_faultIn_27 : decode cX4_faultIn 27 = .ok (.lcmp, 1) := by decide +kernel
theorem dX4_faultIn_28 : decode cX4_faultIn 28 = .ok (.ifCond .le 5, 3) := by decide +kernel
theorem dX4_faultIn_31 : decode cX4_faultIn 31 = .ok (.iload_n 2, 1) := by decide +kernel
theorem dX4_faultIn_32 : decode cX4_faultIn 32 = .ok (.ireturn, 1) := by decide +kernel
theorem dX4_faultIn_33 : decode cX4_faultIn 33 = .ok (.iinc 2 1, 3) := by decide +kernel
theorem dX4_faultIn_36 : decode cX4_faultIn 36 = .ok (.goto (-34), 3) := by decide +kernel
theorem dX4_faultIn_39 : decode cX4_faultIn 39 = .ok (.aload_n 1, 1) := by decide +kernel
theorem dX4_faultIn_40 : decode cX4_faultIn 40 = .ok (.getfield 50, 3) := by decide +kernel
theorem dX4_faultIn_43 : decode cX4_faultIn 43 = .ok (.iconst 1, 1) := by decide +kernel
theorem dX4_faultIn_44 : decode cX4_faultIn 44 = .ok (.isub, 1) := by decide +kernel
theorem dX4_faultIn_45 : decode cX4_faultIn 45 = .ok (.istore_n 2, 1) := by decide +kernel
theorem dX4_faultIn_46 : decode cX4_faultIn 46 = .ok (.aload_n 0, 1) := by decide +kernel
theorem dX4_faultIn_47 : decode cX4_faultIn 47 = .ok (.iload_n 2, 1) := by decide +kernel
theorem dX4_faultIn_48 : decode cX4_faultIn 48 = .ok (.invokevirtual 53, 3) := by decide +kernel
theorem dX4_faultIn_51 : decode cX4_faultIn 51 = .ok (.aload_n 1, 1) := by decide +kernel
theorem dX4_faultIn_52 : decode cX4_faultIn 52 = .ok (.getfield 57, 3) := by decide +kernel
theorem dX4_faultIn_55 : decode cX4_faultIn 55 = .ok (.iload_n 2, 1) := by decide +kernel
theorem dX4_faultIn_56 : decode cX4_faultIn 56 = .ok (.laload, 1) := by decide +kernel
theorem dX4_faultIn_57 : decode cX4_faultIn 57 = .ok (.aload_n 0, 1) := by decide +kernel
theorem dX4_faultIn_58 : decode cX4_faultIn 58 = .ok (.getfield 22, 3) := by decide +kernel
theorem dX4_faultIn_61 : decode cX4_faultIn 61 = .ok (.i2l, 1) := by decide +kernel
theorem dX4_faultIn_62 : decode cX4_faultIn 62 = .ok (.lmul, 1) := by decide +kernel
theorem dX4_faultIn_63 : decode cX4_faultIn 63 = .ok (.lcmp, 1) := by decide +kernel
theorem dX4_faultIn_64 : decode cX4_faultIn 64 = .ok (.ifCond .ge 7, 3) := by decide +kernel
theorem dX4_faultIn_67 : decode cX4_faultIn 67 = .ok (.iload_n 2, 1) := by decide +kernel
theorem dX4_faultIn_68 : decode cX4_faultIn 68 = .ok (.goto 4, 3) := by decide +kernel
theorem dX4_faultIn_71 : decode cX4_faultIn 71 = .ok (.iconst (-1), 1) := by decide +kernel
theorem dX4_faultIn_72 : decode cX4_faultIn 72 = .ok (.ireturn, 1) := by decide +kernel
theorem dX4_sumOf_0 : decode cX4_sumOf 0 = .ok (.lconst 0, 1) := by decide +kernel
theorem dX4_sumOf_1 : decode cX4_sumOf 1 = .ok (.lstore_n 2, 1) := by decide +kernel
theorem dX4_sumOf_2 : decode cX4_sumOf 2 = .ok (.iconst 0, 1) := by decide +kernel
theorem dX4_sumOf_3 : decode cX4_sumOf 3 = .ok (.istore 4, 2) := by decide +kernel
theorem dX4_sumOf_5 : decode cX4_sumOf 5 = .ok (.iload 4, 2) := by decide +kernel
theorem dX4_sumOf_7 : decode cX4_sumOf 7 = .ok (.aload_n 0, 1) := by decide +kernel
theorem dX4_sumOf_8 : decode cX4_sumOf 8 = .ok (.getfield 26, 3) := by decide +kernel
theorem dX4_sumOf_11 : decode cX4_sumOf 11 = .ok (.if_icmp .ge 28, 3) := by decide +kernel
theorem dX4_sumOf_14 : decode cX4_sumOf 14 = .ok (.iload_n 1, 1) := by decide +kernel
theorem dX4_sumOf_15 : decode cX4_sumOf 15 = .ok (.iload 4, 2) := by decide +kernel
theorem dX4_sumOf_17 : decode cX4_sumOf 17 = .ok (.invokestatic 60, 3) := by decide +kernel
theorem dX4_sumOf_20 : decode cX4_sumOf 20 = .ok (.ifCond .eq 13, 3) := by decide +kernel
theorem dX4_sumOf_23 : decode cX4_sumOf 23 = .ok (.lload_n 2, 1) := by decide +kernel
theorem dX4_sumOf_24 : decode cX4_sumOf 24 = .ok (.aload_n 0, 1) := by decide +kernel
theorem dX4_sumOf_25 : decode cX4_sumOf 25 = .ok (.getfield 15, 3) := by decide +kernel
theorem dX4_sumOf_28 : decode cX4_sumOf 28 = .ok (.iload 4, 2) := by decide +kernel
theorem dX4_sumOf_30 : decode cX4_sumOf 30 = .ok (.laload, 1) := by decide +kernel
theorem dX4_sumOf_31 : decode cX4_sumOf 31 = .ok (.ladd, 1) := by decide +kernel
theorem dX4_sumOf_32 : decode cX4_sumOf 32 = .ok (.lstore_n 2, 1) := by decide +kernel
theorem dX4_sumOf_33 : decode cX4_sumOf 33 = .ok (.iinc 4 1, 3) := by decide +kernel
theorem dX4_sumOf_36 : decode cX4_sumOf 36 = .ok (.goto (-31), 3) := by decide +kernel
theorem dX4_sumOf_39 : decode cX4_sumOf 39 = .ok (.lload_n 2, 1) := by decide +kernel
theorem dX4_sumOf_40 : decode cX4_sumOf 40 = .ok (.lreturn, 1) := by decide +kernel
theorem dX4_isProof_0 : decode cX4_isProof 0 = .ok (.lconst 0, 1) := by decide +kernel
theorem dX4_isProof_1 : decode cX4_isProof 1 = .ok (.lstore_n 2, 1) := by decide +kernel
theorem dX4_isProof_2 : decode cX4_isProof 2 = .ok (.iconst 0, 1) := by decide +kernel
theorem dX4_isProof_3 : decode cX4_isProof 3 = .ok (.istore 4, 2) := by decide +kernel
theorem dX4_isProof_5 : decode cX4_isProof 5 = .ok (.iload 4, 2) := by decide +kernel
theorem dX4_isProof_7 : decode cX4_isProof 7 = .ok (.aload_n 0, 1) := by decide +kernel
theorem dX4_isProof_8 : decode cX4_isProof 8 = .ok (.getfield 26, 3) := by decide +kernel
theorem dX4_isProof_11 : decode cX4_isProof 11 = .ok (.if_icmp .ge 23, 3) := by decide +kernel
theorem dX4_isProof_14 : decode cX4_isProof 14 = .ok (.lload_n 2, 1) := by decide +kernel
theorem dX4_isProof_15 : decode cX4_isProof 15 = .ok (.aload_n 0, 1) := by decide +kernel
theorem dX4_isProof_16 : decode cX4_isProof 16 = .ok (.getfield 15, 3) := by decide +kernel
theorem dX4_isProof_19 : decode cX4_isProof 19 = .ok (.iload 4, 2) := by decide +kernel
theorem dX4_isProof_21 : decode cX4_isProof 21 = .ok (.laload, 1) := by decide +kernel
theorem dX4_isProof_22 : decode cX4_isProof 22 = .ok (.lconst 0, 1) := by decide +kernel
theorem dX4_isProof_23 : decode cX4_isProof 23 = .ok (.invokestatic 64, 3) := by decide +kernel
theorem dX4_isProof_26 : decode cX4_isProof 26 = .ok (.ladd, 1) := by decide +kernel
theorem dX4_isProof_27 : decode cX4_isProof 27 = .ok (.lstore_n 2, 1) := by decide +kernel
theorem dX4_isProof_28 : decode cX4_isProof 28 = .ok (.iinc 4 1, 3) := by decide +kernel
theorem dX4_isProof_31 : decode cX4_isProof 31 = .ok (.goto (-26), 3) := by decide +kernel
theorem dX4_isProof_34 : decode cX4_isProof 34 = .ok (.aload_n 0, 1) := by decide +kernel
theorem dX4_isProof_35 : decode cX4_isProof 35 = .ok (.aload_n 1, 1) := by decide +kernel
theorem dX4_isProof_36 : decode cX4_isProof 36 = .ok (.invokevirtual 70, 3) := by decide +kernel
theorem dX4_isProof_39 : decode cX4_isProof 39 = .ok (.iconst (-1), 1) := by decide +kernel
theorem dX4_isProof_40 : decode cX4_isProof 40 = .ok (.if_icmp .ne 22, 3) := by decide +kernel
theorem dX4_isProof_43 : decode cX4_isProof 43 = .ok (.lload_n 2, 1) := by decide +kernel
theorem dX4_isProof_44 : decode cX4_isProof 44 = .ok (.aload_n 1, 1) := by decide +kernel
theorem dX4_isProof_45 : decode cX4_isProof 45 = .ok (.invokevirtual 74, 3) := by decide +kernel
theorem dX4_isProof_48 : decode cX4_isProof 48 = .ok (.aload_n 0, 1) := by decide +kernel
theorem dX4_isProof_49 : decode cX4_isProof 49 = .ok (.getfield 22, 3) := by decide +kernel
theorem dX4_isProof_52 : decode cX4_isProof 52 = .ok (.i2l, 1) := by decide +kernel
theorem dX4_isProof_53 : decode cX4_isProof 53 = .ok (.lmul, 1) := by decide +kernel
theorem dX4_isProof_54 : decode cX4_isProof 54 = .ok (.lcmp, 1) := by decide +kernel
theorem dX4_isProof_55 : decode cX4_isProof 55 = .ok (.ifCond .ne 7, 3) := by decide +kernel
theorem dX4_isProof_58 : decode cX4_isProof 58 = .ok (.iconst 1, 1) := by decide +kernel
theorem dX4_isProof_59 : decode cX4_isProof 59 = .ok (.goto 4, 3) := by decide +kernel
theorem dX4_isProof_62 : decode cX4_isProof 62 = .ok (.iconst 0, 1) := by decide +kernel
theorem dX4_isProof_63 : decode cX4_isProof 63 = .ok (.ireturn, 1) := by decide +kernel
theorem dX5_init_0 : decode cX5_init 0 = .ok (.aload_n 0, 1) := by decide +kernel
theorem dX5_init_1 : decode cX5_init 1 = .ok (.invokespecial 3, 3) := by decide +kernel
theorem dX5_init_4 : decode cX5_init 4 = .ok (.aload_n 0, 1) := by decide +kernel
theorem dX5_init_5 : decode cX5_init 5 = .ok (.sipush 1100, 3) := by decide +kernel
theorem dX5_init_8 : decode cX5_init 8 = .ok (.newarray .long, 2) := by decide +kernel
theorem dX5_init_10 : decode cX5_init 10 = .ok (.putfield 9, 3) := by decide +kernel
theorem dX5_init_13 : decode cX5_init 13 = .ok (.return_, 1) := by decide +kernel
theorem dX5_lay_0 : decode cX5_lay 0 = .ok (.aload_n 0, 1) := by decide +kernel
theorem dX5_lay_1 : decode cX5_lay 1 = .ok (.iconst 1, 1) := by decide +kernel
theorem dX5_lay_2 : decode cX5_lay 2 = .ok (.putfield 15, 3) := by decide +kernel
theorem dX5_lay_5 : decode cX5_lay 5 = .ok (.aload_n 0, 1) := by decide +kernel
theorem dX5_lay_6 : decode cX5_lay 6 = .ok (.iload_n 1, 1) := by decide +kernel
theorem dX5_lay_7 : decode cX5_lay 7 = .ok (.putfield 19, 3) := by decide +kernel
theorem dX5_lay_10 : decode cX5_lay 10 = .ok (.aload_n 0, 1) := by decide +kernel
theorem dX5_lay_11 : decode cX5_lay 11 = .ok (.iload_n 2, 1) := by decide +kernel
theorem dX5_lay_12 : decode cX5_lay 12 = .ok (.putfield 23, 3) := by decide +kernel
theorem dX5_lay_15 : decode cX5_lay 15 = .ok (.iconst 0, 1) := by decide +kernel
theorem dX5_lay_16 : decode cX5_lay 16 = .ok (.istore_n 3, 1) := by decide +kernel
theorem dX5_lay_17 : decode cX5_lay 17 = .ok (.iload_n 3, 1) := by decide +kernel
theorem dX5_lay_18 : decode cX5_lay 18 = .ok (.iload_n 2, 1) := by decide +kernel
theorem dX5_lay_19 : decode cX5_lay 19 = .ok (.if_icmp .ge 16, 3) := by decide +kernel
theorem dX5_lay_22 : decode cX5_lay 22 = .ok (.aload_n 0, 1) := by decide +kernel
theorem dX5_lay_23 : decode cX5_lay 23 = .ok (.getfield 9, 3) := by decide +kernel
theorem dX5_lay_26 : decode cX5_lay 26 = .ok (.iload_n 3, 1) := by decide +kernel
theorem dX5_lay_27 : decode cX5_lay 27 = .ok (.lconst 0, 1) := by decide +kernel
theorem dX5_lay_28 : decode cX5_lay 28 = .ok (.lastore, 1) := by decide +kernel
theorem dX5_lay_29 : decode cX5_lay 29 = .ok (.iinc 3 1, 3) := by decide +kernel
theorem dX5_lay_32 : decode cX5_lay 32 = .ok (.goto (-15), 3) := by decide +kernel
theorem dX5_lay_35 : decode cX5_lay 35 = .ok (.return_, 1) := by decide +kernel
theorem dX5_hasPlace_0 : decode cX5_hasPlace 0 = .ok (.iload_n 1, 1) := by decide +kernel
theorem dX5_hasPlace_1 : decode cX5_hasPlace 1 = .ok (.i2l, 1) := by decide +kernel
theorem dX5_hasPlace_2 : decode cX5_hasPlace 2 = .ok (.lconst 0, 1) := by decide +kernel
theorem dX5_hasPlace_3 : decode cX5_hasPlace 3 = .ok (.aload_n 0, 1) := by decide +kernel
theorem dX5_hasPlace_4 : decode cX5_hasPlace 4 = .ok (.getfield 23, 3) := by decide +kernel
theorem dX5_hasPlace_7 : decode cX5_hasPlace 7 = .ok (.iconst 1, 1) := by decide +kernel
theorem dX5_hasPlace_8 : decode cX5_hasPlace 8 = .ok (.isub, 1) := by decide +kernel
theorem dX5_hasPlace_9 : decode cX5_hasPlace 9 = .ok (.i2l, 1) := by decide +kernel
theorem dX5_hasPlace_10 : decode cX5_hasPlace 10 = .ok (.invokestatic 26, 3) := by decide +kernel
theorem dX5_hasPlace_13 : decode cX5_hasPlace 13 = .ok (.ireturn, 1) := by decide +kernel
theorem dX6_init_0 : decode cX6_init 0 = .ok (.aload_n 0, 1) := by decide +kernel
theorem dX6_init_1 : decode cX6_init 1 = .ok (.invokespecial 3, 3) := by decide +kernel
theorem dX6_init_4 : decode cX6_init 4 = .ok (.aload_n 0, 1) := by decide +kernel
theorem dX6_init_5 : decode cX6_init 5 = .ok (.sipush 1024, 3) := by decide +kernel
theorem dX6_init_8 : decode cX6_init 8 = .ok (.newarray .long, 2) := by decide +kernel
theorem dX6_init_10 : decode cX6_init 10 = .ok (.putfield 9, 3) := by decide +kernel
theorem dX6_init_13 : decode cX6_init 13 = .ok (.aload_n 0, 1) := by decide +kernel
theorem dX6_init_14 : decode cX6_init 14 = .ok (.new 15, 3) := by decide +kernel
theorem dX6_init_17 : decode cX6_init 17 = .ok (.dup, 1) := by decide +kernel
theorem dX6_init_18 : decode cX6_init 18 = .ok (.invokespecial 17, 3) := by decide +kernel
theorem dX6_init_21 : decode cX6_init 21 = .ok (.putfield 18, 3) := by decide +kernel
theorem dX6_init_24 : decode cX6_init 24 = .ok (.aload_n 0, 1) := by decide +kernel
theorem dX6_init_25 : decode cX6_init 25 = .ok (.bipush 10, 2) := by decide +kernel
theorem dX6_init_27 : decode cX6_init 27 = .ok (.newarray .int, 2) := by decide +kernel
theorem dX6_init_29 : decode cX6_init 29 = .ok (.putfield 22, 3) := by decide +kernel
theorem dX6_init_32 : decode cX6_init 32 = .ok (.aload_n 0, 1) := by decide +kernel
theorem dX6_init_33 : decode cX6_init 33 = .ok (.bipush 10, 2) := by decide +kernel
theorem dX6_init_35 : decode cX6_init 35 = .ok (.newarray .int, 2) := by decide +kernel
theorem dX6_init_37 : decode cX6_init 37 = .ok (.putfield 26, 3) := by decide +kernel
theorem dX6_init_40 : decode cX6_init 40 = .ok (.return_, 1) := by decide +kernel
theorem dX6_begin_0 : decode cX6_begin 0 = .ok (.aload_n 0, 1) := by decide +kernel
theorem dX6_begin_1 : decode cX6_begin 1 = .ok (.iload_n 1, 1) := by decide +kernel
theorem dX6_begin_2 : decode cX6_begin 2 = .ok (.putfield 29, 3) := by decide +kernel
theorem dX6_begin_5 : decode cX6_begin 5 = .ok (.aload_n 0, 1) := by decide +kernel
theorem dX6_begin_6 : decode cX6_begin 6 = .ok (.iload_n 2, 1) := by decide +kernel
theorem dX6_begin_7 : decode cX6_begin 7 = .ok (.putfield 33, 3) := by decide +kernel
theorem dX6_begin_10 : decode cX6_begin 10 = .ok (.aload_n 0, 1) := by decide +kernel
theorem dX6_begin_11 : decode cX6_begin 11 = .ok (.iconst 1, 1) := by decide +kernel
theorem dX6_begin_12 : decode cX6_begin 12 = .ok (.iload_n 2, 1) := by decide +kernel
theorem dX6_begin_13 : decode cX6_begin 13 = .ok (.ishl, 1) := by decide +kernel
theorem dX6_begin_14 : decode cX6_begin 14 = .ok (.putfield 36, 3) := by decide +kernel
theorem dX6_begin_17 : decode cX6_begin 17 = .ok (.aload_n 0, 1) := by decide +kernel
theorem dX6_begin_18 : decode cX6_begin 18 = .ok (.iconst 0, 1) := by decide +kernel
theorem dX6_begin_19 : decode cX6_begin 19 = .ok (.putfield 39, 3) := by decide +kernel
theorem dX6_begin_22 : decode cX6_begin 22 = .ok (.aload_n 0, 1) := by decide +kernel
theorem dX6_begin_23 : decode cX6_begin 23 = .ok (.iconst 0, 1) := by decide +kernel
theorem dX6_begin_24 : decode cX6_begin 24 = .ok (.putfield 43, 3) := by decide +kernel
theorem dX6_begin_27 : decode cX6_begin 27 = .ok (.iconst 0, 1) := by decide +kernel
theorem dX6_begin_28 : decode cX6_begin 28 = .ok (.istore_n 3, 1) := by decide +kernel
theorem dX6_begin_29 : decode cX6_begin 29 = .ok (.iload_n 3, 1) := by decide +kernel
theorem dX6_begin_30 : decode cX6_begin 30 = .ok (.aload_n 0, 1) := by decide +kernel
theorem dX6_begin_31 : decode cX6_begin 31 = .ok (.getfield 36, 3) := by decide +kernel
theorem dX6_begin_34 : decode cX6_begin 34 = .ok (.if_icmp .ge 16, 3) := by decide +kernel
theorem dX6_begin_37 : decode cX6_begin 37 = .ok (.aload_n 0, 1) := by decide +kernel
theorem dX6_begin_38 : decode cX6_begin 38 = .ok (.getfield 9, 3) := by decide +kernel
theorem dX6_begin_41 : decode cX6_begin 41 = .ok (.iload_n 3, 1) := by decide +kernel
theorem dX6_begin_42 : decode cX6_begin 42 = .ok (.lconst 0, 1) := by decide +kernel
theorem dX6_begin_43 : decode cX6_begin 43 = .ok (.lastore, 1) := by decide +kernel
theorem dX6_begin_44 : decode cX6_begin 44 = .ok (.iinc 3 1, 3) := by decide +kernel
theorem dX6_begin_47 : decode cX6_begin 47 = .ok (.goto (-18), 3) := by decide +kernel
theorem dX6_begin_50 : decode cX6_begin 50 = .ok (.aload_n 0, 1) := by decide +kernel
theorem dX6_begin_51 : decode cX6_begin 51 = .ok (.getfield 18, 3) := by decide +kernel
theorem dX6_begin_54 : decode cX6_begin 54 = .ok (.invokevirtual 46, 3) := by decide +kernel
theorem dX6_begin_57 : decode cX6_begin 57 = .ok (.iconst 0, 1) := by decide +kernel
theorem dX6_begin_58 : decode cX6_begin 58 = .ok (.istore_n 3, 1) := by decide +kernel
theorem dX6_begin_59 : decode cX6_begin 59 = .ok (.iload_n 3, 1) := by decide +kernel
theorem dX6_begin_60 : decode cX6_begin 60 = .ok (.bipush 10, 2) := by decide +kernel
theorem dX6_begin_62 : decode cX6_begin 62 = .ok (.if_icmp .ge 16, 3) := by decide +kernel
theorem dX6_begin_65 : decode cX6_begin 65 = .ok (.aload_n 0, 1) := by decide +kernel
theorem dX6_begin_66 : decode cX6_begin 66 = .ok (.getfield 26, 3) := by decide +kernel
theorem dX6_begin_69 : decode cX6_begin 69 = .ok (.iload_n 3, 1) := by decide +kernel
theorem dX6_begin_70 : decode cX6_begin 70 = .ok (.iconst 0, 1) := by decide +kernel
theorem dX6_begin_71 : decode cX6_begin 71 = .ok (.iastore, 1) := by decide +kernel
theorem dX6_begin_72 : decode cX6_begin 72 = .ok (.iinc 3 1, 3) := by decide +kernel
theorem dX6_begin_75 : decode cX6_begin 75 = .ok (.goto (-16), 3) := by decide +kernel
theorem dX6_begin_78 : decode cX6_begin 78 = .ok (.return_, 1) := by decide +kernel
theorem dX6_piecesAs_0 : decode cX6_piecesAs 0 = .ok (.aload_n 0, 1) := by decide +kernel
theorem dX6_piecesAs_1 : decode cX6_piecesAs 1 = .ok (.getfield 29, 3) := by decide +kernel
theorem dX6_piecesAs_4 : decode cX6_piecesAs 4 = .ok (.iload_n 1, 1) := by decide +kernel
theorem dX6_piecesAs_5 : decode cX6_piecesAs 5 = .ok (.if_icmp .ne 10, 3) := by decide +kernel
theorem dX6_piecesAs_8 : decode cX6_piecesAs 8 = .ok (.aload_n 0, 1) := by decide +kernel
theorem dX6_piecesAs_9 : decode cX6_piecesAs 9 = .ok (.getfield 43, 3) := by decide +kernel
theorem dX6_piecesAs_12 : decode cX6_piecesAs 12 = .ok (.goto 4, 3) := by decide +kernel
theorem dX6_piecesAs_15 : decode cX6_piecesAs 15 = .ok (.iconst 0, 1) := by decide +kernel
theorem dX6_piecesAs_16 : decode cX6_piecesAs 16 = .ok (.ireturn, 1) := by decide +kernel
theorem dX6_takeLine_0 : decode cX6_takeLine 0 = .ok (.aload_n 0, 1) := by decide +kernel
theorem dX6_takeLine_1 : decode cX6_takeLine 1 = .ok (.dup, 1) := by decide +kernel
theorem dX6_takeLine_2 : decode cX6_takeLine 2 = .ok (.getfield 43, 3) := by decide +kernel
theorem dX6_takeLine_5 : decode cX6_takeLine 5 = .ok (.iconst 1, 1) := by decide +kernel
theorem dX6_takeLine_6 : decode cX6_takeLine 6 = .ok (.iadd, 1) := by decide +kernel
theorem dX6_takeLine_7 : decode cX6_takeLine 7 = .ok (.putfield 43, 3) := by decide +kernel
theorem dX6_takeLine_10 : decode cX6_takeLine 10 = .ok (.iconst 0, 1) := by decide +kernel
theorem dX6_takeLine_11 : decode cX6_takeLine 11 = .ok (.istore 4, 2) := by decide +kernel
theorem dX6_takeLine_13 : decode cX6_takeLine 13 = .ok (.iload 4, 2) := by decide +kernel
theorem dX6_takeLine_15 : decode cX6_takeLine 15 = .ok (.aload_n 0, 1) := by decide +kernel
theorem dX6_takeLine_16 : decode cX6_takeLine 16 = .ok (.getfield 36, 3) := by decide +kernel
theorem dX6_takeLine_19 : decode cX6_takeLine 19 = .ok (.if_icmp .ge 39, 3) := by decide +kernel
theorem dX6_takeLine_22 : decode cX6_takeLine 22 = .ok (.iload 4, 2) := by decide +kernel
theorem dX6_takeLine_24 : decode cX6_takeLine 24 = .ok (.iload_n 1, 1) := by decide +kernel
theorem dX6_takeLine_25 : decode cX6_takeLine 25 = .ok (.invokestatic 49, 3) := by decide +kernel
theorem dX6_takeLine_28 : decode cX6_takeLine 28 = .ok (.ifCond .eq 24, 3) := by decide +kernel
theorem dX6_takeLine_31 : decode cX6_takeLine 31 = .ok (.iload 4, 2) := by decide +kernel
theorem dX6_takeLine_33 : decode cX6_takeLine 33 = .ok (.iload_n 2, 1) := by decide +kernel
theorem dX6_takeLine_34 : decode cX6_takeLine 34 = .ok (.invokestatic 49, 3) := by decide +kernel
theorem dX6_takeLine_37 : decode cX6_takeLine 37 = .ok (.ifCond .ne 15, 3) := by decide +kernel
theorem dX6_takeLine_40 : decode cX6_takeLine 40 = .ok (.aload_n 0, 1) := by decide +kernel
theorem dX6_takeLine_41 : decode cX6_takeLine 41 = .ok (.getfield 9, 3) := by decide +kernel
theorem dX6_takeLine_44 : decode cX6_takeLine 44 = .ok (.iload 4, 2) := by decide +kernel
theorem dX6_takeLine_46 : decode cX6_takeLine 46 = .ok (.dup2, 1) := by decide +kernel
theorem dX6_takeLine_47 : decode cX6_takeLine 47 = .ok (.laload, 1) := by decide +kernel
theorem dX6_takeLine_48 : decode cX6_takeLine 48 = .ok (.iload_n 3, 1) := by decide +kernel
theorem dX6_takeLine_49 : decode cX6_takeLine 49 = .ok (.i2l, 1) := by decide +kernel
theorem dX6_takeLine_50 : decode cX6_takeLine 50 = .ok (.ladd, 1) := by decide +kernel
theorem dX6_takeLine_51 : decode cX6_takeLine 51 = .ok (.lastore, 1) := by decide +kernel
theorem dX6_takeLine_52 : decode cX6_takeLine 52 = .ok (.iinc 4 1, 3) := by decide +kernel
theorem dX6_takeLine_55 : decode cX6_takeLine 55 = .ok (.goto (-42), 3) := by decide +kernel
theorem dX6_takeLine_58 : decode cX6_takeLine 58 = .ok (.return_, 1) := by decide +kernel
theorem dX6_takeSpot_0 : decode cX6_takeSpot 0 = .ok (.aload_n 0, 1) := by decide +kernel
theorem dX6_takeSpot_1 : decode cX6_takeSpot 1 = .ok (.dup, 1) := by decide +kernel
theorem dX6_takeSpot_2 : decode cX6_takeSpot 2 = .ok (.getfield 43, 3) := by decide +kernel
theorem dX6_takeSpot_5 : decode cX6_takeSpot 5 = .ok (.iconst 1, 1) := by decide +kernel
theorem dX6_takeSpot_6 : decode cX6_takeSpot 6 = .ok (.iadd, 1) := by decide +kernel
theorem dX6_takeSpot_7 : decode cX6_takeSpot 7 = .ok (.putfield 43, 3) := by decide +kernel
theorem dX6_takeSpot_10 : decode cX6_takeSpot 10 = .ok (.iconst 0, 1) := by decide +kernel
theorem dX6_takeSpot_11 : decode cX6_takeSpot 11 = .ok (.istore_n 3, 1) := by decide +kernel
theorem dX6_takeSpot_12 : decode cX6_takeSpot 12 = .ok (.iload_n 3, 1) := by decide +kernel
theorem dX6_takeSpot_13 : decode cX6_takeSpot 13 = .ok (.aload_n 0, 1) := by decide +kernel
theorem dX6_takeSpot_14 : decode cX6_takeSpot 14 = .ok (.getfield 36, 3) := by decide +kernel
theorem dX6_takeSpot_17 : decode cX6_takeSpot 17 = .ok (.if_icmp .ge 26, 3) := by decide +kernel
theorem dX6_takeSpot_20 : decode cX6_takeSpot 20 = .ok (.iload_n 3, 1) := by decide +kernel
theorem dX6_takeSpot_21 : decode cX6_takeSpot 21 = .ok (.iload_n 2, 1) := by decide +kernel
theorem dX6_takeSpot_22 : decode cX6_takeSpot 22 = .ok (.iand, 1) := by decide +kernel
theorem dX6_takeSpot_23 : decode cX6_takeSpot 23 = .ok (.ifCond .eq 14, 3) := by decide +kernel
theorem dX6_takeSpot_26 : decode cX6_takeSpot 26 = .ok (.aload_n 0, 1) := by decide +kernel
theorem dX6_takeSpot_27 : decode cX6_takeSpot 27 = .ok (.getfield 9, 3) := by decide +kernel
theorem dX6_takeSpot_30 : decode cX6_takeSpot 30 = .ok (.iload_n 3, 1) := by decide +kernel
theorem dX6_takeSpot_31 : decode cX6_takeSpot 31 = .ok (.dup2, 1) := by decide +kernel
theorem dX6_takeSpot_32 : decode cX6_takeSpot 32 = .ok (.laload, 1) := by decide +kernel
theorem dX6_takeSpot_33 : decode cX6_takeSpot 33 = .ok (.iload_n 1, 1) := by decide +kernel
theorem dX6_takeSpot_34 : decode cX6_takeSpot 34 = .ok (.i2l, 1) := by decide +kernel
theorem dX6_takeSpot_35 : decode cX6_takeSpot 35 = .ok (.ladd, 1) := by decide +kernel
theorem dX6_takeSpot_36 : decode cX6_takeSpot 36 = .ok (.lastore, 1) := by decide +kernel
theorem dX6_takeSpot_37 : decode cX6_takeSpot 37 = .ok (.iinc 3 1, 3) := by decide +kernel
theorem dX6_takeSpot_40 : decode cX6_takeSpot 40 = .ok (.goto (-28), 3) := by decide +kernel
theorem dX6_takeSpot_43 : decode cX6_takeSpot 43 = .ok (.return_, 1) := by decide +kernel
theorem dX6_rankAnew_0 : decode cX6_rankAnew 0 = .ok (.iconst 0, 1) := by decide +kernel
theorem dX6_rankAnew_1 : decode cX6_rankAnew 1 = .ok (.istore_n 2, 1) := by decide +kernel
theorem dX6_rankAnew_2 : decode cX6_rankAnew 2 = .ok (.iload_n 2, 1) := by decide +kernel
theorem dX6_rankAnew_3 : decode cX6_rankAnew 3 = .ok (.aload_n 0, 1) := by decide +kernel
theorem dX6_rankAnew_4 : decode cX6_rankAnew 4 = .ok (.getfield 36, 3) := by decide +kernel
theorem dX6_rankAnew_7 : decode cX6_rankAnew 7 = .ok (.if_icmp .ge 28, 3) := by decide +kernel
theorem dX6_rankAnew_10 : decode cX6_rankAnew 10 = .ok (.iload_n 2, 1) := by decide +kernel
theorem dX6_rankAnew_11 : decode cX6_rankAnew 11 = .ok (.iload_n 1, 1) := by decide +kernel
theorem dX6_rankAnew_12 : decode cX6_rankAnew 12 = .ok (.invokestatic 49, 3) := by decide +kernel
theorem dX6_rankAnew_15 : decode cX6_rankAnew 15 = .ok (.ifCond .eq 14, 3) := by decide +kernel
theorem dX6_rankAnew_18 : decode cX6_rankAnew 18 = .ok (.aload_n 0, 1) := by decide +kernel
theorem dX6_rankAnew_19 : decode cX6_rankAnew 19 = .ok (.getfield 9, 3) := by decide +kernel
theorem dX6_rankAnew_22 : decode cX6_rankAnew 22 = .ok (.iload_n 2, 1) := by decide +kernel
theorem dX6_rankAnew_23 : decode cX6_rankAnew 23 = .ok (.aload_n 0, 1) := by decide +kernel
theorem dX6_rankAnew_24 : decode cX6_rankAnew 24 = .ok (.iload_n 2, 1) := by decide +kernel
theorem dX6_rankAnew_25 : decode cX6_rankAnew 25 = .ok (.invokevirtual 53, 3) := by decide +kernel
theorem dX6_rankAnew_28 : decode cX6_rankAnew 28 = .ok (.lastore, 1) := by decide +kernel
theorem dX6_rankAnew_29 : decode cX6_rankAnew 29 = .ok (.iinc 2 1, 3) := by decide +kernel
theorem dX6_rankAnew_32 : decode cX6_rankAnew 32 = .ok (.goto (-30), 3) := by decide +kernel
theorem dX6_rankAnew_35 : decode cX6_rankAnew 35 = .ok (.return_, 1) := by decide +kernel
theorem dX6_rankOf_0 : decode cX6_rankOf 0 = .ok (.iload_n 1, 1) := by decide +kernel
theorem dX6_rankOf_1 : decode cX6_rankOf 1 = .ok (.invokestatic 57, 3) := by decide +kernel
theorem dX6_rankOf_4 : decode cX6_rankOf 4 = .ok (.iconst 4, 1) := by decide +kernel
theorem dX6_rankOf_5 : decode cX6_rankOf 5 = .ok (.if_icmp .gt 13, 3) := by decide +kernel
theorem dX6_rankOf_8 : decode cX6_rankOf 8 = .ok (.aload_n 0, 1) := by decide +kernel
theorem dX6_rankOf_9 : decode cX6_rankOf 9 = .ok (.getfield 18, 3) := by decide +kernel
theorem dX6_rankOf_12 : decode cX6_rankOf 12 = .ok (.iload_n 1, 1) := by decide +kernel
theorem dX6_rankOf_13 : decode cX6_rankOf 13 = .ok (.invokevirtual 63, 3) := by decide +kernel
theorem dX6_rankOf_16 : decode cX6_rankOf 16 = .ok (.i2l, 1) := by decide +kernel
theorem dX6_rankOf_17 : decode cX6_rankOf 17 = .ok (.lreturn, 1) := by decide +kernel
theorem dX6_rankOf_18 : decode cX6_rankOf 18 = .ok (.lconst 0, 1) := by decide +kernel
theorem dX6_rankOf_19 : decode cX6_rankOf 19 = .ok (.lstore_n 2, 1) := by decide +kernel
theorem dX6_rankOf_20 : decode cX6_rankOf 20 = .ok (.iconst 0, 1) := by decide +kernel
theorem dX6_rankOf_21 : decode cX6_rankOf 21 = .ok (.istore 4, 2) := by decide +kernel
theorem dX6_rankOf_23 : decode cX6_rankOf 23 = .ok (.iload 4, 2) := by decide +kernel
theorem dX6_rankOf_25 : decode cX6_rankOf 25 = .ok (.aload_n 0, 1) := by decide +kernel
theorem dX6_rankOf_26 : decode cX6_rankOf 26 = .ok (.getfield 33, 3) := by decide +kernel
theorem dX6_rankOf_29 : decode cX6_rankOf 29 = .ok (.if_icmp .ge 34, 3) := by decide +kernel
theorem dX6_rankOf_32 : decode cX6_rankOf 32 = .ok (.iload_n 1, 1) := by decide +kernel
theorem dX6_rankOf_33 : decode cX6_rankOf 33 = .ok (.iload 4, 2) := by decide +kernel
theorem dX6_rankOf_35 : decode cX6_rankOf 35 = .ok (.invokestatic 49, 3) := by decide +kernel
theorem dX6_rankOf_38 : decode cX6_rankOf 38 = .ok (.ifCond .eq 19, 3) := by decide +kernel
theorem dX6_rankOf_41 : decode cX6_rankOf 41 = .ok (.lload_n 2, 1) := by decide +kernel
theorem dX6_rankOf_42 : decode cX6_rankOf 42 = .ok (.aload_n 0, 1) := by decide +kernel
theorem dX6_rankOf_43 : decode cX6_rankOf 43 = .ok (.getfield 9, 3) := by decide +kernel
theorem dX6_rankOf_46 : decode cX6_rankOf 46 = .ok (.iload_n 1, 1) := by decide +kernel
theorem dX6_rankOf_47 : decode cX6_rankOf 47 = .ok (.iconst 1, 1) := by decide +kernel
theorem dX6_rankOf_48 : decode cX6_rankOf 48 = .ok (.iload 4, 2) := by decide +kernel
theorem dX6_rankOf_50 : decode cX6_rankOf 50 = .ok (.ishl, 1) := by decide +kernel
theorem dX6_rankOf_51 : decode cX6_rankOf 51 = .ok (.ixor, 1) := by decide +kernel
theorem dX6_rankOf_52 : decode cX6_rankOf 52 = .ok (.laload, 1) := by decide +kernel
theorem dX6_rankOf_53 : decode cX6_rankOf 53 = .ok (.invokestatic 66, 3) := by decide +kernel
theorem dX6_rankOf_56 : decode cX6_rankOf 56 = .ok (.lstore_n 2, 1) := by decide +kernel
theorem dX6_rankOf_57 : decode cX6_rankOf 57 = .ok (.iinc 4 1, 3) := by decide +kernel
theorem dX6_rankOf_60 : decode cX6_rankOf 60 = .ok (.goto (-37), 3) := by decide +kernel
theorem dX6_rankOf_63 : decode cX6_rankOf 63 = .ok (.lload_n 2, 1) := by decide +kernel
theorem dX6_rankOf_64 : decode cX6_rankOf 64 = .ok (.lreturn, 1) := by decide +kernel
theorem dX6_takeRise_0 : decode cX6_takeRise 0 = .ok (.aload_n 0, 1) := by decide +kernel
theorem dX6_takeRise_1 : decode cX6_takeRise 1 = .ok (.getfield 43, 3) := by decide +kernel
theorem dX6_takeRise_4 : decode cX6_takeRise 4 = .ok (.istore_n 2, 1) := by decide +kernel
theorem dX6_takeRise_5 : decode cX6_takeRise 5 = .ok (.iload_n 2, 1) := by decide +kernel
theorem dX6_takeRise_6 : decode cX6_takeRise 6 = .ok (.bipush 10, 2) := by decide +kernel
theorem dX6_takeRise_8 : decode cX6_takeRise 8 = .ok (.if_icmp .ge 16, 3) := by decide +kernel
theorem dX6_takeRise_11 : decode cX6_takeRise 11 = .ok (.aload_n 0, 1) := by decide +kernel
theorem dX6_takeRise_12 : decode cX6_takeRise 12 = .ok (.getfield 22, 3) := by decide +kernel
theorem dX6_takeRise_15 : decode cX6_takeRise 15 = .ok (.iload_n 2, 1) := by decide +kernel
theorem dX6_takeRise_16 : decode cX6_takeRise 16 = .ok (.iload_n 1, 1) := by decide +kernel
theorem dX6_takeRise_17 : decode cX6_takeRise 17 = .ok (.iastore, 1) := by decide +kernel
theorem dX6_takeRise_18 : decode cX6_takeRise 18 = .ok (.iinc 2 1, 3) := by decide +kernel
theorem dX6_takeRise_21 : decode cX6_takeRise 21 = .ok (.goto (-16), 3) := by decide +kernel
theorem dX6_takeRise_24 : decode cX6_takeRise 24 = .ok (.aload_n 0, 1) := by decide +kernel
theorem dX6_takeRise_25 : decode cX6_takeRise 25 = .ok (.dup, 1) := by decide +kernel
theorem dX6_takeRise_26 : decode cX6_takeRise 26 = .ok (.getfield 43, 3) := by decide +kernel
theorem dX6_takeRise_29 : decode cX6_takeRise 29 = .ok (.iconst 1, 1) := by decide +kernel
theorem dX6_takeRise_30 : decode cX6_takeRise 30 = .ok (.iadd, 1) := by decide +kernel
theorem dX6_takeRise_31 : decode cX6_takeRise 31 = .ok (.putfield 43, 3) := by decide +kernel
theorem dX6_takeRise_34 : decode cX6_takeRise 34 = .ok (.iconst 0, 1) := by decide +kernel
theorem dX6_takeRise_35 : decode cX6_takeRise 35 = .ok (.istore_n 2, 1) := by decide +kernel
theorem dX6_takeRise_36 : decode cX6_takeRise 36 = .ok (.iload_n 2, 1) := by decide +kernel
theorem dX6_takeRise_37 : decode cX6_takeRise 37 = .ok (.aload_n 0, 1) := by decide +kernel
theorem dX6_takeRise_38 : decode cX6_takeRise 38 = .ok (.getfield 36, 3) := by decide +kernel
theorem dX6_takeRise_41 : decode cX6_takeRise 41 = .ok (.if_icmp .ge 23, 3) := by decide +kernel
theorem dX6_takeRise_44 : decode cX6_takeRise 44 = .ok (.aload_n 0, 1) := by decide +kernel
theorem dX6_takeRise_45 : decode cX6_takeRise 45 = .ok (.getfield 9, 3) := by decide +kernel
theorem dX6_takeRise_48 : decode cX6_takeRise 48 = .ok (.iload_n 2, 1) := by decide +kernel
theorem dX6_takeRise_49 : decode cX6_takeRise 49 = .ok (.aload_n 0, 1) := by decide +kernel
theorem dX6_takeRise_50 : decode cX6_takeRise 50 = .ok (.iload_n 2, 1) := by decide +kernel
theorem dX6_takeRise_51 : decode cX6_takeRise 51 = .ok (.invokestatic 57, 3) := by decide +kernel
theorem dX6_takeRise_54 : decode cX6_takeRise 54 = .ok (.invokevirtual 72, 3) := by decide +kernel
theorem dX6_takeRise_57 : decode cX6_takeRise 57 = .ok (.lastore, 1) := by decide +kernel
theorem dX6_takeRise_58 : decode cX6_takeRise 58 = .ok (.iinc 2 1, 3) := by decide +kernel
theorem dX6_takeRise_61 : decode cX6_takeRise 61 = .ok (.goto (-25), 3) := by decide +kernel
theorem dX6_takeRise_64 : decode cX6_takeRise 64 = .ok (.return_, 1) := by decide +kernel
theorem dX6_sumOfRises_0 : decode cX6_sumOfRises 0 = .ok (.lconst 0, 1) := by decide +kernel
theorem dX6_sumOfRises_1 : decode cX6_sumOfRises 1 = .ok (.lstore_n 2, 1) := by decide +kernel
theorem dX6_sumOfRises_2 : decode cX6_sumOfRises 2 = .ok (.iconst 0, 1) := by decide +kernel
theorem dX6_sumOfRises_3 : decode cX6_sumOfRises 3 = .ok (.istore 4, 2) := by decide +kernel
theorem dX6_sumOfRises_5 : decode cX6_sumOfRises 5 = .ok (.iload 4, 2) := by decide +kernel
theorem dX6_sumOfRises_7 : decode cX6_sumOfRises 7 = .ok (.iload_n 1, 1) := by decide +kernel
theorem dX6_sumOfRises_8 : decode cX6_sumOfRises 8 = .ok (.if_icmp .ge 27, 3) := by decide +kernel
theorem dX6_sumOfRises_11 : decode cX6_sumOfRises 11 = .ok (.iload 4, 2) := by decide +kernel
theorem dX6_sumOfRises_13 : decode cX6_sumOfRises 13 = .ok (.bipush 10, 2) := by decide +kernel
theorem dX6_sumOfRises_15 : decode cX6_sumOfRises 15 = .ok (.if_icmp .ge 20, 3) := by decide +kernel
theorem dX6_sumOfRises_18 : decode cX6_sumOfRises 18 = .ok (.lload_n 2, 1) := by decide +kernel
theorem dX6_sumOfRises_19 : decode cX6_sumOfRises 19 = .ok (.aload_n 0, 1) := by decide +kernel
theorem dX6_sumOfRises_20 : decode cX6_sumOfRises 20 = .ok (.getfield 22, 3) := by decide +kernel
theorem dX6_sumOfRises_23 : decode cX6_sumOfRises 23 = .ok (.iload 4, 2) := by decide +kernel
theorem dX6_sumOfRises_25 : decode cX6_sumOfRises 25 = .ok (.iaload, 1) := by decide +kernel
theorem dX6_sumOfRises_26 : decode cX6_sumOfRises 26 = .ok (.i2l, 1) := by decide +kernel
theorem dX6_sumOfRises_27 : decode cX6_sumOfRises 27 = .ok (.ladd, 1) := by decide +kernel
theorem dX6_sumOfRises_28 : decode cX6_sumOfRises 28 = .ok (.lstore_n 2, 1) := by decide +kernel
theorem dX6_sumOfRises_29 : decode cX6_sumOfRises 29 = .ok (.iinc 4 1, 3) := by decide +kernel
theorem dX6_sumOfRises_32 : decode cX6_sumOfRises 32 = .ok (.goto (-27), 3) := by decide +kernel
theorem dX6_sumOfRises_35 : decode cX6_sumOfRises 35 = .ok (.lload_n 2, 1) := by decide +kernel
theorem dX6_sumOfRises_36 : decode cX6_sumOfRises 36 = .ok (.lreturn, 1) := by decide +kernel
theorem dX6_isLargeWith_0 : decode cX6_isLargeWith 0 = .ok (.iconst 0, 1) := by decide +kernel
theorem dX6_isLargeWith_1 : decode cX6_isLargeWith 1 = .ok (.istore_n 3, 1) := by decide +kernel
theorem dX6_isLargeWith_2 : decode cX6_isLargeWith 2 = .ok (.iload_n 3, 1) := by decide +kernel
theorem dX6_isLargeWith_3 : decode cX6_isLargeWith 3 = .ok (.aload_n 0, 1) := by decide +kernel
theorem dX6_isLargeWith_4 : decode cX6_isLargeWith 4 = .ok (.getfield 36, 3) := by decide +kernel
theorem dX6_isLargeWith_7 : decode cX6_isLargeWith 7 = .ok (.if_icmp .ge 36, 3) := by decide +kernel
theorem dX6_isLargeWith_10 : decode cX6_isLargeWith 10 = .ok (.aload_n 0, 1) := by decide +kernel
theorem dX6_isLargeWith_11 : decode cX6_isLargeWith 11 = .ok (.getfield 9, 3) := by decide +kernel
theorem dX6_isLargeWith_14 : decode cX6_isLargeWith 14 = .ok (.iload_n 3, 1) := by decide +kernel
theorem dX6_isLargeWith_15 : decode cX6_isLargeWith 15 = .ok (.laload, 1) := by decide +kernel
theorem dX6_isLargeWith_16 : decode cX6_isLargeWith 16 = .ok (.iload_n 2, 1) := by decide +kernel
theorem dX6_isLargeWith_17 : decode cX6_isLargeWith 17 = .ok (.i2l, 1) := by decide +kernel
theorem dX6_isLargeWith_18 : decode cX6_isLargeWith 18 = .ok (.aload_n 1, 1) := by decide +kernel
theorem dX6_isLargeWith_19 : decode cX6_isLargeWith 19 = .ok (.getfield 9, 3) := by decide +kernel
theorem dX6_isLargeWith_22 : decode cX6_isLargeWith 22 = .ok (.iload_n 3, 1) := by decide +kernel
theorem dX6_isLargeWith_23 : decode cX6_isLargeWith 23 = .ok (.laload, 1) := by decide +kernel
theorem dX6_isLargeWith_24 : decode cX6_isLargeWith 24 = .ok (.lmul, 1) := by decide +kernel
theorem dX6_isLargeWith_25 : decode cX6_isLargeWith 25 = .ok (.ladd, 1) := by decide +kernel
theorem dX6_isLargeWith_26 : decode cX6_isLargeWith 26 = .ok (.ldc2_w 75, 3) := by decide +kernel
theorem dX6_isLargeWith_29 : decode cX6_isLargeWith 29 = .ok (.invokestatic 77, 3) := by decide +kernel
theorem dX6_isLargeWith_32 : decode cX6_isLargeWith 32 = .ok (.ifCond .ne 5, 3) := by decide +kernel
theorem dX6_isLargeWith_35 : decode cX6_isLargeWith 35 = .ok (.iconst 1, 1) := by decide +kernel
theorem dX6_isLargeWith_36 : decode cX6_isLargeWith 36 = .ok (.ireturn, 1) := by decide +kernel
theorem dX6_isLargeWith_37 : decode cX6_isLargeWith 37 = .ok (.iinc 3 1, 3) := by decide +kernel
theorem dX6_isLargeWith_40 : decode cX6_isLargeWith 40 = .ok (.goto (-38), 3) := by decide +kernel
theorem dX6_isLargeWith_43 : decode cX6_isLargeWith 43 = .ok (.iconst 0, 1) := by decide +kernel
theorem dX6_isLargeWith_44 : decode cX6_isLargeWith 44 = .ok (.ireturn, 1) := by decide +kernel
theorem dX6_takeWorth_0 : decode cX6_takeWorth 0 = .ok (.aload_n 0, 1) := by decide +kernel
theorem dX6_takeWorth_1 : decode cX6_takeWorth 1 = .ok (.dup, 1) := by decide +kernel
theorem dX6_takeWorth_2 : decode cX6_takeWorth 2 = .ok (.getfield 43, 3) := by decide +kernel
theorem dX6_takeWorth_5 : decode cX6_takeWorth 5 = .ok (.iconst 1, 1) := by decide +kernel
theorem dX6_takeWorth_6 : decode cX6_takeWorth 6 = .ok (.iadd, 1) := by decide +kernel
theorem dX6_takeWorth_7 : decode cX6_takeWorth 7 = .ok (.putfield 43, 3) := by decide +kernel
theorem dX6_takeWorth_10 : decode cX6_takeWorth 10 = .ok (.iconst 0, 1) := by decide +kernel
theorem dX6_takeWorth_11 : decode cX6_takeWorth 11 = .ok (.istore_n 3, 1) := by decide +kernel
theorem dX6_takeWorth_12 : decode cX6_takeWorth 12 = .ok (.iload_n 3, 1) := by decide +kernel
theorem dX6_takeWorth_13 : decode cX6_takeWorth 13 = .ok (.aload_n 0, 1) := by decide +kernel
theorem dX6_takeWorth_14 : decode cX6_takeWorth 14 = .ok (.getfield 36, 3) := by decide +kernel
theorem dX6_takeWorth_17 : decode cX6_takeWorth 17 = .ok (.if_icmp .ge 27, 3) := by decide +kernel
theorem dX6_takeWorth_20 : decode cX6_takeWorth 20 = .ok (.aload_n 0, 1) := by decide +kernel
theorem dX6_takeWorth_21 : decode cX6_takeWorth 21 = .ok (.getfield 9, 3) := by decide +kernel
theorem dX6_takeWorth_24 : decode cX6_takeWorth 24 = .ok (.iload_n 3, 1) := by decide +kernel
theorem dX6_takeWorth_25 : decode cX6_takeWorth 25 = .ok (.dup2, 1) := by decide +kernel
theorem dX6_takeWorth_26 : decode cX6_takeWorth 26 = .ok (.laload, 1) := by decide +kernel
theorem dX6_takeWorth_27 : decode cX6_takeWorth 27 = .ok (.iload_n 2, 1) := by decide +kernel
theorem dX6_takeWorth_28 : decode cX6_takeWorth 28 = .ok (.i2l, 1) := by decide +kernel
theorem dX6_takeWorth_29 : decode cX6_takeWorth 29 = .ok (.aload_n 1, 1) := by decide +kernel
theorem dX6_takeWorth_30 : decode cX6_takeWorth 30 = .ok (.getfield 9, 3) := by decide +kernel
theorem dX6_takeWorth_33 : decode cX6_takeWorth 33 = .ok (.iload_n 3, 1) := by decide +kernel
theorem dX6_takeWorth_34 : decode cX6_takeWorth 34 = .ok (.laload, 1) := by decide +kernel
theorem dX6_takeWorth_35 : decode cX6_takeWorth 35 = .ok (.lmul, 1) := by decide +kernel
theorem dX6_takeWorth_36 : decode cX6_takeWorth 36 = .ok (.ladd, 1) := by decide +kernel
theorem dX6_takeWorth_37 : decode cX6_takeWorth 37 = .ok (.lastore, 1) := by decide +kernel
theorem dX6_takeWorth_38 : decode cX6_takeWorth 38 = .ok (.iinc 3 1, 3) := by decide +kernel
theorem dX6_takeWorth_41 : decode cX6_takeWorth 41 = .ok (.goto (-29), 3) := by decide +kernel
theorem dX6_takeWorth_44 : decode cX6_takeWorth 44 = .ok (.return_, 1) := by decide +kernel
theorem dX6_isLargeWithPrice_0 : decode cX6_isLargeWithPrice 0 = .ok (.iload_n 2, 1) := by decide +kernel
theorem dX6_isLargeWithPrice_1 : decode cX6_isLargeWithPrice 1 = .ok (.aload_n 0, 1) := by decide +kernel
theorem dX6_isLargeWithPrice_2 : decode cX6_isLargeWithPrice 2 = .ok (.getfield 26, 3) := by decide +kernel
theorem dX6_isLargeWithPrice_5 : decode cX6_isLargeWithPrice 5 = .ok (.iload_n 1, 1) := by decide +kernel
theorem dX6_isLargeWithPrice_6 : decode cX6_isLargeWithPrice 6 = .ok (.iaload, 1) := by decide +kernel
theorem dX6_isLargeWithPrice_7 : decode cX6_isLargeWithPrice 7 = .ok (.isub, 1) := by decide +kernel
theorem dX6_isLargeWithPrice_8 : decode cX6_isLargeWithPrice 8 = .ok (.i2l, 1) := by decide +kernel
theorem dX6_isLargeWithPrice_9 : decode cX6_isLargeWithPrice 9 = .ok (.lstore_n 3, 1) := by decide +kernel
theorem dX6_isLargeWithPrice_10 : decode cX6_isLargeWithPrice 10 = .ok (.iconst 0, 1) := by decide +kernel
theorem dX6_isLargeWithPrice_11 : decode cX6_isLargeWithPrice 11 = .ok (.istore 5, 2) := by decide +kernel
theorem dX6_isLargeWithPrice_13 : decode cX6_isLargeWithPrice 13 = .ok (.iload 5, 2) := by decide +kernel
theorem dX6_isLargeWithPrice_15 : decode cX6_isLargeWithPrice 15 = .ok (.aload_n 0, 1) := by decide +kernel
theorem dX6_isLargeWithPrice_16 : decode cX6_isLargeWithPrice 16 = .ok (.getfield 36, 3) := by decide +kernel
theorem dX6_isLargeWithPrice_19 : decode cX6_isLargeWithPrice 19 = .ok (.if_icmp .ge 38, 3) := by decide +kernel
theorem dX6_isLargeWithPrice_22 : decode cX6_isLargeWithPrice 22 = .ok (.iload 5, 2) := by decide +kernel
theorem dX6_isLargeWithPrice_24 : decode cX6_isLargeWithPrice 24 = .ok (.iload_n 1, 1) := by decide +kernel
theorem dX6_isLargeWithPrice_25 : decode cX6_isLargeWithPrice 25 = .ok (.invokestatic 49, 3) := by decide +kernel
theorem dX6_isLargeWithPrice_28 : decode cX6_isLargeWithPrice 28 = .ok (.ifCond .eq 23, 3) := by decide +kernel
theorem dX6_isLargeWithPrice_31 : decode cX6_isLargeWithPrice 31 = .ok (.aload_n 0, 1) := by decide +kernel
theorem dX6_isLargeWithPrice_32 : decode cX6_isLargeWithPrice 32 = .ok (.getfield 9, 3) := by decide +kernel
theorem dX6_isLargeWithPrice_35 : decode cX6_isLargeWithPrice 35 = .ok (.iload 5, 2) := by decide +kernel
theorem dX6_isLargeWithPrice_37 : decode cX6_isLargeWithPrice 37 = .ok (.laload, 1) := by decide +kernel
theorem dX6_isLargeWithPrice_38 : decode cX6_isLargeWithPrice 38 = .ok (.lload_n 3, 1) := by decide +kernel
theorem dX6_isLargeWithPrice_39 : decode cX6_isLargeWithPrice 39 = .ok (.ladd, 1) := by decide +kernel
theorem dX6_isLargeWithPrice_40 : decode cX6_isLargeWithPrice 40 = .ok (.ldc2_w 75, 3) := by decide +kernel
theorem dX6_isLargeWithPrice_43 : decode cX6_isLargeWithPrice 43 = .ok (.invokestatic 77, 3) := by decide +kernel
theorem dX6_isLargeWithPrice_46 : decode cX6_isLargeWithPrice 46 = .ok (.ifCond .ne 5, 3) := by decide +kernel
theorem dX6_isLargeWithPrice_49 : decode cX6_isLargeWithPrice 49 = .ok (.iconst 1, 1) := by decide +kernel
theorem dX6_isLargeWithPrice_50 : decode cX6_isLargeWithPrice 50 = .ok (.ireturn, 1) := by decide +kernel
theorem dX6_isLargeWithPrice_51 : decode cX6_isLargeWithPrice 51 = .ok (.iinc 5 1, 3) := by decide +kernel
theorem dX6_isLargeWithPrice_54 : decode cX6_isLargeWithPrice 54 = .ok (.goto (-41), 3) := by decide +kernel
theorem dX6_isLargeWithPrice_57 : decode cX6_isLargeWithPrice 57 = .ok (.iconst 0, 1) := by decide +kernel
theorem dX6_isLargeWithPrice_58 : decode cX6_isLargeWithPrice 58 = .ok (.ireturn, 1) := by decide +kernel
theorem dX6_takePrice_0 : decode cX6_takePrice 0 = .ok (.iload_n 2, 1) := by decide +kernel
theorem dX6_takePrice_1 : decode cX6_takePrice 1 = .ok (.aload_n 0, 1) := by decide +kernel
theorem dX6_takePrice_2 : decode cX6_takePrice 2 = .ok (.getfield 26, 3) := by decide +kernel
theorem dX6_takePrice_5 : decode cX6_takePrice 5 = .ok (.iload_n 1, 1) := by decide +kernel
theorem dX6_takePrice_6 : decode cX6_takePrice 6 = .ok (.iaload, 1) := by decide +kernel
theorem dX6_takePrice_7 : decode cX6_takePrice 7 = .ok (.isub, 1) := by decide +kernel
theorem dX6_takePrice_8 : decode cX6_takePrice 8 = .ok (.i2l, 1) := by decide +kernel
theorem dX6_takePrice_9 : decode cX6_takePrice 9 = .ok (.lstore_n 3, 1) := by decide +kernel
theorem dX6_takePrice_10 : decode cX6_takePrice 10 = .ok (.aload_n 0, 1) := by decide +kernel
theorem dX6_takePrice_11 : decode cX6_takePrice 11 = .ok (.getfield 26, 3) := by decide +kernel
theorem dX6_takePrice_14 : decode cX6_takePrice 14 = .ok (.iload_n 1, 1) := by decide +kernel
theorem dX6_takePrice_15 : decode cX6_takePrice 15 = .ok (.iload_n 2, 1) := by decide +kernel
theorem dX6_takePrice_16 : decode cX6_takePrice 16 = .ok (.iastore, 1) := by decide +kernel
theorem dX6_takePrice_17 : decode cX6_takePrice 17 = .ok (.iconst 0, 1) := by decide +kernel
theorem dX6_takePrice_18 : decode cX6_takePrice 18 = .ok (.istore 5, 2) := by decide +kernel
theorem dX6_takePrice_20 : decode cX6_takePrice 20 = .ok (.iload 5, 2) := by decide +kernel
theorem dX6_takePrice_22 : decode cX6_takePrice 22 = .ok (.aload_n 0, 1) := by decide +kernel
theorem dX6_takePrice_23 : decode cX6_takePrice 23 = .ok (.getfield 36, 3) := by decide +kernel
theorem dX6_takePrice_26 : decode cX6_takePrice 26 = .ok (.if_icmp .ge 29, 3) := by decide +kernel
theorem dX6_takePrice_29 : decode cX6_takePrice 29 = .ok (.iload 5, 2) := by decide +kernel
theorem dX6_takePrice_31 : decode cX6_takePrice 31 = .ok (.iload_n 1, 1) := by decide +kernel
theorem dX6_takePrice_32 : decode cX6_takePrice 32 = .ok (.invokestatic 49, 3) := by decide +kernel
theorem dX6_takePrice_35 : decode cX6_takePrice 35 = .ok (.ifCond .eq 14, 3) := by decide +kernel
theorem dX6_takePrice_38 : decode cX6_takePrice 38 = .ok (.aload_n 0, 1) := by decide +kernel
theorem dX6_takePrice_39 : decode cX6_takePrice 39 = .ok (.getfield 9, 3) := by decide +kernel
theorem dX6_takePrice_42 : decode cX6_takePrice 42 = .ok (.iload 5, 2) := by decide +kernel
theorem dX6_takePrice_44 : decode cX6_takePrice 44 = .ok (.dup2, 1) := by decide +kernel
theorem dX6_takePrice_45 : decode cX6_takePrice 45 = .ok (.laload, 1) := by decide +kernel
theorem dX6_takePrice_46 : decode cX6_takePrice 46 = .ok (.lload_n 3, 1) := by decide +kernel
theorem dX6_takePrice_47 : decode cX6_takePrice 47 = .ok (.ladd, 1) := by decide +kernel
theorem dX6_takePrice_48 : decode cX6_takePrice 48 = .ok (.lastore, 1) := by decide +kernel
theorem dX6_takePrice_49 : decode cX6_takePrice 49 = .ok (.iinc 5 1, 3) := by decide +kernel
theorem dX6_takePrice_52 : decode cX6_takePrice 52 = .ok (.goto (-32), 3) := by decide +kernel
theorem dX6_takePrice_55 : decode cX6_takePrice 55 = .ok (.return_, 1) := by decide +kernel
theorem dX6_takePart_0 : decode cX6_takePart 0 = .ok (.iconst 0, 1) := by decide +kernel
theorem dX6_takePart_1 : decode cX6_takePart 1 = .ok (.istore_n 3, 1) := by decide +kernel
theorem dX6_takePart_2 : decode cX6_takePart 2 = .ok (.iload_n 3, 1) := by decide +kernel
theorem dX6_takePart_3 : decode cX6_takePart 3 = .ok (.aload_n 0, 1) := by decide +kernel
theorem dX6_takePart_4 : decode cX6_takePart 4 = .ok (.getfield 36, 3) := by decide +kernel
theorem dX6_takePart_7 : decode cX6_takePart 7 = .ok (.if_icmp .ge 23, 3) := by decide +kernel
theorem dX6_takePart_10 : decode cX6_takePart 10 = .ok (.aload_n 0, 1) := by decide +kernel
theorem dX6_takePart_11 : decode cX6_takePart 11 = .ok (.getfield 9, 3) := by decide +kernel
theorem dX6_takePart_14 : decode cX6_takePart 14 = .ok (.iload_n 3, 1) := by decide +kernel
theorem dX6_takePart_15 : decode cX6_takePart 15 = .ok (.aload_n 1, 1) := by decide +kernel
theorem dX6_takePart_16 : decode cX6_takePart 16 = .ok (.getfield 9, 3) := by decide +kernel
theorem dX6_takePart_19 : decode cX6_takePart 19 = .ok (.iload_n 3, 1) := by decide +kernel
theorem dX6_takePart_20 : decode cX6_takePart 20 = .ok (.iload_n 2, 1) := by decide +kernel
theorem dX6_takePart_21 : decode cX6_takePart 21 = .ok (.iand, 1) := by decide +kernel
theorem dX6_takePart_22 : decode cX6_takePart 22 = .ok (.laload, 1) := by decide +kernel
theorem dX6_takePart_23 : decode cX6_takePart 23 = .ok (.lastore, 1) := by decide +kernel
theorem dX6_takePart_24 : decode cX6_takePart 24 = .ok (.iinc 3 1, 3) := by decide +kernel
theorem dX6_takePart_27 : decode cX6_takePart 27 = .ok (.goto (-25), 3) := by decide +kernel
theorem dX6_takePart_30 : decode cX6_takePart 30 = .ok (.return_, 1) := by decide +kernel
theorem dX6_isLargeBeyond_0 : decode cX6_isLargeBeyond 0 = .ok (.iconst 0, 1) := by decide +kernel
theorem dX6_isLargeBeyond_1 : decode cX6_isLargeBeyond 1 = .ok (.istore_n 2, 1) := by decide +kernel
theorem dX6_isLargeBeyond_2 : decode cX6_isLargeBeyond 2 = .ok (.iload_n 2, 1) := by decide +kernel
theorem dX6_isLargeBeyond_3 : decode cX6_isLargeBeyond 3 = .ok (.aload_n 0, 1) := by decide +kernel
theorem dX6_isLargeBeyond_4 : decode cX6_isLargeBeyond 4 = .ok (.getfield 36, 3) := by decide +kernel
theorem dX6_isLargeBeyond_7 : decode cX6_isLargeBeyond 7 = .ok (.if_icmp .ge 35, 3) := by decide +kernel
theorem dX6_isLargeBeyond_10 : decode cX6_isLargeBeyond 10 = .ok (.aload_n 0, 1) := by decide +kernel
theorem dX6_isLargeBeyond_11 : decode cX6_isLargeBeyond 11 = .ok (.getfield 9, 3) := by decide +kernel
theorem dX6_isLargeBeyond_14 : decode cX6_isLargeBeyond 14 = .ok (.iload_n 2, 1) := by decide +kernel
theorem dX6_isLargeBeyond_15 : decode cX6_isLargeBeyond 15 = .ok (.iload_n 1, 1) := by decide +kernel
theorem dX6_isLargeBeyond_16 : decode cX6_isLargeBeyond 16 = .ok (.ior, 1) := by decide +kernel
theorem dX6_isLargeBeyond_17 : decode cX6_isLargeBeyond 17 = .ok (.laload, 1) := by decide +kernel
theorem dX6_isLargeBeyond_18 : decode cX6_isLargeBeyond 18 = .ok (.aload_n 0, 1) := by decide +kernel
theorem dX6_isLargeBeyond_19 : decode cX6_isLargeBeyond 19 = .ok (.getfield 9, 3) := by decide +kernel
theorem dX6_isLargeBeyond_22 : decode cX6_isLargeBeyond 22 = .ok (.iload_n 1, 1) := by decide +kernel
theorem dX6_isLargeBeyond_23 : decode cX6_isLargeBeyond 23 = .ok (.laload, 1) := by decide +kernel
theorem dX6_isLargeBeyond_24 : decode cX6_isLargeBeyond 24 = .ok (.lsub, 1) := by decide +kernel
theorem dX6_isLargeBeyond_25 : decode cX6_isLargeBeyond 25 = .ok (.ldc2_w 75, 3) := by decide +kernel
theorem dX6_isLargeBeyond_28 : decode cX6_isLargeBeyond 28 = .ok (.invokestatic 77, 3) := by decide +kernel
theorem dX6_isLargeBeyond_31 : decode cX6_isLargeBeyond 31 = .ok (.ifCond .ne 5, 3) := by decide +kernel
theorem dX6_isLargeBeyond_34 : decode cX6_isLargeBeyond 34 = .ok (.iconst 1, 1) := by decide +kernel
theorem dX6_isLargeBeyond_35 : decode cX6_isLargeBeyond 35 = .ok (.ireturn, 1) := by decide +kernel
theorem dX6_isLargeBeyond_36 : decode cX6_isLargeBeyond 36 = .ok (.iinc 2 1, 3) := by decide +kernel
theorem dX6_isLargeBeyond_39 : decode cX6_isLargeBeyond 39 = .ok (.goto (-37), 3) := by decide +kernel
theorem dX6_isLargeBeyond_42 : decode cX6_isLargeBeyond 42 = .ok (.iconst 0, 1) := by decide +kernel
theorem dX6_isLargeBeyond_43 : decode cX6_isLargeBeyond 43 = .ok (.ireturn, 1) := by decide +kernel
theorem dX6_takeBeyond_0 : decode cX6_takeBeyond 0 = .ok (.iconst 0, 1) := by decide +kernel
theorem dX6_takeBeyond_1 : decode cX6_takeBeyond 1 = .ok (.istore_n 3, 1) := by decide +kernel
theorem dX6_takeBeyond_2 : decode cX6_takeBeyond 2 = .ok (.iload_n 3, 1) := by decide +kernel
theorem dX6_takeBeyond_3 : decode cX6_takeBeyond 3 = .ok (.aload_n 0, 1) := by decide +kernel
theorem dX6_takeBeyond_4 : decode cX6_takeBeyond 4 = .ok (.getfield 36, 3) := by decide +kernel
theorem dX6_takeBeyond_7 : decode cX6_takeBeyond 7 = .ok (.if_icmp .ge 30, 3) := by decide +kernel
theorem dX6_takeBeyond_10 : decode cX6_takeBeyond 10 = .ok (.aload_n 0, 1) := by decide +kernel
theorem dX6_takeBeyond_11 : decode cX6_takeBeyond 11 = .ok (.getfield 9, 3) := by decide +kernel
theorem dX6_takeBeyond_14 : decode cX6_takeBeyond 14 = .ok (.iload_n 3, 1) := by decide +kernel
theorem dX6_takeBeyond_15 : decode cX6_takeBeyond 15 = .ok (.aload_n 1, 1) := by decide +kernel
theorem dX6_takeBeyond_16 : decode cX6_takeBeyond 16 = .ok (.getfield 9, 3) := by decide +kernel
theorem dX6_takeBeyond_19 : decode cX6_takeBeyond 19 = .ok (.iload_n 3, 1) := by decide +kernel
theorem dX6_takeBeyond_20 : decode cX6_takeBeyond 20 = .ok (.iload_n 2, 1) := by decide +kernel
theorem dX6_takeBeyond_21 : decode cX6_takeBeyond 21 = .ok (.ior, 1) := by decide +kernel
theorem dX6_takeBeyond_22 : decode cX6_takeBeyond 22 = .ok (.laload, 1) := by decide +kernel
theorem dX6_takeBeyond_23 : decode cX6_takeBeyond 23 = .ok (.aload_n 1, 1) := by decide +kernel
theorem dX6_takeBeyond_24 : decode cX6_takeBeyond 24 = .ok (.getfield 9, 3) := by decide +kernel
theorem dX6_takeBeyond_27 : decode cX6_takeBeyond 27 = .ok (.iload_n 2, 1) := by decide +kernel
theorem dX6_takeBeyond_28 : decode cX6_takeBeyond 28 = .ok (.laload, 1) := by decide +kernel
theorem dX6_takeBeyond_29 : decode cX6_takeBeyond 29 = .ok (.lsub, 1) := by decide +kernel
theorem dX6_takeBeyond_30 : decode cX6_takeBeyond 30 = .ok (.lastore, 1) := by decide +kernel
theorem dX6_takeBeyond_31 : decode cX6_takeBeyond 31 = .ok (.iinc 3 1, 3) := by decide +kernel
theorem dX6_takeBeyond_34 : decode cX6_takeBeyond 34 = .ok (.goto (-32), 3) := by decide +kernel
theorem dX6_takeBeyond_37 : decode cX6_takeBeyond 37 = .ok (.return_, 1) := by decide +kernel
theorem dX6_gain_0 : decode cX6_gain 0 = .ok (.aload_n 0, 1) := by decide +kernel
theorem dX6_gain_1 : decode cX6_gain 1 = .ok (.getfield 9, 3) := by decide +kernel
theorem dX6_gain_4 : decode cX6_gain 4 = .ok (.iload_n 1, 1) := by decide +kernel
theorem dX6_gain_5 : decode cX6_gain 5 = .ok (.iconst 1, 1) := by decide +kernel
theorem dX6_gain_6 : decode cX6_gain 6 = .ok (.iload_n 2, 1) := by decide +kernel
theorem dX6_gain_7 : decode cX6_gain 7 = .ok (.ishl, 1) := by decide +kernel
theorem dX6_gain_8 : decode cX6_gain 8 = .ok (.ior, 1) := by decide +kernel
theorem dX6_gain_9 : decode cX6_gain 9 = .ok (.laload, 1) := by decide +kernel
theorem dX6_gain_10 : decode cX6_gain 10 = .ok (.aload_n 0, 1) := by decide +kernel
theorem dX6_gain_11 : decode cX6_gain 11 = .ok (.getfield 9, 3) := by decide +kernel
theorem dX6_gain_14 : decode cX6_gain 14 = .ok (.iload_n 1, 1) := by decide +kernel
theorem dX6_gain_15 : decode cX6_gain 15 = .ok (.laload, 1) := by decide +kernel
theorem dX6_gain_16 : decode cX6_gain 16 = .ok (.lsub, 1) := by decide +kernel
theorem dX6_gain_17 : decode cX6_gain 17 = .ok (.lreturn, 1) := by decide +kernel
theorem dX6_leastValue_0 : decode cX6_leastValue 0 = .ok (.lconst 0, 1) := by decide +kernel
theorem dX6_leastValue_1 : decode cX6_leastValue 1 = .ok (.lstore_n 1, 1) := by decide +kernel
theorem dX6_leastValue_2 : decode cX6_leastValue 2 = .ok (.iconst 0, 1) := by decide +kernel
theorem dX6_leastValue_3 : decode cX6_leastValue 3 = .ok (.istore_n 3, 1) := by decide +kernel
theorem dX6_leastValue_4 : decode cX6_leastValue 4 = .ok (.iload_n 3, 1) := by decide +kernel
theorem dX6_leastValue_5 : decode cX6_leastValue 5 = .ok (.aload_n 0, 1) := by decide +kernel
theorem dX6_leastValue_6 : decode cX6_leastValue 6 = .ok (.getfield 36, 3) := by decide +kernel
theorem dX6_leastValue_9 : decode cX6_leastValue 9 = .ok (.if_icmp .ge 20, 3) := by decide +kernel
theorem dX6_leastValue_12 : decode cX6_leastValue 12 = .ok (.lload_n 1, 1) := by decide +kernel
theorem dX6_leastValue_13 : decode cX6_leastValue 13 = .ok (.aload_n 0, 1) := by decide +kernel
theorem dX6_leastValue_14 : decode cX6_leastValue 14 = .ok (.getfield 9, 3) := by decide +kernel
theorem dX6_leastValue_17 : decode cX6_leastValue 17 = .ok (.iload_n 3, 1) := by decide +kernel
theorem dX6_leastValue_18 : decode cX6_leastValue 18 = .ok (.laload, 1) := by decide +kernel
theorem dX6_leastValue_19 : decode cX6_leastValue 19 = .ok (.invokestatic 81, 3) := by decide +kernel
theorem dX6_leastValue_22 : decode cX6_leastValue 22 = .ok (.lstore_n 1, 1) := by decide +kernel
theorem dX6_leastValue_23 : decode cX6_leastValue 23 = .ok (.iinc 3 1, 3) := by decide +kernel
theorem dX6_leastValue_26 : decode cX6_leastValue 26 = .ok (.goto (-22), 3) := by decide +kernel
theorem dX6_leastValue_29 : decode cX6_leastValue 29 = .ok (.lload_n 1, 1) := by decide +kernel
theorem dX6_leastValue_30 : decode cX6_leastValue 30 = .ok (.lreturn, 1) := by decide +kernel
theorem dX6_leastSet_0 : decode cX6_leastSet 0 = .ok (.aload_n 0, 1) := by decide +kernel
theorem dX6_leastSet_1 : decode cX6_leastSet 1 = .ok (.invokevirtual 84, 3) := by decide +kernel
theorem dX6_leastSet_4 : decode cX6_leastSet 4 = .ok (.lstore_n 2, 1) := by decide +kernel
theorem dX6_leastSet_5 : decode cX6_leastSet 5 = .ok (.iconst 0, 1) := by decide +kernel
theorem dX6_leastSet_6 : decode cX6_leastSet 6 = .ok (.istore 4, 2) := by decide +kernel
theorem dX6_leastSet_8 : decode cX6_leastSet 8 = .ok (.iconst 0, 1) := by decide +kernel
theorem dX6_leastSet_9 : decode cX6_leastSet 9 = .ok (.istore 5, 2) := by decide +kernel
theorem dX6_leastSet_11 : decode cX6_leastSet 11 = .ok (.iload 5, 2) := by decide +kernel
theorem dX6_leastSet_13 : decode cX6_leastSet 13 = .ok (.aload_n 0, 1) := by decide +kernel
theorem dX6_leastSet_14 : decode cX6_leastSet 14 = .ok (.getfield 36, 3) := by decide +kernel
theorem dX6_leastSet_17 : decode cX6_leastSet 17 = .ok (.if_icmp .ge 33, 3) := by decide +kernel
theorem dX6_leastSet_20 : decode cX6_leastSet 20 = .ok (.aload_n 0, 1) := by decide +kernel
theorem dX6_leastSet_21 : decode cX6_leastSet 21 = .ok (.getfield 9, 3) := by decide +kernel
theorem dX6_leastSet_24 : decode cX6_leastSet 24 = .ok (.iload 5, 2) := by decide +kernel
theorem dX6_leastSet_26 : decode cX6_leastSet 26 = .ok (.laload, 1) := by decide +kernel
theorem dX6_leastSet_27 : decode cX6_leastSet 27 = .ok (.lload_n 2, 1) := by decide +kernel
theorem dX6_leastSet_28 : decode cX6_leastSet 28 = .ok (.lcmp, 1) := by decide +kernel
theorem dX6_leastSet_29 : decode cX6_leastSet 29 = .ok (.ifCond .ne 15, 3) := by decide +kernel
theorem dX6_leastSet_32 : decode cX6_leastSet 32 = .ok (.iload 4, 2) := by decide +kernel
theorem dX6_leastSet_34 : decode cX6_leastSet 34 = .ok (.iload_n 1, 1) := by decide +kernel
theorem dX6_leastSet_35 : decode cX6_leastSet 35 = .ok (.if_icmp .ne 6, 3) := by decide +kernel
theorem dX6_leastSet_38 : decode cX6_leastSet 38 = .ok (.iload 5, 2) := by decide +kernel
theorem dX6_leastSet_40 : decode cX6_leastSet 40 = .ok (.ireturn, 1) := by decide +kernel
theorem dX6_leastSet_41 : decode cX6_leastSet 41 = .ok (.iinc 4 1, 3) := by decide +kernel
theorem dX6_leastSet_44 : decode cX6_leastSet 44 = .ok (.iinc 5 1, 3) := by decide +kernel
theorem dX6_leastSet_47 : decode cX6_leastSet 47 = .ok (.goto (-36), 3) := by decide +kernel
theorem dX6_leastSet_50 : decode cX6_leastSet 50 = .ok (.iconst (-1), 1) := by decide +kernel
theorem dX6_leastSet_51 : decode cX6_leastSet 51 = .ok (.ireturn, 1) := by decide +kernel
theorem dX6_greedySet_0 : decode cX6_greedySet 0 = .ok (.iconst 0, 1) := by decide +kernel
theorem dX6_greedySet_1 : decode cX6_greedySet 1 = .ok (.istore_n 2, 1) := by decide +kernel
theorem dX6_greedySet_2 : decode cX6_greedySet 2 = .ok (.iconst 0, 1) := by decide +kernel
theorem dX6_greedySet_3 : decode cX6_greedySet 3 = .ok (.istore_n 3, 1) := by decide +kernel
theorem dX6_greedySet_4 : decode cX6_greedySet 4 = .ok (.iload_n 3, 1) := by decide +kernel
theorem dX6_greedySet_5 : decode cX6_greedySet 5 = .ok (.iload_n 1, 1) := by decide +kernel
theorem dX6_greedySet_6 : decode cX6_greedySet 6 = .ok (.if_icmp .ge 31, 3) := by decide +kernel
theorem dX6_greedySet_9 : decode cX6_greedySet 9 = .ok (.aload_n 0, 1) := by decide +kernel
theorem dX6_greedySet_10 : decode cX6_greedySet 10 = .ok (.iload_n 2, 1) := by decide +kernel
theorem dX6_greedySet_11 : decode cX6_greedySet 11 = .ok (.invokevirtual 88, 3) := by decide +kernel
theorem dX6_greedySet_14 : decode cX6_greedySet 14 = .ok (.istore 4, 2) := by decide +kernel
theorem dX6_greedySet_16 : decode cX6_greedySet 16 = .ok (.iload 4, 2) := by decide +kernel
theorem dX6_greedySet_18 : decode cX6_greedySet 18 = .ok (.iconst (-1), 1) := by decide +kernel
theorem dX6_greedySet_19 : decode cX6_greedySet 19 = .ok (.if_icmp .ne 5, 3) := by decide +kernel
theorem dX6_greedySet_22 : decode cX6_greedySet 22 = .ok (.iload_n 2, 1) := by decide +kernel
theorem dX6_greedySet_23 : decode cX6_greedySet 23 = .ok (.ireturn, 1) := by decide +kernel
theorem dX6_greedySet_24 : decode cX6_greedySet 24 = .ok (.iload_n 2, 1) := by decide +kernel
theorem dX6_greedySet_25 : decode cX6_greedySet 25 = .ok (.iconst 1, 1) := by decide +kernel
theorem dX6_greedySet_26 : decode cX6_greedySet 26 = .ok (.iload 4, 2) := by decide +kernel
theorem dX6_greedySet_28 : decode cX6_greedySet 28 = .ok (.ishl, 1) := by decide +kernel
theorem dX6_greedySet_29 : decode cX6_greedySet 29 = .ok (.ior, 1) := by decide +kernel
theorem dX6_greedySet_30 : decode cX6_greedySet 30 = .ok (.istore_n 2, 1) := by decide +kernel
theorem dX6_greedySet_31 : decode cX6_greedySet 31 = .ok (.iinc 3 1, 3) := by decide +kernel
theorem dX6_greedySet_34 : decode cX6_greedySet 34 = .ok (.goto (-30), 3) := by decide +kernel
theorem dX6_greedySet_37 : decode cX6_greedySet 37 = .ok (.iload_n 2, 1) := by decide +kernel
theorem dX6_greedySet_38 : decode cX6_greedySet 38 = .ok (.ireturn, 1) := by decide +kernel
theorem dX6_greatestGain_0 : decode cX6_greatestGain 0 = .ok (.iconst (-1), 1) := by decide +kernel
theorem dX6_greatestGain_1 : decode cX6_greatestGain 1 = .ok (.istore_n 2, 1) := by decide +kernel
theorem dX6_greatestGain_2 : decode cX6_greatestGain 2 = .ok (.lconst 0, 1) := by decide +kernel
theorem dX6_greatestGain_3 : decode cX6_greatestGain 3 = .ok (.lstore_n 3, 1) := by decide +kernel
theorem dX6_greatestGain_4 : decode cX6_greatestGain 4 = .ok (.iconst 0, 1) := by decide +kernel
theorem dX6_greatestGain_5 : decode cX6_greatestGain 5 = .ok (.istore 5, 2) := by decide +kernel
theorem dX6_greatestGain_7 : decode cX6_greatestGain 7 = .ok (.iload 5, 2) := by decide +kernel
theorem dX6_greatestGain_9 : decode cX6_greatestGain 9 = .ok (.aload_n 0, 1) := by decide +kernel
theorem dX6_greatestGain_10 : decode cX6_greatestGain 10 = .ok (.getfield 33, 3) := by decide +kernel
theorem dX6_greatestGain_13 : decode cX6_greatestGain 13 = .ok (.if_icmp .ge 32, 3) := by decide +kernel
theorem dX6_greatestGain_16 : decode cX6_greatestGain 16 = .ok (.aload_n 0, 1) := by decide +kernel
theorem dX6_greatestGain_17 : decode cX6_greatestGain 17 = .ok (.iload_n 1, 1) := by decide +kernel
theorem dX6_greatestGain_18 : decode cX6_greatestGain 18 = .ok (.iload 5, 2) := by decide +kernel
theorem dX6_greatestGain_20 : decode cX6_greatestGain 20 = .ok (.invokevirtual 91, 3) := by decide +kernel
theorem dX6_greatestGain_23 : decode cX6_greatestGain 23 = .ok (.lload_n 3, 1) := by decide +kernel
theorem dX6_greatestGain_24 : decode cX6_greatestGain 24 = .ok (.lcmp, 1) := by decide +kernel
theorem dX6_greatestGain_25 : decode cX6_greatestGain 25 = .ok (.ifCond .le 14, 3) := by decide +kernel
theorem dX6_greatestGain_28 : decode cX6_greatestGain 28 = .ok (.aload_n 0, 1) := by decide +kernel
theorem dX6_greatestGain_29 : decode cX6_greatestGain 29 = .ok (.iload_n 1, 1) := by decide +kernel
theorem dX6_greatestGain_30 : decode cX6_greatestGain 30 = .ok (.iload 5, 2) := by decide +kernel
theorem dX6_greatestGain_32 : decode cX6_greatestGain 32 = .ok (.invokevirtual 91, 3) := by decide +kernel
theorem dX6_greatestGain_35 : decode cX6_greatestGain 35 = .ok (.lstore_n 3, 1) := by decide +kernel
theorem dX6_greatestGain_36 : decode cX6_greatestGain 36 = .ok (.iload 5, 2) := by decide +kernel
theorem dX6_greatestGain_38 : decode cX6_greatestGain 38 = .ok (.istore_n 2, 1) := by decide +kernel
theorem dX6_greatestGain_39 : decode cX6_greatestGain 39 = .ok (.iinc 5 1, 3) := by decide +kernel
theorem dX6_greatestGain_42 : decode cX6_greatestGain 42 = .ok (.goto (-35), 3) := by decide +kernel
theorem dX6_greatestGain_45 : decode cX6_greatestGain 45 = .ok (.iload_n 2, 1) := by decide +kernel
theorem dX6_greatestGain_46 : decode cX6_greatestGain 46 = .ok (.ireturn, 1) := by decide +kernel
theorem dX6_greatestValue_0 : decode cX6_greatestValue 0 = .ok (.lconst 0, 1) := by decide +kernel
theorem dX6_greatestValue_1 : decode cX6_greatestValue 1 = .ok (.lstore_n 2, 1) := by decide +kernel
theorem dX6_greatestValue_2 : decode cX6_greatestValue 2 = .ok (.iconst 0, 1) := by decide +kernel
theorem dX6_greatestValue_3 : decode cX6_greatestValue 3 = .ok (.istore 4, 2) := by decide +kernel
theorem dX6_greatestValue_5 : decode cX6_greatestValue 5 = .ok (.iload 4, 2) := by decide +kernel
theorem dX6_greatestValue_7 : decode cX6_greatestValue 7 = .ok (.aload_n 0, 1) := by decide +kernel
theorem dX6_greatestValue_8 : decode cX6_greatestValue 8 = .ok (.getfield 36, 3) := by decide +kernel
theorem dX6_greatestValue_11 : decode cX6_greatestValue 11 = .ok (.if_icmp .ge 30, 3) := by decide +kernel
theorem dX6_greatestValue_14 : decode cX6_greatestValue 14 = .ok (.iload 4, 2) := by decide +kernel
theorem dX6_greatestValue_16 : decode cX6_greatestValue 16 = .ok (.invokestatic 57, 3) := by decide +kernel
theorem dX6_greatestValue_19 : decode cX6_greatestValue 19 = .ok (.iload_n 1, 1) := by decide +kernel
theorem dX6_greatestValue_20 : decode cX6_greatestValue 20 = .ok (.if_icmp .gt 15, 3) := by decide +kernel
theorem dX6_greatestValue_23 : decode cX6_greatestValue 23 = .ok (.lload_n 2, 1) := by decide +kernel
theorem dX6_greatestValue_24 : decode cX6_greatestValue 24 = .ok (.aload_n 0, 1) := by decide +kernel
theorem dX6_greatestValue_25 : decode cX6_greatestValue 25 = .ok (.getfield 9, 3) := by decide +kernel
theorem dX6_greatestValue_28 : decode cX6_greatestValue 28 = .ok (.iload 4, 2) := by decide +kernel
theorem dX6_greatestValue_30 : decode cX6_greatestValue 30 = .ok (.laload, 1) := by decide +kernel
theorem dX6_greatestValue_31 : decode cX6_greatestValue 31 = .ok (.invokestatic 66, 3) := by decide +kernel
theorem dX6_greatestValue_34 : decode cX6_greatestValue 34 = .ok (.lstore_n 2, 1) := by decide +kernel
theorem dX6_greatestValue_35 : decode cX6_greatestValue 35 = .ok (.iinc 4 1, 3) := by decide +kernel
theorem dX6_greatestValue_38 : decode cX6_greatestValue 38 = .ok (.goto (-33), 3) := by decide +kernel
theorem dX6_greatestValue_41 : decode cX6_greatestValue 41 = .ok (.lload_n 2, 1) := by decide +kernel
theorem dX6_greatestValue_42 : decode cX6_greatestValue 42 = .ok (.lreturn, 1) := by decide +kernel
theorem dX7_init_0 : decode cX7_init 0 = .ok (.aload_n 0, 1) := by decide +kernel
theorem dX7_init_1 : decode cX7_init 1 = .ok (.invokespecial 3, 3) := by decide +kernel
theorem dX7_init_4 : decode cX7_init 4 = .ok (.aload_n 0, 1) := by decide +kernel
theorem dX7_init_5 : decode cX7_init 5 = .ok (.bipush 12, 2) := by decide +kernel
theorem dX7_init_7 : decode cX7_init 7 = .ok (.anewarray 9, 3) := by decide +kernel
theorem dX7_init_10 : decode cX7_init 10 = .ok (.putfield 11, 3) := by decide +kernel
theorem dX7_init_13 : decode cX7_init 13 = .ok (.iconst 0, 1) := by decide +kernel
theorem dX7_init_14 : decode cX7_init 14 = .ok (.istore_n 1, 1) := by decide +kernel
theorem dX7_init_15 : decode cX7_init 15 = .ok (.iload_n 1, 1) := by decide +kernel
theorem dX7_init_16 : decode cX7_init 16 = .ok (.bipush 12, 2) := by decide +kernel
theorem dX7_init_18 : decode cX7_init 18 = .ok (.if_icmp .ge 22, 3) := by decide +kernel
theorem dX7_init_21 : decode cX7_init 21 = .ok (.aload_n 0, 1) := by decide +kernel
theorem dX7_init_22 : decode cX7_init 22 = .ok (.getfield 11, 3) := by decide +kernel
theorem dX7_init_25 : decode cX7_init 25 = .ok (.iload_n 1, 1) := by decide +kernel
theorem dX7_init_26 : decode cX7_init 26 = .ok (.new 9, 3) := by decide +kernel
theorem dX7_init_29 : decode cX7_init 29 = .ok (.dup, 1) := by decide +kernel
theorem dX7_init_30 : decode cX7_init 30 = .ok (.invokespecial 15, 3) := by decide +kernel
theorem dX7_init_33 : decode cX7_init 33 = .ok (.aastore, 1) := by decide +kernel
theorem dX7_init_34 : decode cX7_init 34 = .ok (.iinc 1 1, 3) := by decide +kernel
theorem dX7_init_37 : decode cX7_init 37 = .ok (.goto (-22), 3) := by decide +kernel
theorem dX7_init_40 : decode cX7_init 40 = .ok (.aload_n 0, 1) := by decide +kernel
theorem dX7_init_41 : decode cX7_init 41 = .ok (.iconst 4, 1) := by decide +kernel
theorem dX7_init_42 : decode cX7_init 42 = .ok (.anewarray 16, 3) := by decide +kernel
theorem dX7_init_45 : decode cX7_init 45 = .ok (.putfield 18, 3) := by decide +kernel
theorem dX7_init_48 : decode cX7_init 48 = .ok (.iconst 0, 1) := by decide +kernel
theorem dX7_init_49 : decode cX7_init 49 = .ok (.istore_n 1, 1) := by decide +kernel
theorem dX7_init_50 : decode cX7_init 50 = .ok (.iload_n 1, 1) := by decide +kernel
theorem dX7_init_51 : decode cX7_init 51 = .ok (.iconst 4, 1) := by decide +kernel
theorem dX7_init_52 : decode cX7_init 52 = .ok (.if_icmp .ge 22, 3) := by decide +kernel
theorem dX7_init_55 : decode cX7_init 55 = .ok (.aload_n 0, 1) := by decide +kernel
theorem dX7_init_56 : decode cX7_init 56 = .ok (.getfield 18, 3) := by decide +kernel
theorem dX7_init_59 : decode cX7_init 59 = .ok (.iload_n 1, 1) := by decide +kernel
theorem dX7_init_60 : decode cX7_init 60 = .ok (.new 16, 3) := by decide +kernel
theorem dX7_init_63 : decode cX7_init 63 = .ok (.dup, 1) := by decide +kernel
theorem dX7_init_64 : decode cX7_init 64 = .ok (.invokespecial 22, 3) := by decide +kernel
theorem dX7_init_67 : decode cX7_init 67 = .ok (.aastore, 1) := by decide +kernel
theorem dX7_init_68 : decode cX7_init 68 = .ok (.iinc 1 1, 3) := by decide +kernel
theorem dX7_init_71 : decode cX7_init 71 = .ok (.goto (-21), 3) := by decide +kernel
theorem dX7_init_74 : decode cX7_init 74 = .ok (.aload_n 0, 1) := by decide +kernel
theorem dX7_init_75 : decode cX7_init 75 = .ok (.new 23, 3) := by decide +kernel
theorem dX7_init_78 : decode cX7_init 78 = .ok (.dup, 1) := by decide +kernel
theorem dX7_init_79 : decode cX7_init 79 = .ok (.invokespecial 25, 3) := by decide +kernel
theorem dX7_init_82 : decode cX7_init 82 = .ok (.putfield 26, 3) := by decide +kernel
theorem dX7_init_85 : decode cX7_init 85 = .ok (.aload_n 0, 1) := by decide +kernel
theorem dX7_init_86 : decode cX7_init 86 = .ok (.new 30, 3) := by decide +kernel
theorem dX7_init_89 : decode cX7_init 89 = .ok (.dup, 1) := by decide +kernel
theorem dX7_init_90 : decode cX7_init 90 = .ok (.invokespecial 32, 3) := by decide +kernel
theorem dX7_init_93 : decode cX7_init 93 = .ok (.putfield 33, 3) := by decide +kernel
theorem dX7_init_96 : decode cX7_init 96 = .ok (.aload_n 0, 1) := by decide +kernel
theorem dX7_init_97 : decode cX7_init 97 = .ok (.new 37, 3) := by decide +kernel
theorem dX7_init_100 : decode cX7_init 100 = .ok (.dup, 1) := by decide +kernel
theorem dX7_init_101 : decode cX7_init 101 = .ok (.invokespecial 39, 3) := by decide +kernel
theorem dX7_init_104 : decode cX7_init 104 = .ok (.putfield 40, 3) := by decide +kernel
theorem dX7_init_107 : decode cX7_init 107 = .ok (.aload_n 0, 1) := by decide +kernel
theorem dX7_init_108 : decode cX7_init 108 = .ok (.new 44, 3) := by decide +kernel
theorem dX7_init_111 : decode cX7_init 111 = .ok (.dup, 1) := by decide +kernel
theorem dX7_init_112 : decode cX7_init 112 = .ok (.invokespecial 46, 3) := by decide +kernel
theorem dX7_init_115 : decode cX7_init 115 = .ok (.putfield 47, 3) := by decide +kernel
theorem dX7_init_118 : decode cX7_init 118 = .ok (.return_, 1) := by decide +kernel
theorem dX7_things_0 : decode cX7_things 0 = .ok (.iload_n 1, 1) := by decide +kernel
theorem dX7_things_1 : decode cX7_things 1 = .ok (.i2l, 1) := by decide +kernel
theorem dX7_things_2 : decode cX7_things 2 = .ok (.lconst 0, 1) := by decide +kernel
theorem dX7_things_3 : decode cX7_things 3 = .ok (.ldc2_w 51, 3) := by decide +kernel
theorem dX7_things_6 : decode cX7_things 6 = .ok (.invokestatic 53, 3) := by decide +kernel
theorem dX7_things_9 : decode cX7_things 9 = .ok (.ifCond .ne 7, 3) := by decide +kernel
theorem dX7_things_12 : decode cX7_things 12 = .ok (.sipush (-1002), 3) := by decide +kernel
theorem dX7_things_15 : decode cX7_things 15 = .ok (.ireturn, 1) := by decide +kernel
theorem dX7_things_16 : decode cX7_things 16 = .ok (.aload_n 0, 1) := by decide +kernel
theorem dX7_things_17 : decode cX7_things 17 = .ok (.getfield 57, 3) := by decide +kernel
theorem dX7_things_20 : decode cX7_things 20 = .ok (.istore_n 2, 1) := by decide +kernel
theorem dX7_things_21 : decode cX7_things 21 = .ok (.aload_n 0, 1) := by decide +kernel
theorem dX7_things_22 : decode cX7_things 22 = .ok (.iload_n 1, 1) := by decide +kernel
theorem dX7_things_23 : decode cX7_things 23 = .ok (.putfield 61, 3) := by decide +kernel
theorem dX7_things_26 : decode cX7_things 26 = .ok (.aload_n 0, 1) := by decide +kernel
theorem dX7_things_27 : decode cX7_things 27 = .ok (.iconst 0, 1) := by decide +kernel
theorem dX7_things_28 : decode cX7_things 28 = .ok (.putfield 57, 3) := by decide +kernel
theorem dX7_things_31 : decode cX7_things 31 = .ok (.aload_n 0, 1) := by decide +kernel
theorem dX7_things_32 : decode cX7_things 32 = .ok (.getfield 47, 3) := by decide +kernel
theorem dX7_things_35 : decode cX7_things 35 = .ok (.iload_n 1, 1) := by decide +kernel
theorem dX7_things_36 : decode cX7_things 36 = .ok (.invokevirtual 64, 3) := by decide +kernel
theorem dX7_things_39 : decode cX7_things 39 = .ok (.iload_n 2, 1) := by decide +kernel
theorem dX7_things_40 : decode cX7_things 40 = .ok (.ireturn, 1) := by decide +kernel
theorem dX7_sheet_0 : decode cX7_sheet 0 = .ok (.iload_n 1, 1) := by decide +kernel
theorem dX7_sheet_1 : decode cX7_sheet 1 = .ok (.invokestatic 68, 3) := by decide +kernel
theorem dX7_sheet_4 : decode cX7_sheet 4 = .ok (.ifCond .ne 7, 3) := by decide +kernel
theorem dX7_sheet_7 : decode cX7_sheet 7 = .ok (.sipush (-1001), 3) := by decide +kernel
theorem dX7_sheet_10 : decode cX7_sheet 10 = .ok (.ireturn, 1) := by decide +kernel
theorem dX7_sheet_11 : decode cX7_sheet 11 = .ok (.iload_n 2, 1) := by decide +kernel
theorem dX7_sheet_12 : decode cX7_sheet 12 = .ok (.invokestatic 72, 3) := by decide +kernel
theorem dX7_sheet_15 : decode cX7_sheet 15 = .ok (.ifCond .eq 10, 3) := by decide +kernel
theorem dX7_sheet_18 : decode cX7_sheet 18 = .ok (.iload_n 3, 1) := by decide +kernel
theorem dX7_sheet_19 : decode cX7_sheet 19 = .ok (.sipush 1100, 3) := by decide +kernel
theorem dX7_sheet_22 : decode cX7_sheet 22 = .ok (.if_icmp .le 7, 3) := by decide +kernel
theorem dX7_sheet_25 : decode cX7_sheet 25 = .ok (.sipush (-1002), 3) := by decide +kernel
theorem dX7_sheet_28 : decode cX7_sheet 28 = .ok (.ireturn, 1) := by decide +kernel
theorem dX7_sheet_29 : decode cX7_sheet 29 = .ok (.iload_n 3, 1) := by decide +kernel
theorem dX7_sheet_30 : decode cX7_sheet 30 = .ok (.ifCond .ge 9, 3) := by decide +kernel
theorem dX7_sheet_33 : decode cX7_sheet 33 = .ok (.aload_n 0, 1) := by decide +kernel
theorem dX7_sheet_34 : decode cX7_sheet 34 = .ok (.iconst 4, 1) := by decide +kernel
theorem dX7_sheet_35 : decode cX7_sheet 35 = .ok (.invokevirtual 75, 3) := by decide +kernel
theorem dX7_sheet_38 : decode cX7_sheet 38 = .ok (.ireturn, 1) := by decide +kernel
theorem dX7_sheet_39 : decode cX7_sheet 39 = .ok (.aload_n 0, 1) := by decide +kernel
theorem dX7_sheet_40 : decode cX7_sheet 40 = .ok (.iconst 0, 1) := by decide +kernel
theorem dX7_sheet_41 : decode cX7_sheet 41 = .ok (.putfield 79, 3) := by decide +kernel
theorem dX7_sheet_44 : decode cX7_sheet 44 = .ok (.aload_n 0, 1) := by decide +kernel
theorem dX7_sheet_45 : decode cX7_sheet 45 = .ok (.getfield 18, 3) := by decide +kernel
theorem dX7_sheet_48 : decode cX7_sheet 48 = .ok (.iload_n 1, 1) := by decide +kernel
theorem dX7_sheet_49 : decode cX7_sheet 49 = .ok (.aaload, 1) := by decide +kernel
theorem dX7_sheet_50 : decode cX7_sheet 50 = .ok (.iload_n 2, 1) := by decide +kernel
theorem dX7_sheet_51 : decode cX7_sheet 51 = .ok (.iload_n 3, 1) := by decide +kernel
theorem dX7_sheet_52 : decode cX7_sheet 52 = .ok (.invokevirtual 82, 3) := by decide +kernel
theorem dX7_sheet_55 : decode cX7_sheet 55 = .ok (.iload_n 3, 1) := by decide +kernel
theorem dX7_sheet_56 : decode cX7_sheet 56 = .ok (.ireturn, 1) := by decide +kernel
theorem dX7_tear_0 : decode cX7_tear 0 = .ok (.iload_n 1, 1) := by decide +kernel
theorem dX7_tear_1 : decode cX7_tear 1 = .ok (.invokestatic 68, 3) := by decide +kernel
theorem dX7_tear_4 : decode cX7_tear 4 = .ok (.ifCond .ne 7, 3) := by decide +kernel
theorem dX7_tear_7 : decode cX7_tear 7 = .ok (.sipush (-1001), 3) := by decide +kernel
theorem dX7_tear_10 : decode cX7_tear 10 = .ok (.ireturn, 1) := by decide +kernel
theorem dX7_tear_11 : decode cX7_tear 11 = .ok (.aload_n 0, 1) := by decide +kernel
theorem dX7_tear_12 : decode cX7_tear 12 = .ok (.getfield 18, 3) := by decide +kernel
theorem dX7_tear_15 : decode cX7_tear 15 = .ok (.iload_n 1, 1) := by decide +kernel
theorem dX7_tear_16 : decode cX7_tear 16 = .ok (.aaload, 1) := by decide +kernel
theorem dX7_tear_17 : decode cX7_tear 17 = .ok (.getfield 86, 3) := by decide +kernel
theorem dX7_tear_20 : decode cX7_tear 20 = .ok (.ifCond .eq 7, 3) := by decide +kernel
theorem dX7_tear_23 : decode cX7_tear 23 = .ok (.iconst 1, 1) := by decide +kernel
theorem dX7_tear_24 : decode cX7_tear 24 = .ok (.goto 4, 3) := by decide +kernel
theorem dX7_tear_27 : decode cX7_tear 27 = .ok (.iconst 0, 1) := by decide +kernel
theorem dX7_tear_28 : decode cX7_tear 28 = .ok (.istore_n 2, 1) := by decide +kernel
theorem dX7_tear_29 : decode cX7_tear 29 = .ok (.aload_n 0, 1) := by decide +kernel
theorem dX7_tear_30 : decode cX7_tear 30 = .ok (.getfield 18, 3) := by decide +kernel
theorem dX7_tear_33 : decode cX7_tear 33 = .ok (.iload_n 1, 1) := by decide +kernel
theorem dX7_tear_34 : decode cX7_tear 34 = .ok (.aaload, 1) := by decide +kernel
theorem dX7_tear_35 : decode cX7_tear 35 = .ok (.iconst 0, 1) := by decide +kernel
theorem dX7_tear_36 : decode cX7_tear 36 = .ok (.putfield 86, 3) := by decide +kernel
theorem dX7_tear_39 : decode cX7_tear 39 = .ok (.iload_n 2, 1) := by decide +kernel
theorem dX7_tear_40 : decode cX7_tear 40 = .ok (.ireturn, 1) := by decide +kernel
theorem dX7_put_0 : decode cX7_put 0 = .ok (.iload_n 1, 1) := by decide +kernel
theorem dX7_put_1 : decode cX7_put 1 = .ok (.invokestatic 68, 3) := by decide +kernel
theorem dX7_put_4 : decode cX7_put 4 = .ok (.ifCond .ne 7, 3) := by decide +kernel
theorem dX7_put_7 : decode cX7_put 7 = .ok (.ldc2_w 90, 3) := by decide +kernel
theorem dX7_put_10 : decode cX7_put 10 = .ok (.lreturn, 1) := by decide +kernel
theorem dX7_put_11 : decode cX7_put 11 = .ok (.iload_n 2, 1) := by decide +kernel
theorem dX7_put_12 : decode cX7_put 12 = .ok (.invokestatic 72, 3) := by decide +kernel
theorem dX7_put_15 : decode cX7_put 15 = .ok (.ifCond .ne 7, 3) := by decide +kernel
theorem dX7_put_18 : decode cX7_put 18 = .ok (.ldc2_w 92, 3) := by decide +kernel
theorem dX7_put_21 : decode cX7_put 21 = .ok (.lreturn, 1) := by decide +kernel
theorem dX7_put_22 : decode cX7_put 22 = .ok (.aload_n 0, 1) := by decide +kernel
theorem dX7_put_23 : decode cX7_put 23 = .ok (.getfield 18, 3) := by decide +kernel
theorem dX7_put_26 : decode cX7_put 26 = .ok (.iload_n 1, 1) := by decide +kernel
theorem dX7_put_27 : decode cX7_put 27 = .ok (.aaload, 1) := by decide +kernel
theorem dX7_put_28 : decode cX7_put 28 = .ok (.astore 6, 2) := by decide +kernel
theorem dX7_put_30 : decode cX7_put 30 = .ok (.aload 6, 2) := by decide +kernel
theorem dX7_put_32 : decode cX7_put 32 = .ok (.getfield 86, 3) := by decide +kernel
theorem dX7_put_35 : decode cX7_put 35 = .ok (.ifCond .ne 10, 3) := by decide +kernel
theorem dX7_put_38 : decode cX7_put 38 = .ok (.aload_n 0, 1) := by decide +kernel
theorem dX7_put_39 : decode cX7_put 39 = .ok (.iconst 1, 1) := by decide +kernel
theorem dX7_put_40 : decode cX7_put 40 = .ok (.invokevirtual 75, 3) := by decide +kernel
theorem dX7_put_43 : decode cX7_put 43 = .ok (.i2l, 1) := by decide +kernel
theorem dX7_put_44 : decode cX7_put 44 = .ok (.lreturn, 1) := by decide +kernel
theorem dX7_put_45 : decode cX7_put 45 = .ok (.aload 6, 2) := by decide +kernel
theorem dX7_put_47 : decode cX7_put 47 = .ok (.getfield 94, 3) := by decide +kernel
theorem dX7_put_50 : decode cX7_put 50 = .ok (.iload_n 2, 1) := by decide +kernel
theorem dX7_put_51 : decode cX7_put 51 = .ok (.if_icmp .eq 10, 3) := by decide +kernel
theorem dX7_put_54 : decode cX7_put 54 = .ok (.aload_n 0, 1) := by decide +kernel
theorem dX7_put_55 : decode cX7_put 55 = .ok (.iconst 2, 1) := by decide +kernel
theorem dX7_put_56 : decode cX7_put 56 = .ok (.invokevirtual 75, 3) := by decide +kernel
theorem dX7_put_59 : decode cX7_put 59 = .ok (.i2l, 1) := by decide +kernel
theorem dX7_put_60 : decode cX7_put 60 = .ok (.lreturn, 1) := by decide +kernel
theorem dX7_put_61 : decode cX7_put 61 = .ok (.aload 6, 2) := by decide +kernel
theorem dX7_put_63 : decode cX7_put 63 = .ok (.iload_n 3, 1) := by decide +kernel
theorem dX7_put_64 : decode cX7_put 64 = .ok (.invokevirtual 97, 3) := by decide +kernel
theorem dX7_put_67 : decode cX7_put 67 = .ok (.ifCond .ne 10, 3) := by decide +kernel
theorem dX7_put_70 : decode cX7_put 70 = .ok (.aload_n 0, 1) := by decide +kernel
theorem dX7_put_71 : decode cX7_put 71 = .ok (.iconst 3, 1) := by decide +kernel
theorem dX7_put_72 : decode cX7_put 72 = .ok (.invokevirtual 75, 3) := by decide +kernel
theorem dX7_put_75 : decode cX7_put 75 = .ok (.i2l, 1) := by decide +kernel
theorem dX7_put_76 : decode cX7_put 76 = .ok (.lreturn, 1) := by decide +kernel
theorem dX7_put_77 : decode cX7_put 77 = .ok (.aload_n 0, 1) := by decide +kernel
theorem dX7_put_78 : decode cX7_put 78 = .ok (.iconst 0, 1) := by decide +kernel
theorem dX7_put_79 : decode cX7_put 79 = .ok (.putfield 79, 3) := by decide +kernel
theorem dX7_put_82 : decode cX7_put 82 = .ok (.aload 6, 2) := by decide +kernel
theorem dX7_put_84 : decode cX7_put 84 = .ok (.getfield 100, 3) := by decide +kernel
theorem dX7_put_87 : decode cX7_put 87 = .ok (.iload_n 3, 1) := by decide +kernel
theorem dX7_put_88 : decode cX7_put 88 = .ok (.iload_n 2, 1) := by decide +kernel
theorem dX7_put_89 : decode cX7_put 89 = .ok (.lload 4, 2) := by decide +kernel
theorem dX7_put_91 : decode cX7_put 91 = .ok (.invokestatic 104, 3) := by decide +kernel
theorem dX7_put_94 : decode cX7_put 94 = .ok (.lastore, 1) := by decide +kernel
theorem dX7_put_95 : decode cX7_put 95 = .ok (.aload 6, 2) := by decide +kernel
theorem dX7_put_97 : decode cX7_put 97 = .ok (.getfield 100, 3) := by decide +kernel
theorem dX7_put_100 : decode cX7_put 100 = .ok (.iload_n 3, 1) := by decide +kernel
theorem dX7_put_101 : decode cX7_put 101 = .ok (.laload, 1) := by decide +kernel
theorem dX7_put_102 : decode cX7_put 102 = .ok (.lreturn, 1) := by decide +kernel
theorem dX7_at_0 : decode cX7_at 0 = .ok (.iload_n 1, 1) := by decide +kernel
theorem dX7_at_1 : decode cX7_at 1 = .ok (.invokestatic 68, 3) := by decide +kernel
theorem dX7_at_4 : decode cX7_at 4 = .ok (.ifCond .ne 7, 3) := by decide +kernel
theorem dX7_at_7 : decode cX7_at 7 = .ok (.ldc2_w 90, 3) := by decide +kernel
theorem dX7_at_10 : decode cX7_at 10 = .ok (.lreturn, 1) := by decide +kernel
theorem dX7_at_11 : decode cX7_at 11 = .ok (.aload_n 0, 1) := by decide +kernel
theorem dX7_at_12 : decode cX7_at 12 = .ok (.getfield 18, 3) := by decide +kernel
theorem dX7_at_15 : decode cX7_at 15 = .ok (.iload_n 1, 1) := by decide +kernel
theorem dX7_at_16 : decode cX7_at 16 = .ok (.aaload, 1) := by decide +kernel
theorem dX7_at_17 : decode cX7_at 17 = .ok (.astore_n 3, 1) := by decide +kernel
theorem dX7_at_18 : decode cX7_at 18 = .ok (.aload_n 3, 1) := by decide +kernel
theorem dX7_at_19 : decode cX7_at 19 = .ok (.getfield 86, 3) := by decide +kernel
theorem dX7_at_22 : decode cX7_at 22 = .ok (.ifCond .ne 10, 3) := by decide +kernel
theorem dX7_at_25 : decode cX7_at 25 = .ok (.aload_n 0, 1) := by decide +kernel
theorem dX7_at_26 : decode cX7_at 26 = .ok (.iconst 1, 1) := by decide +kernel
theorem dX7_at_27 : decode cX7_at 27 = .ok (.invokevirtual 75, 3) := by decide +kernel
theorem dX7_at_30 : decode cX7_at 30 = .ok (.i2l, 1) := by decide +kernel
theorem dX7_at_31 : decode cX7_at 31 = .ok (.lreturn, 1) := by decide +kernel
theorem dX7_at_32 : decode cX7_at 32 = .ok (.aload_n 3, 1) := by decide +kernel
theorem dX7_at_33 : decode cX7_at 33 = .ok (.iload_n 2, 1) := by decide +kernel
theorem dX7_at_34 : decode cX7_at 34 = .ok (.invokevirtual 97, 3) := by decide +kernel
theorem dX7_at_37 : decode cX7_at 37 = .ok (.ifCond .ne 10, 3) := by decide +kernel
theorem dX7_at_40 : decode cX7_at 40 = .ok (.aload_n 0, 1) := by decide +kernel
theorem dX7_at_41 : decode cX7_at 41 = .ok (.iconst 3, 1) := by decide +kernel
theorem dX7_at_42 : decode cX7_at 42 = .ok (.invokevirtual 75, 3) := by decide +kernel
theorem dX7_at_45 : decode cX7_at 45 = .ok (.i2l, 1) := by decide +kernel
theorem dX7_at_46 : decode cX7_at 46 = .ok (.lreturn, 1) := by decide +kernel
theorem dX7_at_47 : decode cX7_at 47 = .ok (.aload_n 0, 1) := by decide +kernel
theorem dX7_at_48 : decode cX7_at 48 = .ok (.iconst 0, 1) := by decide +kernel
theorem dX7_at_49 : decode cX7_at 49 = .ok (.putfield 79, 3) := by decide +kernel
theorem dX7_at_52 : decode cX7_at 52 = .ok (.aload_n 3, 1) := by decide +kernel
theorem dX7_at_53 : decode cX7_at 53 = .ok (.getfield 100, 3) := by decide +kernel
theorem dX7_at_56 : decode cX7_at 56 = .ok (.iload_n 2, 1) := by decide +kernel
theorem dX7_at_57 : decode cX7_at 57 = .ok (.laload, 1) := by decide +kernel
theorem dX7_at_58 : decode cX7_at 58 = .ok (.lreturn, 1) := by decide +kernel
theorem dX7_worth_0 : decode cX7_worth 0 = .ok (.iload_n 1, 1) := by decide +kernel
theorem dX7_worth_1 : decode cX7_worth 1 = .ok (.i2l, 1) := by decide +kernel
theorem dX7_worth_2 : decode cX7_worth 2 = .ok (.lconst 0, 1) := by decide +kernel
theorem dX7_worth_3 : decode cX7_worth 3 = .ok (.ldc2_w 108, 3) := by decide +kernel
theorem dX7_worth_6 : decode cX7_worth 6 = .ok (.invokestatic 53, 3) := by decide +kernel
theorem dX7_worth_9 : decode cX7_worth 9 = .ok (.ifCond .ne 7, 3) := by decide +kernel
theorem dX7_worth_12 : decode cX7_worth 12 = .ok (.sipush (-1002), 3) := by decide +kernel
theorem dX7_worth_15 : decode cX7_worth 15 = .ok (.ireturn, 1) := by decide +kernel
theorem dX7_worth_16 : decode cX7_worth 16 = .ok (.aload_n 0, 1) := by decide +kernel
theorem dX7_worth_17 : decode cX7_worth 17 = .ok (.getfield 57, 3) := by decide +kernel
theorem dX7_worth_20 : decode cX7_worth 20 = .ok (.bipush 12, 2) := by decide +kernel
theorem dX7_worth_22 : decode cX7_worth 22 = .ok (.if_icmp .lt 7, 3) := by decide +kernel
theorem dX7_worth_25 : decode cX7_worth 25 = .ok (.sipush (-1004), 3) := by decide +kernel
theorem dX7_worth_28 : decode cX7_worth 28 = .ok (.ireturn, 1) := by decide +kernel
theorem dX7_worth_29 : decode cX7_worth 29 = .ok (.aload_n 0, 1) := by decide +kernel
theorem dX7_worth_30 : decode cX7_worth 30 = .ok (.iload_n 1, 1) := by decide +kernel
theorem dX7_worth_31 : decode cX7_worth 31 = .ok (.invokevirtual 110, 3) := by decide +kernel
theorem dX7_worth_34 : decode cX7_worth 34 = .ok (.ireturn, 1) := by decide +kernel
theorem dX7_sum_0 : decode cX7_sum 0 = .ok (.aload_n 0, 1) := by decide +kernel
theorem dX7_sum_1 : decode cX7_sum 1 = .ok (.getfield 57, 3) := by decide +kernel
theorem dX7_sum_4 : decode cX7_sum 4 = .ok (.bipush 12, 2) := by decide +kernel
theorem dX7_sum_6 : decode cX7_sum 6 = .ok (.if_icmp .lt 7, 3) := by decide +kernel
theorem dX7_sum_9 : decode cX7_sum 9 = .ok (.sipush (-1004), 3) := by decide +kernel
theorem dX7_sum_12 : decode cX7_sum 12 = .ok (.ireturn, 1) := by decide +kernel
theorem dX7_sum_13 : decode cX7_sum 13 = .ok (.aload_n 0, 1) := by decide +kernel
theorem dX7_sum_14 : decode cX7_sum 14 = .ok (.iconst 5, 1) := by decide +kernel
theorem dX7_sum_15 : decode cX7_sum 15 = .ok (.invokevirtual 110, 3) := by decide +kernel
