theorem dX7_sum_18 : decode cX7_sum 18 = .ok (.ireturn, 1) := by decide +kernel
theorem dX7_part_0 : decode cX7_part 0 = .ok (.aload_n 0, 1) := by decide +kernel
theorem dX7_part_1 : decode cX7_part 1 = .ok (.iload_n 1, 1) := by decide +kernel
theorem dX7_part_2 : decode cX7_part 2 = .ok (.invokevirtual 113, 3) := by decide +kernel
theorem dX7_part_5 : decode cX7_part 5 = .ok (.ifCond .eq 11, 3) := by decide +kernel
theorem dX7_part_8 : decode cX7_part 8 = .ok (.aload_n 0, 1) := by decide +kernel
theorem dX7_part_9 : decode cX7_part 9 = .ok (.iload_n 2, 1) := by decide +kernel
theorem dX7_part_10 : decode cX7_part 10 = .ok (.invokevirtual 116, 3) := by decide +kernel
theorem dX7_part_13 : decode cX7_part 13 = .ok (.ifCond .ne 7, 3) := by decide +kernel
theorem dX7_part_16 : decode cX7_part 16 = .ok (.sipush (-1001), 3) := by decide +kernel
theorem dX7_part_19 : decode cX7_part 19 = .ok (.ireturn, 1) := by decide +kernel
theorem dX7_part_20 : decode cX7_part 20 = .ok (.aload_n 0, 1) := by decide +kernel
theorem dX7_part_21 : decode cX7_part 21 = .ok (.getfield 57, 3) := by decide +kernel
theorem dX7_part_24 : decode cX7_part 24 = .ok (.bipush 12, 2) := by decide +kernel
theorem dX7_part_26 : decode cX7_part 26 = .ok (.if_icmp .lt 7, 3) := by decide +kernel
theorem dX7_part_29 : decode cX7_part 29 = .ok (.sipush (-1004), 3) := by decide +kernel
theorem dX7_part_32 : decode cX7_part 32 = .ok (.ireturn, 1) := by decide +kernel
theorem dX7_part_33 : decode cX7_part 33 = .ok (.aload_n 0, 1) := by decide +kernel
theorem dX7_part_34 : decode cX7_part 34 = .ok (.bipush 6, 2) := by decide +kernel
theorem dX7_part_36 : decode cX7_part 36 = .ok (.invokevirtual 110, 3) := by decide +kernel
theorem dX7_part_39 : decode cX7_part 39 = .ok (.istore_n 3, 1) := by decide +kernel
theorem dX7_part_40 : decode cX7_part 40 = .ok (.aload_n 0, 1) := by decide +kernel
theorem dX7_part_41 : decode cX7_part 41 = .ok (.getfield 11, 3) := by decide +kernel
theorem dX7_part_44 : decode cX7_part 44 = .ok (.iload_n 3, 1) := by decide +kernel
theorem dX7_part_45 : decode cX7_part 45 = .ok (.aaload, 1) := by decide +kernel
theorem dX7_part_46 : decode cX7_part 46 = .ok (.aload_n 0, 1) := by decide +kernel
theorem dX7_part_47 : decode cX7_part 47 = .ok (.getfield 11, 3) := by decide +kernel
theorem dX7_part_50 : decode cX7_part 50 = .ok (.iload_n 1, 1) := by decide +kernel
theorem dX7_part_51 : decode cX7_part 51 = .ok (.aaload, 1) := by decide +kernel
theorem dX7_part_52 : decode cX7_part 52 = .ok (.iload_n 2, 1) := by decide +kernel
theorem dX7_part_53 : decode cX7_part 53 = .ok (.invokevirtual 119, 3) := by decide +kernel
theorem dX7_part_56 : decode cX7_part 56 = .ok (.aload_n 0, 1) := by decide +kernel
theorem dX7_part_57 : decode cX7_part 57 = .ok (.getfield 11, 3) := by decide +kernel
theorem dX7_part_60 : decode cX7_part 60 = .ok (.iload_n 1, 1) := by decide +kernel
theorem dX7_part_61 : decode cX7_part 61 = .ok (.aaload, 1) := by decide +kernel
theorem dX7_part_62 : decode cX7_part 62 = .ok (.iconst 1, 1) := by decide +kernel
theorem dX7_part_63 : decode cX7_part 63 = .ok (.putfield 123, 3) := by decide +kernel
theorem dX7_part_66 : decode cX7_part 66 = .ok (.iload_n 3, 1) := by decide +kernel
theorem dX7_part_67 : decode cX7_part 67 = .ok (.ireturn, 1) := by decide +kernel
theorem dX7_beyond_0 : decode cX7_beyond 0 = .ok (.aload_n 0, 1) := by decide +kernel
theorem dX7_beyond_1 : decode cX7_beyond 1 = .ok (.iload_n 1, 1) := by decide +kernel
theorem dX7_beyond_2 : decode cX7_beyond 2 = .ok (.invokevirtual 113, 3) := by decide +kernel
theorem dX7_beyond_5 : decode cX7_beyond 5 = .ok (.ifCond .eq 11, 3) := by decide +kernel
theorem dX7_beyond_8 : decode cX7_beyond 8 = .ok (.aload_n 0, 1) := by decide +kernel
theorem dX7_beyond_9 : decode cX7_beyond 9 = .ok (.iload_n 2, 1) := by decide +kernel
theorem dX7_beyond_10 : decode cX7_beyond 10 = .ok (.invokevirtual 116, 3) := by decide +kernel
theorem dX7_beyond_13 : decode cX7_beyond 13 = .ok (.ifCond .ne 7, 3) := by decide +kernel
theorem dX7_beyond_16 : decode cX7_beyond 16 = .ok (.sipush (-1001), 3) := by decide +kernel
theorem dX7_beyond_19 : decode cX7_beyond 19 = .ok (.ireturn, 1) := by decide +kernel
theorem dX7_beyond_20 : decode cX7_beyond 20 = .ok (.aload_n 0, 1) := by decide +kernel
theorem dX7_beyond_21 : decode cX7_beyond 21 = .ok (.getfield 57, 3) := by decide +kernel
theorem dX7_beyond_24 : decode cX7_beyond 24 = .ok (.bipush 12, 2) := by decide +kernel
theorem dX7_beyond_26 : decode cX7_beyond 26 = .ok (.if_icmp .lt 7, 3) := by decide +kernel
theorem dX7_beyond_29 : decode cX7_beyond 29 = .ok (.sipush (-1004), 3) := by decide +kernel
theorem dX7_beyond_32 : decode cX7_beyond 32 = .ok (.ireturn, 1) := by decide +kernel
theorem dX7_beyond_33 : decode cX7_beyond 33 = .ok (.aload_n 0, 1) := by decide +kernel
theorem dX7_beyond_34 : decode cX7_beyond 34 = .ok (.getfield 11, 3) := by decide +kernel
theorem dX7_beyond_37 : decode cX7_beyond 37 = .ok (.iload_n 1, 1) := by decide +kernel
theorem dX7_beyond_38 : decode cX7_beyond 38 = .ok (.aaload, 1) := by decide +kernel
theorem dX7_beyond_39 : decode cX7_beyond 39 = .ok (.iload_n 2, 1) := by decide +kernel
theorem dX7_beyond_40 : decode cX7_beyond 40 = .ok (.invokevirtual 126, 3) := by decide +kernel
theorem dX7_beyond_43 : decode cX7_beyond 43 = .ok (.ifCond .eq 7, 3) := by decide +kernel
theorem dX7_beyond_46 : decode cX7_beyond 46 = .ok (.sipush (-1005), 3) := by decide +kernel
theorem dX7_beyond_49 : decode cX7_beyond 49 = .ok (.ireturn, 1) := by decide +kernel
theorem dX7_beyond_50 : decode cX7_beyond 50 = .ok (.aload_n 0, 1) := by decide +kernel
theorem dX7_beyond_51 : decode cX7_beyond 51 = .ok (.bipush 7, 2) := by decide +kernel
theorem dX7_beyond_53 : decode cX7_beyond 53 = .ok (.invokevirtual 110, 3) := by decide +kernel
theorem dX7_beyond_56 : decode cX7_beyond 56 = .ok (.istore_n 3, 1) := by decide +kernel
theorem dX7_beyond_57 : decode cX7_beyond 57 = .ok (.aload_n 0, 1) := by decide +kernel
theorem dX7_beyond_58 : decode cX7_beyond 58 = .ok (.getfield 11, 3) := by decide +kernel
theorem dX7_beyond_61 : decode cX7_beyond 61 = .ok (.iload_n 3, 1) := by decide +kernel
theorem dX7_beyond_62 : decode cX7_beyond 62 = .ok (.aaload, 1) := by decide +kernel
theorem dX7_beyond_63 : decode cX7_beyond 63 = .ok (.aload_n 0, 1) := by decide +kernel
theorem dX7_beyond_64 : decode cX7_beyond 64 = .ok (.getfield 11, 3) := by decide +kernel
theorem dX7_beyond_67 : decode cX7_beyond 67 = .ok (.iload_n 1, 1) := by decide +kernel
theorem dX7_beyond_68 : decode cX7_beyond 68 = .ok (.aaload, 1) := by decide +kernel
theorem dX7_beyond_69 : decode cX7_beyond 69 = .ok (.iload_n 2, 1) := by decide +kernel
theorem dX7_beyond_70 : decode cX7_beyond 70 = .ok (.invokevirtual 129, 3) := by decide +kernel
theorem dX7_beyond_73 : decode cX7_beyond 73 = .ok (.aload_n 0, 1) := by decide +kernel
theorem dX7_beyond_74 : decode cX7_beyond 74 = .ok (.getfield 11, 3) := by decide +kernel
theorem dX7_beyond_77 : decode cX7_beyond 77 = .ok (.iload_n 1, 1) := by decide +kernel
theorem dX7_beyond_78 : decode cX7_beyond 78 = .ok (.aaload, 1) := by decide +kernel
theorem dX7_beyond_79 : decode cX7_beyond 79 = .ok (.iconst 1, 1) := by decide +kernel
theorem dX7_beyond_80 : decode cX7_beyond 80 = .ok (.putfield 123, 3) := by decide +kernel
theorem dX7_beyond_83 : decode cX7_beyond 83 = .ok (.iload_n 3, 1) := by decide +kernel
theorem dX7_beyond_84 : decode cX7_beyond 84 = .ok (.ireturn, 1) := by decide +kernel
theorem dX7_kind_0 : decode cX7_kind 0 = .ok (.aload_n 0, 1) := by decide +kernel
theorem dX7_kind_1 : decode cX7_kind 1 = .ok (.iload_n 1, 1) := by decide +kernel
theorem dX7_kind_2 : decode cX7_kind 2 = .ok (.invokevirtual 113, 3) := by decide +kernel
theorem dX7_kind_5 : decode cX7_kind 5 = .ok (.ifCond .ne 7, 3) := by decide +kernel
theorem dX7_kind_8 : decode cX7_kind 8 = .ok (.sipush (-1001), 3) := by decide +kernel
theorem dX7_kind_11 : decode cX7_kind 11 = .ok (.ireturn, 1) := by decide +kernel
theorem dX7_kind_12 : decode cX7_kind 12 = .ok (.aload_n 0, 1) := by decide +kernel
theorem dX7_kind_13 : decode cX7_kind 13 = .ok (.getfield 11, 3) := by decide +kernel
theorem dX7_kind_16 : decode cX7_kind 16 = .ok (.iload_n 1, 1) := by decide +kernel
theorem dX7_kind_17 : decode cX7_kind 17 = .ok (.aaload, 1) := by decide +kernel
theorem dX7_kind_18 : decode cX7_kind 18 = .ok (.getfield 132, 3) := by decide +kernel
theorem dX7_kind_21 : decode cX7_kind 21 = .ok (.ireturn, 1) := by decide +kernel
theorem dX7_count_0 : decode cX7_count 0 = .ok (.iload_n 1, 1) := by decide +kernel
theorem dX7_count_1 : decode cX7_count 1 = .ok (.i2l, 1) := by decide +kernel
theorem dX7_count_2 : decode cX7_count 2 = .ok (.lconst 0, 1) := by decide +kernel
theorem dX7_count_3 : decode cX7_count 3 = .ok (.ldc2_w 135, 3) := by decide +kernel
theorem dX7_count_6 : decode cX7_count 6 = .ok (.invokestatic 53, 3) := by decide +kernel
theorem dX7_count_9 : decode cX7_count 9 = .ok (.ifCond .ne 7, 3) := by decide +kernel
theorem dX7_count_12 : decode cX7_count 12 = .ok (.sipush (-1002), 3) := by decide +kernel
theorem dX7_count_15 : decode cX7_count 15 = .ok (.ireturn, 1) := by decide +kernel
theorem dX7_count_16 : decode cX7_count 16 = .ok (.iload_n 1, 1) := by decide +kernel
theorem dX7_count_17 : decode cX7_count 17 = .ok (.ifCond .ne 8, 3) := by decide +kernel
theorem dX7_count_20 : decode cX7_count 20 = .ok (.aload_n 0, 1) := by decide +kernel
theorem dX7_count_21 : decode cX7_count 21 = .ok (.getfield 61, 3) := by decide +kernel
theorem dX7_count_24 : decode cX7_count 24 = .ok (.ireturn, 1) := by decide +kernel
theorem dX7_count_25 : decode cX7_count 25 = .ok (.iload_n 1, 1) := by decide +kernel
theorem dX7_count_26 : decode cX7_count 26 = .ok (.iconst 1, 1) := by decide +kernel
theorem dX7_count_27 : decode cX7_count 27 = .ok (.if_icmp .ne 8, 3) := by decide +kernel
theorem dX7_count_30 : decode cX7_count 30 = .ok (.aload_n 0, 1) := by decide +kernel
theorem dX7_count_31 : decode cX7_count 31 = .ok (.getfield 57, 3) := by decide +kernel
theorem dX7_count_34 : decode cX7_count 34 = .ok (.ireturn, 1) := by decide +kernel
theorem dX7_count_35 : decode cX7_count 35 = .ok (.aload_n 0, 1) := by decide +kernel
theorem dX7_count_36 : decode cX7_count 36 = .ok (.iload_n 2, 1) := by decide +kernel
theorem dX7_count_37 : decode cX7_count 37 = .ok (.invokevirtual 113, 3) := by decide +kernel
theorem dX7_count_40 : decode cX7_count 40 = .ok (.ifCond .ne 7, 3) := by decide +kernel
theorem dX7_count_43 : decode cX7_count 43 = .ok (.sipush (-1001), 3) := by decide +kernel
theorem dX7_count_46 : decode cX7_count 46 = .ok (.ireturn, 1) := by decide +kernel
theorem dX7_count_47 : decode cX7_count 47 = .ok (.aload_n 0, 1) := by decide +kernel
theorem dX7_count_48 : decode cX7_count 48 = .ok (.getfield 11, 3) := by decide +kernel
theorem dX7_count_51 : decode cX7_count 51 = .ok (.iload_n 2, 1) := by decide +kernel
theorem dX7_count_52 : decode cX7_count 52 = .ok (.aaload, 1) := by decide +kernel
theorem dX7_count_53 : decode cX7_count 53 = .ok (.astore_n 3, 1) := by decide +kernel
theorem dX7_count_54 : decode cX7_count 54 = .ok (.iload_n 1, 1) := by decide +kernel
theorem dX7_count_55 : decode cX7_count 55 = .ok (.tableswitch 53 2 5 #[29, 35, 41, 47], 29) := by decide +kernel
theorem dX7_count_84 : decode cX7_count 84 = .ok (.aload_n 3, 1) := by decide +kernel
theorem dX7_count_85 : decode cX7_count 85 = .ok (.iconst 1, 1) := by decide +kernel
theorem dX7_count_86 : decode cX7_count 86 = .ok (.invokevirtual 137, 3) := by decide +kernel
theorem dX7_count_89 : decode cX7_count 89 = .ok (.ireturn, 1) := by decide +kernel
theorem dX7_count_90 : decode cX7_count 90 = .ok (.aload_n 3, 1) := by decide +kernel
theorem dX7_count_91 : decode cX7_count 91 = .ok (.iconst 2, 1) := by decide +kernel
theorem dX7_count_92 : decode cX7_count 92 = .ok (.invokevirtual 137, 3) := by decide +kernel
theorem dX7_count_95 : decode cX7_count 95 = .ok (.ireturn, 1) := by decide +kernel
theorem dX7_count_96 : decode cX7_count 96 = .ok (.aload_n 3, 1) := by decide +kernel
theorem dX7_count_97 : decode cX7_count 97 = .ok (.iconst 4, 1) := by decide +kernel
theorem dX7_count_98 : decode cX7_count 98 = .ok (.invokevirtual 137, 3) := by decide +kernel
theorem dX7_count_101 : decode cX7_count 101 = .ok (.ireturn, 1) := by decide +kernel
theorem dX7_count_102 : decode cX7_count 102 = .ok (.aload_n 3, 1) := by decide +kernel
theorem dX7_count_103 : decode cX7_count 103 = .ok (.iconst 5, 1) := by decide +kernel
theorem dX7_count_104 : decode cX7_count 104 = .ok (.invokevirtual 137, 3) := by decide +kernel
theorem dX7_count_107 : decode cX7_count 107 = .ok (.ireturn, 1) := by decide +kernel
theorem dX7_count_108 : decode cX7_count 108 = .ok (.aload_n 3, 1) := by decide +kernel
theorem dX7_count_109 : decode cX7_count 109 = .ok (.getfield 123, 3) := by decide +kernel
theorem dX7_count_112 : decode cX7_count 112 = .ok (.ifCond .eq 7, 3) := by decide +kernel
theorem dX7_count_115 : decode cX7_count 115 = .ok (.iconst 1, 1) := by decide +kernel
theorem dX7_count_116 : decode cX7_count 116 = .ok (.goto 4, 3) := by decide +kernel
theorem dX7_count_119 : decode cX7_count 119 = .ok (.iconst 0, 1) := by decide +kernel
theorem dX7_count_120 : decode cX7_count 120 = .ok (.ireturn, 1) := by decide +kernel
theorem dX7_tell_0 : decode cX7_tell 0 = .ok (.aload_n 0, 1) := by decide +kernel
theorem dX7_tell_1 : decode cX7_tell 1 = .ok (.iload_n 1, 1) := by decide +kernel
theorem dX7_tell_2 : decode cX7_tell 2 = .ok (.invokevirtual 113, 3) := by decide +kernel
theorem dX7_tell_5 : decode cX7_tell 5 = .ok (.ifCond .eq 11, 3) := by decide +kernel
theorem dX7_tell_8 : decode cX7_tell 8 = .ok (.aload_n 0, 1) := by decide +kernel
theorem dX7_tell_9 : decode cX7_tell 9 = .ok (.iload_n 2, 1) := by decide +kernel
theorem dX7_tell_10 : decode cX7_tell 10 = .ok (.invokevirtual 116, 3) := by decide +kernel
theorem dX7_tell_13 : decode cX7_tell 13 = .ok (.ifCond .ne 7, 3) := by decide +kernel
theorem dX7_tell_16 : decode cX7_tell 16 = .ok (.sipush (-1001), 3) := by decide +kernel
theorem dX7_tell_19 : decode cX7_tell 19 = .ok (.ireturn, 1) := by decide +kernel
theorem dX7_tell_20 : decode cX7_tell 20 = .ok (.iload_n 2, 1) := by decide +kernel
theorem dX7_tell_21 : decode cX7_tell 21 = .ok (.ifCond .eq 14, 3) := by decide +kernel
theorem dX7_tell_24 : decode cX7_tell 24 = .ok (.iload_n 3, 1) := by decide +kernel
theorem dX7_tell_25 : decode cX7_tell 25 = .ok (.i2l, 1) := by decide +kernel
theorem dX7_tell_26 : decode cX7_tell 26 = .ok (.ldc2_w 140, 3) := by decide +kernel
theorem dX7_tell_29 : decode cX7_tell 29 = .ok (.invokestatic 142, 3) := by decide +kernel
theorem dX7_tell_32 : decode cX7_tell 32 = .ok (.ifCond .ne 7, 3) := by decide +kernel
theorem dX7_tell_35 : decode cX7_tell 35 = .ok (.sipush (-1002), 3) := by decide +kernel
theorem dX7_tell_38 : decode cX7_tell 38 = .ok (.ireturn, 1) := by decide +kernel
theorem dX7_tell_39 : decode cX7_tell 39 = .ok (.aload_n 0, 1) := by decide +kernel
theorem dX7_tell_40 : decode cX7_tell 40 = .ok (.getfield 11, 3) := by decide +kernel
theorem dX7_tell_43 : decode cX7_tell 43 = .ok (.iload_n 1, 1) := by decide +kernel
theorem dX7_tell_44 : decode cX7_tell 44 = .ok (.aaload, 1) := by decide +kernel
theorem dX7_tell_45 : decode cX7_tell 45 = .ok (.astore 4, 2) := by decide +kernel
theorem dX7_tell_47 : decode cX7_tell 47 = .ok (.aload 4, 2) := by decide +kernel
theorem dX7_tell_49 : decode cX7_tell 49 = .ok (.getfield 123, 3) := by decide +kernel
theorem dX7_tell_52 : decode cX7_tell 52 = .ok (.ifCond .eq 7, 3) := by decide +kernel
theorem dX7_tell_55 : decode cX7_tell 55 = .ok (.sipush (-1003), 3) := by decide +kernel
theorem dX7_tell_58 : decode cX7_tell 58 = .ok (.ireturn, 1) := by decide +kernel
theorem dX7_tell_59 : decode cX7_tell 59 = .ok (.aload 4, 2) := by decide +kernel
theorem dX7_tell_61 : decode cX7_tell 61 = .ok (.getfield 132, 3) := by decide +kernel
theorem dX7_tell_64 : decode cX7_tell 64 = .ok (.ifCond .eq 9, 3) := by decide +kernel
theorem dX7_tell_67 : decode cX7_tell 67 = .ok (.aload_n 0, 1) := by decide +kernel
theorem dX7_tell_68 : decode cX7_tell 68 = .ok (.iconst 5, 1) := by decide +kernel
theorem dX7_tell_69 : decode cX7_tell 69 = .ok (.invokevirtual 75, 3) := by decide +kernel
theorem dX7_tell_72 : decode cX7_tell 72 = .ok (.ireturn, 1) := by decide +kernel
theorem dX7_tell_73 : decode cX7_tell 73 = .ok (.aload_n 0, 1) := by decide +kernel
theorem dX7_tell_74 : decode cX7_tell 74 = .ok (.iconst 0, 1) := by decide +kernel
theorem dX7_tell_75 : decode cX7_tell 75 = .ok (.putfield 79, 3) := by decide +kernel
theorem dX7_tell_78 : decode cX7_tell 78 = .ok (.aload 4, 2) := by decide +kernel
theorem dX7_tell_80 : decode cX7_tell 80 = .ok (.getfield 146, 3) := by decide +kernel
theorem dX7_tell_83 : decode cX7_tell 83 = .ok (.iload_n 2, 1) := by decide +kernel
theorem dX7_tell_84 : decode cX7_tell 84 = .ok (.iload_n 3, 1) := by decide +kernel
theorem dX7_tell_85 : decode cX7_tell 85 = .ok (.i2l, 1) := by decide +kernel
theorem dX7_tell_86 : decode cX7_tell 86 = .ok (.lastore, 1) := by decide +kernel
theorem dX7_tell_87 : decode cX7_tell 87 = .ok (.iconst 1, 1) := by decide +kernel
theorem dX7_tell_88 : decode cX7_tell 88 = .ok (.ireturn, 1) := by decide +kernel
theorem dX7_read_0 : decode cX7_read 0 = .ok (.aload_n 0, 1) := by decide +kernel
theorem dX7_read_1 : decode cX7_read 1 = .ok (.iload_n 1, 1) := by decide +kernel
theorem dX7_read_2 : decode cX7_read 2 = .ok (.invokevirtual 113, 3) := by decide +kernel
theorem dX7_read_5 : decode cX7_read 5 = .ok (.ifCond .eq 10, 3) := by decide +kernel
theorem dX7_read_8 : decode cX7_read 8 = .ok (.iload_n 2, 1) := by decide +kernel
theorem dX7_read_9 : decode cX7_read 9 = .ok (.invokestatic 68, 3) := by decide +kernel
theorem dX7_read_12 : decode cX7_read 12 = .ok (.ifCond .ne 7, 3) := by decide +kernel
theorem dX7_read_15 : decode cX7_read 15 = .ok (.sipush (-1001), 3) := by decide +kernel
theorem dX7_read_18 : decode cX7_read 18 = .ok (.ireturn, 1) := by decide +kernel
theorem dX7_read_19 : decode cX7_read 19 = .ok (.aload_n 0, 1) := by decide +kernel
theorem dX7_read_20 : decode cX7_read 20 = .ok (.getfield 11, 3) := by decide +kernel
theorem dX7_read_23 : decode cX7_read 23 = .ok (.iload_n 1, 1) := by decide +kernel
theorem dX7_read_24 : decode cX7_read 24 = .ok (.aaload, 1) := by decide +kernel
theorem dX7_read_25 : decode cX7_read 25 = .ok (.astore_n 3, 1) := by decide +kernel
theorem dX7_read_26 : decode cX7_read 26 = .ok (.aload_n 0, 1) := by decide +kernel
theorem dX7_read_27 : decode cX7_read 27 = .ok (.getfield 18, 3) := by decide +kernel
theorem dX7_read_30 : decode cX7_read 30 = .ok (.iload_n 2, 1) := by decide +kernel
theorem dX7_read_31 : decode cX7_read 31 = .ok (.aaload, 1) := by decide +kernel
theorem dX7_read_32 : decode cX7_read 32 = .ok (.astore 4, 2) := by decide +kernel
theorem dX7_read_34 : decode cX7_read 34 = .ok (.aload_n 3, 1) := by decide +kernel
theorem dX7_read_35 : decode cX7_read 35 = .ok (.getfield 123, 3) := by decide +kernel
theorem dX7_read_38 : decode cX7_read 38 = .ok (.ifCond .eq 7, 3) := by decide +kernel
theorem dX7_read_41 : decode cX7_read 41 = .ok (.sipush (-1003), 3) := by decide +kernel
theorem dX7_read_44 : decode cX7_read 44 = .ok (.ireturn, 1) := by decide +kernel
theorem dX7_read_45 : decode cX7_read 45 = .ok (.aload_n 3, 1) := by decide +kernel
theorem dX7_read_46 : decode cX7_read 46 = .ok (.getfield 132, 3) := by decide +kernel
theorem dX7_read_49 : decode cX7_read 49 = .ok (.ifCond .eq 9, 3) := by decide +kernel
theorem dX7_read_52 : decode cX7_read 52 = .ok (.aload_n 0, 1) := by decide +kernel
theorem dX7_read_53 : decode cX7_read 53 = .ok (.iconst 5, 1) := by decide +kernel
theorem dX7_read_54 : decode cX7_read 54 = .ok (.invokevirtual 75, 3) := by decide +kernel
theorem dX7_read_57 : decode cX7_read 57 = .ok (.ireturn, 1) := by decide +kernel
theorem dX7_read_58 : decode cX7_read 58 = .ok (.aload 4, 2) := by decide +kernel
theorem dX7_read_60 : decode cX7_read 60 = .ok (.getfield 86, 3) := by decide +kernel
theorem dX7_read_63 : decode cX7_read 63 = .ok (.ifCond .ne 9, 3) := by decide +kernel
theorem dX7_read_66 : decode cX7_read 66 = .ok (.aload_n 0, 1) := by decide +kernel
theorem dX7_read_67 : decode cX7_read 67 = .ok (.iconst 1, 1) := by decide +kernel
theorem dX7_read_68 : decode cX7_read 68 = .ok (.invokevirtual 75, 3) := by decide +kernel
theorem dX7_read_71 : decode cX7_read 71 = .ok (.ireturn, 1) := by decide +kernel
theorem dX7_read_72 : decode cX7_read 72 = .ok (.aload_n 3, 1) := by decide +kernel
theorem dX7_read_73 : decode cX7_read 73 = .ok (.getfield 149, 3) := by decide +kernel
theorem dX7_read_76 : decode cX7_read 76 = .ok (.iconst 1, 1) := by decide +kernel
theorem dX7_read_77 : decode cX7_read 77 = .ok (.if_icmp .le 21, 3) := by decide +kernel
theorem dX7_read_80 : decode cX7_read 80 = .ok (.aload_n 3, 1) := by decide +kernel
theorem dX7_read_81 : decode cX7_read 81 = .ok (.getfield 149, 3) := by decide +kernel
theorem dX7_read_84 : decode cX7_read 84 = .ok (.aload 4, 2) := by decide +kernel
theorem dX7_read_86 : decode cX7_read 86 = .ok (.getfield 152, 3) := by decide +kernel
theorem dX7_read_89 : decode cX7_read 89 = .ok (.if_icmp .le 9, 3) := by decide +kernel
theorem dX7_read_92 : decode cX7_read 92 = .ok (.aload_n 0, 1) := by decide +kernel
theorem dX7_read_93 : decode cX7_read 93 = .ok (.iconst 3, 1) := by decide +kernel
theorem dX7_read_94 : decode cX7_read 94 = .ok (.invokevirtual 75, 3) := by decide +kernel
theorem dX7_read_97 : decode cX7_read 97 = .ok (.ireturn, 1) := by decide +kernel
theorem dX7_read_98 : decode cX7_read 98 = .ok (.aload 4, 2) := by decide +kernel
theorem dX7_read_100 : decode cX7_read 100 = .ok (.getfield 100, 3) := by decide +kernel
theorem dX7_read_103 : decode cX7_read 103 = .ok (.aload_n 3, 1) := by decide +kernel
theorem dX7_read_104 : decode cX7_read 104 = .ok (.getfield 149, 3) := by decide +kernel
theorem dX7_read_107 : decode cX7_read 107 = .ok (.invokestatic 155, 3) := by decide +kernel
theorem dX7_read_110 : decode cX7_read 110 = .ok (.ifCond .ne 7, 3) := by decide +kernel
theorem dX7_read_113 : decode cX7_read 113 = .ok (.sipush (-1003), 3) := by decide +kernel
theorem dX7_read_116 : decode cX7_read 116 = .ok (.ireturn, 1) := by decide +kernel
theorem dX7_read_117 : decode cX7_read 117 = .ok (.aload_n 0, 1) := by decide +kernel
theorem dX7_read_118 : decode cX7_read 118 = .ok (.iconst 0, 1) := by decide +kernel
theorem dX7_read_119 : decode cX7_read 119 = .ok (.putfield 79, 3) := by decide +kernel
theorem dX7_read_122 : decode cX7_read 122 = .ok (.iconst 1, 1) := by decide +kernel
theorem dX7_read_123 : decode cX7_read 123 = .ok (.istore 5, 2) := by decide +kernel
theorem dX7_read_125 : decode cX7_read 125 = .ok (.iload 5, 2) := by decide +kernel
theorem dX7_read_127 : decode cX7_read 127 = .ok (.aload_n 3, 1) := by decide +kernel
theorem dX7_read_128 : decode cX7_read 128 = .ok (.getfield 149, 3) := by decide +kernel
theorem dX7_read_131 : decode cX7_read 131 = .ok (.if_icmp .ge 24, 3) := by decide +kernel
theorem dX7_read_134 : decode cX7_read 134 = .ok (.aload_n 3, 1) := by decide +kernel
theorem dX7_read_135 : decode cX7_read 135 = .ok (.getfield 146, 3) := by decide +kernel
theorem dX7_read_138 : decode cX7_read 138 = .ok (.iload 5, 2) := by decide +kernel
theorem dX7_read_140 : decode cX7_read 140 = .ok (.aload 4, 2) := by decide +kernel
theorem dX7_read_142 : decode cX7_read 142 = .ok (.getfield 100, 3) := by decide +kernel
theorem dX7_read_145 : decode cX7_read 145 = .ok (.iload 5, 2) := by decide +kernel
theorem dX7_read_147 : decode cX7_read 147 = .ok (.laload, 1) := by decide +kernel
theorem dX7_read_148 : decode cX7_read 148 = .ok (.lastore, 1) := by decide +kernel
theorem dX7_read_149 : decode cX7_read 149 = .ok (.iinc 5 1, 3) := by decide +kernel
theorem dX7_read_152 : decode cX7_read 152 = .ok (.goto (-27), 3) := by decide +kernel
theorem dX7_read_155 : decode cX7_read 155 = .ok (.iconst 1, 1) := by decide +kernel
theorem dX7_read_156 : decode cX7_read 156 = .ok (.ireturn, 1) := by decide +kernel
theorem dX7_line_0 : decode cX7_line 0 = .ok (.aload_n 0, 1) := by decide +kernel
theorem dX7_line_1 : decode cX7_line 1 = .ok (.iload_n 1, 1) := by decide +kernel
theorem dX7_line_2 : decode cX7_line 2 = .ok (.invokevirtual 113, 3) := by decide +kernel
theorem dX7_line_5 : decode cX7_line 5 = .ok (.ifCond .eq 19, 3) := by decide +kernel
theorem dX7_line_8 : decode cX7_line 8 = .ok (.aload_n 0, 1) := by decide +kernel
theorem dX7_line_9 : decode cX7_line 9 = .ok (.iload_n 2, 1) := by decide +kernel
theorem dX7_line_10 : decode cX7_line 10 = .ok (.invokevirtual 159, 3) := by decide +kernel
theorem dX7_line_13 : decode cX7_line 13 = .ok (.ifCond .eq 11, 3) := by decide +kernel
theorem dX7_line_16 : decode cX7_line 16 = .ok (.aload_n 0, 1) := by decide +kernel
theorem dX7_line_17 : decode cX7_line 17 = .ok (.iload_n 3, 1) := by decide +kernel
theorem dX7_line_18 : decode cX7_line 18 = .ok (.invokevirtual 159, 3) := by decide +kernel
theorem dX7_line_21 : decode cX7_line 21 = .ok (.ifCond .ne 7, 3) := by decide +kernel
theorem dX7_line_24 : decode cX7_line 24 = .ok (.sipush (-1001), 3) := by decide +kernel
theorem dX7_line_27 : decode cX7_line 27 = .ok (.ireturn, 1) := by decide +kernel
theorem dX7_line_28 : decode cX7_line 28 = .ok (.iload 4, 2) := by decide +kernel
theorem dX7_line_30 : decode cX7_line 30 = .ok (.i2l, 1) := by decide +kernel
theorem dX7_line_31 : decode cX7_line 31 = .ok (.lconst 0, 1) := by decide +kernel
theorem dX7_line_32 : decode cX7_line 32 = .ok (.ldc2_w 162, 3) := by decide +kernel
theorem dX7_line_35 : decode cX7_line 35 = .ok (.invokestatic 53, 3) := by decide +kernel
theorem dX7_line_38 : decode cX7_line 38 = .ok (.ifCond .ne 7, 3) := by decide +kernel
theorem dX7_line_41 : decode cX7_line 41 = .ok (.sipush (-1002), 3) := by decide +kernel
theorem dX7_line_44 : decode cX7_line 44 = .ok (.ireturn, 1) := by decide +kernel
theorem dX7_line_45 : decode cX7_line 45 = .ok (.aload_n 0, 1) := by decide +kernel
theorem dX7_line_46 : decode cX7_line 46 = .ok (.getfield 11, 3) := by decide +kernel
theorem dX7_line_49 : decode cX7_line 49 = .ok (.iload_n 1, 1) := by decide +kernel
theorem dX7_line_50 : decode cX7_line 50 = .ok (.aaload, 1) := by decide +kernel
theorem dX7_line_51 : decode cX7_line 51 = .ok (.astore 5, 2) := by decide +kernel
theorem dX7_line_53 : decode cX7_line 53 = .ok (.aload 5, 2) := by decide +kernel
theorem dX7_line_55 : decode cX7_line 55 = .ok (.getfield 123, 3) := by decide +kernel
theorem dX7_line_58 : decode cX7_line 58 = .ok (.ifCond .ne 8, 3) := by decide +kernel
theorem dX7_line_61 : decode cX7_line 61 = .ok (.iload_n 2, 1) := by decide +kernel
theorem dX7_line_62 : decode cX7_line 62 = .ok (.iload_n 3, 1) := by decide +kernel
theorem dX7_line_63 : decode cX7_line 63 = .ok (.if_icmp .ne 7, 3) := by decide +kernel
theorem dX7_line_66 : decode cX7_line 66 = .ok (.sipush (-1003), 3) := by decide +kernel
theorem dX7_line_69 : decode cX7_line 69 = .ok (.ireturn, 1) := by decide +kernel
theorem dX7_line_70 : decode cX7_line 70 = .ok (.aload 5, 2) := by decide +kernel
theorem dX7_line_72 : decode cX7_line 72 = .ok (.getfield 132, 3) := by decide +kernel
theorem dX7_line_75 : decode cX7_line 75 = .ok (.iconst 1, 1) := by decide +kernel
theorem dX7_line_76 : decode cX7_line 76 = .ok (.if_icmp .eq 9, 3) := by decide +kernel
theorem dX7_line_79 : decode cX7_line 79 = .ok (.aload_n 0, 1) := by decide +kernel
theorem dX7_line_80 : decode cX7_line 80 = .ok (.iconst 5, 1) := by decide +kernel
theorem dX7_line_81 : decode cX7_line 81 = .ok (.invokevirtual 75, 3) := by decide +kernel
theorem dX7_line_84 : decode cX7_line 84 = .ok (.ireturn, 1) := by decide +kernel
theorem dX7_line_85 : decode cX7_line 85 = .ok (.aload 5, 2) := by decide +kernel
theorem dX7_line_87 : decode cX7_line 87 = .ok (.getfield 164, 3) := by decide +kernel
theorem dX7_line_90 : decode cX7_line 90 = .ok (.bipush 24, 2) := by decide +kernel
theorem dX7_line_92 : decode cX7_line 92 = .ok (.if_icmp .lt 7, 3) := by decide +kernel
theorem dX7_line_95 : decode cX7_line 95 = .ok (.sipush (-1004), 3) := by decide +kernel
theorem dX7_line_98 : decode cX7_line 98 = .ok (.ireturn, 1) := by decide +kernel
theorem dX7_line_99 : decode cX7_line 99 = .ok (.aload_n 0, 1) := by decide +kernel
theorem dX7_line_100 : decode cX7_line 100 = .ok (.iconst 0, 1) := by decide +kernel
theorem dX7_line_101 : decode cX7_line 101 = .ok (.putfield 79, 3) := by decide +kernel
theorem dX7_line_104 : decode cX7_line 104 = .ok (.aload 5, 2) := by decide +kernel
theorem dX7_line_106 : decode cX7_line 106 = .ok (.iload_n 2, 1) := by decide +kernel
theorem dX7_line_107 : decode cX7_line 107 = .ok (.iload_n 3, 1) := by decide +kernel
theorem dX7_line_108 : decode cX7_line 108 = .ok (.iload 4, 2) := by decide +kernel
theorem dX7_line_110 : decode cX7_line 110 = .ok (.invokevirtual 167, 3) := by decide +kernel
theorem dX7_line_113 : decode cX7_line 113 = .ok (.aload 5, 2) := by decide +kernel
theorem dX7_line_115 : decode cX7_line 115 = .ok (.getfield 164, 3) := by decide +kernel
theorem dX7_line_118 : decode cX7_line 118 = .ok (.ireturn, 1) := by decide +kernel
theorem dX7_spot_0 : decode cX7_spot 0 = .ok (.aload_n 0, 1) := by decide +kernel
theorem dX7_spot_1 : decode cX7_spot 1 = .ok (.iload_n 1, 1) := by decide +kernel
theorem dX7_spot_2 : decode cX7_spot 2 = .ok (.invokevirtual 113, 3) := by decide +kernel
theorem dX7_spot_5 : decode cX7_spot 5 = .ok (.ifCond .eq 11, 3) := by decide +kernel
theorem dX7_spot_8 : decode cX7_spot 8 = .ok (.aload_n 0, 1) := by decide +kernel
theorem dX7_spot_9 : decode cX7_spot 9 = .ok (.iload_n 3, 1) := by decide +kernel
theorem dX7_spot_10 : decode cX7_spot 10 = .ok (.invokevirtual 116, 3) := by decide +kernel
theorem dX7_spot_13 : decode cX7_spot 13 = .ok (.ifCond .ne 7, 3) := by decide +kernel
theorem dX7_spot_16 : decode cX7_spot 16 = .ok (.sipush (-1001), 3) := by decide +kernel
theorem dX7_spot_19 : decode cX7_spot 19 = .ok (.ireturn, 1) := by decide +kernel
theorem dX7_spot_20 : decode cX7_spot 20 = .ok (.iload_n 2, 1) := by decide +kernel
theorem dX7_spot_21 : decode cX7_spot 21 = .ok (.i2l, 1) := by decide +kernel
theorem dX7_spot_22 : decode cX7_spot 22 = .ok (.lconst 0, 1) := by decide +kernel
theorem dX7_spot_23 : decode cX7_spot 23 = .ok (.ldc2_w 162, 3) := by decide +kernel
theorem dX7_spot_26 : decode cX7_spot 26 = .ok (.invokestatic 53, 3) := by decide +kernel
theorem dX7_spot_29 : decode cX7_spot 29 = .ok (.ifCond .ne 7, 3) := by decide +kernel
theorem dX7_spot_32 : decode cX7_spot 32 = .ok (.sipush (-1002), 3) := by decide +kernel
theorem dX7_spot_35 : decode cX7_spot 35 = .ok (.ireturn, 1) := by decide +kernel
theorem dX7_spot_36 : decode cX7_spot 36 = .ok (.aload_n 0, 1) := by decide +kernel
theorem dX7_spot_37 : decode cX7_spot 37 = .ok (.getfield 11, 3) := by decide +kernel
theorem dX7_spot_40 : decode cX7_spot 40 = .ok (.iload_n 1, 1) := by decide +kernel
theorem dX7_spot_41 : decode cX7_spot 41 = .ok (.aaload, 1) := by decide +kernel
theorem dX7_spot_42 : decode cX7_spot 42 = .ok (.astore 4, 2) := by decide +kernel
theorem dX7_spot_44 : decode cX7_spot 44 = .ok (.aload 4, 2) := by decide +kernel
theorem dX7_spot_46 : decode cX7_spot 46 = .ok (.getfield 123, 3) := by decide +kernel
theorem dX7_spot_49 : decode cX7_spot 49 = .ok (.ifCond .eq 7, 3) := by decide +kernel
theorem dX7_spot_52 : decode cX7_spot 52 = .ok (.sipush (-1003), 3) := by decide +kernel
theorem dX7_spot_55 : decode cX7_spot 55 = .ok (.ireturn, 1) := by decide +kernel
theorem dX7_spot_56 : decode cX7_spot 56 = .ok (.aload 4, 2) := by decide +kernel
theorem dX7_spot_58 : decode cX7_spot 58 = .ok (.getfield 132, 3) := by decide +kernel
theorem dX7_spot_61 : decode cX7_spot 61 = .ok (.iconst 2, 1) := by decide +kernel
theorem dX7_spot_62 : decode cX7_spot 62 = .ok (.if_icmp .eq 9, 3) := by decide +kernel
theorem dX7_spot_65 : decode cX7_spot 65 = .ok (.aload_n 0, 1) := by decide +kernel
theorem dX7_spot_66 : decode cX7_spot 66 = .ok (.iconst 5, 1) := by decide +kernel
theorem dX7_spot_67 : decode cX7_spot 67 = .ok (.invokevirtual 75, 3) := by decide +kernel
theorem dX7_spot_70 : decode cX7_spot 70 = .ok (.ireturn, 1) := by decide +kernel
theorem dX7_spot_71 : decode cX7_spot 71 = .ok (.aload 4, 2) := by decide +kernel
theorem dX7_spot_73 : decode cX7_spot 73 = .ok (.getfield 164, 3) := by decide +kernel
theorem dX7_spot_76 : decode cX7_spot 76 = .ok (.bipush 24, 2) := by decide +kernel
theorem dX7_spot_78 : decode cX7_spot 78 = .ok (.if_icmp .lt 7, 3) := by decide +kernel
theorem dX7_spot_81 : decode cX7_spot 81 = .ok (.sipush (-1004), 3) := by decide +kernel
theorem dX7_spot_84 : decode cX7_spot 84 = .ok (.ireturn, 1) := by decide +kernel
theorem dX7_spot_85 : decode cX7_spot 85 = .ok (.aload_n 0, 1) := by decide +kernel
theorem dX7_spot_86 : decode cX7_spot 86 = .ok (.iconst 0, 1) := by decide +kernel
theorem dX7_spot_87 : decode cX7_spot 87 = .ok (.putfield 79, 3) := by decide +kernel
theorem dX7_spot_90 : decode cX7_spot 90 = .ok (.aload 4, 2) := by decide +kernel
theorem dX7_spot_92 : decode cX7_spot 92 = .ok (.iload_n 2, 1) := by decide +kernel
theorem dX7_spot_93 : decode cX7_spot 93 = .ok (.iload_n 3, 1) := by decide +kernel
theorem dX7_spot_94 : decode cX7_spot 94 = .ok (.invokevirtual 171, 3) := by decide +kernel
theorem dX7_spot_97 : decode cX7_spot 97 = .ok (.aload 4, 2) := by decide +kernel
theorem dX7_spot_99 : decode cX7_spot 99 = .ok (.getfield 164, 3) := by decide +kernel
theorem dX7_spot_102 : decode cX7_spot 102 = .ok (.ireturn, 1) := by decide +kernel
theorem dX7_row_0 : decode cX7_row 0 = .ok (.aload_n 0, 1) := by decide +kernel
theorem dX7_row_1 : decode cX7_row 1 = .ok (.iload_n 1, 1) := by decide +kernel
theorem dX7_row_2 : decode cX7_row 2 = .ok (.invokevirtual 113, 3) := by decide +kernel
theorem dX7_row_5 : decode cX7_row 5 = .ok (.ifCond .eq 11, 3) := by decide +kernel
theorem dX7_row_8 : decode cX7_row 8 = .ok (.aload_n 0, 1) := by decide +kernel
theorem dX7_row_9 : decode cX7_row 9 = .ok (.iload_n 2, 1) := by decide +kernel
theorem dX7_row_10 : decode cX7_row 10 = .ok (.invokevirtual 159, 3) := by decide +kernel
theorem dX7_row_13 : decode cX7_row 13 = .ok (.ifCond .ne 7, 3) := by decide +kernel
theorem dX7_row_16 : decode cX7_row 16 = .ok (.sipush (-1001), 3) := by decide +kernel
theorem dX7_row_19 : decode cX7_row 19 = .ok (.ireturn, 1) := by decide +kernel
theorem dX7_row_20 : decode cX7_row 20 = .ok (.iload_n 3, 1) := by decide +kernel
theorem dX7_row_21 : decode cX7_row 21 = .ok (.i2l, 1) := by decide +kernel
theorem dX7_row_22 : decode cX7_row 22 = .ok (.ldc2_w 174, 3) := by decide +kernel
theorem dX7_row_25 : decode cX7_row 25 = .ok (.invokestatic 142, 3) := by decide +kernel
theorem dX7_row_28 : decode cX7_row 28 = .ok (.ifCond .eq 15, 3) := by decide +kernel
theorem dX7_row_31 : decode cX7_row 31 = .ok (.iload 4, 2) := by decide +kernel
theorem dX7_row_33 : decode cX7_row 33 = .ok (.i2l, 1) := by decide +kernel
theorem dX7_row_34 : decode cX7_row 34 = .ok (.ldc2_w 174, 3) := by decide +kernel
theorem dX7_row_37 : decode cX7_row 37 = .ok (.invokestatic 142, 3) := by decide +kernel
theorem dX7_row_40 : decode cX7_row 40 = .ok (.ifCond .ne 7, 3) := by decide +kernel
theorem dX7_row_43 : decode cX7_row 43 = .ok (.sipush (-1002), 3) := by decide +kernel
theorem dX7_row_46 : decode cX7_row 46 = .ok (.ireturn, 1) := by decide +kernel
theorem dX7_row_47 : decode cX7_row 47 = .ok (.iload 5, 2) := by decide +kernel
theorem dX7_row_49 : decode cX7_row 49 = .ok (.i2l, 1) := by decide +kernel
theorem dX7_row_50 : decode cX7_row 50 = .ok (.ldc2_w 174, 3) := by decide +kernel
theorem dX7_row_53 : decode cX7_row 53 = .ok (.invokestatic 142, 3) := by decide +kernel
theorem dX7_row_56 : decode cX7_row 56 = .ok (.ifCond .eq 15, 3) := by decide +kernel
theorem dX7_row_59 : decode cX7_row 59 = .ok (.iload 6, 2) := by decide +kernel
theorem dX7_row_61 : decode cX7_row 61 = .ok (.i2l, 1) := by decide +kernel
theorem dX7_row_62 : decode cX7_row 62 = .ok (.ldc2_w 174, 3) := by decide +kernel
theorem dX7_row_65 : decode cX7_row 65 = .ok (.invokestatic 142, 3) := by decide +kernel
theorem dX7_row_68 : decode cX7_row 68 = .ok (.ifCond .ne 7, 3) := by decide +kernel
theorem dX7_row_71 : decode cX7_row 71 = .ok (.sipush (-1002), 3) := by decide +kernel
theorem dX7_row_74 : decode cX7_row 74 = .ok (.ireturn, 1) := by decide +kernel
theorem dX7_row_75 : decode cX7_row 75 = .ok (.aload_n 0, 1) := by decide +kernel
theorem dX7_row_76 : decode cX7_row 76 = .ok (.getfield 11, 3) := by decide +kernel
theorem dX7_row_79 : decode cX7_row 79 = .ok (.iload_n 1, 1) := by decide +kernel
theorem dX7_row_80 : decode cX7_row 80 = .ok (.aaload, 1) := by decide +kernel
theorem dX7_row_81 : decode cX7_row 81 = .ok (.astore 7, 2) := by decide +kernel
theorem dX7_row_83 : decode cX7_row 83 = .ok (.aload 7, 2) := by decide +kernel
theorem dX7_row_85 : decode cX7_row 85 = .ok (.getfield 123, 3) := by decide +kernel
theorem dX7_row_88 : decode cX7_row 88 = .ok (.ifCond .eq 7, 3) := by decide +kernel
theorem dX7_row_91 : decode cX7_row 91 = .ok (.sipush (-1003), 3) := by decide +kernel
theorem dX7_row_94 : decode cX7_row 94 = .ok (.ireturn, 1) := by decide +kernel
theorem dX7_row_95 : decode cX7_row 95 = .ok (.aload 7, 2) := by decide +kernel
theorem dX7_row_97 : decode cX7_row 97 = .ok (.getfield 132, 3) := by decide +kernel
theorem dX7_row_100 : decode cX7_row 100 = .ok (.iconst 3, 1) := by decide +kernel
theorem dX7_row_101 : decode cX7_row 101 = .ok (.if_icmp .eq 9, 3) := by decide +kernel
theorem dX7_row_104 : decode cX7_row 104 = .ok (.aload_n 0, 1) := by decide +kernel
theorem dX7_row_105 : decode cX7_row 105 = .ok (.iconst 5, 1) := by decide +kernel
theorem dX7_row_106 : decode cX7_row 106 = .ok (.invokevirtual 75, 3) := by decide +kernel
theorem dX7_row_109 : decode cX7_row 109 = .ok (.ireturn, 1) := by decide +kernel
theorem dX7_row_110 : decode cX7_row 110 = .ok (.aload_n 0, 1) := by decide +kernel
theorem dX7_row_111 : decode cX7_row 111 = .ok (.iconst 0, 1) := by decide +kernel
theorem dX7_row_112 : decode cX7_row 112 = .ok (.putfield 79, 3) := by decide +kernel
theorem dX7_row_115 : decode cX7_row 115 = .ok (.aload 7, 2) := by decide +kernel
theorem dX7_row_117 : decode cX7_row 117 = .ok (.getfield 176, 3) := by decide +kernel
theorem dX7_row_120 : decode cX7_row 120 = .ok (.iload_n 2, 1) := by decide +kernel
theorem dX7_row_121 : decode cX7_row 121 = .ok (.iload_n 3, 1) := by decide +kernel
theorem dX7_row_122 : decode cX7_row 122 = .ok (.iload 4, 2) := by decide +kernel
theorem dX7_row_124 : decode cX7_row 124 = .ok (.iload 5, 2) := by decide +kernel
theorem dX7_row_126 : decode cX7_row 126 = .ok (.iload 6, 2) := by decide +kernel
theorem dX7_row_128 : decode cX7_row 128 = .ok (.invokevirtual 180, 3) := by decide +kernel
theorem dX7_row_131 : decode cX7_row 131 = .ok (.aload 7, 2) := by decide +kernel
theorem dX7_row_133 : decode cX7_row 133 = .ok (.iload_n 2, 1) := by decide +kernel
theorem dX7_row_134 : decode cX7_row 134 = .ok (.invokevirtual 186, 3) := by decide +kernel
theorem dX7_row_137 : decode cX7_row 137 = .ok (.iconst 1, 1) := by decide +kernel
theorem dX7_row_138 : decode cX7_row 138 = .ok (.ireturn, 1) := by decide +kernel
theorem dX7_rise_0 : decode cX7_rise 0 = .ok (.aload_n 0, 1) := by decide +kernel
theorem dX7_rise_1 : decode cX7_rise 1 = .ok (.iload_n 1, 1) := by decide +kernel
theorem dX7_rise_2 : decode cX7_rise 2 = .ok (.invokevirtual 113, 3) := by decide +kernel
theorem dX7_rise_5 : decode cX7_rise 5 = .ok (.ifCond .ne 7, 3) := by decide +kernel
theorem dX7_rise_8 : decode cX7_rise 8 = .ok (.sipush (-1001), 3) := by decide +kernel
theorem dX7_rise_11 : decode cX7_rise 11 = .ok (.ireturn, 1) := by decide +kernel
theorem dX7_rise_12 : decode cX7_rise 12 = .ok (.iload_n 2, 1) := by decide +kernel
theorem dX7_rise_13 : decode cX7_rise 13 = .ok (.i2l, 1) := by decide +kernel
theorem dX7_rise_14 : decode cX7_rise 14 = .ok (.ldc2_w 162, 3) := by decide +kernel
theorem dX7_rise_17 : decode cX7_rise 17 = .ok (.invokestatic 142, 3) := by decide +kernel
theorem dX7_rise_20 : decode cX7_rise 20 = .ok (.ifCond .ne 7, 3) := by decide +kernel
theorem dX7_rise_23 : decode cX7_rise 23 = .ok (.sipush (-1002), 3) := by decide +kernel
theorem dX7_rise_26 : decode cX7_rise 26 = .ok (.ireturn, 1) := by decide +kernel
theorem dX7_rise_27 : decode cX7_rise 27 = .ok (.aload_n 0, 1) := by decide +kernel
theorem dX7_rise_28 : decode cX7_rise 28 = .ok (.getfield 11, 3) := by decide +kernel
theorem dX7_rise_31 : decode cX7_rise 31 = .ok (.iload_n 1, 1) := by decide +kernel
theorem dX7_rise_32 : decode cX7_rise 32 = .ok (.aaload, 1) := by decide +kernel
theorem dX7_rise_33 : decode cX7_rise 33 = .ok (.astore_n 3, 1) := by decide +kernel
theorem dX7_rise_34 : decode cX7_rise 34 = .ok (.aload_n 3, 1) := by decide +kernel
theorem dX7_rise_35 : decode cX7_rise 35 = .ok (.getfield 123, 3) := by decide +kernel
theorem dX7_rise_38 : decode cX7_rise 38 = .ok (.ifCond .eq 7, 3) := by decide +kernel
theorem dX7_rise_41 : decode cX7_rise 41 = .ok (.sipush (-1003), 3) := by decide +kernel
theorem dX7_rise_44 : decode cX7_rise 44 = .ok (.ireturn, 1) := by decide +kernel
theorem dX7_rise_45 : decode cX7_rise 45 = .ok (.aload_n 3, 1) := by decide +kernel
theorem dX7_rise_46 : decode cX7_rise 46 = .ok (.getfield 132, 3) := by decide +kernel
theorem dX7_rise_49 : decode cX7_rise 49 = .ok (.iconst 4, 1) := by decide +kernel
theorem dX7_rise_50 : decode cX7_rise 50 = .ok (.if_icmp .eq 9, 3) := by decide +kernel
theorem dX7_rise_53 : decode cX7_rise 53 = .ok (.aload_n 0, 1) := by decide +kernel
theorem dX7_rise_54 : decode cX7_rise 54 = .ok (.iconst 5, 1) := by decide +kernel
theorem dX7_rise_55 : decode cX7_rise 55 = .ok (.invokevirtual 75, 3) := by decide +kernel
theorem dX7_rise_58 : decode cX7_rise 58 = .ok (.ireturn, 1) := by decide +kernel
theorem dX7_rise_59 : decode cX7_rise 59 = .ok (.aload_n 3, 1) := by decide +kernel
theorem dX7_rise_60 : decode cX7_rise 60 = .ok (.getfield 164, 3) := by decide +kernel
theorem dX7_rise_63 : decode cX7_rise 63 = .ok (.bipush 10, 2) := by decide +kernel
theorem dX7_rise_65 : decode cX7_rise 65 = .ok (.if_icmp .lt 7, 3) := by decide +kernel
theorem dX7_rise_68 : decode cX7_rise 68 = .ok (.sipush (-1004), 3) := by decide +kernel
theorem dX7_rise_71 : decode cX7_rise 71 = .ok (.ireturn, 1) := by decide +kernel
theorem dX7_rise_72 : decode cX7_rise 72 = .ok (.aload_n 3, 1) := by decide +kernel
theorem dX7_rise_73 : decode cX7_rise 73 = .ok (.getfield 164, 3) := by decide +kernel
theorem dX7_rise_76 : decode cX7_rise 76 = .ok (.ifCond .le 22, 3) := by decide +kernel
theorem dX7_rise_79 : decode cX7_rise 79 = .ok (.iload_n 2, 1) := by decide +kernel
theorem dX7_rise_80 : decode cX7_rise 80 = .ok (.aload_n 3, 1) := by decide +kernel
theorem dX7_rise_81 : decode cX7_rise 81 = .ok (.getfield 189, 3) := by decide +kernel
theorem dX7_rise_84 : decode cX7_rise 84 = .ok (.aload_n 3, 1) := by decide +kernel
theorem dX7_rise_85 : decode cX7_rise 85 = .ok (.getfield 164, 3) := by decide +kernel
theorem dX7_rise_88 : decode cX7_rise 88 = .ok (.iconst 1, 1) := by decide +kernel
theorem dX7_rise_89 : decode cX7_rise 89 = .ok (.isub, 1) := by decide +kernel
theorem dX7_rise_90 : decode cX7_rise 90 = .ok (.iaload, 1) := by decide +kernel
theorem dX7_rise_91 : decode cX7_rise 91 = .ok (.if_icmp .le 7, 3) := by decide +kernel
theorem dX7_rise_94 : decode cX7_rise 94 = .ok (.sipush (-1003), 3) := by decide +kernel
theorem dX7_rise_97 : decode cX7_rise 97 = .ok (.ireturn, 1) := by decide +kernel
theorem dX7_rise_98 : decode cX7_rise 98 = .ok (.aload_n 0, 1) := by decide +kernel
theorem dX7_rise_99 : decode cX7_rise 99 = .ok (.iconst 0, 1) := by decide +kernel
theorem dX7_rise_100 : decode cX7_rise 100 = .ok (.putfield 79, 3) := by decide +kernel
theorem dX7_rise_103 : decode cX7_rise 103 = .ok (.aload_n 3, 1) := by decide +kernel
theorem dX7_rise_104 : decode cX7_rise 104 = .ok (.iload_n 2, 1) := by decide +kernel
theorem dX7_rise_105 : decode cX7_rise 105 = .ok (.invokevirtual 193, 3) := by decide +kernel
theorem dX7_rise_108 : decode cX7_rise 108 = .ok (.aload_n 3, 1) := by decide +kernel
theorem dX7_rise_109 : decode cX7_rise 109 = .ok (.getfield 164, 3) := by decide +kernel
theorem dX7_rise_112 : decode cX7_rise 112 = .ok (.ireturn, 1) := by decide +kernel
theorem dX7_add_0 : decode cX7_add 0 = .ok (.aload_n 0, 1) := by decide +kernel
theorem dX7_add_1 : decode cX7_add 1 = .ok (.iload_n 1, 1) := by decide +kernel
theorem dX7_add_2 : decode cX7_add 2 = .ok (.invokevirtual 113, 3) := by decide +kernel
theorem dX7_add_5 : decode cX7_add 5 = .ok (.ifCond .eq 11, 3) := by decide +kernel
theorem dX7_add_8 : decode cX7_add 8 = .ok (.aload_n 0, 1) := by decide +kernel
theorem dX7_add_9 : decode cX7_add 9 = .ok (.iload_n 2, 1) := by decide +kernel
theorem dX7_add_10 : decode cX7_add 10 = .ok (.invokevirtual 113, 3) := by decide +kernel
theorem dX7_add_13 : decode cX7_add 13 = .ok (.ifCond .ne 7, 3) := by decide +kernel
theorem dX7_add_16 : decode cX7_add 16 = .ok (.sipush (-1001), 3) := by decide +kernel
theorem dX7_add_19 : decode cX7_add 19 = .ok (.ireturn, 1) := by decide +kernel
theorem dX7_add_20 : decode cX7_add 20 = .ok (.iload_n 3, 1) := by decide +kernel
theorem dX7_add_21 : decode cX7_add 21 = .ok (.i2l, 1) := by decide +kernel
theorem dX7_add_22 : decode cX7_add 22 = .ok (.lconst 0, 1) := by decide +kernel
theorem dX7_add_23 : decode cX7_add 23 = .ok (.ldc2_w 196, 3) := by decide +kernel
theorem dX7_add_26 : decode cX7_add 26 = .ok (.invokestatic 53, 3) := by decide +kernel
theorem dX7_add_29 : decode cX7_add 29 = .ok (.ifCond .ne 7, 3) := by decide +kernel
theorem dX7_add_32 : decode cX7_add 32 = .ok (.sipush (-1002), 3) := by decide +kernel
theorem dX7_add_35 : decode cX7_add 35 = .ok (.ireturn, 1) := by decide +kernel
theorem dX7_add_36 : decode cX7_add 36 = .ok (.aload_n 0, 1) := by decide +kernel
theorem dX7_add_37 : decode cX7_add 37 = .ok (.getfield 11, 3) := by decide +kernel
theorem dX7_add_40 : decode cX7_add 40 = .ok (.iload_n 1, 1) := by decide +kernel
theorem dX7_add_41 : decode cX7_add 41 = .ok (.aaload, 1) := by decide +kernel
theorem dX7_add_42 : decode cX7_add 42 = .ok (.astore 4, 2) := by decide +kernel
theorem dX7_add_44 : decode cX7_add 44 = .ok (.aload 4, 2) := by decide +kernel
theorem dX7_add_46 : decode cX7_add 46 = .ok (.getfield 123, 3) := by decide +kernel
theorem dX7_add_49 : decode cX7_add 49 = .ok (.ifCond .ne 8, 3) := by decide +kernel
theorem dX7_add_52 : decode cX7_add 52 = .ok (.iload_n 2, 1) := by decide +kernel
theorem dX7_add_53 : decode cX7_add 53 = .ok (.iload_n 1, 1) := by decide +kernel
theorem dX7_add_54 : decode cX7_add 54 = .ok (.if_icmp .lt 7, 3) := by decide +kernel
theorem dX7_add_57 : decode cX7_add 57 = .ok (.sipush (-1003), 3) := by decide +kernel
theorem dX7_add_60 : decode cX7_add 60 = .ok (.ireturn, 1) := by decide +kernel
theorem dX7_add_61 : decode cX7_add 61 = .ok (.aload 4, 2) := by decide +kernel
theorem dX7_add_63 : decode cX7_add 63 = .ok (.getfield 132, 3) := by decide +kernel
theorem dX7_add_66 : decode cX7_add 66 = .ok (.iconst 5, 1) := by decide +kernel
theorem dX7_add_67 : decode cX7_add 67 = .ok (.if_icmp .eq 9, 3) := by decide +kernel
theorem dX7_add_70 : decode cX7_add 70 = .ok (.aload_n 0, 1) := by decide +kernel
theorem dX7_add_71 : decode cX7_add 71 = .ok (.iconst 5, 1) := by decide +kernel
theorem dX7_add_72 : decode cX7_add 72 = .ok (.invokevirtual 75, 3) := by decide +kernel
theorem dX7_add_75 : decode cX7_add 75 = .ok (.ireturn, 1) := by decide +kernel
theorem dX7_add_76 : decode cX7_add 76 = .ok (.aload 4, 2) := by decide +kernel
theorem dX7_add_78 : decode cX7_add 78 = .ok (.getfield 164, 3) := by decide +kernel
theorem dX7_add_81 : decode cX7_add 81 = .ok (.iconst 4, 1) := by decide +kernel
theorem dX7_add_82 : decode cX7_add 82 = .ok (.if_icmp .lt 7, 3) := by decide +kernel
theorem dX7_add_85 : decode cX7_add 85 = .ok (.sipush (-1004), 3) := by decide +kernel
theorem dX7_add_88 : decode cX7_add 88 = .ok (.ireturn, 1) := by decide +kernel
theorem dX7_add_89 : decode cX7_add 89 = .ok (.aload 4, 2) := by decide +kernel
theorem dX7_add_91 : decode cX7_add 91 = .ok (.aload_n 0, 1) := by decide +kernel
theorem dX7_add_92 : decode cX7_add 92 = .ok (.getfield 11, 3) := by decide +kernel
theorem dX7_add_95 : decode cX7_add 95 = .ok (.iload_n 2, 1) := by decide +kernel
theorem dX7_add_96 : decode cX7_add 96 = .ok (.aaload, 1) := by decide +kernel
theorem dX7_add_97 : decode cX7_add 97 = .ok (.iload_n 3, 1) := by decide +kernel
theorem dX7_add_98 : decode cX7_add 98 = .ok (.invokevirtual 198, 3) := by decide +kernel
theorem dX7_add_101 : decode cX7_add 101 = .ok (.ifCond .eq 7, 3) := by decide +kernel
theorem dX7_add_104 : decode cX7_add 104 = .ok (.sipush (-1005), 3) := by decide +kernel
theorem dX7_add_107 : decode cX7_add 107 = .ok (.ireturn, 1) := by decide +kernel
theorem dX7_add_108 : decode cX7_add 108 = .ok (.aload_n 0, 1) := by decide +kernel
theorem dX7_add_109 : decode cX7_add 109 = .ok (.iconst 0, 1) := by decide +kernel
theorem dX7_add_110 : decode cX7_add 110 = .ok (.putfield 79, 3) := by decide +kernel
theorem dX7_add_113 : decode cX7_add 113 = .ok (.aload 4, 2) := by decide +kernel
theorem dX7_add_115 : decode cX7_add 115 = .ok (.aload_n 0, 1) := by decide +kernel
theorem dX7_add_116 : decode cX7_add 116 = .ok (.getfield 11, 3) := by decide +kernel
theorem dX7_add_119 : decode cX7_add 119 = .ok (.iload_n 2, 1) := by decide +kernel
theorem dX7_add_120 : decode cX7_add 120 = .ok (.aaload, 1) := by decide +kernel
theorem dX7_add_121 : decode cX7_add 121 = .ok (.iload_n 3, 1) := by decide +kernel
theorem dX7_add_122 : decode cX7_add 122 = .ok (.invokevirtual 202, 3) := by decide +kernel
theorem dX7_add_125 : decode cX7_add 125 = .ok (.aload_n 0, 1) := by decide +kernel
theorem dX7_add_126 : decode cX7_add 126 = .ok (.getfield 11, 3) := by decide +kernel
theorem dX7_add_129 : decode cX7_add 129 = .ok (.iload_n 2, 1) := by decide +kernel
theorem dX7_add_130 : decode cX7_add 130 = .ok (.aaload, 1) := by decide +kernel
theorem dX7_add_131 : decode cX7_add 131 = .ok (.iconst 1, 1) := by decide +kernel
theorem dX7_add_132 : decode cX7_add 132 = .ok (.putfield 123, 3) := by decide +kernel
theorem dX7_add_135 : decode cX7_add 135 = .ok (.aload 4, 2) := by decide +kernel
theorem dX7_add_137 : decode cX7_add 137 = .ok (.getfield 164, 3) := by decide +kernel
theorem dX7_add_140 : decode cX7_add 140 = .ok (.ireturn, 1) := by decide +kernel
theorem dX7_price_0 : decode cX7_price 0 = .ok (.aload_n 0, 1) := by decide +kernel
theorem dX7_price_1 : decode cX7_price 1 = .ok (.iload_n 1, 1) := by decide +kernel
theorem dX7_price_2 : decode cX7_price 2 = .ok (.invokevirtual 113, 3) := by decide +kernel
theorem dX7_price_5 : decode cX7_price 5 = .ok (.ifCond .eq 11, 3) := by decide +kernel
theorem dX7_price_8 : decode cX7_price 8 = .ok (.aload_n 0, 1) := by decide +kernel
theorem dX7_price_9 : decode cX7_price 9 = .ok (.iload_n 2, 1) := by decide +kernel
theorem dX7_price_10 : decode cX7_price 10 = .ok (.invokevirtual 159, 3) := by decide +kernel
theorem dX7_price_13 : decode cX7_price 13 = .ok (.ifCond .ne 7, 3) := by decide +kernel
theorem dX7_price_16 : decode cX7_price 16 = .ok (.sipush (-1001), 3) := by decide +kernel
theorem dX7_price_19 : decode cX7_price 19 = .ok (.ireturn, 1) := by decide +kernel
theorem dX7_price_20 : decode cX7_price 20 = .ok (.iload_n 3, 1) := by decide +kernel
theorem dX7_price_21 : decode cX7_price 21 = .ok (.i2l, 1) := by decide +kernel
theorem dX7_price_22 : decode cX7_price 22 = .ok (.ldc2_w 205, 3) := by decide +kernel
theorem dX7_price_25 : decode cX7_price 25 = .ok (.invokestatic 142, 3) := by decide +kernel
theorem dX7_price_28 : decode cX7_price 28 = .ok (.ifCond .ne 7, 3) := by decide +kernel
theorem dX7_price_31 : decode cX7_price 31 = .ok (.sipush (-1002), 3) := by decide +kernel
theorem dX7_price_34 : decode cX7_price 34 = .ok (.ireturn, 1) := by decide +kernel
theorem dX7_price_35 : decode cX7_price 35 = .ok (.aload_n 0, 1) := by decide +kernel
theorem dX7_price_36 : decode cX7_price 36 = .ok (.getfield 11, 3) := by decide +kernel
theorem dX7_price_39 : decode cX7_price 39 = .ok (.iload_n 1, 1) := by decide +kernel
theorem dX7_price_40 : decode cX7_price 40 = .ok (.aaload, 1) := by decide +kernel
theorem dX7_price_41 : decode cX7_price 41 = .ok (.astore 4, 2) := by decide +kernel
theorem dX7_price_43 : decode cX7_price 43 = .ok (.aload 4, 2) := by decide +kernel
theorem dX7_price_45 : decode cX7_price 45 = .ok (.getfield 123, 3) := by decide +kernel
theorem dX7_price_48 : decode cX7_price 48 = .ok (.ifCond .eq 7, 3) := by decide +kernel
theorem dX7_price_51 : decode cX7_price 51 = .ok (.sipush (-1003), 3) := by decide +kernel
theorem dX7_price_54 : decode cX7_price 54 = .ok (.ireturn, 1) := by decide +kernel
theorem dX7_price_55 : decode cX7_price 55 = .ok (.aload 4, 2) := by decide +kernel
theorem dX7_price_57 : decode cX7_price 57 = .ok (.getfield 132, 3) := by decide +kernel
theorem dX7_price_60 : decode cX7_price 60 = .ok (.iconst 5, 1) := by decide +kernel
theorem dX7_price_61 : decode cX7_price 61 = .ok (.if_icmp .eq 9, 3) := by decide +kernel
theorem dX7_price_64 : decode cX7_price 64 = .ok (.aload_n 0, 1) := by decide +kernel
theorem dX7_price_65 : decode cX7_price 65 = .ok (.iconst 5, 1) := by decide +kernel
theorem dX7_price_66 : decode cX7_price 66 = .ok (.invokevirtual 75, 3) := by decide +kernel
theorem dX7_price_69 : decode cX7_price 69 = .ok (.ireturn, 1) := by decide +kernel
theorem dX7_price_70 : decode cX7_price 70 = .ok (.aload 4, 2) := by decide +kernel
theorem dX7_price_72 : decode cX7_price 72 = .ok (.iload_n 2, 1) := by decide +kernel
theorem dX7_price_73 : decode cX7_price 73 = .ok (.iload_n 3, 1) := by decide +kernel
theorem dX7_price_74 : decode cX7_price 74 = .ok (.invokevirtual 207, 3) := by decide +kernel
theorem dX7_price_77 : decode cX7_price 77 = .ok (.ifCond .eq 7, 3) := by decide +kernel
theorem dX7_price_80 : decode cX7_price 80 = .ok (.sipush (-1005), 3) := by decide +kernel
theorem dX7_price_83 : decode cX7_price 83 = .ok (.ireturn, 1) := by decide +kernel
theorem dX7_price_84 : decode cX7_price 84 = .ok (.aload_n 0, 1) := by decide +kernel
theorem dX7_price_85 : decode cX7_price 85 = .ok (.iconst 0, 1) := by decide +kernel
theorem dX7_price_86 : decode cX7_price 86 = .ok (.putfield 79, 3) := by decide +kernel
theorem dX7_price_89 : decode cX7_price 89 = .ok (.aload 4, 2) := by decide +kernel
theorem dX7_price_91 : decode cX7_price 91 = .ok (.getfield 211, 3) := by decide +kernel
theorem dX7_price_94 : decode cX7_price 94 = .ok (.iload_n 2, 1) := by decide +kernel
theorem dX7_price_95 : decode cX7_price 95 = .ok (.iaload, 1) := by decide +kernel
theorem dX7_price_96 : decode cX7_price 96 = .ok (.istore 5, 2) := by decide +kernel
theorem dX7_price_98 : decode cX7_price 98 = .ok (.aload 4, 2) := by decide +kernel
theorem dX7_price_100 : decode cX7_price 100 = .ok (.iload_n 2, 1) := by decide +kernel
theorem dX7_price_101 : decode cX7_price 101 = .ok (.iload_n 3, 1) := by decide +kernel
theorem dX7_price_102 : decode cX7_price 102 = .ok (.invokevirtual 214, 3) := by decide +kernel
theorem dX7_price_105 : decode cX7_price 105 = .ok (.iload 5, 2) := by decide +kernel
theorem dX7_price_107 : decode cX7_price 107 = .ok (.ireturn, 1) := by decide +kernel
theorem dX7_code_0 : decode cX7_code 0 = .ok (.aload_n 0, 1) := by decide +kernel
theorem dX7_code_1 : decode cX7_code 1 = .ok (.getfield 79, 3) := by decide +kernel
theorem dX7_code_4 : decode cX7_code 4 = .ok (.ireturn, 1) := by decide +kernel
theorem dX7_value_0 : decode cX7_value 0 = .ok (.aload_n 0, 1) := by decide +kernel
theorem dX7_value_1 : decode cX7_value 1 = .ok (.iload_n 1, 1) := by decide +kernel
theorem dX7_value_2 : decode cX7_value 2 = .ok (.invokevirtual 113, 3) := by decide +kernel
theorem dX7_value_5 : decode cX7_value 5 = .ok (.ifCond .eq 11, 3) := by decide +kernel
theorem dX7_value_8 : decode cX7_value 8 = .ok (.aload_n 0, 1) := by decide +kernel
theorem dX7_value_9 : decode cX7_value 9 = .ok (.iload_n 2, 1) := by decide +kernel
theorem dX7_value_10 : decode cX7_value 10 = .ok (.invokevirtual 116, 3) := by decide +kernel
theorem dX7_value_13 : decode cX7_value 13 = .ok (.ifCond .ne 7, 3) := by decide +kernel
theorem dX7_value_16 : decode cX7_value 16 = .ok (.ldc2_w 90, 3) := by decide +kernel
theorem dX7_value_19 : decode cX7_value 19 = .ok (.lreturn, 1) := by decide +kernel
theorem dX7_value_20 : decode cX7_value 20 = .ok (.aload_n 0, 1) := by decide +kernel
theorem dX7_value_21 : decode cX7_value 21 = .ok (.getfield 11, 3) := by decide +kernel
theorem dX7_value_24 : decode cX7_value 24 = .ok (.iload_n 1, 1) := by decide +kernel
theorem dX7_value_25 : decode cX7_value 25 = .ok (.aaload, 1) := by decide +kernel
theorem dX7_value_26 : decode cX7_value 26 = .ok (.getfield 146, 3) := by decide +kernel
theorem dX7_value_29 : decode cX7_value 29 = .ok (.iload_n 2, 1) := by decide +kernel
theorem dX7_value_30 : decode cX7_value 30 = .ok (.laload, 1) := by decide +kernel
theorem dX7_value_31 : decode cX7_value 31 = .ok (.lreturn, 1) := by decide +kernel
theorem dX7_adds_0 : decode cX7_adds 0 = .ok (.aload_n 0, 1) := by decide +kernel
theorem dX7_adds_1 : decode cX7_adds 1 = .ok (.iload_n 1, 1) := by decide +kernel
theorem dX7_adds_2 : decode cX7_adds 2 = .ok (.invokevirtual 113, 3) := by decide +kernel
theorem dX7_adds_5 : decode cX7_adds 5 = .ok (.ifCond .eq 19, 3) := by decide +kernel
theorem dX7_adds_8 : decode cX7_adds 8 = .ok (.aload_n 0, 1) := by decide +kernel
theorem dX7_adds_9 : decode cX7_adds 9 = .ok (.iload_n 2, 1) := by decide +kernel
theorem dX7_adds_10 : decode cX7_adds 10 = .ok (.invokevirtual 116, 3) := by decide +kernel
theorem dX7_adds_13 : decode cX7_adds 13 = .ok (.ifCond .eq 11, 3) := by decide +kernel
theorem dX7_adds_16 : decode cX7_adds 16 = .ok (.aload_n 0, 1) := by decide +kernel
theorem dX7_adds_17 : decode cX7_adds 17 = .ok (.iload_n 3, 1) := by decide +kernel
theorem dX7_adds_18 : decode cX7_adds 18 = .ok (.invokevirtual 159, 3) := by decide +kernel
theorem dX7_adds_21 : decode cX7_adds 21 = .ok (.ifCond .ne 7, 3) := by decide +kernel
theorem dX7_adds_24 : decode cX7_adds 24 = .ok (.ldc2_w 90, 3) := by decide +kernel
theorem dX7_adds_27 : decode cX7_adds 27 = .ok (.lreturn, 1) := by decide +kernel
theorem dX7_adds_28 : decode cX7_adds 28 = .ok (.aload_n 0, 1) := by decide +kernel
theorem dX7_adds_29 : decode cX7_adds 29 = .ok (.getfield 11, 3) := by decide +kernel
theorem dX7_adds_32 : decode cX7_adds 32 = .ok (.iload_n 1, 1) := by decide +kernel
theorem dX7_adds_33 : decode cX7_adds 33 = .ok (.aaload, 1) := by decide +kernel
theorem dX7_adds_34 : decode cX7_adds 34 = .ok (.iload_n 2, 1) := by decide +kernel
theorem dX7_adds_35 : decode cX7_adds 35 = .ok (.iload_n 3, 1) := by decide +kernel
theorem dX7_adds_36 : decode cX7_adds 36 = .ok (.invokevirtual 217, 3) := by decide +kernel
theorem dX7_adds_39 : decode cX7_adds 39 = .ok (.lreturn, 1) := by decide +kernel
theorem dX7_falls_0 : decode cX7_falls 0 = .ok (.aload_n 0, 1) := by decide +kernel
theorem dX7_falls_1 : decode cX7_falls 1 = .ok (.iload_n 1, 1) := by decide +kernel
theorem dX7_falls_2 : decode cX7_falls 2 = .ok (.invokevirtual 113, 3) := by decide +kernel
theorem dX7_falls_5 : decode cX7_falls 5 = .ok (.ifCond .ne 7, 3) := by decide +kernel
theorem dX7_falls_8 : decode cX7_falls 8 = .ok (.sipush (-1001), 3) := by decide +kernel
theorem dX7_falls_11 : decode cX7_falls 11 = .ok (.ireturn, 1) := by decide +kernel
theorem dX7_falls_12 : decode cX7_falls 12 = .ok (.aload_n 0, 1) := by decide +kernel
theorem dX7_falls_13 : decode cX7_falls 13 = .ok (.getfield 26, 3) := by decide +kernel
theorem dX7_falls_16 : decode cX7_falls 16 = .ok (.aload_n 0, 1) := by decide +kernel
theorem dX7_falls_17 : decode cX7_falls 17 = .ok (.getfield 11, 3) := by decide +kernel
theorem dX7_falls_20 : decode cX7_falls 20 = .ok (.iload_n 1, 1) := by decide +kernel
theorem dX7_falls_21 : decode cX7_falls 21 = .ok (.aaload, 1) := by decide +kernel
theorem dX7_falls_22 : decode cX7_falls 22 = .ok (.invokevirtual 221, 3) := by decide +kernel
theorem dX7_falls_25 : decode cX7_falls 25 = .ok (.ifCond .eq 7, 3) := by decide +kernel
theorem dX7_falls_28 : decode cX7_falls 28 = .ok (.iconst 0, 1) := by decide +kernel
theorem dX7_falls_29 : decode cX7_falls 29 = .ok (.goto 4, 3) := by decide +kernel
theorem dX7_falls_32 : decode cX7_falls 32 = .ok (.iconst 1, 1) := by decide +kernel
theorem dX7_falls_33 : decode cX7_falls 33 = .ok (.ireturn, 1) := by decide +kernel
theorem dX7_why_0 : decode cX7_why 0 = .ok (.aload_n 0, 1) := by decide +kernel
theorem dX7_why_1 : decode cX7_why 1 = .ok (.iload_n 1, 1) := by decide +kernel
theorem dX7_why_2 : decode cX7_why 2 = .ok (.invokevirtual 113, 3) := by decide +kernel
theorem dX7_why_5 : decode cX7_why 5 = .ok (.ifCond .ne 7, 3) := by decide +kernel
theorem dX7_why_8 : decode cX7_why 8 = .ok (.sipush (-1001), 3) := by decide +kernel
theorem dX7_why_11 : decode cX7_why 11 = .ok (.ireturn, 1) := by decide +kernel
theorem dX7_why_12 : decode cX7_why 12 = .ok (.iload_n 2, 1) := by decide +kernel
theorem dX7_why_13 : decode cX7_why 13 = .ok (.i2l, 1) := by decide +kernel
theorem dX7_why_14 : decode cX7_why 14 = .ok (.lconst 0, 1) := by decide +kernel
theorem dX7_why_15 : decode cX7_why 15 = .ok (.ldc2_w 225, 3) := by decide +kernel
theorem dX7_why_18 : decode cX7_why 18 = .ok (.invokestatic 53, 3) := by decide +kernel
theorem dX7_why_21 : decode cX7_why 21 = .ok (.ifCond .ne 7, 3) := by decide +kernel
theorem dX7_why_24 : decode cX7_why 24 = .ok (.sipush (-1002), 3) := by decide +kernel
theorem dX7_why_27 : decode cX7_why 27 = .ok (.ireturn, 1) := by decide +kernel
theorem dX7_why_28 : decode cX7_why 28 = .ok (.aload_n 0, 1) := by decide +kernel
theorem dX7_why_29 : decode cX7_why 29 = .ok (.getfield 26, 3) := by decide +kernel
theorem dX7_why_32 : decode cX7_why 32 = .ok (.aload_n 0, 1) := by decide +kernel
theorem dX7_why_33 : decode cX7_why 33 = .ok (.getfield 11, 3) := by decide +kernel
theorem dX7_why_36 : decode cX7_why 36 = .ok (.iload_n 1, 1) := by decide +kernel
theorem dX7_why_37 : decode cX7_why 37 = .ok (.aaload, 1) := by decide +kernel
theorem dX7_why_38 : decode cX7_why 38 = .ok (.invokevirtual 221, 3) := by decide +kernel
theorem dX7_why_41 : decode cX7_why 41 = .ok (.ifCond .ne 5, 3) := by decide +kernel
theorem dX7_why_44 : decode cX7_why 44 = .ok (.iconst (-1), 1) := by decide +kernel
theorem dX7_why_45 : decode cX7_why 45 = .ok (.ireturn, 1) := by decide +kernel
theorem dX7_why_46 : decode cX7_why 46 = .ok (.iload_n 2, 1) := by decide +kernel
theorem dX7_why_47 : decode cX7_why 47 = .ok (.lookupswitch 41 #[(0, 25), (1, 33)], 25) := by decide +kernel
theorem dX7_why_72 : decode cX7_why 72 = .ok (.aload_n 0, 1) := by decide +kernel
theorem dX7_why_73 : decode cX7_why 73 = .ok (.getfield 26, 3) := by decide +kernel
theorem dX7_why_76 : decode cX7_why 76 = .ok (.getfield 227, 3) := by decide +kernel
theorem dX7_why_79 : decode cX7_why 79 = .ok (.ireturn, 1) := by decide +kernel
theorem dX7_why_80 : decode cX7_why 80 = .ok (.aload_n 0, 1) := by decide +kernel
theorem dX7_why_81 : decode cX7_why 81 = .ok (.getfield 26, 3) := by decide +kernel
theorem dX7_why_84 : decode cX7_why 84 = .ok (.getfield 230, 3) := by decide +kernel
theorem dX7_why_87 : decode cX7_why 87 = .ok (.ireturn, 1) := by decide +kernel
theorem dX7_why_88 : decode cX7_why 88 = .ok (.aload_n 0, 1) := by decide +kernel
theorem dX7_why_89 : decode cX7_why 89 = .ok (.getfield 26, 3) := by decide +kernel
theorem dX7_why_92 : decode cX7_why 92 = .ok (.getfield 233, 3) := by decide +kernel
theorem dX7_why_95 : decode cX7_why 95 = .ok (.ireturn, 1) := by decide +kernel
theorem dX7_least_0 : decode cX7_least 0 = .ok (.aload_n 0, 1) := by decide +kernel
theorem dX7_least_1 : decode cX7_least 1 = .ok (.iload_n 1, 1) := by decide +kernel
theorem dX7_least_2 : decode cX7_least 2 = .ok (.invokevirtual 113, 3) := by decide +kernel
theorem dX7_least_5 : decode cX7_least 5 = .ok (.ifCond .ne 7, 3) := by decide +kernel
theorem dX7_least_8 : decode cX7_least 8 = .ok (.ldc2_w 90, 3) := by decide +kernel
theorem dX7_least_11 : decode cX7_least 11 = .ok (.lreturn, 1) := by decide +kernel
theorem dX7_least_12 : decode cX7_least 12 = .ok (.aload_n 0, 1) := by decide +kernel
theorem dX7_least_13 : decode cX7_least 13 = .ok (.getfield 11, 3) := by decide +kernel
theorem dX7_least_16 : decode cX7_least 16 = .ok (.iload_n 1, 1) := by decide +kernel
theorem dX7_least_17 : decode cX7_least 17 = .ok (.aaload, 1) := by decide +kernel
theorem dX7_least_18 : decode cX7_least 18 = .ok (.invokevirtual 236, 3) := by decide +kernel
theorem dX7_least_21 : decode cX7_least 21 = .ok (.lreturn, 1) := by decide +kernel
theorem dX7_all_0 : decode cX7_all 0 = .ok (.aload_n 0, 1) := by decide +kernel
theorem dX7_all_1 : decode cX7_all 1 = .ok (.iload_n 1, 1) := by decide +kernel
theorem dX7_all_2 : decode cX7_all 2 = .ok (.invokevirtual 113, 3) := by decide +kernel
theorem dX7_all_5 : decode cX7_all 5 = .ok (.ifCond .ne 7, 3) := by decide +kernel
theorem dX7_all_8 : decode cX7_all 8 = .ok (.sipush (-1001), 3) := by decide +kernel
theorem dX7_all_11 : decode cX7_all 11 = .ok (.ireturn, 1) := by decide +kernel
theorem dX7_all_12 : decode cX7_all 12 = .ok (.iload_n 2, 1) := by decide +kernel
theorem dX7_all_13 : decode cX7_all 13 = .ok (.i2l, 1) := by decide +kernel
theorem dX7_all_14 : decode cX7_all 14 = .ok (.lconst 0, 1) := by decide +kernel
theorem dX7_all_15 : decode cX7_all 15 = .ok (.ldc2_w 240, 3) := by decide +kernel
theorem dX7_all_18 : decode cX7_all 18 = .ok (.invokestatic 53, 3) := by decide +kernel
theorem dX7_all_21 : decode cX7_all 21 = .ok (.ifCond .ne 7, 3) := by decide +kernel
theorem dX7_all_24 : decode cX7_all 24 = .ok (.sipush (-1002), 3) := by decide +kernel
theorem dX7_all_27 : decode cX7_all 27 = .ok (.ireturn, 1) := by decide +kernel
theorem dX7_all_28 : decode cX7_all 28 = .ok (.aload_n 0, 1) := by decide +kernel
theorem dX7_all_29 : decode cX7_all 29 = .ok (.getfield 33, 3) := by decide +kernel
theorem dX7_all_32 : decode cX7_all 32 = .ok (.aload_n 0, 1) := by decide +kernel
theorem dX7_all_33 : decode cX7_all 33 = .ok (.getfield 11, 3) := by decide +kernel
theorem dX7_all_36 : decode cX7_all 36 = .ok (.iload_n 1, 1) := by decide +kernel
theorem dX7_all_37 : decode cX7_all 37 = .ok (.aaload, 1) := by decide +kernel
theorem dX7_all_38 : decode cX7_all 38 = .ok (.invokevirtual 242, 3) := by decide +kernel
theorem dX7_all_41 : decode cX7_all 41 = .ok (.iload_n 2, 1) := by decide +kernel
theorem dX7_all_42 : decode cX7_all 42 = .ok (.tableswitch 50 0 2 #[26, 34, 42], 26) := by decide +kernel
theorem dX7_all_68 : decode cX7_all 68 = .ok (.aload_n 0, 1) := by decide +kernel
theorem dX7_all_69 : decode cX7_all 69 = .ok (.getfield 33, 3) := by decide +kernel
theorem dX7_all_72 : decode cX7_all 72 = .ok (.getfield 246, 3) := by decide +kernel
theorem dX7_all_75 : decode cX7_all 75 = .ok (.ireturn, 1) := by decide +kernel
theorem dX7_all_76 : decode cX7_all 76 = .ok (.aload_n 0, 1) := by decide +kernel
theorem dX7_all_77 : decode cX7_all 77 = .ok (.getfield 33, 3) := by decide +kernel
theorem dX7_all_80 : decode cX7_all 80 = .ok (.getfield 249, 3) := by decide +kernel
theorem dX7_all_83 : decode cX7_all 83 = .ok (.ireturn, 1) := by decide +kernel
theorem dX7_all_84 : decode cX7_all 84 = .ok (.aload_n 0, 1) := by decide +kernel
theorem dX7_all_85 : decode cX7_all 85 = .ok (.getfield 33, 3) := by decide +kernel
theorem dX7_all_88 : decode cX7_all 88 = .ok (.getfield 252, 3) := by decide +kernel
theorem dX7_all_91 : decode cX7_all 91 = .ok (.ireturn, 1) := by decide +kernel
theorem dX7_all_92 : decode cX7_all 92 = .ok (.aload_n 0, 1) := by decide +kernel
theorem dX7_all_93 : decode cX7_all 93 = .ok (.getfield 33, 3) := by decide +kernel
theorem dX7_all_96 : decode cX7_all 96 = .ok (.aload_n 0, 1) := by decide +kernel
theorem dX7_all_97 : decode cX7_all 97 = .ok (.getfield 11, 3) := by decide +kernel
theorem dX7_all_100 : decode cX7_all 100 = .ok (.iload_n 1, 1) := by decide +kernel
theorem dX7_all_101 : decode cX7_all 101 = .ok (.aaload, 1) := by decide +kernel
theorem dX7_all_102 : decode cX7_all 102 = .ok (.invokevirtual 255, 3) := by decide +kernel
theorem dX7_all_105 : decode cX7_all 105 = .ok (.ifCond .eq 7, 3) := by decide +kernel
theorem dX7_all_108 : decode cX7_all 108 = .ok (.iconst 1, 1) := by decide +kernel
theorem dX7_all_109 : decode cX7_all 109 = .ok (.goto 4, 3) := by decide +kernel
theorem dX7_all_112 : decode cX7_all 112 = .ok (.iconst 0, 1) := by decide +kernel
theorem dX7_all_113 : decode cX7_all 113 = .ok (.ireturn, 1) := by decide +kernel
theorem dX7_one_0 : decode cX7_one 0 = .ok (.aload_n 0, 1) := by decide +kernel
theorem dX7_one_1 : decode cX7_one 1 = .ok (.iload_n 1, 1) := by decide +kernel
theorem dX7_one_2 : decode cX7_one 2 = .ok (.invokevirtual 113, 3) := by decide +kernel
theorem dX7_one_5 : decode cX7_one 5 = .ok (.ifCond .ne 7, 3) := by decide +kernel
theorem dX7_one_8 : decode cX7_one 8 = .ok (.sipush (-1001), 3) := by decide +kernel
theorem dX7_one_11 : decode cX7_one 11 = .ok (.ireturn, 1) := by decide +kernel
theorem dX7_one_12 : decode cX7_one 12 = .ok (.aload_n 0, 1) := by decide +kernel
theorem dX7_one_13 : decode cX7_one 13 = .ok (.getfield 11, 3) := by decide +kernel
theorem dX7_one_16 : decode cX7_one 16 = .ok (.iload_n 1, 1) := by decide +kernel
theorem dX7_one_17 : decode cX7_one 17 = .ok (.aaload, 1) := by decide +kernel
theorem dX7_one_18 : decode cX7_one 18 = .ok (.iload_n 2, 1) := by decide +kernel
theorem dX7_one_19 : decode cX7_one 19 = .ok (.invokevirtual 258, 3) := by decide +kernel
theorem dX7_one_22 : decode cX7_one 22 = .ok (.ireturn, 1) := by decide +kernel
theorem dX7_level_0 : decode cX7_level 0 = .ok (.aload_n 0, 1) := by decide +kernel
theorem dX7_level_1 : decode cX7_level 1 = .ok (.iload_n 1, 1) := by decide +kernel
theorem dX7_level_2 : decode cX7_level 2 = .ok (.invokevirtual 113, 3) := by decide +kernel
theorem dX7_level_5 : decode cX7_level 5 = .ok (.ifCond .ne 7, 3) := by decide +kernel
theorem dX7_level_8 : decode cX7_level 8 = .ok (.ldc2_w 90, 3) := by decide +kernel
theorem dX7_level_11 : decode cX7_level 11 = .ok (.lreturn, 1) := by decide +kernel
theorem dX7_level_12 : decode cX7_level 12 = .ok (.iload_n 2, 1) := by decide +kernel
theorem dX7_level_13 : decode cX7_level 13 = .ok (.i2l, 1) := by decide +kernel
theorem dX7_level_14 : decode cX7_level 14 = .ok (.lconst 0, 1) := by decide +kernel
theorem dX7_level_15 : decode cX7_level 15 = .ok (.aload_n 0, 1) := by decide +kernel
theorem dX7_level_16 : decode cX7_level 16 = .ok (.getfield 61, 3) := by decide +kernel
theorem dX7_level_19 : decode cX7_level 19 = .ok (.i2l, 1) := by decide +kernel
theorem dX7_level_20 : decode cX7_level 20 = .ok (.invokestatic 53, 3) := by decide +kernel
theorem dX7_level_23 : decode cX7_level 23 = .ok (.ifCond .ne 7, 3) := by decide +kernel
theorem dX7_level_26 : decode cX7_level 26 = .ok (.ldc2_w 92, 3) := by decide +kernel
theorem dX7_level_29 : decode cX7_level 29 = .ok (.lreturn, 1) := by decide +kernel
theorem dX7_level_30 : decode cX7_level 30 = .ok (.aload_n 0, 1) := by decide +kernel
theorem dX7_level_31 : decode cX7_level 31 = .ok (.getfield 40, 3) := by decide +kernel
theorem dX7_level_34 : decode cX7_level 34 = .ok (.aload_n 0, 1) := by decide +kernel
theorem dX7_level_35 : decode cX7_level 35 = .ok (.getfield 11, 3) := by decide +kernel
theorem dX7_level_38 : decode cX7_level 38 = .ok (.iload_n 1, 1) := by decide +kernel
theorem dX7_level_39 : decode cX7_level 39 = .ok (.aaload, 1) := by decide +kernel
theorem dX7_level_40 : decode cX7_level 40 = .ok (.invokevirtual 261, 3) := by decide +kernel
theorem dX7_level_43 : decode cX7_level 43 = .ok (.aload_n 0, 1) := by decide +kernel
theorem dX7_level_44 : decode cX7_level 44 = .ok (.getfield 40, 3) := by decide +kernel
theorem dX7_level_47 : decode cX7_level 47 = .ok (.getfield 262, 3) := by decide +kernel
theorem dX7_level_50 : decode cX7_level 50 = .ok (.iload_n 2, 1) := by decide +kernel
theorem dX7_level_51 : decode cX7_level 51 = .ok (.laload, 1) := by decide +kernel
theorem dX7_level_52 : decode cX7_level 52 = .ok (.lreturn, 1) := by decide +kernel
theorem dX7_bends_0 : decode cX7_bends 0 = .ok (.aload_n 0, 1) := by decide +kernel
theorem dX7_bends_1 : decode cX7_bends 1 = .ok (.iload_n 1, 1) := by decide +kernel
theorem dX7_bends_2 : decode cX7_bends 2 = .ok (.invokevirtual 113, 3) := by decide +kernel
theorem dX7_bends_5 : decode cX7_bends 5 = .ok (.ifCond .ne 7, 3) := by decide +kernel
theorem dX7_bends_8 : decode cX7_bends 8 = .ok (.sipush (-1001), 3) := by decide +kernel
theorem dX7_bends_11 : decode cX7_bends 11 = .ok (.ireturn, 1) := by decide +kernel
theorem dX7_bends_12 : decode cX7_bends 12 = .ok (.aload_n 0, 1) := by decide +kernel
theorem dX7_bends_13 : decode cX7_bends 13 = .ok (.getfield 40, 3) := by decide +kernel
theorem dX7_bends_16 : decode cX7_bends 16 = .ok (.aload_n 0, 1) := by decide +kernel
theorem dX7_bends_17 : decode cX7_bends 17 = .ok (.getfield 11, 3) := by decide +kernel
theorem dX7_bends_20 : decode cX7_bends 20 = .ok (.iload_n 1, 1) := by decide +kernel
theorem dX7_bends_21 : decode cX7_bends 21 = .ok (.aaload, 1) := by decide +kernel
theorem dX7_bends_22 : decode cX7_bends 22 = .ok (.invokevirtual 261, 3) := by decide +kernel
theorem dX7_bends_25 : decode cX7_bends 25 = .ok (.aload_n 0, 1) := by decide +kernel
theorem dX7_bends_26 : decode cX7_bends 26 = .ok (.getfield 40, 3) := by decide +kernel
theorem dX7_bends_29 : decode cX7_bends 29 = .ok (.invokevirtual 265, 3) := by decide +kernel
theorem dX7_bends_32 : decode cX7_bends 32 = .ok (.aload_n 0, 1) := by decide +kernel
theorem dX7_bends_33 : decode cX7_bends 33 = .ok (.getfield 40, 3) := by decide +kernel
theorem dX7_bends_36 : decode cX7_bends 36 = .ok (.getfield 268, 3) := by decide +kernel
theorem dX7_bends_39 : decode cX7_bends 39 = .ok (.ireturn, 1) := by decide +kernel
theorem dX7_bend_0 : decode cX7_bend 0 = .ok (.aload_n 0, 1) := by decide +kernel
theorem dX7_bend_1 : decode cX7_bend 1 = .ok (.iload_n 1, 1) := by decide +kernel
theorem dX7_bend_2 : decode cX7_bend 2 = .ok (.invokevirtual 113, 3) := by decide +kernel
theorem dX7_bend_5 : decode cX7_bend 5 = .ok (.ifCond .ne 7, 3) := by decide +kernel
theorem dX7_bend_8 : decode cX7_bend 8 = .ok (.ldc2_w 90, 3) := by decide +kernel
theorem dX7_bend_11 : decode cX7_bend 11 = .ok (.lreturn, 1) := by decide +kernel
theorem dX7_bend_12 : decode cX7_bend 12 = .ok (.aload_n 0, 1) := by decide +kernel
theorem dX7_bend_13 : decode cX7_bend 13 = .ok (.getfield 40, 3) := by decide +kernel
theorem dX7_bend_16 : decode cX7_bend 16 = .ok (.aload_n 0, 1) := by decide +kernel
theorem dX7_bend_17 : decode cX7_bend 17 = .ok (.getfield 11, 3) := by decide +kernel
theorem dX7_bend_20 : decode cX7_bend 20 = .ok (.iload_n 1, 1) := by decide +kernel
theorem dX7_bend_21 : decode cX7_bend 21 = .ok (.aaload, 1) := by decide +kernel
theorem dX7_bend_22 : decode cX7_bend 22 = .ok (.invokevirtual 261, 3) := by decide +kernel
theorem dX7_bend_25 : decode cX7_bend 25 = .ok (.aload_n 0, 1) := by decide +kernel
theorem dX7_bend_26 : decode cX7_bend 26 = .ok (.getfield 40, 3) := by decide +kernel
theorem dX7_bend_29 : decode cX7_bend 29 = .ok (.invokevirtual 265, 3) := by decide +kernel
theorem dX7_bend_32 : decode cX7_bend 32 = .ok (.iload_n 2, 1) := by decide +kernel
theorem dX7_bend_33 : decode cX7_bend 33 = .ok (.i2l, 1) := by decide +kernel
theorem dX7_bend_34 : decode cX7_bend 34 = .ok (.lconst 0, 1) := by decide +kernel
theorem dX7_bend_35 : decode cX7_bend 35 = .ok (.aload_n 0, 1) := by decide +kernel
theorem dX7_bend_36 : decode cX7_bend 36 = .ok (.getfield 40, 3) := by decide +kernel
theorem dX7_bend_39 : decode cX7_bend 39 = .ok (.getfield 268, 3) := by decide +kernel
theorem dX7_bend_42 : decode cX7_bend 42 = .ok (.iconst 1, 1) := by decide +kernel
theorem dX7_bend_43 : decode cX7_bend 43 = .ok (.isub, 1) := by decide +kernel
theorem dX7_bend_44 : decode cX7_bend 44 = .ok (.i2l, 1) := by decide +kernel
theorem dX7_bend_45 : decode cX7_bend 45 = .ok (.invokestatic 53, 3) := by decide +kernel
theorem dX7_bend_48 : decode cX7_bend 48 = .ok (.ifCond .ne 7, 3) := by decide +kernel
theorem dX7_bend_51 : decode cX7_bend 51 = .ok (.ldc2_w 90, 3) := by decide +kernel
theorem dX7_bend_54 : decode cX7_bend 54 = .ok (.lreturn, 1) := by decide +kernel
theorem dX7_bend_55 : decode cX7_bend 55 = .ok (.iload_n 3, 1) := by decide +kernel
theorem dX7_bend_56 : decode cX7_bend 56 = .ok (.i2l, 1) := by decide +kernel
theorem dX7_bend_57 : decode cX7_bend 57 = .ok (.lconst 0, 1) := by decide +kernel
theorem dX7_bend_58 : decode cX7_bend 58 = .ok (.ldc2_w 240, 3) := by decide +kernel
theorem dX7_bend_61 : decode cX7_bend 61 = .ok (.invokestatic 53, 3) := by decide +kernel
theorem dX7_bend_64 : decode cX7_bend 64 = .ok (.ifCond .ne 7, 3) := by decide +kernel
theorem dX7_bend_67 : decode cX7_bend 67 = .ok (.ldc2_w 92, 3) := by decide +kernel
theorem dX7_bend_70 : decode cX7_bend 70 = .ok (.lreturn, 1) := by decide +kernel
theorem dX7_bend_71 : decode cX7_bend 71 = .ok (.iload_n 3, 1) := by decide +kernel
theorem dX7_bend_72 : decode cX7_bend 72 = .ok (.tableswitch 57 0 2 #[28, 37, 46], 28) := by decide +kernel
theorem dX7_bend_100 : decode cX7_bend 100 = .ok (.aload_n 0, 1) := by decide +kernel
theorem dX7_bend_101 : decode cX7_bend 101 = .ok (.getfield 40, 3) := by decide +kernel
theorem dX7_bend_104 : decode cX7_bend 104 = .ok (.iload_n 2, 1) := by decide +kernel
theorem dX7_bend_105 : decode cX7_bend 105 = .ok (.invokevirtual 271, 3) := by decide +kernel
theorem dX7_bend_108 : decode cX7_bend 108 = .ok (.lreturn, 1) := by decide +kernel
theorem dX7_bend_109 : decode cX7_bend 109 = .ok (.aload_n 0, 1) := by decide +kernel
theorem dX7_bend_110 : decode cX7_bend 110 = .ok (.getfield 40, 3) := by decide +kernel
theorem dX7_bend_113 : decode cX7_bend 113 = .ok (.iload_n 2, 1) := by decide +kernel
theorem dX7_bend_114 : decode cX7_bend 114 = .ok (.invokevirtual 275, 3) := by decide +kernel
theorem dX7_bend_117 : decode cX7_bend 117 = .ok (.lreturn, 1) := by decide +kernel
theorem dX7_bend_118 : decode cX7_bend 118 = .ok (.aload_n 0, 1) := by decide +kernel
theorem dX7_bend_119 : decode cX7_bend 119 = .ok (.getfield 40, 3) := by decide +kernel
theorem dX7_bend_122 : decode cX7_bend 122 = .ok (.getfield 278, 3) := by decide +kernel
theorem dX7_bend_125 : decode cX7_bend 125 = .ok (.iload_n 2, 1) := by decide +kernel
theorem dX7_bend_126 : decode cX7_bend 126 = .ok (.iaload, 1) := by decide +kernel
theorem dX7_bend_127 : decode cX7_bend 127 = .ok (.i2l, 1) := by decide +kernel
theorem dX7_bend_128 : decode cX7_bend 128 = .ok (.lreturn, 1) := by decide +kernel
theorem dX7_bend_129 : decode cX7_bend 129 = .ok (.aload_n 0, 1) := by decide +kernel
theorem dX7_bend_130 : decode cX7_bend 130 = .ok (.getfield 40, 3) := by decide +kernel
theorem dX7_bend_133 : decode cX7_bend 133 = .ok (.getfield 278, 3) := by decide +kernel
theorem dX7_bend_136 : decode cX7_bend 136 = .ok (.iload_n 2, 1) := by decide +kernel
theorem dX7_bend_137 : decode cX7_bend 137 = .ok (.iconst 1, 1) := by decide +kernel
theorem dX7_bend_138 : decode cX7_bend 138 = .ok (.iadd, 1) := by decide +kernel
theorem dX7_bend_139 : decode cX7_bend 139 = .ok (.iaload, 1) := by decide +kernel
theorem dX7_bend_140 : decode cX7_bend 140 = .ok (.i2l, 1) := by decide +kernel
theorem dX7_bend_141 : decode cX7_bend 141 = .ok (.lreturn, 1) := by decide +kernel
theorem dX7_order_0 : decode cX7_order 0 = .ok (.aload_n 0, 1) := by decide +kernel
theorem dX7_order_1 : decode cX7_order 1 = .ok (.iload_n 1, 1) := by decide +kernel
theorem dX7_order_2 : decode cX7_order 2 = .ok (.invokevirtual 159, 3) := by decide +kernel
theorem dX7_order_5 : decode cX7_order 5 = .ok (.ifCond .ne 7, 3) := by decide +kernel
theorem dX7_order_8 : decode cX7_order 8 = .ok (.sipush (-1001), 3) := by decide +kernel
theorem dX7_order_11 : decode cX7_order 11 = .ok (.ireturn, 1) := by decide +kernel
theorem dX7_order_12 : decode cX7_order 12 = .ok (.iload_n 2, 1) := by decide +kernel
theorem dX7_order_13 : decode cX7_order 13 = .ok (.i2l, 1) := by decide +kernel
theorem dX7_order_14 : decode cX7_order 14 = .ok (.lconst 0, 1) := by decide +kernel
theorem dX7_order_15 : decode cX7_order 15 = .ok (.aload_n 0, 1) := by decide +kernel
theorem dX7_order_16 : decode cX7_order 16 = .ok (.getfield 61, 3) := by decide +kernel
theorem dX7_order_19 : decode cX7_order 19 = .ok (.iconst 1, 1) := by decide +kernel
theorem dX7_order_20 : decode cX7_order 20 = .ok (.isub, 1) := by decide +kernel
theorem dX7_order_21 : decode cX7_order 21 = .ok (.i2l, 1) := by decide +kernel
theorem dX7_order_22 : decode cX7_order 22 = .ok (.invokestatic 53, 3) := by decide +kernel
theorem dX7_order_25 : decode cX7_order 25 = .ok (.ifCond .ne 7, 3) := by decide +kernel
theorem dX7_order_28 : decode cX7_order 28 = .ok (.sipush (-1002), 3) := by decide +kernel
theorem dX7_order_31 : decode cX7_order 31 = .ok (.ireturn, 1) := by decide +kernel
theorem dX7_order_32 : decode cX7_order 32 = .ok (.aload_n 0, 1) := by decide +kernel
theorem dX7_order_33 : decode cX7_order 33 = .ok (.getfield 47, 3) := by decide +kernel
theorem dX7_order_36 : decode cX7_order 36 = .ok (.iload_n 1, 1) := by decide +kernel
theorem dX7_order_37 : decode cX7_order 37 = .ok (.iload_n 2, 1) := by decide +kernel
theorem dX7_order_38 : decode cX7_order 38 = .ok (.invokevirtual 281, 3) := by decide +kernel
theorem dX7_order_41 : decode cX7_order 41 = .ok (.ireturn, 1) := by decide +kernel
theorem dX7_corner_0 : decode cX7_corner 0 = .ok (.aload_n 0, 1) := by decide +kernel
theorem dX7_corner_1 : decode cX7_corner 1 = .ok (.iload_n 1, 1) := by decide +kernel
theorem dX7_corner_2 : decode cX7_corner 2 = .ok (.invokevirtual 113, 3) := by decide +kernel
theorem dX7_corner_5 : decode cX7_corner 5 = .ok (.ifCond .ne 7, 3) := by decide +kernel
theorem dX7_corner_8 : decode cX7_corner 8 = .ok (.sipush (-1001), 3) := by decide +kernel
theorem dX7_corner_11 : decode cX7_corner 11 = .ok (.ireturn, 1) := by decide +kernel
theorem dX7_corner_12 : decode cX7_corner 12 = .ok (.aload_n 0, 1) := by decide +kernel
theorem dX7_corner_13 : decode cX7_corner 13 = .ok (.getfield 47, 3) := by decide +kernel
theorem dX7_corner_16 : decode cX7_corner 16 = .ok (.aload_n 0, 1) := by decide +kernel
theorem dX7_corner_17 : decode cX7_corner 17 = .ok (.getfield 11, 3) := by decide +kernel
theorem dX7_corner_20 : decode cX7_corner 20 = .ok (.iload_n 1, 1) := by decide +kernel
theorem dX7_corner_21 : decode cX7_corner 21 = .ok (.aaload, 1) := by decide +kernel
theorem dX7_corner_22 : decode cX7_corner 22 = .ok (.invokevirtual 285, 3) := by decide +kernel
theorem dX7_corner_25 : decode cX7_corner 25 = .ok (.aload_n 0, 1) := by decide +kernel
theorem dX7_corner_26 : decode cX7_corner 26 = .ok (.getfield 47, 3) := by decide +kernel
theorem dX7_corner_29 : decode cX7_corner 29 = .ok (.iconst 0, 1) := by decide +kernel
theorem dX7_corner_30 : decode cX7_corner 30 = .ok (.iconst 1, 1) := by decide +kernel
theorem dX7_corner_31 : decode cX7_corner 31 = .ok (.invokevirtual 288, 3) := by decide +kernel
theorem dX7_corner_34 : decode cX7_corner 34 = .ok (.iconst 1, 1) := by decide +kernel
theorem dX7_corner_35 : decode cX7_corner 35 = .ok (.ireturn, 1) := by decide +kernel
theorem dX7_mix_0 : decode cX7_mix 0 = .ok (.aload_n 0, 1) := by decide +kernel
theorem dX7_mix_1 : decode cX7_mix 1 = .ok (.iload_n 1, 1) := by decide +kernel
theorem dX7_mix_2 : decode cX7_mix 2 = .ok (.invokevirtual 113, 3) := by decide +kernel
theorem dX7_mix_5 : decode cX7_mix 5 = .ok (.ifCond .ne 7, 3) := by decide +kernel
theorem dX7_mix_8 : decode cX7_mix 8 = .ok (.sipush (-1001), 3) := by decide +kernel
theorem dX7_mix_11 : decode cX7_mix 11 = .ok (.ireturn, 1) := by decide +kernel
theorem dX7_mix_12 : decode cX7_mix 12 = .ok (.iload_n 2, 1) := by decide +kernel
theorem dX7_mix_13 : decode cX7_mix 13 = .ok (.i2l, 1) := by decide +kernel
theorem dX7_mix_14 : decode cX7_mix 14 = .ok (.lconst 0, 1) := by decide +kernel
theorem dX7_mix_15 : decode cX7_mix 15 = .ok (.ldc2_w 291, 3) := by decide +kernel
theorem dX7_mix_18 : decode cX7_mix 18 = .ok (.invokestatic 53, 3) := by decide +kernel
theorem dX7_mix_21 : decode cX7_mix 21 = .ok (.ifCond .eq 15, 3) := by decide +kernel
theorem dX7_mix_24 : decode cX7_mix 24 = .ok (.iload_n 3, 1) := by decide +kernel
theorem dX7_mix_25 : decode cX7_mix 25 = .ok (.i2l, 1) := by decide +kernel
theorem dX7_mix_26 : decode cX7_mix 26 = .ok (.lconst 0, 1) := by decide +kernel
theorem dX7_mix_27 : decode cX7_mix 27 = .ok (.ldc2_w 291, 3) := by decide +kernel
theorem dX7_mix_30 : decode cX7_mix 30 = .ok (.invokestatic 53, 3) := by decide +kernel
theorem dX7_mix_33 : decode cX7_mix 33 = .ok (.ifCond .ne 7, 3) := by decide +kernel
theorem dX7_mix_36 : decode cX7_mix 36 = .ok (.sipush (-1002), 3) := by decide +kernel
theorem dX7_mix_39 : decode cX7_mix 39 = .ok (.ireturn, 1) := by decide +kernel
theorem dX7_mix_40 : decode cX7_mix 40 = .ok (.iload_n 2, 1) := by decide +kernel
theorem dX7_mix_41 : decode cX7_mix 41 = .ok (.ifCond .ne 11, 3) := by decide +kernel
theorem dX7_mix_44 : decode cX7_mix 44 = .ok (.iload_n 3, 1) := by decide +kernel
theorem dX7_mix_45 : decode cX7_mix 45 = .ok (.ifCond .ne 7, 3) := by decide +kernel
theorem dX7_mix_48 : decode cX7_mix 48 = .ok (.sipush (-1002), 3) := by decide +kernel
theorem dX7_mix_51 : decode cX7_mix 51 = .ok (.ireturn, 1) := by decide +kernel
theorem dX7_mix_52 : decode cX7_mix 52 = .ok (.aload_n 0, 1) := by decide +kernel
theorem dX7_mix_53 : decode cX7_mix 53 = .ok (.getfield 47, 3) := by decide +kernel
theorem dX7_mix_56 : decode cX7_mix 56 = .ok (.aload_n 0, 1) := by decide +kernel
theorem dX7_mix_57 : decode cX7_mix 57 = .ok (.getfield 11, 3) := by decide +kernel
theorem dX7_mix_60 : decode cX7_mix 60 = .ok (.iload_n 1, 1) := by decide +kernel
theorem dX7_mix_61 : decode cX7_mix 61 = .ok (.aaload, 1) := by decide +kernel
theorem dX7_mix_62 : decode cX7_mix 62 = .ok (.invokevirtual 285, 3) := by decide +kernel
theorem dX7_mix_65 : decode cX7_mix 65 = .ok (.aload_n 0, 1) := by decide +kernel
theorem dX7_mix_66 : decode cX7_mix 66 = .ok (.getfield 47, 3) := by decide +kernel
theorem dX7_mix_69 : decode cX7_mix 69 = .ok (.iload_n 2, 1) := by decide +kernel
theorem dX7_mix_70 : decode cX7_mix 70 = .ok (.iload_n 3, 1) := by decide +kernel
theorem dX7_mix_71 : decode cX7_mix 71 = .ok (.invokevirtual 293, 3) := by decide +kernel
theorem dX7_mix_74 : decode cX7_mix 74 = .ok (.ifCond .eq 7, 3) := by decide +kernel
theorem dX7_mix_77 : decode cX7_mix 77 = .ok (.sipush (-1005), 3) := by decide +kernel
theorem dX7_mix_80 : decode cX7_mix 80 = .ok (.ireturn, 1) := by decide +kernel
theorem dX7_mix_81 : decode cX7_mix 81 = .ok (.aload_n 0, 1) := by decide +kernel
theorem dX7_mix_82 : decode cX7_mix 82 = .ok (.getfield 47, 3) := by decide +kernel
theorem dX7_mix_85 : decode cX7_mix 85 = .ok (.iload_n 2, 1) := by decide +kernel
theorem dX7_mix_86 : decode cX7_mix 86 = .ok (.iload_n 3, 1) := by decide +kernel
theorem dX7_mix_87 : decode cX7_mix 87 = .ok (.invokevirtual 288, 3) := by decide +kernel
theorem dX7_mix_90 : decode cX7_mix 90 = .ok (.aload_n 0, 1) := by decide +kernel
theorem dX7_mix_91 : decode cX7_mix 91 = .ok (.getfield 47, 3) := by decide +kernel
theorem dX7_mix_94 : decode cX7_mix 94 = .ok (.getfield 296, 3) := by decide +kernel
theorem dX7_mix_97 : decode cX7_mix 97 = .ok (.ireturn, 1) := by decide +kernel
theorem dX7_share_0 : decode cX7_share 0 = .ok (.aload_n 0, 1) := by decide +kernel
theorem dX7_share_1 : decode cX7_share 1 = .ok (.iload_n 1, 1) := by decide +kernel
theorem dX7_share_2 : decode cX7_share 2 = .ok (.invokevirtual 159, 3) := by decide +kernel
theorem dX7_share_5 : decode cX7_share 5 = .ok (.ifCond .ne 7, 3) := by decide +kernel
theorem dX7_share_8 : decode cX7_share 8 = .ok (.ldc2_w 90, 3) := by decide +kernel
theorem dX7_share_11 : decode cX7_share 11 = .ok (.lreturn, 1) := by decide +kernel
theorem dX7_share_12 : decode cX7_share 12 = .ok (.lload_n 2, 1) := by decide +kernel
theorem dX7_share_13 : decode cX7_share 13 = .ok (.ldc2_w 298, 3) := by decide +kernel
theorem dX7_share_16 : decode cX7_share 16 = .ok (.invokestatic 142, 3) := by decide +kernel
theorem dX7_share_19 : decode cX7_share 19 = .ok (.ifCond .ne 7, 3) := by decide +kernel
theorem dX7_share_22 : decode cX7_share 22 = .ok (.ldc2_w 92, 3) := by decide +kernel
theorem dX7_share_25 : decode cX7_share 25 = .ok (.lreturn, 1) := by decide +kernel
theorem dX7_share_26 : decode cX7_share 26 = .ok (.aload_n 0, 1) := by decide +kernel
theorem dX7_share_27 : decode cX7_share 27 = .ok (.getfield 47, 3) := by decide +kernel
theorem dX7_share_30 : decode cX7_share 30 = .ok (.getfield 300, 3) := by decide +kernel
theorem dX7_share_33 : decode cX7_share 33 = .ok (.iload_n 1, 1) := by decide +kernel
theorem dX7_share_34 : decode cX7_share 34 = .ok (.laload, 1) := by decide +kernel
theorem dX7_share_35 : decode cX7_share 35 = .ok (.lstore 4, 2) := by decide +kernel
theorem dX7_share_37 : decode cX7_share 37 = .ok (.aload_n 0, 1) := by decide +kernel
theorem dX7_share_38 : decode cX7_share 38 = .ok (.getfield 47, 3) := by decide +kernel
theorem dX7_share_41 : decode cX7_share 41 = .ok (.getfield 300, 3) := by decide +kernel
theorem dX7_share_44 : decode cX7_share 44 = .ok (.iload_n 1, 1) := by decide +kernel
theorem dX7_share_45 : decode cX7_share 45 = .ok (.lload_n 2, 1) := by decide +kernel
theorem dX7_share_46 : decode cX7_share 46 = .ok (.lastore, 1) := by decide +kernel
theorem dX7_share_47 : decode cX7_share 47 = .ok (.lload 4, 2) := by decide +kernel
theorem dX7_share_49 : decode cX7_share 49 = .ok (.lreturn, 1) := by decide +kernel
theorem dX7_shareOf_0 : decode cX7_shareOf 0 = .ok (.iload_n 1, 1) := by decide +kernel
theorem dX7_shareOf_1 : decode cX7_shareOf 1 = .ok (.iconst (-1), 1) := by decide +kernel
theorem dX7_shareOf_2 : decode cX7_shareOf 2 = .ok (.if_icmp .ne 12, 3) := by decide +kernel
theorem dX7_shareOf_5 : decode cX7_shareOf 5 = .ok (.aload_n 0, 1) := by decide +kernel
theorem dX7_shareOf_6 : decode cX7_shareOf 6 = .ok (.getfield 47, 3) := by decide +kernel
theorem dX7_shareOf_9 : decode cX7_shareOf 9 = .ok (.getfield 296, 3) := by decide +kernel
theorem dX7_shareOf_12 : decode cX7_shareOf 12 = .ok (.i2l, 1) := by decide +kernel
theorem dX7_shareOf_13 : decode cX7_shareOf 13 = .ok (.lreturn, 1) := by decide +kernel
theorem dX7_shareOf_14 : decode cX7_shareOf 14 = .ok (.aload_n 0, 1) := by decide +kernel
theorem dX7_shareOf_15 : decode cX7_shareOf 15 = .ok (.iload_n 1, 1) := by decide +kernel
theorem dX7_shareOf_16 : decode cX7_shareOf 16 = .ok (.invokevirtual 159, 3) := by decide +kernel
theorem dX7_shareOf_19 : decode cX7_shareOf 19 = .ok (.ifCond .ne 7, 3) := by decide +kernel
theorem dX7_shareOf_22 : decode cX7_shareOf 22 = .ok (.ldc2_w 90, 3) := by decide +kernel
theorem dX7_shareOf_25 : decode cX7_shareOf 25 = .ok (.lreturn, 1) := by decide +kernel
theorem dX7_shareOf_26 : decode cX7_shareOf 26 = .ok (.aload_n 0, 1) := by decide +kernel
theorem dX7_shareOf_27 : decode cX7_shareOf 27 = .ok (.getfield 47, 3) := by decide +kernel
theorem dX7_shareOf_30 : decode cX7_shareOf 30 = .ok (.getfield 300, 3) := by decide +kernel
theorem dX7_shareOf_33 : decode cX7_shareOf 33 = .ok (.iload_n 1, 1) := by decide +kernel
theorem dX7_shareOf_34 : decode cX7_shareOf 34 = .ok (.laload, 1) := by decide +kernel
theorem dX7_shareOf_35 : decode cX7_shareOf 35 = .ok (.lreturn, 1) := by decide +kernel
theorem dX7_in_0 : decode cX7_in 0 = .ok (.aload_n 0, 1) := by decide +kernel
theorem dX7_in_1 : decode cX7_in 1 = .ok (.iload_n 1, 1) := by decide +kernel
theorem dX7_in_2 : decode cX7_in 2 = .ok (.invokevirtual 113, 3) := by decide +kernel
theorem dX7_in_5 : decode cX7_in 5 = .ok (.ifCond .ne 7, 3) := by decide +kernel
theorem dX7_in_8 : decode cX7_in 8 = .ok (.sipush (-1001), 3) := by decide +kernel
theorem dX7_in_11 : decode cX7_in 11 = .ok (.ireturn, 1) := by decide +kernel
theorem dX7_in_12 : decode cX7_in 12 = .ok (.aload_n 0, 1) := by decide +kernel
theorem dX7_in_13 : decode cX7_in 13 = .ok (.getfield 47, 3) := by decide +kernel
theorem dX7_in_16 : decode cX7_in 16 = .ok (.aload_n 0, 1) := by decide +kernel
theorem dX7_in_17 : decode cX7_in 17 = .ok (.getfield 11, 3) := by decide +kernel
theorem dX7_in_20 : decode cX7_in 20 = .ok (.iload_n 1, 1) := by decide +kernel
theorem dX7_in_21 : decode cX7_in 21 = .ok (.aaload, 1) := by decide +kernel
theorem dX7_in_22 : decode cX7_in 22 = .ok (.invokevirtual 303, 3) := by decide +kernel
theorem dX7_in_25 : decode cX7_in 25 = .ok (.ireturn, 1) := by decide +kernel
theorem dX7_proves_0 : decode cX7_proves 0 = .ok (.aload_n 0, 1) := by decide +kernel
theorem dX7_proves_1 : decode cX7_proves 1 = .ok (.iload_n 1, 1) := by decide +kernel
theorem dX7_proves_2 : decode cX7_proves 2 = .ok (.invokevirtual 113, 3) := by decide +kernel
theorem dX7_proves_5 : decode cX7_proves 5 = .ok (.ifCond .ne 7, 3) := by decide +kernel
theorem dX7_proves_8 : decode cX7_proves 8 = .ok (.sipush (-1001), 3) := by decide +kernel
theorem dX7_proves_11 : decode cX7_proves 11 = .ok (.ireturn, 1) := by decide +kernel
theorem dX7_proves_12 : decode cX7_proves 12 = .ok (.aload_n 0, 1) := by decide +kernel
theorem dX7_proves_13 : decode cX7_proves 13 = .ok (.getfield 47, 3) := by decide +kernel
theorem dX7_proves_16 : decode cX7_proves 16 = .ok (.aload_n 0, 1) := by decide +kernel
theorem dX7_proves_17 : decode cX7_proves 17 = .ok (.getfield 11, 3) := by decide +kernel
theorem dX7_proves_20 : decode cX7_proves 20 = .ok (.iload_n 1, 1) := by decide +kernel
theorem dX7_proves_21 : decode cX7_proves 21 = .ok (.aaload, 1) := by decide +kernel
theorem dX7_proves_22 : decode cX7_proves 22 = .ok (.invokevirtual 307, 3) := by decide +kernel
theorem dX7_proves_25 : decode cX7_proves 25 = .ok (.ifCond .eq 7, 3) := by decide +kernel
theorem dX7_proves_28 : decode cX7_proves 28 = .ok (.iconst 1, 1) := by decide +kernel
theorem dX7_proves_29 : decode cX7_proves 29 = .ok (.goto 4, 3) := by decide +kernel
theorem dX7_proves_32 : decode cX7_proves 32 = .ok (.iconst 0, 1) := by decide +kernel
theorem dX7_proves_33 : decode cX7_proves 33 = .ok (.ireturn, 1) := by decide +kernel
theorem dX7_greed_0 : decode cX7_greed 0 = .ok (.aload_n 0, 1) := by decide +kernel
theorem dX7_greed_1 : decode cX7_greed 1 = .ok (.iload_n 1, 1) := by decide +kernel
theorem dX7_greed_2 : decode cX7_greed 2 = .ok (.invokevirtual 113, 3) := by decide +kernel
theorem dX7_greed_5 : decode cX7_greed 5 = .ok (.ifCond .ne 7, 3) := by decide +kernel
theorem dX7_greed_8 : decode cX7_greed 8 = .ok (.sipush (-1001), 3) := by decide +kernel
theorem dX7_greed_11 : decode cX7_greed 11 = .ok (.ireturn, 1) := by decide +kernel
theorem dX7_greed_12 : decode cX7_greed 12 = .ok (.iload_n 2, 1) := by decide +kernel
theorem dX7_greed_13 : decode cX7_greed 13 = .ok (.i2l, 1) := by decide +kernel
theorem dX7_greed_14 : decode cX7_greed 14 = .ok (.lconst 0, 1) := by decide +kernel
theorem dX7_greed_15 : decode cX7_greed 15 = .ok (.ldc2_w 51, 3) := by decide +kernel
theorem dX7_greed_18 : decode cX7_greed 18 = .ok (.invokestatic 53, 3) := by decide +kernel
theorem dX7_greed_21 : decode cX7_greed 21 = .ok (.ifCond .ne 7, 3) := by decide +kernel
theorem dX7_greed_24 : decode cX7_greed 24 = .ok (.sipush (-1002), 3) := by decide +kernel
theorem dX7_greed_27 : decode cX7_greed 27 = .ok (.ireturn, 1) := by decide +kernel
theorem dX7_greed_28 : decode cX7_greed 28 = .ok (.aload_n 0, 1) := by decide +kernel
theorem dX7_greed_29 : decode cX7_greed 29 = .ok (.getfield 11, 3) := by decide +kernel
theorem dX7_greed_32 : decode cX7_greed 32 = .ok (.iload_n 1, 1) := by decide +kernel
theorem dX7_greed_33 : decode cX7_greed 33 = .ok (.aaload, 1) := by decide +kernel
theorem dX7_greed_34 : decode cX7_greed 34 = .ok (.iload_n 2, 1) := by decide +kernel
theorem dX7_greed_35 : decode cX7_greed 35 = .ok (.invokevirtual 310, 3) := by decide +kernel
theorem dX7_greed_38 : decode cX7_greed 38 = .ok (.ireturn, 1) := by decide +kernel
theorem dX7_best_0 : decode cX7_best 0 = .ok (.aload_n 0, 1) := by decide +kernel
theorem dX7_best_1 : decode cX7_best 1 = .ok (.iload_n 1, 1) := by decide +kernel
theorem dX7_best_2 : decode cX7_best 2 = .ok (.invokevirtual 113, 3) := by decide +kernel
theorem dX7_best_5 : decode cX7_best 5 = .ok (.ifCond .ne 7, 3) := by decide +kernel
theorem dX7_best_8 : decode cX7_best 8 = .ok (.ldc2_w 90, 3) := by decide +kernel
theorem dX7_best_11 : decode cX7_best 11 = .ok (.lreturn, 1) := by decide +kernel
theorem dX7_best_12 : decode cX7_best 12 = .ok (.iload_n 2, 1) := by decide +kernel
theorem dX7_best_13 : decode cX7_best 13 = .ok (.i2l, 1) := by decide +kernel
theorem dX7_best_14 : decode cX7_best 14 = .ok (.lconst 0, 1) := by decide +kernel
theorem dX7_best_15 : decode cX7_best 15 = .ok (.ldc2_w 51, 3) := by decide +kernel
theorem dX7_best_18 : decode cX7_best 18 = .ok (.invokestatic 53, 3) := by decide +kernel
theorem dX7_best_21 : decode cX7_best 21 = .ok (.ifCond .ne 7, 3) := by decide +kernel
theorem dX7_best_24 : decode cX7_best 24 = .ok (.ldc2_w 92, 3) := by decide +kernel
theorem dX7_best_27 : decode cX7_best 27 = .ok (.lreturn, 1) := by decide +kernel
theorem dX7_best_28 : decode cX7_best 28 = .ok (.aload_n 0, 1) := by decide +kernel
theorem dX7_best_29 : decode cX7_best 29 = .ok (.getfield 11, 3) := by decide +kernel
theorem dX7_best_32 : decode cX7_best 32 = .ok (.iload_n 1, 1) := by decide +kernel
theorem dX7_best_33 : decode cX7_best 33 = .ok (.aaload, 1) := by decide +kernel
theorem dX7_best_34 : decode cX7_best 34 = .ok (.iload_n 2, 1) := by decide +kernel
theorem dX7_best_35 : decode cX7_best 35 = .ok (.invokevirtual 313, 3) := by decide +kernel
theorem dX7_best_38 : decode cX7_best 38 = .ok (.lreturn, 1) := by decide +kernel
theorem dX7_isThing_0 : decode cX7_isThing 0 = .ok (.iload_n 1, 1) := by decide +kernel
theorem dX7_isThing_1 : decode cX7_isThing 1 = .ok (.i2l, 1) := by decide +kernel
theorem dX7_isThing_2 : decode cX7_isThing 2 = .ok (.lconst 0, 1) := by decide +kernel
theorem dX7_isThing_3 : decode cX7_isThing 3 = .ok (.aload_n 0, 1) := by decide +kernel
theorem dX7_isThing_4 : decode cX7_isThing 4 = .ok (.getfield 61, 3) := by decide +kernel
theorem dX7_isThing_7 : decode cX7_isThing 7 = .ok (.iconst 1, 1) := by decide +kernel
theorem dX7_isThing_8 : decode cX7_isThing 8 = .ok (.isub, 1) := by decide +kernel
theorem dX7_isThing_9 : decode cX7_isThing 9 = .ok (.i2l, 1) := by decide +kernel
theorem dX7_isThing_10 : decode cX7_isThing 10 = .ok (.invokestatic 53, 3) := by decide +kernel
theorem dX7_isThing_13 : decode cX7_isThing 13 = .ok (.ireturn, 1) := by decide +kernel
theorem dX7_isSet_0 : decode cX7_isSet 0 = .ok (.iload_n 1, 1) := by decide +kernel
theorem dX7_isSet_1 : decode cX7_isSet 1 = .ok (.i2l, 1) := by decide +kernel
theorem dX7_isSet_2 : decode cX7_isSet 2 = .ok (.lconst 0, 1) := by decide +kernel
theorem dX7_isSet_3 : decode cX7_isSet 3 = .ok (.iconst 1, 1) := by decide +kernel
theorem dX7_isSet_4 : decode cX7_isSet 4 = .ok (.aload_n 0, 1) := by decide +kernel
theorem dX7_isSet_5 : decode cX7_isSet 5 = .ok (.getfield 61, 3) := by decide +kernel
theorem dX7_isSet_8 : decode cX7_isSet 8 = .ok (.ishl, 1) := by decide +kernel
theorem dX7_isSet_9 : decode cX7_isSet 9 = .ok (.iconst 1, 1) := by decide +kernel
theorem dX7_isSet_10 : decode cX7_isSet 10 = .ok (.isub, 1) := by decide +kernel
theorem dX7_isSet_11 : decode cX7_isSet 11 = .ok (.i2l, 1) := by decide +kernel
theorem dX7_isSet_12 : decode cX7_isSet 12 = .ok (.invokestatic 53, 3) := by decide +kernel
theorem dX7_isSet_15 : decode cX7_isSet 15 = .ok (.ireturn, 1) := by decide +kernel
theorem dX7_isWorth_0 : decode cX7_isWorth 0 = .ok (.iload_n 1, 1) := by decide +kernel
theorem dX7_isWorth_1 : decode cX7_isWorth 1 = .ok (.i2l, 1) := by decide +kernel
theorem dX7_isWorth_2 : decode cX7_isWorth 2 = .ok (.lconst 0, 1) := by decide +kernel
theorem dX7_isWorth_3 : decode cX7_isWorth 3 = .ok (.aload_n 0, 1) := by decide +kernel
theorem dX7_isWorth_4 : decode cX7_isWorth 4 = .ok (.getfield 57, 3) := by decide +kernel
theorem dX7_isWorth_7 : decode cX7_isWorth 7 = .ok (.iconst 1, 1) := by decide +kernel
theorem dX7_isWorth_8 : decode cX7_isWorth 8 = .ok (.isub, 1) := by decide +kernel
theorem dX7_isWorth_9 : decode cX7_isWorth 9 = .ok (.i2l, 1) := by decide +kernel
theorem dX7_isWorth_10 : decode cX7_isWorth 10 = .ok (.invokestatic 53, 3) := by decide +kernel
theorem dX7_isWorth_13 : decode cX7_isWorth 13 = .ok (.ireturn, 1) := by decide +kernel
theorem dX7_isSheet_0 : decode cX7_isSheet 0 = .ok (.iload_n 0, 1) := by decide +kernel
theorem dX7_isSheet_1 : decode cX7_isSheet 1 = .ok (.i2l, 1) := by decide +kernel
theorem dX7_isSheet_2 : decode cX7_isSheet 2 = .ok (.lconst 0, 1) := by decide +kernel
theorem dX7_isSheet_3 : decode cX7_isSheet 3 = .ok (.ldc2_w 240, 3) := by decide +kernel
theorem dX7_isSheet_6 : decode cX7_isSheet 6 = .ok (.invokestatic 53, 3) := by decide +kernel
theorem dX7_isSheet_9 : decode cX7_isSheet 9 = .ok (.ireturn, 1) := by decide +kernel
theorem dX7_isForm_0 : decode cX7_isForm 0 = .ok (.iload_n 0, 1) := by decide +kernel
theorem dX7_isForm_1 : decode cX7_isForm 1 = .ok (.i2l, 1) := by decide +kernel
theorem dX7_isForm_2 : decode cX7_isForm 2 = .ok (.lconst 0, 1) := by decide +kernel
theorem dX7_isForm_3 : decode cX7_isForm 3 = .ok (.ldc2_w 225, 3) := by decide +kernel
theorem dX7_isForm_6 : decode cX7_isForm 6 = .ok (.invokestatic 53, 3) := by decide +kernel
theorem dX7_isForm_9 : decode cX7_isForm 9 = .ok (.ireturn, 1) := by decide +kernel
theorem dX7_isWithin_0 : decode cX7_isWithin 0 = .ok (.lload_n 0, 1) := by decide +kernel
theorem dX7_isWithin_1 : decode cX7_isWithin 1 = .ok (.lload_n 2, 1) := by decide +kernel
theorem dX7_isWithin_2 : decode cX7_isWithin 2 = .ok (.lcmp, 1) := by decide +kernel
theorem dX7_isWithin_3 : decode cX7_isWithin 3 = .ok (.ifCond .lt 14, 3) := by decide +kernel
theorem dX7_isWithin_6 : decode cX7_isWithin 6 = .ok (.lload_n 0, 1) := by decide +kernel
theorem dX7_isWithin_7 : decode cX7_isWithin 7 = .ok (.lload 4, 2) := by decide +kernel
theorem dX7_isWithin_9 : decode cX7_isWithin 9 = .ok (.lcmp, 1) := by decide +kernel
theorem dX7_isWithin_10 : decode cX7_isWithin 10 = .ok (.ifCond .gt 7, 3) := by decide +kernel
theorem dX7_isWithin_13 : decode cX7_isWithin 13 = .ok (.iconst 1, 1) := by decide +kernel
theorem dX7_isWithin_14 : decode cX7_isWithin 14 = .ok (.goto 4, 3) := by decide +kernel
theorem dX7_isWithin_17 : decode cX7_isWithin 17 = .ok (.iconst 0, 1) := by decide +kernel
theorem dX7_isWithin_18 : decode cX7_isWithin 18 = .ok (.ireturn, 1) := by decide +kernel
theorem dX7_isInSize_0 : decode cX7_isInSize 0 = .ok (.lload_n 0, 1) := by decide +kernel
theorem dX7_isInSize_1 : decode cX7_isInSize 1 = .ok (.lload_n 2, 1) := by decide +kernel
theorem dX7_isInSize_2 : decode cX7_isInSize 2 = .ok (.lneg, 1) := by decide +kernel
theorem dX7_isInSize_3 : decode cX7_isInSize 3 = .ok (.lload_n 2, 1) := by decide +kernel
theorem dX7_isInSize_4 : decode cX7_isInSize 4 = .ok (.invokestatic 53, 3) := by decide +kernel
theorem dX7_isInSize_7 : decode cX7_isInSize 7 = .ok (.ireturn, 1) := by decide +kernel
theorem dX7_hasThing_0 : decode cX7_hasThing 0 = .ok (.iload_n 0, 1) := by decide +kernel
theorem dX7_hasThing_1 : decode cX7_hasThing 1 = .ok (.iload_n 1, 1) := by decide +kernel
theorem dX7_hasThing_2 : decode cX7_hasThing 2 = .ok (.ishr, 1) := by decide +kernel
theorem dX7_hasThing_3 : decode cX7_hasThing 3 = .ok (.iconst 1, 1) := by decide +kernel
theorem dX7_hasThing_4 : decode cX7_hasThing 4 = .ok (.iand, 1) := by decide +kernel
theorem dX7_hasThing_5 : decode cX7_hasThing 5 = .ok (.iconst 1, 1) := by decide +kernel
theorem dX7_hasThing_6 : decode cX7_hasThing 6 = .ok (.if_icmp .ne 7, 3) := by decide +kernel
theorem dX7_hasThing_9 : decode cX7_hasThing 9 = .ok (.iconst 1, 1) := by decide +kernel
theorem dX7_hasThing_10 : decode cX7_hasThing 10 = .ok (.goto 4, 3) := by decide +kernel
theorem dX7_hasThing_13 : decode cX7_hasThing 13 = .ok (.iconst 0, 1) := by decide +kernel
theorem dX7_hasThing_14 : decode cX7_hasThing 14 = .ok (.ireturn, 1) := by decide +kernel
theorem dX7_canBeTold_0 : decode cX7_canBeTold 0 = .ok (.iconst 1, 1) := by decide +kernel
theorem dX7_canBeTold_1 : decode cX7_canBeTold 1 = .ok (.istore_n 2, 1) := by decide +kernel
theorem dX7_canBeTold_2 : decode cX7_canBeTold 2 = .ok (.iload_n 2, 1) := by decide +kernel
theorem dX7_canBeTold_3 : decode cX7_canBeTold 3 = .ok (.iload_n 1, 1) := by decide +kernel
theorem dX7_canBeTold_4 : decode cX7_canBeTold 4 = .ok (.if_icmp .ge 23, 3) := by decide +kernel
theorem dX7_canBeTold_7 : decode cX7_canBeTold 7 = .ok (.aload_n 0, 1) := by decide +kernel
theorem dX7_canBeTold_8 : decode cX7_canBeTold 8 = .ok (.iload_n 2, 1) := by decide +kernel
theorem dX7_canBeTold_9 : decode cX7_canBeTold 9 = .ok (.laload, 1) := by decide +kernel
theorem dX7_canBeTold_10 : decode cX7_canBeTold 10 = .ok (.ldc2_w 140, 3) := by decide +kernel
theorem dX7_canBeTold_13 : decode cX7_canBeTold 13 = .ok (.invokestatic 142, 3) := by decide +kernel
theorem dX7_canBeTold_16 : decode cX7_canBeTold 16 = .ok (.ifCond .ne 5, 3) := by decide +kernel
theorem dX7_canBeTold_19 : decode cX7_canBeTold 19 = .ok (.iconst 0, 1) := by decide +kernel
theorem dX7_canBeTold_20 : decode cX7_canBeTold 20 = .ok (.ireturn, 1) := by decide +kernel
theorem dX7_canBeTold_21 : decode cX7_canBeTold 21 = .ok (.iinc 2 1, 3) := by decide +kernel
theorem dX7_canBeTold_24 : decode cX7_canBeTold 24 = .ok (.goto (-22), 3) := by decide +kernel
theorem dX7_canBeTold_27 : decode cX7_canBeTold 27 = .ok (.iconst 1, 1) := by decide +kernel
theorem dX7_canBeTold_28 : decode cX7_canBeTold 28 = .ok (.ireturn, 1) := by decide +kernel
theorem dX7_cutToForm_0 : decode cX7_cutToForm 0 = .ok (.iload_n 0, 1) := by decide +kernel
theorem dX7_cutToForm_1 : decode cX7_cutToForm 1 = .ok (.lookupswitch 36 #[(0, 27), (1, 32)], 27) := by decide +kernel
theorem dX7_cutToForm_28 : decode cX7_cutToForm 28 = .ok (.lload_n 1, 1) := by decide +kernel
theorem dX7_cutToForm_29 : decode cX7_cutToForm 29 = .ok (.l2i, 1) := by decide +kernel
theorem dX7_cutToForm_30 : decode cX7_cutToForm 30 = .ok (.i2b, 1) := by decide +kernel
theorem dX7_cutToForm_31 : decode cX7_cutToForm 31 = .ok (.i2l, 1) := by decide +kernel
theorem dX7_cutToForm_32 : decode cX7_cutToForm 32 = .ok (.lreturn, 1) := by decide +kernel
theorem dX7_cutToForm_33 : decode cX7_cutToForm 33 = .ok (.lload_n 1, 1) := by decide +kernel
theorem dX7_cutToForm_34 : decode cX7_cutToForm 34 = .ok (.l2i, 1) := by decide +kernel
theorem dX7_cutToForm_35 : decode cX7_cutToForm 35 = .ok (.i2l, 1) := by decide +kernel
theorem dX7_cutToForm_36 : decode cX7_cutToForm 36 = .ok (.lreturn, 1) := by decide +kernel
theorem dX7_cutToForm_37 : decode cX7_cutToForm 37 = .ok (.lload_n 1, 1) := by decide +kernel
theorem dX7_cutToForm_38 : decode cX7_cutToForm 38 = .ok (.lreturn, 1) := by decide +kernel
theorem dX7_meet_0 : decode cX7_meet 0 = .ok (.aload_n 0, 1) := by decide +kernel
theorem dX7_meet_1 : decode cX7_meet 1 = .ok (.iload_n 1, 1) := by decide +kernel
theorem dX7_meet_2 : decode cX7_meet 2 = .ok (.putfield 79, 3) := by decide +kernel
theorem dX7_meet_5 : decode cX7_meet 5 = .ok (.iconst 0, 1) := by decide +kernel
theorem dX7_meet_6 : decode cX7_meet 6 = .ok (.ireturn, 1) := by decide +kernel
theorem dX7_beginWorth_0 : decode cX7_beginWorth 0 = .ok (.aload_n 0, 1) := by decide +kernel
theorem dX7_beginWorth_1 : decode cX7_beginWorth 1 = .ok (.getfield 57, 3) := by decide +kernel
theorem dX7_beginWorth_4 : decode cX7_beginWorth 4 = .ok (.istore_n 2, 1) := by decide +kernel
theorem dX7_beginWorth_5 : decode cX7_beginWorth 5 = .ok (.aload_n 0, 1) := by decide +kernel
theorem dX7_beginWorth_6 : decode cX7_beginWorth 6 = .ok (.getfield 11, 3) := by decide +kernel
theorem dX7_beginWorth_9 : decode cX7_beginWorth 9 = .ok (.iload_n 2, 1) := by decide +kernel
theorem dX7_beginWorth_10 : decode cX7_beginWorth 10 = .ok (.aaload, 1) := by decide +kernel
theorem dX7_beginWorth_11 : decode cX7_beginWorth 11 = .ok (.iload_n 1, 1) := by decide +kernel
theorem dX7_beginWorth_12 : decode cX7_beginWorth 12 = .ok (.aload_n 0, 1) := by decide +kernel
theorem dX7_beginWorth_13 : decode cX7_beginWorth 13 = .ok (.getfield 61, 3) := by decide +kernel
theorem dX7_beginWorth_16 : decode cX7_beginWorth 16 = .ok (.invokevirtual 316, 3) := by decide +kernel
theorem dX7_beginWorth_19 : decode cX7_beginWorth 19 = .ok (.aload_n 0, 1) := by decide +kernel
theorem dX7_beginWorth_20 : decode cX7_beginWorth 20 = .ok (.dup, 1) := by decide +kernel
theorem dX7_beginWorth_21 : decode cX7_beginWorth 21 = .ok (.getfield 57, 3) := by decide +kernel
theorem dX7_beginWorth_24 : decode cX7_beginWorth 24 = .ok (.iconst 1, 1) := by decide +kernel
theorem dX7_beginWorth_25 : decode cX7_beginWorth 25 = .ok (.iadd, 1) := by decide +kernel
theorem dX7_beginWorth_26 : decode cX7_beginWorth 26 = .ok (.putfield 57, 3) := by decide +kernel
theorem dX7_beginWorth_29 : decode cX7_beginWorth 29 = .ok (.iload_n 2, 1) := by decide +kernel
theorem dX7_beginWorth_30 : decode cX7_beginWorth 30 = .ok (.ireturn, 1) := by decide +kernel
theorem dX8_init_0 : decode cX8_init 0 = .ok (.aload_n 0, 1) := by decide +kernel
theorem dX8_init_1 : decode cX8_init 1 = .ok (.invokespecial 1, 3) := by decide +kernel
theorem dX8_init_4 : decode cX8_init 4 = .ok (.aload_n 0, 1) := by decide +kernel
theorem dX8_init_5 : decode cX8_init 5 = .ok (.bipush 12, 2) := by decide +kernel
theorem dX8_init_7 : decode cX8_init 7 = .ok (.newarray .int, 2) := by decide +kernel
theorem dX8_init_9 : decode cX8_init 9 = .ok (.putfield 7, 3) := by decide +kernel
theorem dX8_init_12 : decode cX8_init 12 = .ok (.aload_n 0, 1) := by decide +kernel
theorem dX8_init_13 : decode cX8_init 13 = .ok (.bipush 12, 2) := by decide +kernel
theorem dX8_init_15 : decode cX8_init 15 = .ok (.newarray .boolean, 2) := by decide +kernel
theorem dX8_init_17 : decode cX8_init 17 = .ok (.putfield 13, 3) := by decide +kernel
theorem dX8_init_20 : decode cX8_init 20 = .ok (.aload_n 0, 1) := by decide +kernel
theorem dX8_init_21 : decode cX8_init 21 = .ok (.sipush 12288, 3) := by decide +kernel
theorem dX8_init_24 : decode cX8_init 24 = .ok (.newarray .long, 2) := by decide +kernel
theorem dX8_init_26 : decode cX8_init 26 = .ok (.putfield 17, 3) := by decide +kernel
theorem dX8_init_29 : decode cX8_init 29 = .ok (.aload_n 0, 1) := by decide +kernel
theorem dX8_init_30 : decode cX8_init 30 = .ok (.bipush 12, 2) := by decide +kernel
theorem dX8_init_32 : decode cX8_init 32 = .ok (.newarray .int, 2) := by decide +kernel
theorem dX8_init_34 : decode cX8_init 34 = .ok (.putfield 21, 3) := by decide +kernel
theorem dX8_init_37 : decode cX8_init 37 = .ok (.aload_n 0, 1) := by decide +kernel
theorem dX8_init_38 : decode cX8_init 38 = .ok (.sipush 288, 3) := by decide +kernel
theorem dX8_init_41 : decode cX8_init 41 = .ok (.newarray .int, 2) := by decide +kernel
theorem dX8_init_43 : decode cX8_init 43 = .ok (.putfield 24, 3) := by decide +kernel
theorem dX8_init_46 : decode cX8_init 46 = .ok (.aload_n 0, 1) := by decide +kernel
theorem dX8_init_47 : decode cX8_init 47 = .ok (.sipush 288, 3) := by decide +kernel
theorem dX8_init_50 : decode cX8_init 50 = .ok (.newarray .int, 2) := by decide +kernel
theorem dX8_init_52 : decode cX8_init 52 = .ok (.putfield 27, 3) := by decide +kernel
theorem dX8_init_55 : decode cX8_init 55 = .ok (.aload_n 0, 1) := by decide +kernel
theorem dX8_init_56 : decode cX8_init 56 = .ok (.sipush 288, 3) := by decide +kernel
theorem dX8_init_59 : decode cX8_init 59 = .ok (.newarray .int, 2) := by decide +kernel
theorem dX8_init_61 : decode cX8_init 61 = .ok (.putfield 30, 3) := by decide +kernel
theorem dX8_init_64 : decode cX8_init 64 = .ok (.aload_n 0, 1) := by decide +kernel
theorem dX8_init_65 : decode cX8_init 65 = .ok (.sipush 480, 3) := by decide +kernel
theorem dX8_init_68 : decode cX8_init 68 = .ok (.newarray .int, 2) := by decide +kernel
theorem dX8_init_70 : decode cX8_init 70 = .ok (.putfield 33, 3) := by decide +kernel
theorem dX8_init_73 : decode cX8_init 73 = .ok (.aload_n 0, 1) := by decide +kernel
theorem dX8_init_74 : decode cX8_init 74 = .ok (.bipush 120, 2) := by decide +kernel
theorem dX8_init_76 : decode cX8_init 76 = .ok (.newarray .int, 2) := by decide +kernel
theorem dX8_init_78 : decode cX8_init 78 = .ok (.putfield 36, 3) := by decide +kernel
theorem dX8_init_81 : decode cX8_init 81 = .ok (.aload_n 0, 1) := by decide +kernel
theorem dX8_init_82 : decode cX8_init 82 = .ok (.bipush 12, 2) := by decide +kernel
theorem dX8_init_84 : decode cX8_init 84 = .ok (.newarray .int, 2) := by decide +kernel
theorem dX8_init_86 : decode cX8_init 86 = .ok (.putfield 39, 3) := by decide +kernel
theorem dX8_init_89 : decode cX8_init 89 = .ok (.aload_n 0, 1) := by decide +kernel
theorem dX8_init_90 : decode cX8_init 90 = .ok (.bipush 12, 2) := by decide +kernel
theorem dX8_init_92 : decode cX8_init 92 = .ok (.newarray .int, 2) := by decide +kernel
theorem dX8_init_94 : decode cX8_init 94 = .ok (.putfield 42, 3) := by decide +kernel
theorem dX8_init_97 : decode cX8_init 97 = .ok (.aload_n 0, 1) := by decide +kernel
theorem dX8_init_98 : decode cX8_init 98 = .ok (.bipush 10, 2) := by decide +kernel
theorem dX8_init_100 : decode cX8_init 100 = .ok (.newarray .int, 2) := by decide +kernel
theorem dX8_init_102 : decode cX8_init 102 = .ok (.putfield 45, 3) := by decide +kernel
theorem dX8_init_105 : decode cX8_init 105 = .ok (.aload_n 0, 1) := by decide +kernel
theorem dX8_init_106 : decode cX8_init 106 = .ok (.bipush 10, 2) := by decide +kernel
theorem dX8_init_108 : decode cX8_init 108 = .ok (.newarray .long, 2) := by decide +kernel
theorem dX8_init_110 : decode cX8_init 110 = .ok (.putfield 48, 3) := by decide +kernel
theorem dX8_init_113 : decode cX8_init 113 = .ok (.aload_n 0, 1) := by decide +kernel
theorem dX8_init_114 : decode cX8_init 114 = .ok (.lconst 1, 1) := by decide +kernel
theorem dX8_init_115 : decode cX8_init 115 = .ok (.putfield 51, 3) := by decide +kernel
theorem dX8_init_118 : decode cX8_init 118 = .ok (.aload_n 0, 1) := by decide +kernel
theorem dX8_init_119 : decode cX8_init 119 = .ok (.iconst 4, 1) := by decide +kernel
theorem dX8_init_120 : decode cX8_init 120 = .ok (.newarray .int, 2) := by decide +kernel
theorem dX8_init_122 : decode cX8_init 122 = .ok (.putfield 55, 3) := by decide +kernel
theorem dX8_init_125 : decode cX8_init 125 = .ok (.aload_n 0, 1) := by decide +kernel
theorem dX8_init_126 : decode cX8_init 126 = .ok (.iconst 4, 1) := by decide +kernel
theorem dX8_init_127 : decode cX8_init 127 = .ok (.newarray .int, 2) := by decide +kernel
theorem dX8_init_129 : decode cX8_init 129 = .ok (.putfield 58, 3) := by decide +kernel
theorem dX8_init_132 : decode cX8_init 132 = .ok (.aload_n 0, 1) := by decide +kernel
theorem dX8_init_133 : decode cX8_init 133 = .ok (.sipush 4400, 3) := by decide +kernel
theorem dX8_init_136 : decode cX8_init 136 = .ok (.newarray .long, 2) := by decide +kernel
theorem dX8_init_138 : decode cX8_init 138 = .ok (.putfield 61, 3) := by decide +kernel
theorem dX8_init_141 : decode cX8_init 141 = .ok (.aload_n 0, 1) := by decide +kernel
theorem dX8_init_142 : decode cX8_init 142 = .ok (.bipush 40, 2) := by decide +kernel
theorem dX8_init_144 : decode cX8_init 144 = .ok (.newarray .long, 2) := by decide +kernel
theorem dX8_init_146 : decode cX8_init 146 = .ok (.putfield 64, 3) := by decide +kernel
theorem dX8_init_149 : decode cX8_init 149 = .ok (.aload_n 0, 1) := by decide +kernel
theorem dX8_init_150 : decode cX8_init 150 = .ok (.bipush 11, 2) := by decide +kernel
theorem dX8_init_152 : decode cX8_init 152 = .ok (.newarray .int, 2) := by decide +kernel
theorem dX8_init_154 : decode cX8_init 154 = .ok (.putfield 67, 3) := by decide +kernel
theorem dX8_init_157 : decode cX8_init 157 = .ok (.aload_n 0, 1) := by decide +kernel
theorem dX8_init_158 : decode cX8_init 158 = .ok (.bipush 11, 2) := by decide +kernel
theorem dX8_init_160 : decode cX8_init 160 = .ok (.newarray .long, 2) := by decide +kernel
theorem dX8_init_162 : decode cX8_init 162 = .ok (.putfield 70, 3) := by decide +kernel
theorem dX8_init_165 : decode cX8_init 165 = .ok (.aload_n 0, 1) := by decide +kernel
theorem dX8_init_166 : decode cX8_init 166 = .ok (.bipush 10, 2) := by decide +kernel
theorem dX8_init_168 : decode cX8_init 168 = .ok (.newarray .long, 2) := by decide +kernel
theorem dX8_init_170 : decode cX8_init 170 = .ok (.putfield 73, 3) := by decide +kernel
theorem dX8_init_173 : decode cX8_init 173 = .ok (.iconst 0, 1) := by decide +kernel
theorem dX8_init_174 : decode cX8_init 174 = .ok (.istore_n 1, 1) := by decide +kernel
theorem dX8_init_175 : decode cX8_init 175 = .ok (.iload_n 1, 1) := by decide +kernel
theorem dX8_init_176 : decode cX8_init 176 = .ok (.iconst 4, 1) := by decide +kernel
theorem dX8_init_177 : decode cX8_init 177 = .ok (.if_icmp .ge 16, 3) := by decide +kernel
theorem dX8_init_180 : decode cX8_init 180 = .ok (.aload_n 0, 1) := by decide +kernel
theorem dX8_init_181 : decode cX8_init 181 = .ok (.getfield 55, 3) := by decide +kernel
theorem dX8_init_184 : decode cX8_init 184 = .ok (.iload_n 1, 1) := by decide +kernel
theorem dX8_init_185 : decode cX8_init 185 = .ok (.iconst (-1), 1) := by decide +kernel
theorem dX8_init_186 : decode cX8_init 186 = .ok (.iastore, 1) := by decide +kernel
theorem dX8_init_187 : decode cX8_init 187 = .ok (.iinc 1 1, 3) := by decide +kernel
theorem dX8_init_190 : decode cX8_init 190 = .ok (.goto (-15), 3) := by decide +kernel
theorem dX8_init_193 : decode cX8_init 193 = .ok (.aload_n 0, 1) := by decide +kernel
theorem dX8_init_194 : decode cX8_init 194 = .ok (.iconst 0, 1) := by decide +kernel
theorem dX8_init_195 : decode cX8_init 195 = .ok (.invokevirtual 76, 3) := by decide +kernel
theorem dX8_init_198 : decode cX8_init 198 = .ok (.return_, 1) := by decide +kernel
theorem dX8_within_0 : decode cX8_within 0 = .ok (.lload_n 0, 1) := by decide +kernel
theorem dX8_within_1 : decode cX8_within 1 = .ok (.lload_n 2, 1) := by decide +kernel
theorem dX8_within_2 : decode cX8_within 2 = .ok (.lcmp, 1) := by decide +kernel
theorem dX8_within_3 : decode cX8_within 3 = .ok (.ifCond .lt 14, 3) := by decide +kernel
theorem dX8_within_6 : decode cX8_within 6 = .ok (.lload_n 0, 1) := by decide +kernel
theorem dX8_within_7 : decode cX8_within 7 = .ok (.lload 4, 2) := by decide +kernel
theorem dX8_within_9 : decode cX8_within 9 = .ok (.lcmp, 1) := by decide +kernel
theorem dX8_within_10 : decode cX8_within 10 = .ok (.ifCond .gt 7, 3) := by decide +kernel
theorem dX8_within_13 : decode cX8_within 13 = .ok (.iconst 1, 1) := by decide +kernel
theorem dX8_within_14 : decode cX8_within 14 = .ok (.goto 4, 3) := by decide +kernel
theorem dX8_within_17 : decode cX8_within 17 = .ok (.iconst 0, 1) := by decide +kernel
theorem dX8_within_18 : decode cX8_within 18 = .ok (.ireturn, 1) := by decide +kernel
theorem dX8_begin_0 : decode cX8_begin 0 = .ok (.aload_n 0, 1) := by decide +kernel
theorem dX8_begin_1 : decode cX8_begin 1 = .ok (.iload_n 1, 1) := by decide +kernel
theorem dX8_begin_2 : decode cX8_begin 2 = .ok (.putfield 80, 3) := by decide +kernel
theorem dX8_begin_5 : decode cX8_begin 5 = .ok (.aload_n 0, 1) := by decide +kernel
theorem dX8_begin_6 : decode cX8_begin 6 = .ok (.iconst 0, 1) := by decide +kernel
theorem dX8_begin_7 : decode cX8_begin 7 = .ok (.putfield 84, 3) := by decide +kernel
theorem dX8_begin_10 : decode cX8_begin 10 = .ok (.aload_n 0, 1) := by decide +kernel
theorem dX8_begin_11 : decode cX8_begin 11 = .ok (.lconst 1, 1) := by decide +kernel
theorem dX8_begin_12 : decode cX8_begin 12 = .ok (.putfield 51, 3) := by decide +kernel
theorem dX8_begin_15 : decode cX8_begin 15 = .ok (.iconst 0, 1) := by decide +kernel
theorem dX8_begin_16 : decode cX8_begin 16 = .ok (.istore_n 2, 1) := by decide +kernel
theorem dX8_begin_17 : decode cX8_begin 17 = .ok (.iload_n 2, 1) := by decide +kernel
theorem dX8_begin_18 : decode cX8_begin 18 = .ok (.bipush 10, 2) := by decide +kernel
theorem dX8_begin_20 : decode cX8_begin 20 = .ok (.if_icmp .ge 23, 3) := by decide +kernel
theorem dX8_begin_23 : decode cX8_begin 23 = .ok (.aload_n 0, 1) := by decide +kernel
theorem dX8_begin_24 : decode cX8_begin 24 = .ok (.getfield 45, 3) := by decide +kernel
theorem dX8_begin_27 : decode cX8_begin 27 = .ok (.iload_n 2, 1) := by decide +kernel
theorem dX8_begin_28 : decode cX8_begin 28 = .ok (.iload_n 2, 1) := by decide +kernel
theorem dX8_begin_29 : decode cX8_begin 29 = .ok (.iastore, 1) := by decide +kernel
theorem dX8_begin_30 : decode cX8_begin 30 = .ok (.aload_n 0, 1) := by decide +kernel
theorem dX8_begin_31 : decode cX8_begin 31 = .ok (.getfield 48, 3) := by decide +kernel
theorem dX8_begin_34 : decode cX8_begin 34 = .ok (.iload_n 2, 1) := by decide +kernel
theorem dX8_begin_35 : decode cX8_begin 35 = .ok (.lconst 0, 1) := by decide +kernel
theorem dX8_begin_36 : decode cX8_begin 36 = .ok (.lastore, 1) := by decide +kernel
theorem dX8_begin_37 : decode cX8_begin 37 = .ok (.iinc 2 1, 3) := by decide +kernel
theorem dX8_begin_40 : decode cX8_begin 40 = .ok (.goto (-23), 3) := by decide +kernel
theorem dX8_begin_43 : decode cX8_begin 43 = .ok (.return_, 1) := by decide +kernel
theorem dX8_things_0 : decode cX8_things 0 = .ok (.iload_n 1, 1) := by decide +kernel
theorem dX8_things_1 : decode cX8_things 1 = .ok (.i2l, 1) := by decide +kernel
theorem dX8_things_2 : decode cX8_things 2 = .ok (.lconst 0, 1) := by decide +kernel
theorem dX8_things_3 : decode cX8_things 3 = .ok (.ldc2_w 87, 3) := by decide +kernel
theorem dX8_things_6 : decode cX8_things 6 = .ok (.invokestatic 89, 3) := by decide +kernel
theorem dX8_things_9 : decode cX8_things 9 = .ok (.ifCond .ne 7, 3) := by decide +kernel
theorem dX8_things_12 : decode cX8_things 12 = .ok (.sipush (-1002), 3) := by decide +kernel
theorem dX8_things_15 : decode cX8_things 15 = .ok (.ireturn, 1) := by decide +kernel
theorem dX8_things_16 : decode cX8_things 16 = .ok (.aload_n 0, 1) := by decide +kernel
theorem dX8_things_17 : decode cX8_things 17 = .ok (.getfield 84, 3) := by decide +kernel
theorem dX8_things_20 : decode cX8_things 20 = .ok (.istore_n 2, 1) := by decide +kernel
theorem dX8_things_21 : decode cX8_things 21 = .ok (.aload_n 0, 1) := by decide +kernel
theorem dX8_things_22 : decode cX8_things 22 = .ok (.iload_n 1, 1) := by decide +kernel
theorem dX8_things_23 : decode cX8_things 23 = .ok (.invokevirtual 76, 3) := by decide +kernel
theorem dX8_things_26 : decode cX8_things 26 = .ok (.iload_n 2, 1) := by decide +kernel
theorem dX8_things_27 : decode cX8_things 27 = .ok (.ireturn, 1) := by decide +kernel
theorem dX8_isWorth_0 : decode cX8_isWorth 0 = .ok (.iload_n 1, 1) := by decide +kernel
theorem dX8_isWorth_1 : decode cX8_isWorth 1 = .ok (.i2l, 1) := by decide +kernel
theorem dX8_isWorth_2 : decode cX8_isWorth 2 = .ok (.lconst 0, 1) := by decide +kernel
theorem dX8_isWorth_3 : decode cX8_isWorth 3 = .ok (.aload_n 0, 1) := by decide +kernel
theorem dX8_isWorth_4 : decode cX8_isWorth 4 = .ok (.getfield 84, 3) := by decide +kernel
theorem dX8_isWorth_7 : decode cX8_isWorth 7 = .ok (.iconst 1, 1) := by decide +kernel
theorem dX8_isWorth_8 : decode cX8_isWorth 8 = .ok (.isub, 1) := by decide +kernel
theorem dX8_isWorth_9 : decode cX8_isWorth 9 = .ok (.i2l, 1) := by decide +kernel
theorem dX8_isWorth_10 : decode cX8_isWorth 10 = .ok (.invokestatic 89, 3) := by decide +kernel
theorem dX8_isWorth_13 : decode cX8_isWorth 13 = .ok (.ireturn, 1) := by decide +kernel
theorem dX8_isThing_0 : decode cX8_isThing 0 = .ok (.iload_n 1, 1) := by decide +kernel
theorem dX8_isThing_1 : decode cX8_isThing 1 = .ok (.i2l, 1) := by decide +kernel
theorem dX8_isThing_2 : decode cX8_isThing 2 = .ok (.lconst 0, 1) := by decide +kernel
theorem dX8_isThing_3 : decode cX8_isThing 3 = .ok (.aload_n 0, 1) := by decide +kernel
theorem dX8_isThing_4 : decode cX8_isThing 4 = .ok (.getfield 80, 3) := by decide +kernel
theorem dX8_isThing_7 : decode cX8_isThing 7 = .ok (.iconst 1, 1) := by decide +kernel
theorem dX8_isThing_8 : decode cX8_isThing 8 = .ok (.isub, 1) := by decide +kernel
theorem dX8_isThing_9 : decode cX8_isThing 9 = .ok (.i2l, 1) := by decide +kernel
theorem dX8_isThing_10 : decode cX8_isThing 10 = .ok (.invokestatic 89, 3) := by decide +kernel
theorem dX8_isThing_13 : decode cX8_isThing 13 = .ok (.ireturn, 1) := by decide +kernel
theorem dX8_last_0 : decode cX8_last 0 = .ok (.iconst 1, 1) := by decide +kernel
theorem dX8_last_1 : decode cX8_last 1 = .ok (.aload_n 0, 1) := by decide +kernel
theorem dX8_last_2 : decode cX8_last 2 = .ok (.getfield 80, 3) := by decide +kernel
theorem dX8_last_5 : decode cX8_last 5 = .ok (.ishl, 1) := by decide +kernel
theorem dX8_last_6 : decode cX8_last 6 = .ok (.iconst 1, 1) := by decide +kernel
theorem dX8_last_7 : decode cX8_last 7 = .ok (.isub, 1) := by decide +kernel
theorem dX8_last_8 : decode cX8_last 8 = .ok (.ireturn, 1) := by decide +kernel
theorem dX8_isSet_0 : decode cX8_isSet 0 = .ok (.iload_n 1, 1) := by decide +kernel
theorem dX8_isSet_1 : decode cX8_isSet 1 = .ok (.i2l, 1) := by decide +kernel
theorem dX8_isSet_2 : decode cX8_isSet 2 = .ok (.lconst 0, 1) := by decide +kernel
theorem dX8_isSet_3 : decode cX8_isSet 3 = .ok (.aload_n 0, 1) := by decide +kernel
theorem dX8_isSet_4 : decode cX8_isSet 4 = .ok (.invokevirtual 93, 3) := by decide +kernel
theorem dX8_isSet_7 : decode cX8_isSet 7 = .ok (.i2l, 1) := by decide +kernel
theorem dX8_isSet_8 : decode cX8_isSet 8 = .ok (.invokestatic 89, 3) := by decide +kernel
theorem dX8_isSet_11 : decode cX8_isSet 11 = .ok (.ireturn, 1) := by decide +kernel
theorem dX8_isSheet_0 : decode cX8_isSheet 0 = .ok (.iload_n 0, 1) := by decide +kernel
theorem dX8_isSheet_1 : decode cX8_isSheet 1 = .ok (.i2l, 1) := by decide +kernel
theorem dX8_isSheet_2 : decode cX8_isSheet 2 = .ok (.lconst 0, 1) := by decide +kernel
theorem dX8_isSheet_3 : decode cX8_isSheet 3 = .ok (.ldc2_w 97, 3) := by decide +kernel
theorem dX8_isSheet_6 : decode cX8_isSheet 6 = .ok (.invokestatic 89, 3) := by decide +kernel
theorem dX8_isSheet_9 : decode cX8_isSheet 9 = .ok (.ireturn, 1) := by decide +kernel
theorem dX8_sheet_0 : decode cX8_sheet 0 = .ok (.iload_n 1, 1) := by decide +kernel
theorem dX8_sheet_1 : decode cX8_sheet 1 = .ok (.invokestatic 99, 3) := by decide +kernel
theorem dX8_sheet_4 : decode cX8_sheet 4 = .ok (.ifCond .ne 7, 3) := by decide +kernel
theorem dX8_sheet_7 : decode cX8_sheet 7 = .ok (.sipush (-1001), 3) := by decide +kernel
theorem dX8_sheet_10 : decode cX8_sheet 10 = .ok (.ireturn, 1) := by decide +kernel
theorem dX8_sheet_11 : decode cX8_sheet 11 = .ok (.iload_n 2, 1) := by decide +kernel
theorem dX8_sheet_12 : decode cX8_sheet 12 = .ok (.i2l, 1) := by decide +kernel
theorem dX8_sheet_13 : decode cX8_sheet 13 = .ok (.lconst 0, 1) := by decide +kernel
theorem dX8_sheet_14 : decode cX8_sheet 14 = .ok (.ldc2_w 103, 3) := by decide +kernel
theorem dX8_sheet_17 : decode cX8_sheet 17 = .ok (.invokestatic 89, 3) := by decide +kernel
theorem dX8_sheet_20 : decode cX8_sheet 20 = .ok (.ifCond .eq 10, 3) := by decide +kernel
theorem dX8_sheet_23 : decode cX8_sheet 23 = .ok (.iload_n 3, 1) := by decide +kernel
theorem dX8_sheet_24 : decode cX8_sheet 24 = .ok (.sipush 1100, 3) := by decide +kernel
theorem dX8_sheet_27 : decode cX8_sheet 27 = .ok (.if_icmp .le 7, 3) := by decide +kernel
theorem dX8_sheet_30 : decode cX8_sheet 30 = .ok (.sipush (-1002), 3) := by decide +kernel
theorem dX8_sheet_33 : decode cX8_sheet 33 = .ok (.ireturn, 1) := by decide +kernel
theorem dX8_sheet_34 : decode cX8_sheet 34 = .ok (.aload_n 0, 1) := by decide +kernel
theorem dX8_sheet_35 : decode cX8_sheet 35 = .ok (.iload_n 3, 1) := by decide +kernel
theorem dX8_sheet_36 : decode cX8_sheet 36 = .ok (.ifCond .ge 7, 3) := by decide +kernel
theorem dX8_sheet_39 : decode cX8_sheet 39 = .ok (.iconst 4, 1) := by decide +kernel
theorem dX8_sheet_40 : decode cX8_sheet 40 = .ok (.goto 4, 3) := by decide +kernel
theorem dX8_sheet_43 : decode cX8_sheet 43 = .ok (.iconst 0, 1) := by decide +kernel
theorem dX8_sheet_44 : decode cX8_sheet 44 = .ok (.putfield 105, 3) := by decide +kernel
theorem dX8_sheet_47 : decode cX8_sheet 47 = .ok (.aload_n 0, 1) := by decide +kernel
theorem dX8_sheet_48 : decode cX8_sheet 48 = .ok (.getfield 105, 3) := by decide +kernel
theorem dX8_sheet_51 : decode cX8_sheet 51 = .ok (.ifCond .le 5, 3) := by decide +kernel
theorem dX8_sheet_54 : decode cX8_sheet 54 = .ok (.iconst 0, 1) := by decide +kernel
theorem dX8_sheet_55 : decode cX8_sheet 55 = .ok (.ireturn, 1) := by decide +kernel
theorem dX8_sheet_56 : decode cX8_sheet 56 = .ok (.aload_n 0, 1) := by decide +kernel
theorem dX8_sheet_57 : decode cX8_sheet 57 = .ok (.getfield 55, 3) := by decide +kernel
theorem dX8_sheet_60 : decode cX8_sheet 60 = .ok (.iload_n 1, 1) := by decide +kernel
theorem dX8_sheet_61 : decode cX8_sheet 61 = .ok (.iload_n 3, 1) := by decide +kernel
theorem dX8_sheet_62 : decode cX8_sheet 62 = .ok (.iastore, 1) := by decide +kernel
theorem dX8_sheet_63 : decode cX8_sheet 63 = .ok (.aload_n 0, 1) := by decide +kernel
theorem dX8_sheet_64 : decode cX8_sheet 64 = .ok (.getfield 58, 3) := by decide +kernel
theorem dX8_sheet_67 : decode cX8_sheet 67 = .ok (.iload_n 1, 1) := by decide +kernel
theorem dX8_sheet_68 : decode cX8_sheet 68 = .ok (.iload_n 2, 1) := by decide +kernel
theorem dX8_sheet_69 : decode cX8_sheet 69 = .ok (.iastore, 1) := by decide +kernel
theorem dX8_sheet_70 : decode cX8_sheet 70 = .ok (.iconst 0, 1) := by decide +kernel
theorem dX8_sheet_71 : decode cX8_sheet 71 = .ok (.istore 4, 2) := by decide +kernel
theorem dX8_sheet_73 : decode cX8_sheet 73 = .ok (.iload 4, 2) := by decide +kernel
theorem dX8_sheet_75 : decode cX8_sheet 75 = .ok (.iload_n 3, 1) := by decide +kernel
theorem dX8_sheet_76 : decode cX8_sheet 76 = .ok (.if_icmp .ge 23, 3) := by decide +kernel
theorem dX8_sheet_79 : decode cX8_sheet 79 = .ok (.aload_n 0, 1) := by decide +kernel
theorem dX8_sheet_80 : decode cX8_sheet 80 = .ok (.getfield 61, 3) := by decide +kernel
theorem dX8_sheet_83 : decode cX8_sheet 83 = .ok (.sipush 1100, 3) := by decide +kernel
theorem dX8_sheet_86 : decode cX8_sheet 86 = .ok (.iload_n 1, 1) := by decide +kernel
theorem dX8_sheet_87 : decode cX8_sheet 87 = .ok (.imul, 1) := by decide +kernel
theorem dX8_sheet_88 : decode cX8_sheet 88 = .ok (.iload 4, 2) := by decide +kernel
theorem dX8_sheet_90 : decode cX8_sheet 90 = .ok (.iadd, 1) := by decide +kernel
theorem dX8_sheet_91 : decode cX8_sheet 91 = .ok (.lconst 0, 1) := by decide +kernel
theorem dX8_sheet_92 : decode cX8_sheet 92 = .ok (.lastore, 1) := by decide +kernel
theorem dX8_sheet_93 : decode cX8_sheet 93 = .ok (.iinc 4 1, 3) := by decide +kernel
theorem dX8_sheet_96 : decode cX8_sheet 96 = .ok (.goto (-23), 3) := by decide +kernel
theorem dX8_sheet_99 : decode cX8_sheet 99 = .ok (.iload_n 3, 1) := by decide +kernel
theorem dX8_sheet_100 : decode cX8_sheet 100 = .ok (.ireturn, 1) := by decide +kernel
theorem dX8_tear_0 : decode cX8_tear 0 = .ok (.iload_n 1, 1) := by decide +kernel
theorem dX8_tear_1 : decode cX8_tear 1 = .ok (.invokestatic 99, 3) := by decide +kernel
theorem dX8_tear_4 : decode cX8_tear 4 = .ok (.ifCond .ne 7, 3) := by decide +kernel
theorem dX8_tear_7 : decode cX8_tear 7 = .ok (.sipush (-1001), 3) := by decide +kernel
theorem dX8_tear_10 : decode cX8_tear 10 = .ok (.ireturn, 1) := by decide +kernel
theorem dX8_tear_11 : decode cX8_tear 11 = .ok (.aload_n 0, 1) := by decide +kernel
theorem dX8_tear_12 : decode cX8_tear 12 = .ok (.getfield 55, 3) := by decide +kernel
theorem dX8_tear_15 : decode cX8_tear 15 = .ok (.iload_n 1, 1) := by decide +kernel
theorem dX8_tear_16 : decode cX8_tear 16 = .ok (.iaload, 1) := by decide +kernel
theorem dX8_tear_17 : decode cX8_tear 17 = .ok (.ifCond .ge 7, 3) := by decide +kernel
theorem dX8_tear_20 : decode cX8_tear 20 = .ok (.iconst 0, 1) := by decide +kernel
theorem dX8_tear_21 : decode cX8_tear 21 = .ok (.goto 4, 3) := by decide +kernel
theorem dX8_tear_24 : decode cX8_tear 24 = .ok (.iconst 1, 1) := by decide +kernel
theorem dX8_tear_25 : decode cX8_tear 25 = .ok (.istore_n 2, 1) := by decide +kernel
theorem dX8_tear_26 : decode cX8_tear 26 = .ok (.aload_n 0, 1) := by decide +kernel
theorem dX8_tear_27 : decode cX8_tear 27 = .ok (.getfield 55, 3) := by decide +kernel
theorem dX8_tear_30 : decode cX8_tear 30 = .ok (.iload_n 1, 1) := by decide +kernel
theorem dX8_tear_31 : decode cX8_tear 31 = .ok (.iconst (-1), 1) := by decide +kernel
theorem dX8_tear_32 : decode cX8_tear 32 = .ok (.iastore, 1) := by decide +kernel
theorem dX8_tear_33 : decode cX8_tear 33 = .ok (.iload_n 2, 1) := by decide +kernel
theorem dX8_tear_34 : decode cX8_tear 34 = .ok (.ireturn, 1) := by decide +kernel
theorem dX8_put_0 : decode cX8_put 0 = .ok (.iload_n 1, 1) := by decide +kernel
theorem dX8_put_1 : decode cX8_put 1 = .ok (.invokestatic 99, 3) := by decide +kernel
theorem dX8_put_4 : decode cX8_put 4 = .ok (.ifCond .ne 7, 3) := by decide +kernel
theorem dX8_put_7 : decode cX8_put 7 = .ok (.ldc2_w 108, 3) := by decide +kernel
theorem dX8_put_10 : decode cX8_put 10 = .ok (.lreturn, 1) := by decide +kernel
theorem dX8_put_11 : decode cX8_put 11 = .ok (.iload_n 2, 1) := by decide +kernel
theorem dX8_put_12 : decode cX8_put 12 = .ok (.i2l, 1) := by decide +kernel
theorem dX8_put_13 : decode cX8_put 13 = .ok (.lconst 0, 1) := by decide +kernel
theorem dX8_put_14 : decode cX8_put 14 = .ok (.ldc2_w 103, 3) := by decide +kernel
theorem dX8_put_17 : decode cX8_put 17 = .ok (.invokestatic 89, 3) := by decide +kernel
theorem dX8_put_20 : decode cX8_put 20 = .ok (.ifCond .ne 7, 3) := by decide +kernel
theorem dX8_put_23 : decode cX8_put 23 = .ok (.ldc2_w 110, 3) := by decide +kernel
theorem dX8_put_26 : decode cX8_put 26 = .ok (.lreturn, 1) := by decide +kernel
theorem dX8_put_27 : decode cX8_put 27 = .ok (.aload_n 0, 1) := by decide +kernel
theorem dX8_put_28 : decode cX8_put 28 = .ok (.aload_n 0, 1) := by decide +kernel
theorem dX8_put_29 : decode cX8_put 29 = .ok (.getfield 55, 3) := by decide +kernel
theorem dX8_put_32 : decode cX8_put 32 = .ok (.iload_n 1, 1) := by decide +kernel
theorem dX8_put_33 : decode cX8_put 33 = .ok (.iaload, 1) := by decide +kernel
theorem dX8_put_34 : decode cX8_put 34 = .ok (.ifCond .ge 7, 3) := by decide +kernel
theorem dX8_put_37 : decode cX8_put 37 = .ok (.iconst 1, 1) := by decide +kernel
theorem dX8_put_38 : decode cX8_put 38 = .ok (.goto 40, 3) := by decide +kernel
theorem dX8_put_41 : decode cX8_put 41 = .ok (.aload_n 0, 1) := by decide +kernel
theorem dX8_put_42 : decode cX8_put 42 = .ok (.getfield 58, 3) := by decide +kernel
theorem dX8_put_45 : decode cX8_put 45 = .ok (.iload_n 1, 1) := by decide +kernel
theorem dX8_put_46 : decode cX8_put 46 = .ok (.iaload, 1) := by decide +kernel
theorem dX8_put_47 : decode cX8_put 47 = .ok (.iload_n 2, 1) := by decide +kernel
theorem dX8_put_48 : decode cX8_put 48 = .ok (.if_icmp .eq 7, 3) := by decide +kernel
theorem dX8_put_51 : decode cX8_put 51 = .ok (.iconst 2, 1) := by decide +kernel
theorem dX8_put_52 : decode cX8_put 52 = .ok (.goto 26, 3) := by decide +kernel
theorem dX8_put_55 : decode cX8_put 55 = .ok (.iload_n 3, 1) := by decide +kernel
theorem dX8_put_56 : decode cX8_put 56 = .ok (.i2l, 1) := by decide +kernel
theorem dX8_put_57 : decode cX8_put 57 = .ok (.lconst 0, 1) := by decide +kernel
theorem dX8_put_58 : decode cX8_put 58 = .ok (.aload_n 0, 1) := by decide +kernel
theorem dX8_put_59 : decode cX8_put 59 = .ok (.getfield 55, 3) := by decide +kernel
theorem dX8_put_62 : decode cX8_put 62 = .ok (.iload_n 1, 1) := by decide +kernel
theorem dX8_put_63 : decode cX8_put 63 = .ok (.iaload, 1) := by decide +kernel
theorem dX8_put_64 : decode cX8_put 64 = .ok (.iconst 1, 1) := by decide +kernel
theorem dX8_put_65 : decode cX8_put 65 = .ok (.isub, 1) := by decide +kernel
theorem dX8_put_66 : decode cX8_put 66 = .ok (.i2l, 1) := by decide +kernel
theorem dX8_put_67 : decode cX8_put 67 = .ok (.invokestatic 89, 3) := by decide +kernel
theorem dX8_put_70 : decode cX8_put 70 = .ok (.ifCond .ne 7, 3) := by decide +kernel
theorem dX8_put_73 : decode cX8_put 73 = .ok (.iconst 3, 1) := by decide +kernel
theorem dX8_put_74 : decode cX8_put 74 = .ok (.goto 4, 3) := by decide +kernel
theorem dX8_put_77 : decode cX8_put 77 = .ok (.iconst 0, 1) := by decide +kernel
theorem dX8_put_78 : decode cX8_put 78 = .ok (.putfield 105, 3) := by decide +kernel
theorem dX8_put_81 : decode cX8_put 81 = .ok (.aload_n 0, 1) := by decide +kernel
theorem dX8_put_82 : decode cX8_put 82 = .ok (.getfield 105, 3) := by decide +kernel
theorem dX8_put_85 : decode cX8_put 85 = .ok (.ifCond .le 5, 3) := by decide +kernel
theorem dX8_put_88 : decode cX8_put 88 = .ok (.lconst 0, 1) := by decide +kernel
theorem dX8_put_89 : decode cX8_put 89 = .ok (.lreturn, 1) := by decide +kernel
theorem dX8_put_90 : decode cX8_put 90 = .ok (.aload_n 0, 1) := by decide +kernel
theorem dX8_put_91 : decode cX8_put 91 = .ok (.getfield 61, 3) := by decide +kernel
theorem dX8_put_94 : decode cX8_put 94 = .ok (.sipush 1100, 3) := by decide +kernel
theorem dX8_put_97 : decode cX8_put 97 = .ok (.iload_n 1, 1) := by decide +kernel
theorem dX8_put_98 : decode cX8_put 98 = .ok (.imul, 1) := by decide +kernel
theorem dX8_put_99 : decode cX8_put 99 = .ok (.iload_n 3, 1) := by decide +kernel
theorem dX8_put_100 : decode cX8_put 100 = .ok (.iadd, 1) := by decide +kernel
theorem dX8_put_101 : decode cX8_put 101 = .ok (.iload_n 2, 1) := by decide +kernel
theorem dX8_put_102 : decode cX8_put 102 = .ok (.ifCond .ne 11, 3) := by decide +kernel
theorem dX8_put_105 : decode cX8_put 105 = .ok (.lload 4, 2) := by decide +kernel
theorem dX8_put_107 : decode cX8_put 107 = .ok (.l2i, 1) := by decide +kernel
theorem dX8_put_108 : decode cX8_put 108 = .ok (.i2b, 1) := by decide +kernel
theorem dX8_put_109 : decode cX8_put 109 = .ok (.i2l, 1) := by decide +kernel
theorem dX8_put_110 : decode cX8_put 110 = .ok (.goto 17, 3) := by decide +kernel
theorem dX8_put_113 : decode cX8_put 113 = .ok (.iload_n 2, 1) := by decide +kernel
theorem dX8_put_114 : decode cX8_put 114 = .ok (.iconst 1, 1) := by decide +kernel
theorem dX8_put_115 : decode cX8_put 115 = .ok (.if_icmp .ne 10, 3) := by decide +kernel
theorem dX8_put_118 : decode cX8_put 118 = .ok (.lload 4, 2) := by decide +kernel
theorem dX8_put_120 : decode cX8_put 120 = .ok (.l2i, 1) := by decide +kernel
theorem dX8_put_121 : decode cX8_put 121 = .ok (.i2l, 1) := by decide +kernel
theorem dX8_put_122 : decode cX8_put 122 = .ok (.goto 5, 3) := by decide +kernel
theorem dX8_put_125 : decode cX8_put 125 = .ok (.lload 4, 2) := by decide +kernel
theorem dX8_put_127 : decode cX8_put 127 = .ok (.lastore, 1) := by decide +kernel
theorem dX8_put_128 : decode cX8_put 128 = .ok (.aload_n 0, 1) := by decide +kernel
theorem dX8_put_129 : decode cX8_put 129 = .ok (.getfield 61, 3) := by decide +kernel
theorem dX8_put_132 : decode cX8_put 132 = .ok (.sipush 1100, 3) := by decide +kernel
theorem dX8_put_135 : decode cX8_put 135 = .ok (.iload_n 1, 1) := by decide +kernel
theorem dX8_put_136 : decode cX8_put 136 = .ok (.imul, 1) := by decide +kernel
theorem dX8_put_137 : decode cX8_put 137 = .ok (.iload_n 3, 1) := by decide +kernel
theorem dX8_put_138 : decode cX8_put 138 = .ok (.iadd, 1) := by decide +kernel
theorem dX8_put_139 : decode cX8_put 139 = .ok (.laload, 1) := by decide +kernel
theorem dX8_put_140 : decode cX8_put 140 = .ok (.lreturn, 1) := by decide +kernel
theorem dX8_at_0 : decode cX8_at 0 = .ok (.iload_n 1, 1) := by decide +kernel
theorem dX8_at_1 : decode cX8_at 1 = .ok (.invokestatic 99, 3) := by decide +kernel
theorem dX8_at_4 : decode cX8_at 4 = .ok (.ifCond .ne 7, 3) := by decide +kernel
theorem dX8_at_7 : decode cX8_at 7 = .ok (.ldc2_w 108, 3) := by decide +kernel
theorem dX8_at_10 : decode cX8_at 10 = .ok (.lreturn, 1) := by decide +kernel
theorem dX8_at_11 : decode cX8_at 11 = .ok (.aload_n 0, 1) := by decide +kernel
theorem dX8_at_12 : decode cX8_at 12 = .ok (.aload_n 0, 1) := by decide +kernel
theorem dX8_at_13 : decode cX8_at 13 = .ok (.getfield 55, 3) := by decide +kernel
theorem dX8_at_16 : decode cX8_at 16 = .ok (.iload_n 1, 1) := by decide +kernel
theorem dX8_at_17 : decode cX8_at 17 = .ok (.iaload, 1) := by decide +kernel
theorem dX8_at_18 : decode cX8_at 18 = .ok (.ifCond .ge 7, 3) := by decide +kernel
theorem dX8_at_21 : decode cX8_at 21 = .ok (.iconst 1, 1) := by decide +kernel
theorem dX8_at_22 : decode cX8_at 22 = .ok (.goto 26, 3) := by decide +kernel
theorem dX8_at_25 : decode cX8_at 25 = .ok (.iload_n 2, 1) := by decide +kernel
theorem dX8_at_26 : decode cX8_at 26 = .ok (.i2l, 1) := by decide +kernel
theorem dX8_at_27 : decode cX8_at 27 = .ok (.lconst 0, 1) := by decide +kernel
theorem dX8_at_28 : decode cX8_at 28 = .ok (.aload_n 0, 1) := by decide +kernel
theorem dX8_at_29 : decode cX8_at 29 = .ok (.getfield 55, 3) := by decide +kernel
theorem dX8_at_32 : decode cX8_at 32 = .ok (.iload_n 1, 1) := by decide +kernel
theorem dX8_at_33 : decode cX8_at 33 = .ok (.iaload, 1) := by decide +kernel
theorem dX8_at_34 : decode cX8_at 34 = .ok (.iconst 1, 1) := by decide +kernel
theorem dX8_at_35 : decode cX8_at 35 = .ok (.isub, 1) := by decide +kernel
theorem dX8_at_36 : decode cX8_at 36 = .ok (.i2l, 1) := by decide +kernel
theorem dX8_at_37 : decode cX8_at 37 = .ok (.invokestatic 89, 3) := by decide +kernel
theorem dX8_at_40 : decode cX8_at 40 = .ok (.ifCond .ne 7, 3) := by decide +kernel
theorem dX8_at_43 : decode cX8_at 43 = .ok (.iconst 3, 1) := by decide +kernel
theorem dX8_at_44 : decode cX8_at 44 = .ok (.goto 4, 3) := by decide +kernel
theorem dX8_at_47 : decode cX8_at 47 = .ok (.iconst 0, 1) := by decide +kernel
theorem dX8_at_48 : decode cX8_at 48 = .ok (.putfield 105, 3) := by decide +kernel
theorem dX8_at_51 : decode cX8_at 51 = .ok (.aload_n 0, 1) := by decide +kernel
theorem dX8_at_52 : decode cX8_at 52 = .ok (.getfield 105, 3) := by decide +kernel
theorem dX8_at_55 : decode cX8_at 55 = .ok (.ifCond .le 7, 3) := by decide +kernel
theorem dX8_at_58 : decode cX8_at 58 = .ok (.lconst 0, 1) := by decide +kernel
theorem dX8_at_59 : decode cX8_at 59 = .ok (.goto 15, 3) := by decide +kernel
theorem dX8_at_62 : decode cX8_at 62 = .ok (.aload_n 0, 1) := by decide +kernel
theorem dX8_at_63 : decode cX8_at 63 = .ok (.getfield 61, 3) := by decide +kernel
theorem dX8_at_66 : decode cX8_at 66 = .ok (.sipush 1100, 3) := by decide +kernel
theorem dX8_at_69 : decode cX8_at 69 = .ok (.iload_n 1, 1) := by decide +kernel
theorem dX8_at_70 : decode cX8_at 70 = .ok (.imul, 1) := by decide +kernel
theorem dX8_at_71 : decode cX8_at 71 = .ok (.iload_n 2, 1) := by decide +kernel
theorem dX8_at_72 : decode cX8_at 72 = .ok (.iadd, 1) := by decide +kernel
theorem dX8_at_73 : decode cX8_at 73 = .ok (.laload, 1) := by decide +kernel
theorem dX8_at_74 : decode cX8_at 74 = .ok (.lreturn, 1) := by decide +kernel
theorem dX8_countOf_0 : decode cX8_countOf 0 = .ok (.iconst 0, 1) := by decide +kernel
theorem dX8_countOf_1 : decode cX8_countOf 1 = .ok (.istore_n 1, 1) := by decide +kernel
theorem dX8_countOf_2 : decode cX8_countOf 2 = .ok (.iconst 0, 1) := by decide +kernel
theorem dX8_countOf_3 : decode cX8_countOf 3 = .ok (.istore_n 2, 1) := by decide +kernel
theorem dX8_countOf_4 : decode cX8_countOf 4 = .ok (.iload_n 2, 1) := by decide +kernel
theorem dX8_countOf_5 : decode cX8_countOf 5 = .ok (.bipush 10, 2) := by decide +kernel
theorem dX8_countOf_7 : decode cX8_countOf 7 = .ok (.if_icmp .ge 17, 3) := by decide +kernel
theorem dX8_countOf_10 : decode cX8_countOf 10 = .ok (.iload_n 1, 1) := by decide +kernel
theorem dX8_countOf_11 : decode cX8_countOf 11 = .ok (.iload_n 0, 1) := by decide +kernel
theorem dX8_countOf_12 : decode cX8_countOf 12 = .ok (.iload_n 2, 1) := by decide +kernel
theorem dX8_countOf_13 : decode cX8_countOf 13 = .ok (.ishr, 1) := by decide +kernel
theorem dX8_countOf_14 : decode cX8_countOf 14 = .ok (.iconst 1, 1) := by decide +kernel
theorem dX8_countOf_15 : decode cX8_countOf 15 = .ok (.iand, 1) := by decide +kernel
theorem dX8_countOf_16 : decode cX8_countOf 16 = .ok (.iadd, 1) := by decide +kernel
theorem dX8_countOf_17 : decode cX8_countOf 17 = .ok (.istore_n 1, 1) := by decide +kernel
theorem dX8_countOf_18 : decode cX8_countOf 18 = .ok (.iinc 2 1, 3) := by decide +kernel
theorem dX8_countOf_21 : decode cX8_countOf 21 = .ok (.goto (-17), 3) := by decide +kernel
theorem dX8_countOf_24 : decode cX8_countOf 24 = .ok (.iload_n 1, 1) := by decide +kernel
theorem dX8_countOf_25 : decode cX8_countOf 25 = .ok (.ireturn, 1) := by decide +kernel
theorem dX8_cut_0 : decode cX8_cut 0 = .ok (.lconst 0, 1) := by decide +kernel
theorem dX8_cut_1 : decode cX8_cut 1 = .ok (.lstore_n 3, 1) := by decide +kernel
theorem dX8_cut_2 : decode cX8_cut 2 = .ok (.iconst 0, 1) := by decide +kernel
theorem dX8_cut_3 : decode cX8_cut 3 = .ok (.istore 5, 2) := by decide +kernel
theorem dX8_cut_5 : decode cX8_cut 5 = .ok (.iload 5, 2) := by decide +kernel
theorem dX8_cut_7 : decode cX8_cut 7 = .ok (.aload_n 0, 1) := by decide +kernel
theorem dX8_cut_8 : decode cX8_cut 8 = .ok (.getfield 21, 3) := by decide +kernel
theorem dX8_cut_11 : decode cX8_cut 11 = .ok (.iload_n 1, 1) := by decide +kernel
theorem dX8_cut_12 : decode cX8_cut 12 = .ok (.iaload, 1) := by decide +kernel
theorem dX8_cut_13 : decode cX8_cut 13 = .ok (.if_icmp .ge 93, 3) := by decide +kernel
theorem dX8_cut_16 : decode cX8_cut 16 = .ok (.iload_n 2, 1) := by decide +kernel
theorem dX8_cut_17 : decode cX8_cut 17 = .ok (.aload_n 0, 1) := by decide +kernel
theorem dX8_cut_18 : decode cX8_cut 18 = .ok (.getfield 24, 3) := by decide +kernel
theorem dX8_cut_21 : decode cX8_cut 21 = .ok (.bipush 24, 2) := by decide +kernel
theorem dX8_cut_23 : decode cX8_cut 23 = .ok (.iload_n 1, 1) := by decide +kernel
theorem dX8_cut_24 : decode cX8_cut 24 = .ok (.imul, 1) := by decide +kernel
theorem dX8_cut_25 : decode cX8_cut 25 = .ok (.iload 5, 2) := by decide +kernel
theorem dX8_cut_27 : decode cX8_cut 27 = .ok (.iadd, 1) := by decide +kernel
theorem dX8_cut_28 : decode cX8_cut 28 = .ok (.iaload, 1) := by decide +kernel
theorem dX8_cut_29 : decode cX8_cut 29 = .ok (.ishr, 1) := by decide +kernel
theorem dX8_cut_30 : decode cX8_cut 30 = .ok (.iconst 1, 1) := by decide +kernel
theorem dX8_cut_31 : decode cX8_cut 31 = .ok (.iand, 1) := by decide +kernel
theorem dX8_cut_32 : decode cX8_cut 32 = .ok (.iconst 1, 1) := by decide +kernel
theorem dX8_cut_33 : decode cX8_cut 33 = .ok (.if_icmp .ne 7, 3) := by decide +kernel
theorem dX8_cut_36 : decode cX8_cut 36 = .ok (.iconst 1, 1) := by decide +kernel
theorem dX8_cut_37 : decode cX8_cut 37 = .ok (.goto 4, 3) := by decide +kernel
theorem dX8_cut_40 : decode cX8_cut 40 = .ok (.iconst 0, 1) := by decide +kernel
theorem dX8_cut_41 : decode cX8_cut 41 = .ok (.istore 6, 2) := by decide +kernel
theorem dX8_cut_43 : decode cX8_cut 43 = .ok (.iload_n 2, 1) := by decide +kernel
theorem dX8_cut_44 : decode cX8_cut 44 = .ok (.aload_n 0, 1) := by decide +kernel
theorem dX8_cut_45 : decode cX8_cut 45 = .ok (.getfield 27, 3) := by decide +kernel
theorem dX8_cut_48 : decode cX8_cut 48 = .ok (.bipush 24, 2) := by decide +kernel
theorem dX8_cut_50 : decode cX8_cut 50 = .ok (.iload_n 1, 1) := by decide +kernel
theorem dX8_cut_51 : decode cX8_cut 51 = .ok (.imul, 1) := by decide +kernel
theorem dX8_cut_52 : decode cX8_cut 52 = .ok (.iload 5, 2) := by decide +kernel
theorem dX8_cut_54 : decode cX8_cut 54 = .ok (.iadd, 1) := by decide +kernel
theorem dX8_cut_55 : decode cX8_cut 55 = .ok (.iaload, 1) := by decide +kernel
theorem dX8_cut_56 : decode cX8_cut 56 = .ok (.ishr, 1) := by decide +kernel
theorem dX8_cut_57 : decode cX8_cut 57 = .ok (.iconst 1, 1) := by decide +kernel
theorem dX8_cut_58 : decode cX8_cut 58 = .ok (.iand, 1) := by decide +kernel
theorem dX8_cut_59 : decode cX8_cut 59 = .ok (.iconst 1, 1) := by decide +kernel
theorem dX8_cut_60 : decode cX8_cut 60 = .ok (.if_icmp .ne 7, 3) := by decide +kernel
theorem dX8_cut_63 : decode cX8_cut 63 = .ok (.iconst 1, 1) := by decide +kernel
theorem dX8_cut_64 : decode cX8_cut 64 = .ok (.goto 4, 3) := by decide +kernel
theorem dX8_cut_67 : decode cX8_cut 67 = .ok (.iconst 0, 1) := by decide +kernel
theorem dX8_cut_68 : decode cX8_cut 68 = .ok (.istore 7, 2) := by decide +kernel
theorem dX8_cut_70 : decode cX8_cut 70 = .ok (.lload_n 3, 1) := by decide +kernel
theorem dX8_cut_71 : decode cX8_cut 71 = .ok (.iload 6, 2) := by decide +kernel
theorem dX8_cut_73 : decode cX8_cut 73 = .ok (.ifCond .eq 24, 3) := by decide +kernel
theorem dX8_cut_76 : decode cX8_cut 76 = .ok (.iload 7, 2) := by decide +kernel
theorem dX8_cut_78 : decode cX8_cut 78 = .ok (.ifCond .ne 19, 3) := by decide +kernel
theorem dX8_cut_81 : decode cX8_cut 81 = .ok (.aload_n 0, 1) := by decide +kernel
theorem dX8_cut_82 : decode cX8_cut 82 = .ok (.getfield 30, 3) := by decide +kernel
theorem dX8_cut_85 : decode cX8_cut 85 = .ok (.bipush 24, 2) := by decide +kernel
theorem dX8_cut_87 : decode cX8_cut 87 = .ok (.iload_n 1, 1) := by decide +kernel
theorem dX8_cut_88 : decode cX8_cut 88 = .ok (.imul, 1) := by decide +kernel
theorem dX8_cut_89 : decode cX8_cut 89 = .ok (.iload 5, 2) := by decide +kernel
theorem dX8_cut_91 : decode cX8_cut 91 = .ok (.iadd, 1) := by decide +kernel
theorem dX8_cut_92 : decode cX8_cut 92 = .ok (.iaload, 1) := by decide +kernel
theorem dX8_cut_93 : decode cX8_cut 93 = .ok (.i2l, 1) := by decide +kernel
theorem dX8_cut_94 : decode cX8_cut 94 = .ok (.goto 4, 3) := by decide +kernel
theorem dX8_cut_97 : decode cX8_cut 97 = .ok (.lconst 0, 1) := by decide +kernel
theorem dX8_cut_98 : decode cX8_cut 98 = .ok (.ladd, 1) := by decide +kernel
theorem dX8_cut_99 : decode cX8_cut 99 = .ok (.lstore_n 3, 1) := by decide +kernel
theorem dX8_cut_100 : decode cX8_cut 100 = .ok (.iinc 5 1, 3) := by decide +kernel
theorem dX8_cut_103 : decode cX8_cut 103 = .ok (.goto (-98), 3) := by decide +kernel
theorem dX8_cut_106 : decode cX8_cut 106 = .ok (.lload_n 3, 1) := by decide +kernel
theorem dX8_cut_107 : decode cX8_cut 107 = .ok (.lreturn, 1) := by decide +kernel
theorem dX8_cover_0 : decode cX8_cover 0 = .ok (.lconst 0, 1) := by decide +kernel
theorem dX8_cover_1 : decode cX8_cover 1 = .ok (.lstore_n 3, 1) := by decide +kernel
theorem dX8_cover_2 : decode cX8_cover 2 = .ok (.iconst 0, 1) := by decide +kernel
theorem dX8_cover_3 : decode cX8_cover 3 = .ok (.istore 5, 2) := by decide +kernel
theorem dX8_cover_5 : decode cX8_cover 5 = .ok (.iload 5, 2) := by decide +kernel
theorem dX8_cover_7 : decode cX8_cover 7 = .ok (.aload_n 0, 1) := by decide +kernel
theorem dX8_cover_8 : decode cX8_cover 8 = .ok (.getfield 21, 3) := by decide +kernel
theorem dX8_cover_11 : decode cX8_cover 11 = .ok (.iload_n 1, 1) := by decide +kernel
theorem dX8_cover_12 : decode cX8_cover 12 = .ok (.iaload, 1) := by decide +kernel
theorem dX8_cover_13 : decode cX8_cover 13 = .ok (.if_icmp .ge 46, 3) := by decide +kernel
theorem dX8_cover_16 : decode cX8_cover 16 = .ok (.lload_n 3, 1) := by decide +kernel
theorem dX8_cover_17 : decode cX8_cover 17 = .ok (.aload_n 0, 1) := by decide +kernel
theorem dX8_cover_18 : decode cX8_cover 18 = .ok (.getfield 27, 3) := by decide +kernel
theorem dX8_cover_21 : decode cX8_cover 21 = .ok (.bipush 24, 2) := by decide +kernel
theorem dX8_cover_23 : decode cX8_cover 23 = .ok (.iload_n 1, 1) := by decide +kernel
theorem dX8_cover_24 : decode cX8_cover 24 = .ok (.imul, 1) := by decide +kernel
theorem dX8_cover_25 : decode cX8_cover 25 = .ok (.iload 5, 2) := by decide +kernel
theorem dX8_cover_27 : decode cX8_cover 27 = .ok (.iadd, 1) := by decide +kernel
theorem dX8_cover_28 : decode cX8_cover 28 = .ok (.iaload, 1) := by decide +kernel
theorem dX8_cover_29 : decode cX8_cover 29 = .ok (.iload_n 2, 1) := by decide +kernel
theorem dX8_cover_30 : decode cX8_cover 30 = .ok (.iand, 1) := by decide +kernel
theorem dX8_cover_31 : decode cX8_cover 31 = .ok (.ifCond .eq 19, 3) := by decide +kernel
theorem dX8_cover_34 : decode cX8_cover 34 = .ok (.aload_n 0, 1) := by decide +kernel
theorem dX8_cover_35 : decode cX8_cover 35 = .ok (.getfield 24, 3) := by decide +kernel
theorem dX8_cover_38 : decode cX8_cover 38 = .ok (.bipush 24, 2) := by decide +kernel
theorem dX8_cover_40 : decode cX8_cover 40 = .ok (.iload_n 1, 1) := by decide +kernel
theorem dX8_cover_41 : decode cX8_cover 41 = .ok (.imul, 1) := by decide +kernel
theorem dX8_cover_42 : decode cX8_cover 42 = .ok (.iload 5, 2) := by decide +kernel
theorem dX8_cover_44 : decode cX8_cover 44 = .ok (.iadd, 1) := by decide +kernel
theorem dX8_cover_45 : decode cX8_cover 45 = .ok (.iaload, 1) := by decide +kernel
theorem dX8_cover_46 : decode cX8_cover 46 = .ok (.i2l, 1) := by decide +kernel
theorem dX8_cover_47 : decode cX8_cover 47 = .ok (.goto 4, 3) := by decide +kernel
theorem dX8_cover_50 : decode cX8_cover 50 = .ok (.lconst 0, 1) := by decide +kernel
theorem dX8_cover_51 : decode cX8_cover 51 = .ok (.ladd, 1) := by decide +kernel
theorem dX8_cover_52 : decode cX8_cover 52 = .ok (.lstore_n 3, 1) := by decide +kernel
theorem dX8_cover_53 : decode cX8_cover 53 = .ok (.iinc 5 1, 3) := by decide +kernel
theorem dX8_cover_56 : decode cX8_cover 56 = .ok (.goto (-51), 3) := by decide +kernel
theorem dX8_cover_59 : decode cX8_cover 59 = .ok (.lload_n 3, 1) := by decide +kernel
theorem dX8_cover_60 : decode cX8_cover 60 = .ok (.lreturn, 1) := by decide +kernel
theorem dX8_rank_0 : decode cX8_rank 0 = .ok (.iconst 0, 1) := by decide +kernel
theorem dX8_rank_1 : decode cX8_rank 1 = .ok (.istore_n 3, 1) := by decide +kernel
theorem dX8_rank_2 : decode cX8_rank 2 = .ok (.iconst 0, 1) := by decide +kernel
theorem dX8_rank_3 : decode cX8_rank 3 = .ok (.istore 4, 2) := by decide +kernel
theorem dX8_rank_5 : decode cX8_rank 5 = .ok (.iload 4, 2) := by decide +kernel
theorem dX8_rank_7 : decode cX8_rank 7 = .ok (.aload_n 0, 1) := by decide +kernel
theorem dX8_rank_8 : decode cX8_rank 8 = .ok (.getfield 80, 3) := by decide +kernel
theorem dX8_rank_11 : decode cX8_rank 11 = .ok (.if_icmp .ge 102, 3) := by decide +kernel
theorem dX8_rank_14 : decode cX8_rank 14 = .ok (.iload_n 2, 1) := by decide +kernel
theorem dX8_rank_15 : decode cX8_rank 15 = .ok (.iload 4, 2) := by decide +kernel
theorem dX8_rank_17 : decode cX8_rank 17 = .ok (.ishr, 1) := by decide +kernel
theorem dX8_rank_18 : decode cX8_rank 18 = .ok (.iconst 1, 1) := by decide +kernel
theorem dX8_rank_19 : decode cX8_rank 19 = .ok (.iand, 1) := by decide +kernel
theorem dX8_rank_20 : decode cX8_rank 20 = .ok (.iconst 1, 1) := by decide +kernel
theorem dX8_rank_21 : decode cX8_rank 21 = .ok (.if_icmp .ne 86, 3) := by decide +kernel
theorem dX8_rank_24 : decode cX8_rank 24 = .ok (.iconst 0, 1) := by decide +kernel
theorem dX8_rank_25 : decode cX8_rank 25 = .ok (.istore 5, 2) := by decide +kernel
theorem dX8_rank_27 : decode cX8_rank 27 = .ok (.iload 5, 2) := by decide +kernel
theorem dX8_rank_29 : decode cX8_rank 29 = .ok (.iconst 4, 1) := by decide +kernel
theorem dX8_rank_30 : decode cX8_rank 30 = .ok (.if_icmp .ge 38, 3) := by decide +kernel
theorem dX8_rank_33 : decode cX8_rank 33 = .ok (.aload_n 0, 1) := by decide +kernel
theorem dX8_rank_34 : decode cX8_rank 34 = .ok (.getfield 64, 3) := by decide +kernel
theorem dX8_rank_37 : decode cX8_rank 37 = .ok (.iconst 4, 1) := by decide +kernel
theorem dX8_rank_38 : decode cX8_rank 38 = .ok (.iload_n 3, 1) := by decide +kernel
theorem dX8_rank_39 : decode cX8_rank 39 = .ok (.imul, 1) := by decide +kernel
theorem dX8_rank_40 : decode cX8_rank 40 = .ok (.iload 5, 2) := by decide +kernel
theorem dX8_rank_42 : decode cX8_rank 42 = .ok (.iadd, 1) := by decide +kernel
theorem dX8_rank_43 : decode cX8_rank 43 = .ok (.aload_n 0, 1) := by decide +kernel
theorem dX8_rank_44 : decode cX8_rank 44 = .ok (.getfield 33, 3) := by decide +kernel
theorem dX8_rank_47 : decode cX8_rank 47 = .ok (.bipush 40, 2) := by decide +kernel
theorem dX8_rank_49 : decode cX8_rank 49 = .ok (.iload_n 1, 1) := by decide +kernel
theorem dX8_rank_50 : decode cX8_rank 50 = .ok (.imul, 1) := by decide +kernel
theorem dX8_rank_51 : decode cX8_rank 51 = .ok (.iconst 4, 1) := by decide +kernel
theorem dX8_rank_52 : decode cX8_rank 52 = .ok (.iload 4, 2) := by decide +kernel
theorem dX8_rank_54 : decode cX8_rank 54 = .ok (.imul, 1) := by decide +kernel
theorem dX8_rank_55 : decode cX8_rank 55 = .ok (.iadd, 1) := by decide +kernel
theorem dX8_rank_56 : decode cX8_rank 56 = .ok (.iload 5, 2) := by decide +kernel
theorem dX8_rank_58 : decode cX8_rank 58 = .ok (.iadd, 1) := by decide +kernel
theorem dX8_rank_59 : decode cX8_rank 59 = .ok (.iaload, 1) := by decide +kernel
theorem dX8_rank_60 : decode cX8_rank 60 = .ok (.i2l, 1) := by decide +kernel
theorem dX8_rank_61 : decode cX8_rank 61 = .ok (.lastore, 1) := by decide +kernel
theorem dX8_rank_62 : decode cX8_rank 62 = .ok (.iinc 5 1, 3) := by decide +kernel
theorem dX8_rank_65 : decode cX8_rank 65 = .ok (.goto (-38), 3) := by decide +kernel
theorem dX8_rank_68 : decode cX8_rank 68 = .ok (.iconst 0, 1) := by decide +kernel
theorem dX8_rank_69 : decode cX8_rank 69 = .ok (.istore 5, 2) := by decide +kernel
theorem dX8_rank_71 : decode cX8_rank 71 = .ok (.iload 5, 2) := by decide +kernel
theorem dX8_rank_73 : decode cX8_rank 73 = .ok (.iload_n 3, 1) := by decide +kernel
theorem dX8_rank_74 : decode cX8_rank 74 = .ok (.if_icmp .ge 16, 3) := by decide +kernel
theorem dX8_rank_77 : decode cX8_rank 77 = .ok (.aload_n 0, 1) := by decide +kernel
theorem dX8_rank_78 : decode cX8_rank 78 = .ok (.iload_n 3, 1) := by decide +kernel
theorem dX8_rank_79 : decode cX8_rank 79 = .ok (.iload 5, 2) := by decide +kernel
theorem dX8_rank_81 : decode cX8_rank 81 = .ok (.invokevirtual 112, 3) := by decide +kernel
theorem dX8_rank_84 : decode cX8_rank 84 = .ok (.iinc 5 1, 3) := by decide +kernel
theorem dX8_rank_87 : decode cX8_rank 87 = .ok (.goto (-16), 3) := by decide +kernel
theorem dX8_rank_90 : decode cX8_rank 90 = .ok (.iload_n 3, 1) := by decide +kernel
theorem dX8_rank_91 : decode cX8_rank 91 = .ok (.aload_n 0, 1) := by decide +kernel
theorem dX8_rank_92 : decode cX8_rank 92 = .ok (.iload_n 3, 1) := by decide +kernel
theorem dX8_rank_93 : decode cX8_rank 93 = .ok (.invokevirtual 116, 3) := by decide +kernel
theorem dX8_rank_96 : decode cX8_rank 96 = .ok (.iconst 4, 1) := by decide +kernel
theorem dX8_rank_97 : decode cX8_rank 97 = .ok (.if_icmp .ge 7, 3) := by decide +kernel
theorem dX8_rank_100 : decode cX8_rank 100 = .ok (.iconst 1, 1) := by decide +kernel
theorem dX8_rank_101 : decode cX8_rank 101 = .ok (.goto 4, 3) := by decide +kernel
theorem dX8_rank_104 : decode cX8_rank 104 = .ok (.iconst 0, 1) := by decide +kernel
theorem dX8_rank_105 : decode cX8_rank 105 = .ok (.iadd, 1) := by decide +kernel
theorem dX8_rank_106 : decode cX8_rank 106 = .ok (.istore_n 3, 1) := by decide +kernel
theorem dX8_rank_107 : decode cX8_rank 107 = .ok (.iinc 4 1, 3) := by decide +kernel
theorem dX8_rank_110 : decode cX8_rank 110 = .ok (.goto (-105), 3) := by decide +kernel
theorem dX8_rank_113 : decode cX8_rank 113 = .ok (.iload_n 3, 1) := by decide +kernel
theorem dX8_rank_114 : decode cX8_rank 114 = .ok (.i2l, 1) := by decide +kernel
theorem dX8_rank_115 : decode cX8_rank 115 = .ok (.lreturn, 1) := by decide +kernel
theorem dX8_firstOf_0 : decode cX8_firstOf 0 = .ok (.iconst 0, 1) := by decide +kernel
theorem dX8_firstOf_1 : decode cX8_firstOf 1 = .ok (.istore_n 2, 1) := by decide +kernel
theorem dX8_firstOf_2 : decode cX8_firstOf 2 = .ok (.iload_n 2, 1) := by decide +kernel
theorem dX8_firstOf_3 : decode cX8_firstOf 3 = .ok (.iconst 4, 1) := by decide +kernel
theorem dX8_firstOf_4 : decode cX8_firstOf 4 = .ok (.if_icmp .ge 24, 3) := by decide +kernel
theorem dX8_firstOf_7 : decode cX8_firstOf 7 = .ok (.aload_n 0, 1) := by decide +kernel
theorem dX8_firstOf_8 : decode cX8_firstOf 8 = .ok (.getfield 64, 3) := by decide +kernel
theorem dX8_firstOf_11 : decode cX8_firstOf 11 = .ok (.iconst 4, 1) := by decide +kernel
theorem dX8_firstOf_12 : decode cX8_firstOf 12 = .ok (.iload_n 1, 1) := by decide +kernel
theorem dX8_firstOf_13 : decode cX8_firstOf 13 = .ok (.imul, 1) := by decide +kernel
theorem dX8_firstOf_14 : decode cX8_firstOf 14 = .ok (.iload_n 2, 1) := by decide +kernel
theorem dX8_firstOf_15 : decode cX8_firstOf 15 = .ok (.iadd, 1) := by decide +kernel
theorem dX8_firstOf_16 : decode cX8_firstOf 16 = .ok (.laload, 1) := by decide +kernel
theorem dX8_firstOf_17 : decode cX8_firstOf 17 = .ok (.lconst 0, 1) := by decide +kernel
theorem dX8_firstOf_18 : decode cX8_firstOf 18 = .ok (.lcmp, 1) := by decide +kernel
theorem dX8_firstOf_19 : decode cX8_firstOf 19 = .ok (.ifCond .ne 9, 3) := by decide +kernel
theorem dX8_firstOf_22 : decode cX8_firstOf 22 = .ok (.iinc 2 1, 3) := by decide +kernel
theorem dX8_firstOf_25 : decode cX8_firstOf 25 = .ok (.goto (-23), 3) := by decide +kernel
theorem dX8_firstOf_28 : decode cX8_firstOf 28 = .ok (.iload_n 2, 1) := by decide +kernel
theorem dX8_firstOf_29 : decode cX8_firstOf 29 = .ok (.ireturn, 1) := by decide +kernel
theorem dX8_free_0 : decode cX8_free 0 = .ok (.aload_n 0, 1) := by decide +kernel
theorem dX8_free_1 : decode cX8_free 1 = .ok (.iload_n 2, 1) := by decide +kernel
theorem dX8_free_2 : decode cX8_free 2 = .ok (.invokevirtual 116, 3) := by decide +kernel
theorem dX8_free_5 : decode cX8_free 5 = .ok (.istore_n 3, 1) := by decide +kernel
theorem dX8_free_6 : decode cX8_free 6 = .ok (.aload_n 0, 1) := by decide +kernel
theorem dX8_free_7 : decode cX8_free 7 = .ok (.getfield 64, 3) := by decide +kernel
theorem dX8_free_10 : decode cX8_free 10 = .ok (.iconst 4, 1) := by decide +kernel
theorem dX8_free_11 : decode cX8_free 11 = .ok (.iload_n 2, 1) := by decide +kernel
theorem dX8_free_12 : decode cX8_free 12 = .ok (.imul, 1) := by decide +kernel
