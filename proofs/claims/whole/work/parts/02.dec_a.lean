theorem dX0_init_0 : decode cX0_init 0 = .ok (.aload_n 0, 1) := by decide +kernel
theorem dX0_init_1 : decode cX0_init 1 = .ok (.invokespecial 3, 3) := by decide +kernel
theorem dX0_init_4 : decode cX0_init 4 = .ok (.aload_n 0, 1) := by decide +kernel
theorem dX0_init_5 : decode cX0_init 5 = .ok (.bipush 100, 2) := by decide +kernel
theorem dX0_init_7 : decode cX0_init 7 = .ok (.newarray .int, 2) := by decide +kernel
theorem dX0_init_9 : decode cX0_init 9 = .ok (.putfield 9, 3) := by decide +kernel
theorem dX0_init_12 : decode cX0_init 12 = .ok (.aload_n 0, 1) := by decide +kernel
theorem dX0_init_13 : decode cX0_init 13 = .ok (.bipush 100, 2) := by decide +kernel
theorem dX0_init_15 : decode cX0_init 15 = .ok (.newarray .int, 2) := by decide +kernel
theorem dX0_init_17 : decode cX0_init 17 = .ok (.putfield 15, 3) := by decide +kernel
theorem dX0_init_20 : decode cX0_init 20 = .ok (.aload_n 0, 1) := by decide +kernel
theorem dX0_init_21 : decode cX0_init 21 = .ok (.bipush 100, 2) := by decide +kernel
theorem dX0_init_23 : decode cX0_init 23 = .ok (.newarray .int, 2) := by decide +kernel
theorem dX0_init_25 : decode cX0_init 25 = .ok (.putfield 18, 3) := by decide +kernel
theorem dX0_init_28 : decode cX0_init 28 = .ok (.aload_n 0, 1) := by decide +kernel
theorem dX0_init_29 : decode cX0_init 29 = .ok (.iconst 0, 1) := by decide +kernel
theorem dX0_init_30 : decode cX0_init 30 = .ok (.putfield 21, 3) := by decide +kernel
theorem dX0_init_33 : decode cX0_init 33 = .ok (.aload_n 0, 1) := by decide +kernel
theorem dX0_init_34 : decode cX0_init 34 = .ok (.iconst 0, 1) := by decide +kernel
theorem dX0_init_35 : decode cX0_init 35 = .ok (.putfield 25, 3) := by decide +kernel
theorem dX0_init_38 : decode cX0_init 38 = .ok (.aload_n 0, 1) := by decide +kernel
theorem dX0_init_39 : decode cX0_init 39 = .ok (.iload_n 1, 1) := by decide +kernel
theorem dX0_init_40 : decode cX0_init 40 = .ok (.putfield 28, 3) := by decide +kernel
theorem dX0_init_43 : decode cX0_init 43 = .ok (.return_, 1) := by decide +kernel
theorem dX0_clear_0 : decode cX0_clear 0 = .ok (.aload_n 0, 1) := by decide +kernel
theorem dX0_clear_1 : decode cX0_clear 1 = .ok (.iconst 0, 1) := by decide +kernel
theorem dX0_clear_2 : decode cX0_clear 2 = .ok (.putfield 21, 3) := by decide +kernel
theorem dX0_clear_5 : decode cX0_clear 5 = .ok (.aload_n 0, 1) := by decide +kernel
theorem dX0_clear_6 : decode cX0_clear 6 = .ok (.iconst 0, 1) := by decide +kernel
theorem dX0_clear_7 : decode cX0_clear 7 = .ok (.putfield 25, 3) := by decide +kernel
theorem dX0_clear_10 : decode cX0_clear 10 = .ok (.return_, 1) := by decide +kernel
theorem dX0_segmentCount_0 : decode cX0_segmentCount 0 = .ok (.aload_n 0, 1) := by decide +kernel
theorem dX0_segmentCount_1 : decode cX0_segmentCount 1 = .ok (.getfield 25, 3) := by decide +kernel
theorem dX0_segmentCount_4 : decode cX0_segmentCount 4 = .ok (.ireturn, 1) := by decide +kernel
theorem dX0_add_0 : decode cX0_add 0 = .ok (.aload_n 0, 1) := by decide +kernel
theorem dX0_add_1 : decode cX0_add 1 = .ok (.getfield 21, 3) := by decide +kernel
theorem dX0_add_4 : decode cX0_add 4 = .ok (.bipush 100, 2) := by decide +kernel
theorem dX0_add_6 : decode cX0_add 6 = .ok (.if_icmp .lt 4, 3) := by decide +kernel
theorem dX0_add_9 : decode cX0_add 9 = .ok (.return_, 1) := by decide +kernel
theorem dX0_add_10 : decode cX0_add 10 = .ok (.aload_n 0, 1) := by decide +kernel
theorem dX0_add_11 : decode cX0_add 11 = .ok (.getfield 25, 3) := by decide +kernel
theorem dX0_add_14 : decode cX0_add 14 = .ok (.ifCond .eq 23, 3) := by decide +kernel
theorem dX0_add_17 : decode cX0_add 17 = .ok (.aload_n 0, 1) := by decide +kernel
theorem dX0_add_18 : decode cX0_add 18 = .ok (.getfield 18, 3) := by decide +kernel
theorem dX0_add_21 : decode cX0_add 21 = .ok (.aload_n 0, 1) := by decide +kernel
theorem dX0_add_22 : decode cX0_add 22 = .ok (.getfield 25, 3) := by decide +kernel
theorem dX0_add_25 : decode cX0_add 25 = .ok (.iconst 1, 1) := by decide +kernel
theorem dX0_add_26 : decode cX0_add 26 = .ok (.isub, 1) := by decide +kernel
theorem dX0_add_27 : decode cX0_add 27 = .ok (.iaload, 1) := by decide +kernel
theorem dX0_add_28 : decode cX0_add 28 = .ok (.iload_n 2, 1) := by decide +kernel
theorem dX0_add_29 : decode cX0_add 29 = .ok (.iadd, 1) := by decide +kernel
theorem dX0_add_30 : decode cX0_add 30 = .ok (.aload_n 0, 1) := by decide +kernel
theorem dX0_add_31 : decode cX0_add 31 = .ok (.getfield 28, 3) := by decide +kernel
theorem dX0_add_34 : decode cX0_add 34 = .ok (.if_icmp .le 36, 3) := by decide +kernel
theorem dX0_add_37 : decode cX0_add 37 = .ok (.aload_n 0, 1) := by decide +kernel
theorem dX0_add_38 : decode cX0_add 38 = .ok (.getfield 15, 3) := by decide +kernel
theorem dX0_add_41 : decode cX0_add 41 = .ok (.aload_n 0, 1) := by decide +kernel
theorem dX0_add_42 : decode cX0_add 42 = .ok (.getfield 25, 3) := by decide +kernel
theorem dX0_add_45 : decode cX0_add 45 = .ok (.aload_n 0, 1) := by decide +kernel
theorem dX0_add_46 : decode cX0_add 46 = .ok (.getfield 21, 3) := by decide +kernel
theorem dX0_add_49 : decode cX0_add 49 = .ok (.iastore, 1) := by decide +kernel
theorem dX0_add_50 : decode cX0_add 50 = .ok (.aload_n 0, 1) := by decide +kernel
theorem dX0_add_51 : decode cX0_add 51 = .ok (.getfield 18, 3) := by decide +kernel
theorem dX0_add_54 : decode cX0_add 54 = .ok (.aload_n 0, 1) := by decide +kernel
theorem dX0_add_55 : decode cX0_add 55 = .ok (.getfield 25, 3) := by decide +kernel
theorem dX0_add_58 : decode cX0_add 58 = .ok (.iconst 0, 1) := by decide +kernel
theorem dX0_add_59 : decode cX0_add 59 = .ok (.iastore, 1) := by decide +kernel
theorem dX0_add_60 : decode cX0_add 60 = .ok (.aload_n 0, 1) := by decide +kernel
theorem dX0_add_61 : decode cX0_add 61 = .ok (.dup, 1) := by decide +kernel
theorem dX0_add_62 : decode cX0_add 62 = .ok (.getfield 25, 3) := by decide +kernel
theorem dX0_add_65 : decode cX0_add 65 = .ok (.iconst 1, 1) := by decide +kernel
theorem dX0_add_66 : decode cX0_add 66 = .ok (.iadd, 1) := by decide +kernel
theorem dX0_add_67 : decode cX0_add 67 = .ok (.putfield 25, 3) := by decide +kernel
theorem dX0_add_70 : decode cX0_add 70 = .ok (.aload_n 0, 1) := by decide +kernel
theorem dX0_add_71 : decode cX0_add 71 = .ok (.getfield 18, 3) := by decide +kernel
theorem dX0_add_74 : decode cX0_add 74 = .ok (.aload_n 0, 1) := by decide +kernel
theorem dX0_add_75 : decode cX0_add 75 = .ok (.getfield 25, 3) := by decide +kernel
theorem dX0_add_78 : decode cX0_add 78 = .ok (.iconst 1, 1) := by decide +kernel
theorem dX0_add_79 : decode cX0_add 79 = .ok (.isub, 1) := by decide +kernel
theorem dX0_add_80 : decode cX0_add 80 = .ok (.dup2, 1) := by decide +kernel
theorem dX0_add_81 : decode cX0_add 81 = .ok (.iaload, 1) := by decide +kernel
theorem dX0_add_82 : decode cX0_add 82 = .ok (.iload_n 2, 1) := by decide +kernel
theorem dX0_add_83 : decode cX0_add 83 = .ok (.iadd, 1) := by decide +kernel
theorem dX0_add_84 : decode cX0_add 84 = .ok (.iastore, 1) := by decide +kernel
theorem dX0_add_85 : decode cX0_add 85 = .ok (.aload_n 0, 1) := by decide +kernel
theorem dX0_add_86 : decode cX0_add 86 = .ok (.getfield 9, 3) := by decide +kernel
theorem dX0_add_89 : decode cX0_add 89 = .ok (.aload_n 0, 1) := by decide +kernel
theorem dX0_add_90 : decode cX0_add 90 = .ok (.getfield 21, 3) := by decide +kernel
theorem dX0_add_93 : decode cX0_add 93 = .ok (.iload_n 1, 1) := by decide +kernel
theorem dX0_add_94 : decode cX0_add 94 = .ok (.iastore, 1) := by decide +kernel
theorem dX0_add_95 : decode cX0_add 95 = .ok (.aload_n 0, 1) := by decide +kernel
theorem dX0_add_96 : decode cX0_add 96 = .ok (.dup, 1) := by decide +kernel
theorem dX0_add_97 : decode cX0_add 97 = .ok (.getfield 21, 3) := by decide +kernel
theorem dX0_add_100 : decode cX0_add 100 = .ok (.iconst 1, 1) := by decide +kernel
theorem dX0_add_101 : decode cX0_add 101 = .ok (.iadd, 1) := by decide +kernel
theorem dX0_add_102 : decode cX0_add 102 = .ok (.putfield 21, 3) := by decide +kernel
theorem dX0_add_105 : decode cX0_add 105 = .ok (.return_, 1) := by decide +kernel
theorem dX0_recordAt_0 : decode cX0_recordAt 0 = .ok (.iload_n 1, 1) := by decide +kernel
theorem dX0_recordAt_1 : decode cX0_recordAt 1 = .ok (.ifCond .lt 20, 3) := by decide +kernel
theorem dX0_recordAt_4 : decode cX0_recordAt 4 = .ok (.iload_n 1, 1) := by decide +kernel
theorem dX0_recordAt_5 : decode cX0_recordAt 5 = .ok (.aload_n 0, 1) := by decide +kernel
theorem dX0_recordAt_6 : decode cX0_recordAt 6 = .ok (.getfield 21, 3) := by decide +kernel
theorem dX0_recordAt_9 : decode cX0_recordAt 9 = .ok (.if_icmp .ge 12, 3) := by decide +kernel
theorem dX0_recordAt_12 : decode cX0_recordAt 12 = .ok (.aload_n 0, 1) := by decide +kernel
theorem dX0_recordAt_13 : decode cX0_recordAt 13 = .ok (.getfield 9, 3) := by decide +kernel
theorem dX0_recordAt_16 : decode cX0_recordAt 16 = .ok (.iload_n 1, 1) := by decide +kernel
theorem dX0_recordAt_17 : decode cX0_recordAt 17 = .ok (.iaload, 1) := by decide +kernel
theorem dX0_recordAt_18 : decode cX0_recordAt 18 = .ok (.goto 4, 3) := by decide +kernel
theorem dX0_recordAt_21 : decode cX0_recordAt 21 = .ok (.iconst (-1), 1) := by decide +kernel
theorem dX0_recordAt_22 : decode cX0_recordAt 22 = .ok (.ireturn, 1) := by decide +kernel
theorem dX0_tellSegment_0 : decode cX0_tellSegment 0 = .ok (.iload_n 1, 1) := by decide +kernel
theorem dX0_tellSegment_1 : decode cX0_tellSegment 1 = .ok (.ifCond .lt 11, 3) := by decide +kernel
theorem dX0_tellSegment_4 : decode cX0_tellSegment 4 = .ok (.iload_n 1, 1) := by decide +kernel
theorem dX0_tellSegment_5 : decode cX0_tellSegment 5 = .ok (.aload_n 0, 1) := by decide +kernel
theorem dX0_tellSegment_6 : decode cX0_tellSegment 6 = .ok (.getfield 25, 3) := by decide +kernel
theorem dX0_tellSegment_9 : decode cX0_tellSegment 9 = .ok (.if_icmp .lt 5, 3) := by decide +kernel
theorem dX0_tellSegment_12 : decode cX0_tellSegment 12 = .ok (.iconst (-1), 1) := by decide +kernel
theorem dX0_tellSegment_13 : decode cX0_tellSegment 13 = .ok (.ireturn, 1) := by decide +kernel
theorem dX0_tellSegment_14 : decode cX0_tellSegment 14 = .ok (.iload_n 2, 1) := by decide +kernel
theorem dX0_tellSegment_15 : decode cX0_tellSegment 15 = .ok (.tableswitch 75 0 3 #[29, 36, 49, 56], 29) := by decide +kernel
theorem dX0_tellSegment_44 : decode cX0_tellSegment 44 = .ok (.aload_n 0, 1) := by decide +kernel
theorem dX0_tellSegment_45 : decode cX0_tellSegment 45 = .ok (.getfield 15, 3) := by decide +kernel
theorem dX0_tellSegment_48 : decode cX0_tellSegment 48 = .ok (.iload_n 1, 1) := by decide +kernel
theorem dX0_tellSegment_49 : decode cX0_tellSegment 49 = .ok (.iaload, 1) := by decide +kernel
theorem dX0_tellSegment_50 : decode cX0_tellSegment 50 = .ok (.ireturn, 1) := by decide +kernel
theorem dX0_tellSegment_51 : decode cX0_tellSegment 51 = .ok (.aload_n 0, 1) := by decide +kernel
theorem dX0_tellSegment_52 : decode cX0_tellSegment 52 = .ok (.iload_n 1, 1) := by decide +kernel
theorem dX0_tellSegment_53 : decode cX0_tellSegment 53 = .ok (.invokevirtual 31, 3) := by decide +kernel
theorem dX0_tellSegment_56 : decode cX0_tellSegment 56 = .ok (.aload_n 0, 1) := by decide +kernel
theorem dX0_tellSegment_57 : decode cX0_tellSegment 57 = .ok (.getfield 15, 3) := by decide +kernel
theorem dX0_tellSegment_60 : decode cX0_tellSegment 60 = .ok (.iload_n 1, 1) := by decide +kernel
theorem dX0_tellSegment_61 : decode cX0_tellSegment 61 = .ok (.iaload, 1) := by decide +kernel
theorem dX0_tellSegment_62 : decode cX0_tellSegment 62 = .ok (.isub, 1) := by decide +kernel
theorem dX0_tellSegment_63 : decode cX0_tellSegment 63 = .ok (.ireturn, 1) := by decide +kernel
theorem dX0_tellSegment_64 : decode cX0_tellSegment 64 = .ok (.aload_n 0, 1) := by decide +kernel
theorem dX0_tellSegment_65 : decode cX0_tellSegment 65 = .ok (.getfield 18, 3) := by decide +kernel
theorem dX0_tellSegment_68 : decode cX0_tellSegment 68 = .ok (.iload_n 1, 1) := by decide +kernel
theorem dX0_tellSegment_69 : decode cX0_tellSegment 69 = .ok (.iaload, 1) := by decide +kernel
theorem dX0_tellSegment_70 : decode cX0_tellSegment 70 = .ok (.ireturn, 1) := by decide +kernel
theorem dX0_tellSegment_71 : decode cX0_tellSegment 71 = .ok (.aload_n 0, 1) := by decide +kernel
theorem dX0_tellSegment_72 : decode cX0_tellSegment 72 = .ok (.getfield 18, 3) := by decide +kernel
theorem dX0_tellSegment_75 : decode cX0_tellSegment 75 = .ok (.iload_n 1, 1) := by decide +kernel
theorem dX0_tellSegment_76 : decode cX0_tellSegment 76 = .ok (.iaload, 1) := by decide +kernel
theorem dX0_tellSegment_77 : decode cX0_tellSegment 77 = .ok (.aload_n 0, 1) := by decide +kernel
theorem dX0_tellSegment_78 : decode cX0_tellSegment 78 = .ok (.getfield 28, 3) := by decide +kernel
theorem dX0_tellSegment_81 : decode cX0_tellSegment 81 = .ok (.if_icmp .le 7, 3) := by decide +kernel
theorem dX0_tellSegment_84 : decode cX0_tellSegment 84 = .ok (.iconst 1, 1) := by decide +kernel
theorem dX0_tellSegment_85 : decode cX0_tellSegment 85 = .ok (.goto 4, 3) := by decide +kernel
theorem dX0_tellSegment_88 : decode cX0_tellSegment 88 = .ok (.iconst 0, 1) := by decide +kernel
theorem dX0_tellSegment_89 : decode cX0_tellSegment 89 = .ok (.ireturn, 1) := by decide +kernel
theorem dX0_tellSegment_90 : decode cX0_tellSegment 90 = .ok (.iconst (-1), 1) := by decide +kernel
theorem dX0_tellSegment_91 : decode cX0_tellSegment 91 = .ok (.ireturn, 1) := by decide +kernel
theorem dX0_endOfSegment_0 : decode cX0_endOfSegment 0 = .ok (.iload_n 1, 1) := by decide +kernel
theorem dX0_endOfSegment_1 : decode cX0_endOfSegment 1 = .ok (.iconst 1, 1) := by decide +kernel
theorem dX0_endOfSegment_2 : decode cX0_endOfSegment 2 = .ok (.iadd, 1) := by decide +kernel
theorem dX0_endOfSegment_3 : decode cX0_endOfSegment 3 = .ok (.aload_n 0, 1) := by decide +kernel
theorem dX0_endOfSegment_4 : decode cX0_endOfSegment 4 = .ok (.getfield 25, 3) := by decide +kernel
theorem dX0_endOfSegment_7 : decode cX0_endOfSegment 7 = .ok (.if_icmp .ge 14, 3) := by decide +kernel
theorem dX0_endOfSegment_10 : decode cX0_endOfSegment 10 = .ok (.aload_n 0, 1) := by decide +kernel
theorem dX0_endOfSegment_11 : decode cX0_endOfSegment 11 = .ok (.getfield 15, 3) := by decide +kernel
theorem dX0_endOfSegment_14 : decode cX0_endOfSegment 14 = .ok (.iload_n 1, 1) := by decide +kernel
theorem dX0_endOfSegment_15 : decode cX0_endOfSegment 15 = .ok (.iconst 1, 1) := by decide +kernel
theorem dX0_endOfSegment_16 : decode cX0_endOfSegment 16 = .ok (.iadd, 1) := by decide +kernel
theorem dX0_endOfSegment_17 : decode cX0_endOfSegment 17 = .ok (.iaload, 1) := by decide +kernel
theorem dX0_endOfSegment_18 : decode cX0_endOfSegment 18 = .ok (.goto 7, 3) := by decide +kernel
theorem dX0_endOfSegment_21 : decode cX0_endOfSegment 21 = .ok (.aload_n 0, 1) := by decide +kernel
theorem dX0_endOfSegment_22 : decode cX0_endOfSegment 22 = .ok (.getfield 21, 3) := by decide +kernel
theorem dX0_endOfSegment_25 : decode cX0_endOfSegment 25 = .ok (.ireturn, 1) := by decide +kernel
theorem dX1_init_0 : decode cX1_init 0 = .ok (.aload_n 0, 1) := by decide +kernel
theorem dX1_init_1 : decode cX1_init 1 = .ok (.invokespecial 3, 3) := by decide +kernel
theorem dX1_init_4 : decode cX1_init 4 = .ok (.aload_n 0, 1) := by decide +kernel
theorem dX1_init_5 : decode cX1_init 5 = .ok (.bipush 40, 2) := by decide +kernel
theorem dX1_init_7 : decode cX1_init 7 = .ok (.newarray .int, 2) := by decide +kernel
theorem dX1_init_9 : decode cX1_init 9 = .ok (.putfield 9, 3) := by decide +kernel
theorem dX1_init_12 : decode cX1_init 12 = .ok (.aload_n 0, 1) := by decide +kernel
theorem dX1_init_13 : decode cX1_init 13 = .ok (.bipush 40, 2) := by decide +kernel
theorem dX1_init_15 : decode cX1_init 15 = .ok (.newarray .int, 2) := by decide +kernel
theorem dX1_init_17 : decode cX1_init 17 = .ok (.putfield 15, 3) := by decide +kernel
theorem dX1_init_20 : decode cX1_init 20 = .ok (.aload_n 0, 1) := by decide +kernel
theorem dX1_init_21 : decode cX1_init 21 = .ok (.bipush 40, 2) := by decide +kernel
theorem dX1_init_23 : decode cX1_init 23 = .ok (.newarray .int, 2) := by decide +kernel
theorem dX1_init_25 : decode cX1_init 25 = .ok (.putfield 18, 3) := by decide +kernel
theorem dX1_init_28 : decode cX1_init 28 = .ok (.aload_n 0, 1) := by decide +kernel
theorem dX1_init_29 : decode cX1_init 29 = .ok (.bipush 40, 2) := by decide +kernel
theorem dX1_init_31 : decode cX1_init 31 = .ok (.newarray .int, 2) := by decide +kernel
theorem dX1_init_33 : decode cX1_init 33 = .ok (.putfield 21, 3) := by decide +kernel
theorem dX1_init_36 : decode cX1_init 36 = .ok (.aload_n 0, 1) := by decide +kernel
theorem dX1_init_37 : decode cX1_init 37 = .ok (.iconst 0, 1) := by decide +kernel
theorem dX1_init_38 : decode cX1_init 38 = .ok (.putfield 24, 3) := by decide +kernel
theorem dX1_init_41 : decode cX1_init 41 = .ok (.return_, 1) := by decide +kernel
theorem dX1_has_0 : decode cX1_has 0 = .ok (.iload_n 1, 1) := by decide +kernel
theorem dX1_has_1 : decode cX1_has 1 = .ok (.ifCond .lt 15, 3) := by decide +kernel
theorem dX1_has_4 : decode cX1_has 4 = .ok (.iload_n 1, 1) := by decide +kernel
theorem dX1_has_5 : decode cX1_has 5 = .ok (.aload_n 0, 1) := by decide +kernel
theorem dX1_has_6 : decode cX1_has 6 = .ok (.getfield 24, 3) := by decide +kernel
theorem dX1_has_9 : decode cX1_has 9 = .ok (.if_icmp .ge 7, 3) := by decide +kernel
theorem dX1_has_12 : decode cX1_has 12 = .ok (.iconst 1, 1) := by decide +kernel
theorem dX1_has_13 : decode cX1_has 13 = .ok (.goto 4, 3) := by decide +kernel
theorem dX1_has_16 : decode cX1_has 16 = .ok (.iconst 0, 1) := by decide +kernel
theorem dX1_has_17 : decode cX1_has 17 = .ok (.ireturn, 1) := by decide +kernel
theorem dX1_addRange_0 : decode cX1_addRange 0 = .ok (.iload_n 1, 1) := by decide +kernel
theorem dX1_addRange_1 : decode cX1_addRange 1 = .ok (.invokestatic 28, 3) := by decide +kernel
theorem dX1_addRange_4 : decode cX1_addRange 4 = .ok (.ifCond .eq 22, 3) := by decide +kernel
theorem dX1_addRange_7 : decode cX1_addRange 7 = .ok (.iload_n 2, 1) := by decide +kernel
theorem dX1_addRange_8 : decode cX1_addRange 8 = .ok (.invokestatic 32, 3) := by decide +kernel
theorem dX1_addRange_11 : decode cX1_addRange 11 = .ok (.ifCond .eq 15, 3) := by decide +kernel
theorem dX1_addRange_14 : decode cX1_addRange 14 = .ok (.iload_n 3, 1) := by decide +kernel
theorem dX1_addRange_15 : decode cX1_addRange 15 = .ok (.invokestatic 32, 3) := by decide +kernel
theorem dX1_addRange_18 : decode cX1_addRange 18 = .ok (.ifCond .eq 8, 3) := by decide +kernel
theorem dX1_addRange_21 : decode cX1_addRange 21 = .ok (.iload_n 2, 1) := by decide +kernel
theorem dX1_addRange_22 : decode cX1_addRange 22 = .ok (.iload_n 3, 1) := by decide +kernel
theorem dX1_addRange_23 : decode cX1_addRange 23 = .ok (.if_icmp .le 5, 3) := by decide +kernel
theorem dX1_addRange_26 : decode cX1_addRange 26 = .ok (.iconst (-1), 1) := by decide +kernel
theorem dX1_addRange_27 : decode cX1_addRange 27 = .ok (.ireturn, 1) := by decide +kernel
theorem dX1_addRange_28 : decode cX1_addRange 28 = .ok (.aload_n 0, 1) := by decide +kernel
theorem dX1_addRange_29 : decode cX1_addRange 29 = .ok (.iconst 1, 1) := by decide +kernel
theorem dX1_addRange_30 : decode cX1_addRange 30 = .ok (.iload_n 1, 1) := by decide +kernel
theorem dX1_addRange_31 : decode cX1_addRange 31 = .ok (.iload_n 2, 1) := by decide +kernel
theorem dX1_addRange_32 : decode cX1_addRange 32 = .ok (.iload_n 3, 1) := by decide +kernel
theorem dX1_addRange_33 : decode cX1_addRange 33 = .ok (.invokevirtual 35, 3) := by decide +kernel
theorem dX1_addRange_36 : decode cX1_addRange 36 = .ok (.ireturn, 1) := by decide +kernel
theorem dX1_addPair_0 : decode cX1_addPair 0 = .ok (.iload_n 1, 1) := by decide +kernel
theorem dX1_addPair_1 : decode cX1_addPair 1 = .ok (.iconst 2, 1) := by decide +kernel
theorem dX1_addPair_2 : decode cX1_addPair 2 = .ok (.if_icmp .lt 24, 3) := by decide +kernel
theorem dX1_addPair_5 : decode cX1_addPair 5 = .ok (.iload_n 1, 1) := by decide +kernel
theorem dX1_addPair_6 : decode cX1_addPair 6 = .ok (.iconst 4, 1) := by decide +kernel
theorem dX1_addPair_7 : decode cX1_addPair 7 = .ok (.if_icmp .gt 19, 3) := by decide +kernel
theorem dX1_addPair_10 : decode cX1_addPair 10 = .ok (.aload_n 0, 1) := by decide +kernel
theorem dX1_addPair_11 : decode cX1_addPair 11 = .ok (.iload_n 2, 1) := by decide +kernel
theorem dX1_addPair_12 : decode cX1_addPair 12 = .ok (.invokevirtual 39, 3) := by decide +kernel
theorem dX1_addPair_15 : decode cX1_addPair 15 = .ok (.ifCond .eq 11, 3) := by decide +kernel
theorem dX1_addPair_18 : decode cX1_addPair 18 = .ok (.aload_n 0, 1) := by decide +kernel
theorem dX1_addPair_19 : decode cX1_addPair 19 = .ok (.iload_n 3, 1) := by decide +kernel
theorem dX1_addPair_20 : decode cX1_addPair 20 = .ok (.invokevirtual 39, 3) := by decide +kernel
theorem dX1_addPair_23 : decode cX1_addPair 23 = .ok (.ifCond .ne 5, 3) := by decide +kernel
theorem dX1_addPair_26 : decode cX1_addPair 26 = .ok (.iconst (-1), 1) := by decide +kernel
theorem dX1_addPair_27 : decode cX1_addPair 27 = .ok (.ireturn, 1) := by decide +kernel
theorem dX1_addPair_28 : decode cX1_addPair 28 = .ok (.aload_n 0, 1) := by decide +kernel
theorem dX1_addPair_29 : decode cX1_addPair 29 = .ok (.iload_n 1, 1) := by decide +kernel
theorem dX1_addPair_30 : decode cX1_addPair 30 = .ok (.iload_n 2, 1) := by decide +kernel
theorem dX1_addPair_31 : decode cX1_addPair 31 = .ok (.iload_n 3, 1) := by decide +kernel
theorem dX1_addPair_32 : decode cX1_addPair 32 = .ok (.iconst 0, 1) := by decide +kernel
theorem dX1_addPair_33 : decode cX1_addPair 33 = .ok (.invokevirtual 35, 3) := by decide +kernel
theorem dX1_addPair_36 : decode cX1_addPair 36 = .ok (.ireturn, 1) := by decide +kernel
theorem dX1_add_0 : decode cX1_add 0 = .ok (.aload_n 0, 1) := by decide +kernel
theorem dX1_add_1 : decode cX1_add 1 = .ok (.getfield 24, 3) := by decide +kernel
theorem dX1_add_4 : decode cX1_add 4 = .ok (.bipush 40, 2) := by decide +kernel
theorem dX1_add_6 : decode cX1_add 6 = .ok (.if_icmp .lt 5, 3) := by decide +kernel
theorem dX1_add_9 : decode cX1_add 9 = .ok (.iconst (-1), 1) := by decide +kernel
theorem dX1_add_10 : decode cX1_add 10 = .ok (.ireturn, 1) := by decide +kernel
theorem dX1_add_11 : decode cX1_add 11 = .ok (.aload_n 0, 1) := by decide +kernel
theorem dX1_add_12 : decode cX1_add 12 = .ok (.getfield 9, 3) := by decide +kernel
theorem dX1_add_15 : decode cX1_add 15 = .ok (.aload_n 0, 1) := by decide +kernel
theorem dX1_add_16 : decode cX1_add 16 = .ok (.getfield 24, 3) := by decide +kernel
theorem dX1_add_19 : decode cX1_add 19 = .ok (.iload_n 1, 1) := by decide +kernel
theorem dX1_add_20 : decode cX1_add 20 = .ok (.iastore, 1) := by decide +kernel
theorem dX1_add_21 : decode cX1_add 21 = .ok (.aload_n 0, 1) := by decide +kernel
theorem dX1_add_22 : decode cX1_add 22 = .ok (.getfield 15, 3) := by decide +kernel
theorem dX1_add_25 : decode cX1_add 25 = .ok (.aload_n 0, 1) := by decide +kernel
theorem dX1_add_26 : decode cX1_add 26 = .ok (.getfield 24, 3) := by decide +kernel
theorem dX1_add_29 : decode cX1_add 29 = .ok (.iload_n 2, 1) := by decide +kernel
theorem dX1_add_30 : decode cX1_add 30 = .ok (.iastore, 1) := by decide +kernel
theorem dX1_add_31 : decode cX1_add 31 = .ok (.aload_n 0, 1) := by decide +kernel
theorem dX1_add_32 : decode cX1_add 32 = .ok (.getfield 18, 3) := by decide +kernel
theorem dX1_add_35 : decode cX1_add 35 = .ok (.aload_n 0, 1) := by decide +kernel
theorem dX1_add_36 : decode cX1_add 36 = .ok (.getfield 24, 3) := by decide +kernel
theorem dX1_add_39 : decode cX1_add 39 = .ok (.iload_n 3, 1) := by decide +kernel
theorem dX1_add_40 : decode cX1_add 40 = .ok (.iastore, 1) := by decide +kernel
theorem dX1_add_41 : decode cX1_add 41 = .ok (.aload_n 0, 1) := by decide +kernel
theorem dX1_add_42 : decode cX1_add 42 = .ok (.getfield 21, 3) := by decide +kernel
theorem dX1_add_45 : decode cX1_add 45 = .ok (.aload_n 0, 1) := by decide +kernel
theorem dX1_add_46 : decode cX1_add 46 = .ok (.getfield 24, 3) := by decide +kernel
theorem dX1_add_49 : decode cX1_add 49 = .ok (.iload 4, 2) := by decide +kernel
theorem dX1_add_51 : decode cX1_add 51 = .ok (.iastore, 1) := by decide +kernel
theorem dX1_add_52 : decode cX1_add 52 = .ok (.aload_n 0, 1) := by decide +kernel
theorem dX1_add_53 : decode cX1_add 53 = .ok (.dup, 1) := by decide +kernel
theorem dX1_add_54 : decode cX1_add 54 = .ok (.getfield 24, 3) := by decide +kernel
theorem dX1_add_57 : decode cX1_add 57 = .ok (.iconst 1, 1) := by decide +kernel
theorem dX1_add_58 : decode cX1_add 58 = .ok (.iadd, 1) := by decide +kernel
theorem dX1_add_59 : decode cX1_add 59 = .ok (.putfield 24, 3) := by decide +kernel
theorem dX1_add_62 : decode cX1_add 62 = .ok (.aload_n 0, 1) := by decide +kernel
theorem dX1_add_63 : decode cX1_add 63 = .ok (.getfield 24, 3) := by decide +kernel
theorem dX1_add_66 : decode cX1_add 66 = .ok (.iconst 1, 1) := by decide +kernel
theorem dX1_add_67 : decode cX1_add 67 = .ok (.isub, 1) := by decide +kernel
theorem dX1_add_68 : decode cX1_add 68 = .ok (.ireturn, 1) := by decide +kernel
theorem dX1_finds_0 : decode cX1_finds 0 = .ok (.aload_n 0, 1) := by decide +kernel
theorem dX1_finds_1 : decode cX1_finds 1 = .ok (.iload_n 1, 1) := by decide +kernel
theorem dX1_finds_2 : decode cX1_finds 2 = .ok (.invokevirtual 39, 3) := by decide +kernel
theorem dX1_finds_5 : decode cX1_finds 5 = .ok (.ifCond .ne 5, 3) := by decide +kernel
theorem dX1_finds_8 : decode cX1_finds 8 = .ok (.iconst 0, 1) := by decide +kernel
theorem dX1_finds_9 : decode cX1_finds 9 = .ok (.ireturn, 1) := by decide +kernel
theorem dX1_finds_10 : decode cX1_finds 10 = .ok (.lconst 0, 1) := by decide +kernel
theorem dX1_finds_11 : decode cX1_finds 11 = .ok (.lstore 4, 2) := by decide +kernel
theorem dX1_finds_13 : decode cX1_finds 13 = .ok (.iconst 0, 1) := by decide +kernel
theorem dX1_finds_14 : decode cX1_finds 14 = .ok (.istore 6, 2) := by decide +kernel
theorem dX1_finds_16 : decode cX1_finds 16 = .ok (.iload 6, 2) := by decide +kernel
theorem dX1_finds_18 : decode cX1_finds 18 = .ok (.iload_n 1, 1) := by decide +kernel
theorem dX1_finds_19 : decode cX1_finds 19 = .ok (.if_icmp .gt 31, 3) := by decide +kernel
theorem dX1_finds_22 : decode cX1_finds 22 = .ok (.aload_n 0, 1) := by decide +kernel
theorem dX1_finds_23 : decode cX1_finds 23 = .ok (.iload 6, 2) := by decide +kernel
theorem dX1_finds_25 : decode cX1_finds 25 = .ok (.aload_n 2, 1) := by decide +kernel
theorem dX1_finds_26 : decode cX1_finds 26 = .ok (.iload_n 3, 1) := by decide +kernel
theorem dX1_finds_27 : decode cX1_finds 27 = .ok (.lload 4, 2) := by decide +kernel
theorem dX1_finds_29 : decode cX1_finds 29 = .ok (.invokevirtual 42, 3) := by decide +kernel
theorem dX1_finds_32 : decode cX1_finds 32 = .ok (.ifCond .eq 12, 3) := by decide +kernel
theorem dX1_finds_35 : decode cX1_finds 35 = .ok (.lload 4, 2) := by decide +kernel
theorem dX1_finds_37 : decode cX1_finds 37 = .ok (.lconst 1, 1) := by decide +kernel
theorem dX1_finds_38 : decode cX1_finds 38 = .ok (.iload 6, 2) := by decide +kernel
theorem dX1_finds_40 : decode cX1_finds 40 = .ok (.lshl, 1) := by decide +kernel
theorem dX1_finds_41 : decode cX1_finds 41 = .ok (.lor, 1) := by decide +kernel
theorem dX1_finds_42 : decode cX1_finds 42 = .ok (.lstore 4, 2) := by decide +kernel
theorem dX1_finds_44 : decode cX1_finds 44 = .ok (.iinc 6 1, 3) := by decide +kernel
theorem dX1_finds_47 : decode cX1_finds 47 = .ok (.goto (-31), 3) := by decide +kernel
theorem dX1_finds_50 : decode cX1_finds 50 = .ok (.lload 4, 2) := by decide +kernel
theorem dX1_finds_52 : decode cX1_finds 52 = .ok (.iload_n 1, 1) := by decide +kernel
theorem dX1_finds_53 : decode cX1_finds 53 = .ok (.invokestatic 46, 3) := by decide +kernel
theorem dX1_finds_56 : decode cX1_finds 56 = .ok (.ireturn, 1) := by decide +kernel
theorem dX1_holds_0 : decode cX1_holds 0 = .ok (.aload_n 0, 1) := by decide +kernel
theorem dX1_holds_1 : decode cX1_holds 1 = .ok (.getfield 15, 3) := by decide +kernel
theorem dX1_holds_4 : decode cX1_holds 4 = .ok (.iload_n 1, 1) := by decide +kernel
theorem dX1_holds_5 : decode cX1_holds 5 = .ok (.iaload, 1) := by decide +kernel
theorem dX1_holds_6 : decode cX1_holds 6 = .ok (.istore 6, 2) := by decide +kernel
theorem dX1_holds_8 : decode cX1_holds 8 = .ok (.aload_n 0, 1) := by decide +kernel
theorem dX1_holds_9 : decode cX1_holds 9 = .ok (.getfield 18, 3) := by decide +kernel
theorem dX1_holds_12 : decode cX1_holds 12 = .ok (.iload_n 1, 1) := by decide +kernel
theorem dX1_holds_13 : decode cX1_holds 13 = .ok (.iaload, 1) := by decide +kernel
theorem dX1_holds_14 : decode cX1_holds 14 = .ok (.istore 7, 2) := by decide +kernel
theorem dX1_holds_16 : decode cX1_holds 16 = .ok (.aload_n 0, 1) := by decide +kernel
theorem dX1_holds_17 : decode cX1_holds 17 = .ok (.getfield 9, 3) := by decide +kernel
theorem dX1_holds_20 : decode cX1_holds 20 = .ok (.iload_n 1, 1) := by decide +kernel
theorem dX1_holds_21 : decode cX1_holds 21 = .ok (.iaload, 1) := by decide +kernel
theorem dX1_holds_22 : decode cX1_holds 22 = .ok (.tableswitch 104 2 4 #[26, 52, 78], 26) := by decide +kernel
theorem dX1_holds_48 : decode cX1_holds 48 = .ok (.lload 4, 2) := by decide +kernel
theorem dX1_holds_50 : decode cX1_holds 50 = .ok (.iload 6, 2) := by decide +kernel
theorem dX1_holds_52 : decode cX1_holds 52 = .ok (.invokestatic 46, 3) := by decide +kernel
theorem dX1_holds_55 : decode cX1_holds 55 = .ok (.ifCond .eq 17, 3) := by decide +kernel
theorem dX1_holds_58 : decode cX1_holds 58 = .ok (.lload 4, 2) := by decide +kernel
theorem dX1_holds_60 : decode cX1_holds 60 = .ok (.iload 7, 2) := by decide +kernel
theorem dX1_holds_62 : decode cX1_holds 62 = .ok (.invokestatic 46, 3) := by decide +kernel
theorem dX1_holds_65 : decode cX1_holds 65 = .ok (.ifCond .eq 7, 3) := by decide +kernel
theorem dX1_holds_68 : decode cX1_holds 68 = .ok (.iconst 1, 1) := by decide +kernel
theorem dX1_holds_69 : decode cX1_holds 69 = .ok (.goto 4, 3) := by decide +kernel
theorem dX1_holds_72 : decode cX1_holds 72 = .ok (.iconst 0, 1) := by decide +kernel
theorem dX1_holds_73 : decode cX1_holds 73 = .ok (.ireturn, 1) := by decide +kernel
theorem dX1_holds_74 : decode cX1_holds 74 = .ok (.lload 4, 2) := by decide +kernel
theorem dX1_holds_76 : decode cX1_holds 76 = .ok (.iload 6, 2) := by decide +kernel
theorem dX1_holds_78 : decode cX1_holds 78 = .ok (.invokestatic 46, 3) := by decide +kernel
theorem dX1_holds_81 : decode cX1_holds 81 = .ok (.ifCond .ne 13, 3) := by decide +kernel
theorem dX1_holds_84 : decode cX1_holds 84 = .ok (.lload 4, 2) := by decide +kernel
theorem dX1_holds_86 : decode cX1_holds 86 = .ok (.iload 7, 2) := by decide +kernel
theorem dX1_holds_88 : decode cX1_holds 88 = .ok (.invokestatic 46, 3) := by decide +kernel
theorem dX1_holds_91 : decode cX1_holds 91 = .ok (.ifCond .eq 7, 3) := by decide +kernel
theorem dX1_holds_94 : decode cX1_holds 94 = .ok (.iconst 1, 1) := by decide +kernel
theorem dX1_holds_95 : decode cX1_holds 95 = .ok (.goto 4, 3) := by decide +kernel
theorem dX1_holds_98 : decode cX1_holds 98 = .ok (.iconst 0, 1) := by decide +kernel
theorem dX1_holds_99 : decode cX1_holds 99 = .ok (.ireturn, 1) := by decide +kernel
theorem dX1_holds_100 : decode cX1_holds 100 = .ok (.lload 4, 2) := by decide +kernel
theorem dX1_holds_102 : decode cX1_holds 102 = .ok (.iload 6, 2) := by decide +kernel
theorem dX1_holds_104 : decode cX1_holds 104 = .ok (.invokestatic 46, 3) := by decide +kernel
theorem dX1_holds_107 : decode cX1_holds 107 = .ok (.ifCond .eq 17, 3) := by decide +kernel
theorem dX1_holds_110 : decode cX1_holds 110 = .ok (.lload 4, 2) := by decide +kernel
theorem dX1_holds_112 : decode cX1_holds 112 = .ok (.iload 7, 2) := by decide +kernel
theorem dX1_holds_114 : decode cX1_holds 114 = .ok (.invokestatic 46, 3) := by decide +kernel
theorem dX1_holds_117 : decode cX1_holds 117 = .ok (.ifCond .ne 7, 3) := by decide +kernel
theorem dX1_holds_120 : decode cX1_holds 120 = .ok (.iconst 1, 1) := by decide +kernel
theorem dX1_holds_121 : decode cX1_holds 121 = .ok (.goto 4, 3) := by decide +kernel
theorem dX1_holds_124 : decode cX1_holds 124 = .ok (.iconst 0, 1) := by decide +kernel
theorem dX1_holds_125 : decode cX1_holds 125 = .ok (.ireturn, 1) := by decide +kernel
theorem dX1_holds_126 : decode cX1_holds 126 = .ok (.aload_n 2, 1) := by decide +kernel
theorem dX1_holds_127 : decode cX1_holds 127 = .ok (.iload_n 3, 1) := by decide +kernel
theorem dX1_holds_128 : decode cX1_holds 128 = .ok (.iload 6, 2) := by decide +kernel
theorem dX1_holds_130 : decode cX1_holds 130 = .ok (.invokevirtual 50, 3) := by decide +kernel
theorem dX1_holds_133 : decode cX1_holds 133 = .ok (.istore 8, 2) := by decide +kernel
theorem dX1_holds_135 : decode cX1_holds 135 = .ok (.iload 8, 2) := by decide +kernel
theorem dX1_holds_137 : decode cX1_holds 137 = .ok (.iload 7, 2) := by decide +kernel
theorem dX1_holds_139 : decode cX1_holds 139 = .ok (.if_icmp .lt 18, 3) := by decide +kernel
theorem dX1_holds_142 : decode cX1_holds 142 = .ok (.iload 8, 2) := by decide +kernel
theorem dX1_holds_144 : decode cX1_holds 144 = .ok (.aload_n 0, 1) := by decide +kernel
theorem dX1_holds_145 : decode cX1_holds 145 = .ok (.getfield 21, 3) := by decide +kernel
theorem dX1_holds_148 : decode cX1_holds 148 = .ok (.iload_n 1, 1) := by decide +kernel
theorem dX1_holds_149 : decode cX1_holds 149 = .ok (.iaload, 1) := by decide +kernel
theorem dX1_holds_150 : decode cX1_holds 150 = .ok (.if_icmp .gt 7, 3) := by decide +kernel
theorem dX1_holds_153 : decode cX1_holds 153 = .ok (.iconst 1, 1) := by decide +kernel
theorem dX1_holds_154 : decode cX1_holds 154 = .ok (.goto 4, 3) := by decide +kernel
theorem dX1_holds_157 : decode cX1_holds 157 = .ok (.iconst 0, 1) := by decide +kernel
theorem dX1_holds_158 : decode cX1_holds 158 = .ok (.ireturn, 1) := by decide +kernel
theorem dX1_isYes_0 : decode cX1_isYes 0 = .ok (.lload_n 0, 1) := by decide +kernel
theorem dX1_isYes_1 : decode cX1_isYes 1 = .ok (.iload_n 2, 1) := by decide +kernel
theorem dX1_isYes_2 : decode cX1_isYes 2 = .ok (.lshr, 1) := by decide +kernel
theorem dX1_isYes_3 : decode cX1_isYes 3 = .ok (.lconst 1, 1) := by decide +kernel
theorem dX1_isYes_4 : decode cX1_isYes 4 = .ok (.land, 1) := by decide +kernel
theorem dX1_isYes_5 : decode cX1_isYes 5 = .ok (.lconst 0, 1) := by decide +kernel
theorem dX1_isYes_6 : decode cX1_isYes 6 = .ok (.lcmp, 1) := by decide +kernel
theorem dX1_isYes_7 : decode cX1_isYes 7 = .ok (.ifCond .eq 7, 3) := by decide +kernel
theorem dX1_isYes_10 : decode cX1_isYes 10 = .ok (.iconst 1, 1) := by decide +kernel
theorem dX1_isYes_11 : decode cX1_isYes 11 = .ok (.goto 4, 3) := by decide +kernel
theorem dX1_isYes_14 : decode cX1_isYes 14 = .ok (.iconst 0, 1) := by decide +kernel
theorem dX1_isYes_15 : decode cX1_isYes 15 = .ok (.ireturn, 1) := by decide +kernel
theorem dX2_init_0 : decode cX2_init 0 = .ok (.aload_n 0, 1) := by decide +kernel
theorem dX2_init_1 : decode cX2_init 1 = .ok (.invokespecial 3, 3) := by decide +kernel
theorem dX2_init_4 : decode cX2_init 4 = .ok (.aload_n 0, 1) := by decide +kernel
theorem dX2_init_5 : decode cX2_init 5 = .ok (.bipush 100, 2) := by decide +kernel
theorem dX2_init_7 : decode cX2_init 7 = .ok (.newarray .int, 2) := by decide +kernel
theorem dX2_init_9 : decode cX2_init 9 = .ok (.putfield 9, 3) := by decide +kernel
theorem dX2_init_12 : decode cX2_init 12 = .ok (.aload_n 0, 1) := by decide +kernel
theorem dX2_init_13 : decode cX2_init 13 = .ok (.iconst 5, 1) := by decide +kernel
theorem dX2_init_14 : decode cX2_init 14 = .ok (.bipush 100, 2) := by decide +kernel
theorem dX2_init_16 : decode cX2_init 16 = .ok (.multianewarray 15 2, 4) := by decide +kernel
theorem dX2_init_20 : decode cX2_init 20 = .ok (.putfield 17, 3) := by decide +kernel
theorem dX2_init_23 : decode cX2_init 23 = .ok (.aload_n 0, 1) := by decide +kernel
theorem dX2_init_24 : decode cX2_init 24 = .ok (.iconst 0, 1) := by decide +kernel
theorem dX2_init_25 : decode cX2_init 25 = .ok (.putfield 20, 3) := by decide +kernel
theorem dX2_init_28 : decode cX2_init 28 = .ok (.return_, 1) := by decide +kernel
theorem dX2_count_0 : decode cX2_count 0 = .ok (.aload_n 0, 1) := by decide +kernel
theorem dX2_count_1 : decode cX2_count 1 = .ok (.getfield 20, 3) := by decide +kernel
theorem dX2_count_4 : decode cX2_count 4 = .ok (.ireturn, 1) := by decide +kernel
theorem dX2_add_0 : decode cX2_add 0 = .ok (.iload_n 1, 1) := by decide +kernel
theorem dX2_add_1 : decode cX2_add 1 = .ok (.iconst 1, 1) := by decide +kernel
theorem dX2_add_2 : decode cX2_add 2 = .ok (.if_icmp .lt 19, 3) := by decide +kernel
theorem dX2_add_5 : decode cX2_add 5 = .ok (.iload_n 1, 1) := by decide +kernel
theorem dX2_add_6 : decode cX2_add 6 = .ok (.sipush 200, 3) := by decide +kernel
theorem dX2_add_9 : decode cX2_add 9 = .ok (.if_icmp .gt 12, 3) := by decide +kernel
theorem dX2_add_12 : decode cX2_add 12 = .ok (.aload_n 0, 1) := by decide +kernel
theorem dX2_add_13 : decode cX2_add 13 = .ok (.getfield 20, 3) := by decide +kernel
theorem dX2_add_16 : decode cX2_add 16 = .ok (.bipush 100, 2) := by decide +kernel
theorem dX2_add_18 : decode cX2_add 18 = .ok (.if_icmp .lt 5, 3) := by decide +kernel
theorem dX2_add_21 : decode cX2_add 21 = .ok (.iconst (-1), 1) := by decide +kernel
theorem dX2_add_22 : decode cX2_add 22 = .ok (.ireturn, 1) := by decide +kernel
theorem dX2_add_23 : decode cX2_add 23 = .ok (.aload_n 0, 1) := by decide +kernel
theorem dX2_add_24 : decode cX2_add 24 = .ok (.getfield 9, 3) := by decide +kernel
theorem dX2_add_27 : decode cX2_add 27 = .ok (.aload_n 0, 1) := by decide +kernel
theorem dX2_add_28 : decode cX2_add 28 = .ok (.getfield 20, 3) := by decide +kernel
theorem dX2_add_31 : decode cX2_add 31 = .ok (.iload_n 1, 1) := by decide +kernel
theorem dX2_add_32 : decode cX2_add 32 = .ok (.iastore, 1) := by decide +kernel
theorem dX2_add_33 : decode cX2_add 33 = .ok (.iconst 0, 1) := by decide +kernel
theorem dX2_add_34 : decode cX2_add 34 = .ok (.istore_n 2, 1) := by decide +kernel
theorem dX2_add_35 : decode cX2_add 35 = .ok (.iload_n 2, 1) := by decide +kernel
theorem dX2_add_36 : decode cX2_add 36 = .ok (.iconst 5, 1) := by decide +kernel
theorem dX2_add_37 : decode cX2_add 37 = .ok (.if_icmp .ge 21, 3) := by decide +kernel
theorem dX2_add_40 : decode cX2_add 40 = .ok (.aload_n 0, 1) := by decide +kernel
theorem dX2_add_41 : decode cX2_add 41 = .ok (.getfield 17, 3) := by decide +kernel
theorem dX2_add_44 : decode cX2_add 44 = .ok (.iload_n 2, 1) := by decide +kernel
theorem dX2_add_45 : decode cX2_add 45 = .ok (.aaload, 1) := by decide +kernel
theorem dX2_add_46 : decode cX2_add 46 = .ok (.aload_n 0, 1) := by decide +kernel
theorem dX2_add_47 : decode cX2_add 47 = .ok (.getfield 20, 3) := by decide +kernel
theorem dX2_add_50 : decode cX2_add 50 = .ok (.iconst (-1), 1) := by decide +kernel
theorem dX2_add_51 : decode cX2_add 51 = .ok (.iastore, 1) := by decide +kernel
theorem dX2_add_52 : decode cX2_add 52 = .ok (.iinc 2 1, 3) := by decide +kernel
theorem dX2_add_55 : decode cX2_add 55 = .ok (.goto (-20), 3) := by decide +kernel
theorem dX2_add_58 : decode cX2_add 58 = .ok (.aload_n 0, 1) := by decide +kernel
theorem dX2_add_59 : decode cX2_add 59 = .ok (.dup, 1) := by decide +kernel
theorem dX2_add_60 : decode cX2_add 60 = .ok (.getfield 20, 3) := by decide +kernel
theorem dX2_add_63 : decode cX2_add 63 = .ok (.iconst 1, 1) := by decide +kernel
theorem dX2_add_64 : decode cX2_add 64 = .ok (.iadd, 1) := by decide +kernel
theorem dX2_add_65 : decode cX2_add 65 = .ok (.putfield 20, 3) := by decide +kernel
theorem dX2_add_68 : decode cX2_add 68 = .ok (.aload_n 0, 1) := by decide +kernel
theorem dX2_add_69 : decode cX2_add 69 = .ok (.getfield 20, 3) := by decide +kernel
theorem dX2_add_72 : decode cX2_add 72 = .ok (.iconst 1, 1) := by decide +kernel
theorem dX2_add_73 : decode cX2_add 73 = .ok (.isub, 1) := by decide +kernel
theorem dX2_add_74 : decode cX2_add 74 = .ok (.ireturn, 1) := by decide +kernel
theorem dX2_has_0 : decode cX2_has 0 = .ok (.iload_n 1, 1) := by decide +kernel
theorem dX2_has_1 : decode cX2_has 1 = .ok (.ifCond .lt 15, 3) := by decide +kernel
theorem dX2_has_4 : decode cX2_has 4 = .ok (.iload_n 1, 1) := by decide +kernel
theorem dX2_has_5 : decode cX2_has 5 = .ok (.aload_n 0, 1) := by decide +kernel
theorem dX2_has_6 : decode cX2_has 6 = .ok (.getfield 20, 3) := by decide +kernel
theorem dX2_has_9 : decode cX2_has 9 = .ok (.if_icmp .ge 7, 3) := by decide +kernel
theorem dX2_has_12 : decode cX2_has 12 = .ok (.iconst 1, 1) := by decide +kernel
theorem dX2_has_13 : decode cX2_has 13 = .ok (.goto 4, 3) := by decide +kernel
theorem dX2_has_16 : decode cX2_has 16 = .ok (.iconst 0, 1) := by decide +kernel
theorem dX2_has_17 : decode cX2_has 17 = .ok (.ireturn, 1) := by decide +kernel
theorem dX2_putTerm_0 : decode cX2_putTerm 0 = .ok (.aload_n 0, 1) := by decide +kernel
theorem dX2_putTerm_1 : decode cX2_putTerm 1 = .ok (.iload_n 1, 1) := by decide +kernel
theorem dX2_putTerm_2 : decode cX2_putTerm 2 = .ok (.invokevirtual 24, 3) := by decide +kernel
theorem dX2_putTerm_5 : decode cX2_putTerm 5 = .ok (.ifCond .eq 22, 3) := by decide +kernel
theorem dX2_putTerm_8 : decode cX2_putTerm 8 = .ok (.iload_n 2, 1) := by decide +kernel
theorem dX2_putTerm_9 : decode cX2_putTerm 9 = .ok (.invokestatic 28, 3) := by decide +kernel
theorem dX2_putTerm_12 : decode cX2_putTerm 12 = .ok (.ifCond .eq 15, 3) := by decide +kernel
theorem dX2_putTerm_15 : decode cX2_putTerm 15 = .ok (.iload_n 3, 1) := by decide +kernel
theorem dX2_putTerm_16 : decode cX2_putTerm 16 = .ok (.iconst (-1), 1) := by decide +kernel
theorem dX2_putTerm_17 : decode cX2_putTerm 17 = .ok (.if_icmp .eq 12, 3) := by decide +kernel
theorem dX2_putTerm_20 : decode cX2_putTerm 20 = .ok (.iload_n 3, 1) := by decide +kernel
theorem dX2_putTerm_21 : decode cX2_putTerm 21 = .ok (.invokestatic 31, 3) := by decide +kernel
theorem dX2_putTerm_24 : decode cX2_putTerm 24 = .ok (.ifCond .ne 5, 3) := by decide +kernel
theorem dX2_putTerm_27 : decode cX2_putTerm 27 = .ok (.iconst 0, 1) := by decide +kernel
theorem dX2_putTerm_28 : decode cX2_putTerm 28 = .ok (.ireturn, 1) := by decide +kernel
theorem dX2_putTerm_29 : decode cX2_putTerm 29 = .ok (.aload_n 0, 1) := by decide +kernel
theorem dX2_putTerm_30 : decode cX2_putTerm 30 = .ok (.getfield 17, 3) := by decide +kernel
theorem dX2_putTerm_33 : decode cX2_putTerm 33 = .ok (.iload_n 2, 1) := by decide +kernel
theorem dX2_putTerm_34 : decode cX2_putTerm 34 = .ok (.aaload, 1) := by decide +kernel
theorem dX2_putTerm_35 : decode cX2_putTerm 35 = .ok (.iload_n 1, 1) := by decide +kernel
theorem dX2_putTerm_36 : decode cX2_putTerm 36 = .ok (.iload_n 3, 1) := by decide +kernel
theorem dX2_putTerm_37 : decode cX2_putTerm 37 = .ok (.iastore, 1) := by decide +kernel
theorem dX2_putTerm_38 : decode cX2_putTerm 38 = .ok (.iconst 1, 1) := by decide +kernel
theorem dX2_putTerm_39 : decode cX2_putTerm 39 = .ok (.ireturn, 1) := by decide +kernel
theorem dX2_bytesOf_0 : decode cX2_bytesOf 0 = .ok (.aload_n 0, 1) := by decide +kernel
theorem dX2_bytesOf_1 : decode cX2_bytesOf 1 = .ok (.iload_n 1, 1) := by decide +kernel
theorem dX2_bytesOf_2 : decode cX2_bytesOf 2 = .ok (.invokevirtual 24, 3) := by decide +kernel
theorem dX2_bytesOf_5 : decode cX2_bytesOf 5 = .ok (.ifCond .eq 12, 3) := by decide +kernel
theorem dX2_bytesOf_8 : decode cX2_bytesOf 8 = .ok (.aload_n 0, 1) := by decide +kernel
theorem dX2_bytesOf_9 : decode cX2_bytesOf 9 = .ok (.getfield 9, 3) := by decide +kernel
theorem dX2_bytesOf_12 : decode cX2_bytesOf 12 = .ok (.iload_n 1, 1) := by decide +kernel
theorem dX2_bytesOf_13 : decode cX2_bytesOf 13 = .ok (.iaload, 1) := by decide +kernel
theorem dX2_bytesOf_14 : decode cX2_bytesOf 14 = .ok (.goto 4, 3) := by decide +kernel
theorem dX2_bytesOf_17 : decode cX2_bytesOf 17 = .ok (.iconst 0, 1) := by decide +kernel
theorem dX2_bytesOf_18 : decode cX2_bytesOf 18 = .ok (.ireturn, 1) := by decide +kernel
theorem dX2_termOf_0 : decode cX2_termOf 0 = .ok (.aload_n 0, 1) := by decide +kernel
theorem dX2_termOf_1 : decode cX2_termOf 1 = .ok (.iload_n 1, 1) := by decide +kernel
theorem dX2_termOf_2 : decode cX2_termOf 2 = .ok (.invokevirtual 24, 3) := by decide +kernel
theorem dX2_termOf_5 : decode cX2_termOf 5 = .ok (.ifCond .eq 21, 3) := by decide +kernel
theorem dX2_termOf_8 : decode cX2_termOf 8 = .ok (.iload_n 2, 1) := by decide +kernel
theorem dX2_termOf_9 : decode cX2_termOf 9 = .ok (.invokestatic 28, 3) := by decide +kernel
theorem dX2_termOf_12 : decode cX2_termOf 12 = .ok (.ifCond .eq 14, 3) := by decide +kernel
theorem dX2_termOf_15 : decode cX2_termOf 15 = .ok (.aload_n 0, 1) := by decide +kernel
theorem dX2_termOf_16 : decode cX2_termOf 16 = .ok (.getfield 17, 3) := by decide +kernel
theorem dX2_termOf_19 : decode cX2_termOf 19 = .ok (.iload_n 2, 1) := by decide +kernel
theorem dX2_termOf_20 : decode cX2_termOf 20 = .ok (.aaload, 1) := by decide +kernel
theorem dX2_termOf_21 : decode cX2_termOf 21 = .ok (.iload_n 1, 1) := by decide +kernel
theorem dX2_termOf_22 : decode cX2_termOf 22 = .ok (.iaload, 1) := by decide +kernel
theorem dX2_termOf_23 : decode cX2_termOf 23 = .ok (.goto 4, 3) := by decide +kernel
theorem dX2_termOf_26 : decode cX2_termOf 26 = .ok (.iconst (-1), 1) := by decide +kernel
theorem dX2_termOf_27 : decode cX2_termOf 27 = .ok (.ireturn, 1) := by decide +kernel
theorem dX2_leastTermFrom_0 : decode cX2_leastTermFrom 0 = .ok (.iconst (-1), 1) := by decide +kernel
theorem dX2_leastTermFrom_1 : decode cX2_leastTermFrom 1 = .ok (.istore_n 3, 1) := by decide +kernel
theorem dX2_leastTermFrom_2 : decode cX2_leastTermFrom 2 = .ok (.iconst 0, 1) := by decide +kernel
theorem dX2_leastTermFrom_3 : decode cX2_leastTermFrom 3 = .ok (.istore 4, 2) := by decide +kernel
theorem dX2_leastTermFrom_5 : decode cX2_leastTermFrom 5 = .ok (.iload 4, 2) := by decide +kernel
theorem dX2_leastTermFrom_7 : decode cX2_leastTermFrom 7 = .ok (.aload_n 0, 1) := by decide +kernel
theorem dX2_leastTermFrom_8 : decode cX2_leastTermFrom 8 = .ok (.getfield 20, 3) := by decide +kernel
theorem dX2_leastTermFrom_11 : decode cX2_leastTermFrom 11 = .ok (.if_icmp .ge 38, 3) := by decide +kernel
theorem dX2_leastTermFrom_14 : decode cX2_leastTermFrom 14 = .ok (.aload_n 0, 1) := by decide +kernel
theorem dX2_leastTermFrom_15 : decode cX2_leastTermFrom 15 = .ok (.iload 4, 2) := by decide +kernel
theorem dX2_leastTermFrom_17 : decode cX2_leastTermFrom 17 = .ok (.iload_n 1, 1) := by decide +kernel
theorem dX2_leastTermFrom_18 : decode cX2_leastTermFrom 18 = .ok (.invokevirtual 34, 3) := by decide +kernel
theorem dX2_leastTermFrom_21 : decode cX2_leastTermFrom 21 = .ok (.istore 5, 2) := by decide +kernel
theorem dX2_leastTermFrom_23 : decode cX2_leastTermFrom 23 = .ok (.iload 5, 2) := by decide +kernel
theorem dX2_leastTermFrom_25 : decode cX2_leastTermFrom 25 = .ok (.iload_n 2, 1) := by decide +kernel
theorem dX2_leastTermFrom_26 : decode cX2_leastTermFrom 26 = .ok (.if_icmp .lt 17, 3) := by decide +kernel
theorem dX2_leastTermFrom_29 : decode cX2_leastTermFrom 29 = .ok (.iload_n 3, 1) := by decide +kernel
theorem dX2_leastTermFrom_30 : decode cX2_leastTermFrom 30 = .ok (.iconst (-1), 1) := by decide +kernel
theorem dX2_leastTermFrom_31 : decode cX2_leastTermFrom 31 = .ok (.if_icmp .eq 9, 3) := by decide +kernel
theorem dX2_leastTermFrom_34 : decode cX2_leastTermFrom 34 = .ok (.iload 5, 2) := by decide +kernel
theorem dX2_leastTermFrom_36 : decode cX2_leastTermFrom 36 = .ok (.iload_n 3, 1) := by decide +kernel
theorem dX2_leastTermFrom_37 : decode cX2_leastTermFrom 37 = .ok (.if_icmp .ge 6, 3) := by decide +kernel
theorem dX2_leastTermFrom_40 : decode cX2_leastTermFrom 40 = .ok (.iload 5, 2) := by decide +kernel
theorem dX2_leastTermFrom_42 : decode cX2_leastTermFrom 42 = .ok (.istore_n 3, 1) := by decide +kernel
theorem dX2_leastTermFrom_43 : decode cX2_leastTermFrom 43 = .ok (.iinc 4 1, 3) := by decide +kernel
theorem dX2_leastTermFrom_46 : decode cX2_leastTermFrom 46 = .ok (.goto (-41), 3) := by decide +kernel
theorem dX2_leastTermFrom_49 : decode cX2_leastTermFrom 49 = .ok (.iload_n 3, 1) := by decide +kernel
theorem dX2_leastTermFrom_50 : decode cX2_leastTermFrom 50 = .ok (.ireturn, 1) := by decide +kernel
theorem dX2_greatestTermBelow_0 : decode cX2_greatestTermBelow 0 = .ok (.iconst (-1), 1) := by decide +kernel
theorem dX2_greatestTermBelow_1 : decode cX2_greatestTermBelow 1 = .ok (.istore_n 3, 1) := by decide +kernel
theorem dX2_greatestTermBelow_2 : decode cX2_greatestTermBelow 2 = .ok (.iconst 0, 1) := by decide +kernel
theorem dX2_greatestTermBelow_3 : decode cX2_greatestTermBelow 3 = .ok (.istore 4, 2) := by decide +kernel
theorem dX2_greatestTermBelow_5 : decode cX2_greatestTermBelow 5 = .ok (.iload 4, 2) := by decide +kernel
theorem dX2_greatestTermBelow_7 : decode cX2_greatestTermBelow 7 = .ok (.aload_n 0, 1) := by decide +kernel
theorem dX2_greatestTermBelow_8 : decode cX2_greatestTermBelow 8 = .ok (.getfield 20, 3) := by decide +kernel
theorem dX2_greatestTermBelow_11 : decode cX2_greatestTermBelow 11 = .ok (.if_icmp .ge 33, 3) := by decide +kernel
theorem dX2_greatestTermBelow_14 : decode cX2_greatestTermBelow 14 = .ok (.aload_n 0, 1) := by decide +kernel
theorem dX2_greatestTermBelow_15 : decode cX2_greatestTermBelow 15 = .ok (.iload 4, 2) := by decide +kernel
theorem dX2_greatestTermBelow_17 : decode cX2_greatestTermBelow 17 = .ok (.iload_n 1, 1) := by decide +kernel
theorem dX2_greatestTermBelow_18 : decode cX2_greatestTermBelow 18 = .ok (.invokevirtual 34, 3) := by decide +kernel
theorem dX2_greatestTermBelow_21 : decode cX2_greatestTermBelow 21 = .ok (.istore 5, 2) := by decide +kernel
theorem dX2_greatestTermBelow_23 : decode cX2_greatestTermBelow 23 = .ok (.iload 5, 2) := by decide +kernel
theorem dX2_greatestTermBelow_25 : decode cX2_greatestTermBelow 25 = .ok (.iload_n 2, 1) := by decide +kernel
theorem dX2_greatestTermBelow_26 : decode cX2_greatestTermBelow 26 = .ok (.if_icmp .ge 12, 3) := by decide +kernel
theorem dX2_greatestTermBelow_29 : decode cX2_greatestTermBelow 29 = .ok (.iload 5, 2) := by decide +kernel
theorem dX2_greatestTermBelow_31 : decode cX2_greatestTermBelow 31 = .ok (.iload_n 3, 1) := by decide +kernel
theorem dX2_greatestTermBelow_32 : decode cX2_greatestTermBelow 32 = .ok (.if_icmp .le 6, 3) := by decide +kernel
theorem dX2_greatestTermBelow_35 : decode cX2_greatestTermBelow 35 = .ok (.iload 5, 2) := by decide +kernel
theorem dX2_greatestTermBelow_37 : decode cX2_greatestTermBelow 37 = .ok (.istore_n 3, 1) := by decide +kernel
theorem dX2_greatestTermBelow_38 : decode cX2_greatestTermBelow 38 = .ok (.iinc 4 1, 3) := by decide +kernel
theorem dX2_greatestTermBelow_41 : decode cX2_greatestTermBelow 41 = .ok (.goto (-36), 3) := by decide +kernel
theorem dX2_greatestTermBelow_44 : decode cX2_greatestTermBelow 44 = .ok (.iload_n 3, 1) := by decide +kernel
theorem dX2_greatestTermBelow_45 : decode cX2_greatestTermBelow 45 = .ok (.ireturn, 1) := by decide +kernel
theorem dX2_countOfTerm_0 : decode cX2_countOfTerm 0 = .ok (.iconst 0, 1) := by decide +kernel
theorem dX2_countOfTerm_1 : decode cX2_countOfTerm 1 = .ok (.istore_n 3, 1) := by decide +kernel
theorem dX2_countOfTerm_2 : decode cX2_countOfTerm 2 = .ok (.iconst 0, 1) := by decide +kernel
theorem dX2_countOfTerm_3 : decode cX2_countOfTerm 3 = .ok (.istore 4, 2) := by decide +kernel
theorem dX2_countOfTerm_5 : decode cX2_countOfTerm 5 = .ok (.iload 4, 2) := by decide +kernel
theorem dX2_countOfTerm_7 : decode cX2_countOfTerm 7 = .ok (.aload_n 0, 1) := by decide +kernel
theorem dX2_countOfTerm_8 : decode cX2_countOfTerm 8 = .ok (.getfield 20, 3) := by decide +kernel
theorem dX2_countOfTerm_11 : decode cX2_countOfTerm 11 = .ok (.if_icmp .ge 23, 3) := by decide +kernel
theorem dX2_countOfTerm_14 : decode cX2_countOfTerm 14 = .ok (.aload_n 0, 1) := by decide +kernel
theorem dX2_countOfTerm_15 : decode cX2_countOfTerm 15 = .ok (.iload 4, 2) := by decide +kernel
theorem dX2_countOfTerm_17 : decode cX2_countOfTerm 17 = .ok (.iload_n 1, 1) := by decide +kernel
theorem dX2_countOfTerm_18 : decode cX2_countOfTerm 18 = .ok (.invokevirtual 34, 3) := by decide +kernel
theorem dX2_countOfTerm_21 : decode cX2_countOfTerm 21 = .ok (.iload_n 2, 1) := by decide +kernel
theorem dX2_countOfTerm_22 : decode cX2_countOfTerm 22 = .ok (.if_icmp .ne 6, 3) := by decide +kernel
theorem dX2_countOfTerm_25 : decode cX2_countOfTerm 25 = .ok (.iinc 3 1, 3) := by decide +kernel
theorem dX2_countOfTerm_28 : decode cX2_countOfTerm 28 = .ok (.iinc 4 1, 3) := by decide +kernel
theorem dX2_countOfTerm_31 : decode cX2_countOfTerm 31 = .ok (.goto (-26), 3) := by decide +kernel
theorem dX2_countOfTerm_34 : decode cX2_countOfTerm 34 = .ok (.iload_n 3, 1) := by decide +kernel
theorem dX2_countOfTerm_35 : decode cX2_countOfTerm 35 = .ok (.ireturn, 1) := by decide +kernel
theorem dX3_init_0 : decode cX3_init 0 = .ok (.aload_n 0, 1) := by decide +kernel
theorem dX3_init_1 : decode cX3_init 1 = .ok (.invokespecial 3, 3) := by decide +kernel
theorem dX3_init_4 : decode cX3_init 4 = .ok (.aload_n 0, 1) := by decide +kernel
theorem dX3_init_5 : decode cX3_init 5 = .ok (.bipush 100, 2) := by decide +kernel
theorem dX3_init_7 : decode cX3_init 7 = .ok (.newarray .int, 2) := by decide +kernel
theorem dX3_init_9 : decode cX3_init 9 = .ok (.putfield 9, 3) := by decide +kernel
theorem dX3_init_12 : decode cX3_init 12 = .ok (.aload_n 0, 1) := by decide +kernel
theorem dX3_init_13 : decode cX3_init 13 = .ok (.iconst 0, 1) := by decide +kernel
theorem dX3_init_14 : decode cX3_init 14 = .ok (.putfield 15, 3) := by decide +kernel
theorem dX3_init_17 : decode cX3_init 17 = .ok (.aload_n 0, 1) := by decide +kernel
theorem dX3_init_18 : decode cX3_init 18 = .ok (.iconst 0, 1) := by decide +kernel
theorem dX3_init_19 : decode cX3_init 19 = .ok (.putfield 19, 3) := by decide +kernel
theorem dX3_init_22 : decode cX3_init 22 = .ok (.return_, 1) := by decide +kernel
theorem dX3_make_0 : decode cX3_make 0 = .ok (.aload_n 0, 1) := by decide +kernel
theorem dX3_make_1 : decode cX3_make 1 = .ok (.iconst 1, 1) := by decide +kernel
theorem dX3_make_2 : decode cX3_make 2 = .ok (.putfield 19, 3) := by decide +kernel
theorem dX3_make_5 : decode cX3_make 5 = .ok (.aload_n 0, 1) := by decide +kernel
theorem dX3_make_6 : decode cX3_make 6 = .ok (.iconst 0, 1) := by decide +kernel
theorem dX3_make_7 : decode cX3_make 7 = .ok (.putfield 15, 3) := by decide +kernel
theorem dX3_make_10 : decode cX3_make 10 = .ok (.return_, 1) := by decide +kernel
theorem dX3_forget_0 : decode cX3_forget 0 = .ok (.aload_n 0, 1) := by decide +kernel
theorem dX3_forget_1 : decode cX3_forget 1 = .ok (.iconst 0, 1) := by decide +kernel
theorem dX3_forget_2 : decode cX3_forget 2 = .ok (.putfield 19, 3) := by decide +kernel
theorem dX3_forget_5 : decode cX3_forget 5 = .ok (.aload_n 0, 1) := by decide +kernel
theorem dX3_forget_6 : decode cX3_forget 6 = .ok (.iconst 0, 1) := by decide +kernel
theorem dX3_forget_7 : decode cX3_forget 7 = .ok (.putfield 15, 3) := by decide +kernel
theorem dX3_forget_10 : decode cX3_forget 10 = .ok (.return_, 1) := by decide +kernel
theorem dX3_isMade_0 : decode cX3_isMade 0 = .ok (.aload_n 0, 1) := by decide +kernel
theorem dX3_isMade_1 : decode cX3_isMade 1 = .ok (.getfield 19, 3) := by decide +kernel
theorem dX3_isMade_4 : decode cX3_isMade 4 = .ok (.ireturn, 1) := by decide +kernel
theorem dX3_count_0 : decode cX3_count 0 = .ok (.aload_n 0, 1) := by decide +kernel
theorem dX3_count_1 : decode cX3_count 1 = .ok (.getfield 15, 3) := by decide +kernel
theorem dX3_count_4 : decode cX3_count 4 = .ok (.ireturn, 1) := by decide +kernel
theorem dX3_add_0 : decode cX3_add 0 = .ok (.aload_n 0, 1) := by decide +kernel
theorem dX3_add_1 : decode cX3_add 1 = .ok (.getfield 15, 3) := by decide +kernel
theorem dX3_add_4 : decode cX3_add 4 = .ok (.bipush 100, 2) := by decide +kernel
theorem dX3_add_6 : decode cX3_add 6 = .ok (.if_icmp .ge 23, 3) := by decide +kernel
theorem dX3_add_9 : decode cX3_add 9 = .ok (.aload_n 0, 1) := by decide +kernel
theorem dX3_add_10 : decode cX3_add 10 = .ok (.getfield 9, 3) := by decide +kernel
theorem dX3_add_13 : decode cX3_add 13 = .ok (.aload_n 0, 1) := by decide +kernel
theorem dX3_add_14 : decode cX3_add 14 = .ok (.getfield 15, 3) := by decide +kernel
theorem dX3_add_17 : decode cX3_add 17 = .ok (.iload_n 1, 1) := by decide +kernel
theorem dX3_add_18 : decode cX3_add 18 = .ok (.iastore, 1) := by decide +kernel
theorem dX3_add_19 : decode cX3_add 19 = .ok (.aload_n 0, 1) := by decide +kernel
theorem dX3_add_20 : decode cX3_add 20 = .ok (.dup, 1) := by decide +kernel
theorem dX3_add_21 : decode cX3_add 21 = .ok (.getfield 15, 3) := by decide +kernel
theorem dX3_add_24 : decode cX3_add 24 = .ok (.iconst 1, 1) := by decide +kernel
theorem dX3_add_25 : decode cX3_add 25 = .ok (.iadd, 1) := by decide +kernel
theorem dX3_add_26 : decode cX3_add 26 = .ok (.putfield 15, 3) := by decide +kernel
theorem dX3_add_29 : decode cX3_add 29 = .ok (.return_, 1) := by decide +kernel
theorem dX3_recordAt_0 : decode cX3_recordAt 0 = .ok (.iload_n 1, 1) := by decide +kernel
theorem dX3_recordAt_1 : decode cX3_recordAt 1 = .ok (.ifCond .lt 20, 3) := by decide +kernel
theorem dX3_recordAt_4 : decode cX3_recordAt 4 = .ok (.iload_n 1, 1) := by decide +kernel
theorem dX3_recordAt_5 : decode cX3_recordAt 5 = .ok (.aload_n 0, 1) := by decide +kernel
theorem dX3_recordAt_6 : decode cX3_recordAt 6 = .ok (.getfield 15, 3) := by decide +kernel
theorem dX3_recordAt_9 : decode cX3_recordAt 9 = .ok (.if_icmp .ge 12, 3) := by decide +kernel
theorem dX3_recordAt_12 : decode cX3_recordAt 12 = .ok (.aload_n 0, 1) := by decide +kernel
theorem dX3_recordAt_13 : decode cX3_recordAt 13 = .ok (.getfield 9, 3) := by decide +kernel
theorem dX3_recordAt_16 : decode cX3_recordAt 16 = .ok (.iload_n 1, 1) := by decide +kernel
theorem dX3_recordAt_17 : decode cX3_recordAt 17 = .ok (.iaload, 1) := by decide +kernel
theorem dX3_recordAt_18 : decode cX3_recordAt 18 = .ok (.goto 4, 3) := by decide +kernel
theorem dX3_recordAt_21 : decode cX3_recordAt 21 = .ok (.iconst (-1), 1) := by decide +kernel
theorem dX3_recordAt_22 : decode cX3_recordAt 22 = .ok (.ireturn, 1) := by decide +kernel
theorem dX3_putInOrder_0 : decode cX3_putInOrder 0 = .ok (.iconst 1, 1) := by decide +kernel
theorem dX3_putInOrder_1 : decode cX3_putInOrder 1 = .ok (.istore 4, 2) := by decide +kernel
theorem dX3_putInOrder_3 : decode cX3_putInOrder 3 = .ok (.iload 4, 2) := by decide +kernel
theorem dX3_putInOrder_5 : decode cX3_putInOrder 5 = .ok (.aload_n 0, 1) := by decide +kernel
theorem dX3_putInOrder_6 : decode cX3_putInOrder 6 = .ok (.getfield 15, 3) := by decide +kernel
theorem dX3_putInOrder_9 : decode cX3_putInOrder 9 = .ok (.if_icmp .ge 94, 3) := by decide +kernel
theorem dX3_putInOrder_12 : decode cX3_putInOrder 12 = .ok (.aload_n 0, 1) := by decide +kernel
theorem dX3_putInOrder_13 : decode cX3_putInOrder 13 = .ok (.getfield 9, 3) := by decide +kernel
theorem dX3_putInOrder_16 : decode cX3_putInOrder 16 = .ok (.iload 4, 2) := by decide +kernel
theorem dX3_putInOrder_18 : decode cX3_putInOrder 18 = .ok (.iaload, 1) := by decide +kernel
theorem dX3_putInOrder_19 : decode cX3_putInOrder 19 = .ok (.istore 5, 2) := by decide +kernel
theorem dX3_putInOrder_21 : decode cX3_putInOrder 21 = .ok (.aload_n 1, 1) := by decide +kernel
theorem dX3_putInOrder_22 : decode cX3_putInOrder 22 = .ok (.iload 5, 2) := by decide +kernel
theorem dX3_putInOrder_24 : decode cX3_putInOrder 24 = .ok (.iload_n 2, 1) := by decide +kernel
theorem dX3_putInOrder_25 : decode cX3_putInOrder 25 = .ok (.invokevirtual 23, 3) := by decide +kernel
theorem dX3_putInOrder_28 : decode cX3_putInOrder 28 = .ok (.iload_n 3, 1) := by decide +kernel
theorem dX3_putInOrder_29 : decode cX3_putInOrder 29 = .ok (.invokestatic 29, 3) := by decide +kernel
theorem dX3_putInOrder_32 : decode cX3_putInOrder 32 = .ok (.istore 6, 2) := by decide +kernel
theorem dX3_putInOrder_34 : decode cX3_putInOrder 34 = .ok (.iload 4, 2) := by decide +kernel
theorem dX3_putInOrder_36 : decode cX3_putInOrder 36 = .ok (.istore 7, 2) := by decide +kernel
theorem dX3_putInOrder_38 : decode cX3_putInOrder 38 = .ok (.iload 7, 2) := by decide +kernel
theorem dX3_putInOrder_40 : decode cX3_putInOrder 40 = .ok (.ifCond .le 48, 3) := by decide +kernel
theorem dX3_putInOrder_43 : decode cX3_putInOrder 43 = .ok (.aload_n 1, 1) := by decide +kernel
theorem dX3_putInOrder_44 : decode cX3_putInOrder 44 = .ok (.aload_n 0, 1) := by decide +kernel
theorem dX3_putInOrder_45 : decode cX3_putInOrder 45 = .ok (.getfield 9, 3) := by decide +kernel
theorem dX3_putInOrder_48 : decode cX3_putInOrder 48 = .ok (.iload 7, 2) := by decide +kernel
theorem dX3_putInOrder_50 : decode cX3_putInOrder 50 = .ok (.iconst 1, 1) := by decide +kernel
theorem dX3_putInOrder_51 : decode cX3_putInOrder 51 = .ok (.isub, 1) := by decide +kernel
theorem dX3_putInOrder_52 : decode cX3_putInOrder 52 = .ok (.iaload, 1) := by decide +kernel
theorem dX3_putInOrder_53 : decode cX3_putInOrder 53 = .ok (.iload_n 2, 1) := by decide +kernel
theorem dX3_putInOrder_54 : decode cX3_putInOrder 54 = .ok (.invokevirtual 23, 3) := by decide +kernel
theorem dX3_putInOrder_57 : decode cX3_putInOrder 57 = .ok (.iload_n 3, 1) := by decide +kernel
theorem dX3_putInOrder_58 : decode cX3_putInOrder 58 = .ok (.invokestatic 29, 3) := by decide +kernel
theorem dX3_putInOrder_61 : decode cX3_putInOrder 61 = .ok (.iload 6, 2) := by decide +kernel
theorem dX3_putInOrder_63 : decode cX3_putInOrder 63 = .ok (.if_icmp .le 25, 3) := by decide +kernel
theorem dX3_putInOrder_66 : decode cX3_putInOrder 66 = .ok (.aload_n 0, 1) := by decide +kernel
theorem dX3_putInOrder_67 : decode cX3_putInOrder 67 = .ok (.getfield 9, 3) := by decide +kernel
theorem dX3_putInOrder_70 : decode cX3_putInOrder 70 = .ok (.iload 7, 2) := by decide +kernel
theorem dX3_putInOrder_72 : decode cX3_putInOrder 72 = .ok (.aload_n 0, 1) := by decide +kernel
theorem dX3_putInOrder_73 : decode cX3_putInOrder 73 = .ok (.getfield 9, 3) := by decide +kernel
theorem dX3_putInOrder_76 : decode cX3_putInOrder 76 = .ok (.iload 7, 2) := by decide +kernel
theorem dX3_putInOrder_78 : decode cX3_putInOrder 78 = .ok (.iconst 1, 1) := by decide +kernel
theorem dX3_putInOrder_79 : decode cX3_putInOrder 79 = .ok (.isub, 1) := by decide +kernel
theorem dX3_putInOrder_80 : decode cX3_putInOrder 80 = .ok (.iaload, 1) := by decide +kernel
theorem dX3_putInOrder_81 : decode cX3_putInOrder 81 = .ok (.iastore, 1) := by decide +kernel
theorem dX3_putInOrder_82 : decode cX3_putInOrder 82 = .ok (.iinc 7 (-1), 3) := by decide +kernel
theorem dX3_putInOrder_85 : decode cX3_putInOrder 85 = .ok (.goto (-47), 3) := by decide +kernel
theorem dX3_putInOrder_88 : decode cX3_putInOrder 88 = .ok (.aload_n 0, 1) := by decide +kernel
theorem dX3_putInOrder_89 : decode cX3_putInOrder 89 = .ok (.getfield 9, 3) := by decide +kernel
theorem dX3_putInOrder_92 : decode cX3_putInOrder 92 = .ok (.iload 7, 2) := by decide +kernel
theorem dX3_putInOrder_94 : decode cX3_putInOrder 94 = .ok (.iload 5, 2) := by decide +kernel
theorem dX3_putInOrder_96 : decode cX3_putInOrder 96 = .ok (.iastore, 1) := by decide +kernel
theorem dX3_putInOrder_97 : decode cX3_putInOrder 97 = .ok (.iinc 4 1, 3) := by decide +kernel
theorem dX3_putInOrder_100 : decode cX3_putInOrder 100 = .ok (.goto (-97), 3) := by decide +kernel
theorem dX3_putInOrder_103 : decode cX3_putInOrder 103 = .ok (.return_, 1) := by decide +kernel
theorem dX3_keyOf_0 : decode cX3_keyOf 0 = .ok (.iload_n 0, 1) := by decide +kernel
theorem dX3_keyOf_1 : decode cX3_keyOf 1 = .ok (.iconst (-1), 1) := by decide +kernel
theorem dX3_keyOf_2 : decode cX3_keyOf 2 = .ok (.if_icmp .ne 7, 3) := by decide +kernel
theorem dX3_keyOf_5 : decode cX3_keyOf 5 = .ok (.sipush 1000, 3) := by decide +kernel
theorem dX3_keyOf_8 : decode cX3_keyOf 8 = .ok (.ireturn, 1) := by decide +kernel
theorem dX3_keyOf_9 : decode cX3_keyOf 9 = .ok (.iload_n 1, 1) := by decide +kernel
theorem dX3_keyOf_10 : decode cX3_keyOf 10 = .ok (.ifCond .eq 11, 3) := by decide +kernel
theorem dX3_keyOf_13 : decode cX3_keyOf 13 = .ok (.sipush 999, 3) := by decide +kernel
theorem dX3_keyOf_16 : decode cX3_keyOf 16 = .ok (.iload_n 0, 1) := by decide +kernel
theorem dX3_keyOf_17 : decode cX3_keyOf 17 = .ok (.isub, 1) := by decide +kernel
theorem dX3_keyOf_18 : decode cX3_keyOf 18 = .ok (.goto 4, 3) := by decide +kernel
theorem dX3_keyOf_21 : decode cX3_keyOf 21 = .ok (.iload_n 0, 1) := by decide +kernel
theorem dX3_keyOf_22 : decode cX3_keyOf 22 = .ok (.ireturn, 1) := by decide +kernel
theorem dX3_countWithoutTerm_0 : decode cX3_countWithoutTerm 0 = .ok (.iconst 0, 1) := by decide +kernel
theorem dX3_countWithoutTerm_1 : decode cX3_countWithoutTerm 1 = .ok (.istore_n 3, 1) := by decide +kernel
theorem dX3_countWithoutTerm_2 : decode cX3_countWithoutTerm 2 = .ok (.iconst 0, 1) := by decide +kernel
theorem dX3_countWithoutTerm_3 : decode cX3_countWithoutTerm 3 = .ok (.istore 4, 2) := by decide +kernel
theorem dX3_countWithoutTerm_5 : decode cX3_countWithoutTerm 5 = .ok (.iload 4, 2) := by decide +kernel
theorem dX3_countWithoutTerm_7 : decode cX3_countWithoutTerm 7 = .ok (.aload_n 0, 1) := by decide +kernel
theorem dX3_countWithoutTerm_8 : decode cX3_countWithoutTerm 8 = .ok (.getfield 15, 3) := by decide +kernel
theorem dX3_countWithoutTerm_11 : decode cX3_countWithoutTerm 11 = .ok (.if_icmp .ge 28, 3) := by decide +kernel
theorem dX3_countWithoutTerm_14 : decode cX3_countWithoutTerm 14 = .ok (.aload_n 1, 1) := by decide +kernel
theorem dX3_countWithoutTerm_15 : decode cX3_countWithoutTerm 15 = .ok (.aload_n 0, 1) := by decide +kernel
theorem dX3_countWithoutTerm_16 : decode cX3_countWithoutTerm 16 = .ok (.getfield 9, 3) := by decide +kernel
theorem dX3_countWithoutTerm_19 : decode cX3_countWithoutTerm 19 = .ok (.iload 4, 2) := by decide +kernel
theorem dX3_countWithoutTerm_21 : decode cX3_countWithoutTerm 21 = .ok (.iaload, 1) := by decide +kernel
theorem dX3_countWithoutTerm_22 : decode cX3_countWithoutTerm 22 = .ok (.iload_n 2, 1) := by decide +kernel
theorem dX3_countWithoutTerm_23 : decode cX3_countWithoutTerm 23 = .ok (.invokevirtual 23, 3) := by decide +kernel
theorem dX3_countWithoutTerm_26 : decode cX3_countWithoutTerm 26 = .ok (.iconst (-1), 1) := by decide +kernel
theorem dX3_countWithoutTerm_27 : decode cX3_countWithoutTerm 27 = .ok (.if_icmp .ne 6, 3) := by decide +kernel
theorem dX3_countWithoutTerm_30 : decode cX3_countWithoutTerm 30 = .ok (.iinc 3 1, 3) := by decide +kernel
theorem dX3_countWithoutTerm_33 : decode cX3_countWithoutTerm 33 = .ok (.iinc 4 1, 3) := by decide +kernel
theorem dX3_countWithoutTerm_36 : decode cX3_countWithoutTerm 36 = .ok (.goto (-31), 3) := by decide +kernel
theorem dX3_countWithoutTerm_39 : decode cX3_countWithoutTerm 39 = .ok (.iload_n 3, 1) := by decide +kernel
theorem dX3_countWithoutTerm_40 : decode cX3_countWithoutTerm 40 = .ok (.ireturn, 1) := by decide +kernel
theorem dX4_init_0 : decode cX4_init 0 = .ok (.aload_n 0, 1) := by decide +kernel
theorem dX4_init_1 : decode cX4_init 1 = .ok (.invokespecial 3, 3) := by decide +kernel
theorem dX4_init_4 : decode cX4_init 4 = .ok (.aload_n 0, 1) := by decide +kernel
theorem dX4_init_5 : decode cX4_init 5 = .ok (.bipush 20, 2) := by decide +kernel
theorem dX4_init_7 : decode cX4_init 7 = .ok (.newarray .int, 2) := by decide +kernel
theorem dX4_init_9 : decode cX4_init 9 = .ok (.putfield 9, 3) := by decide +kernel
theorem dX4_init_12 : decode cX4_init 12 = .ok (.aload_n 0, 1) := by decide +kernel
theorem dX4_init_13 : decode cX4_init 13 = .ok (.bipush 20, 2) := by decide +kernel
theorem dX4_init_15 : decode cX4_init 15 = .ok (.newarray .int, 2) := by decide +kernel
theorem dX4_init_17 : decode cX4_init 17 = .ok (.putfield 15, 3) := by decide +kernel
theorem dX4_init_20 : decode cX4_init 20 = .ok (.aload_n 0, 1) := by decide +kernel
theorem dX4_init_21 : decode cX4_init 21 = .ok (.iconst 0, 1) := by decide +kernel
theorem dX4_init_22 : decode cX4_init 22 = .ok (.putfield 18, 3) := by decide +kernel
theorem dX4_init_25 : decode cX4_init 25 = .ok (.return_, 1) := by decide +kernel
theorem dX4_fill_0 : decode cX4_fill 0 = .ok (.aload_n 0, 1) := by decide +kernel
theorem dX4_fill_1 : decode cX4_fill 1 = .ok (.iconst 0, 1) := by decide +kernel
theorem dX4_fill_2 : decode cX4_fill 2 = .ok (.putfield 18, 3) := by decide +kernel
theorem dX4_fill_5 : decode cX4_fill 5 = .ok (.aload_n 1, 1) := by decide +kernel
theorem dX4_fill_6 : decode cX4_fill 6 = .ok (.iload_n 2, 1) := by decide +kernel
theorem dX4_fill_7 : decode cX4_fill 7 = .ok (.iload_n 3, 1) := by decide +kernel
theorem dX4_fill_8 : decode cX4_fill 8 = .ok (.invokevirtual 22, 3) := by decide +kernel
theorem dX4_fill_11 : decode cX4_fill 11 = .ok (.istore 5, 2) := by decide +kernel
theorem dX4_fill_13 : decode cX4_fill 13 = .ok (.aload_n 0, 1) := by decide +kernel
theorem dX4_fill_14 : decode cX4_fill 14 = .ok (.getfield 18, 3) := by decide +kernel
theorem dX4_fill_17 : decode cX4_fill 17 = .ok (.iload 4, 2) := by decide +kernel
theorem dX4_fill_19 : decode cX4_fill 19 = .ok (.if_icmp .ge 69, 3) := by decide +kernel
theorem dX4_fill_22 : decode cX4_fill 22 = .ok (.aload_n 0, 1) := by decide +kernel
theorem dX4_fill_23 : decode cX4_fill 23 = .ok (.getfield 18, 3) := by decide +kernel
theorem dX4_fill_26 : decode cX4_fill 26 = .ok (.bipush 20, 2) := by decide +kernel
theorem dX4_fill_28 : decode cX4_fill 28 = .ok (.if_icmp .ge 60, 3) := by decide +kernel
theorem dX4_fill_31 : decode cX4_fill 31 = .ok (.iload 5, 2) := by decide +kernel
theorem dX4_fill_33 : decode cX4_fill 33 = .ok (.iconst (-1), 1) := by decide +kernel
theorem dX4_fill_34 : decode cX4_fill 34 = .ok (.if_icmp .eq 54, 3) := by decide +kernel
theorem dX4_fill_37 : decode cX4_fill 37 = .ok (.aload_n 0, 1) := by decide +kernel
theorem dX4_fill_38 : decode cX4_fill 38 = .ok (.getfield 9, 3) := by decide +kernel
theorem dX4_fill_41 : decode cX4_fill 41 = .ok (.aload_n 0, 1) := by decide +kernel
theorem dX4_fill_42 : decode cX4_fill 42 = .ok (.getfield 18, 3) := by decide +kernel
theorem dX4_fill_45 : decode cX4_fill 45 = .ok (.iload 5, 2) := by decide +kernel
theorem dX4_fill_47 : decode cX4_fill 47 = .ok (.iastore, 1) := by decide +kernel
theorem dX4_fill_48 : decode cX4_fill 48 = .ok (.aload_n 0, 1) := by decide +kernel
theorem dX4_fill_49 : decode cX4_fill 49 = .ok (.getfield 15, 3) := by decide +kernel
theorem dX4_fill_52 : decode cX4_fill 52 = .ok (.aload_n 0, 1) := by decide +kernel
theorem dX4_fill_53 : decode cX4_fill 53 = .ok (.getfield 18, 3) := by decide +kernel
theorem dX4_fill_56 : decode cX4_fill 56 = .ok (.aload_n 1, 1) := by decide +kernel
theorem dX4_fill_57 : decode cX4_fill 57 = .ok (.iload_n 2, 1) := by decide +kernel
theorem dX4_fill_58 : decode cX4_fill 58 = .ok (.iload 5, 2) := by decide +kernel
theorem dX4_fill_60 : decode cX4_fill 60 = .ok (.invokevirtual 28, 3) := by decide +kernel
theorem dX4_fill_63 : decode cX4_fill 63 = .ok (.iastore, 1) := by decide +kernel
theorem dX4_fill_64 : decode cX4_fill 64 = .ok (.aload_n 0, 1) := by decide +kernel
theorem dX4_fill_65 : decode cX4_fill 65 = .ok (.dup, 1) := by decide +kernel
theorem dX4_fill_66 : decode cX4_fill 66 = .ok (.getfield 18, 3) := by decide +kernel
theorem dX4_fill_69 : decode cX4_fill 69 = .ok (.iconst 1, 1) := by decide +kernel
theorem dX4_fill_70 : decode cX4_fill 70 = .ok (.iadd, 1) := by decide +kernel
theorem dX4_fill_71 : decode cX4_fill 71 = .ok (.putfield 18, 3) := by decide +kernel
theorem dX4_fill_74 : decode cX4_fill 74 = .ok (.aload_n 1, 1) := by decide +kernel
theorem dX4_fill_75 : decode cX4_fill 75 = .ok (.iload_n 2, 1) := by decide +kernel
theorem dX4_fill_76 : decode cX4_fill 76 = .ok (.iload 5, 2) := by decide +kernel
theorem dX4_fill_78 : decode cX4_fill 78 = .ok (.iconst 1, 1) := by decide +kernel
theorem dX4_fill_79 : decode cX4_fill 79 = .ok (.iadd, 1) := by decide +kernel
theorem dX4_fill_80 : decode cX4_fill 80 = .ok (.invokevirtual 22, 3) := by decide +kernel
theorem dX4_fill_83 : decode cX4_fill 83 = .ok (.istore 5, 2) := by decide +kernel
theorem dX4_fill_85 : decode cX4_fill 85 = .ok (.goto (-72), 3) := by decide +kernel
theorem dX4_fill_88 : decode cX4_fill 88 = .ok (.aload_n 0, 1) := by decide +kernel
theorem dX4_fill_89 : decode cX4_fill 89 = .ok (.getfield 18, 3) := by decide +kernel
theorem dX4_fill_92 : decode cX4_fill 92 = .ok (.ireturn, 1) := by decide +kernel
theorem dX4_has_0 : decode cX4_has 0 = .ok (.iload_n 1, 1) := by decide +kernel
theorem dX4_has_1 : decode cX4_has 1 = .ok (.ifCond .lt 15, 3) := by decide +kernel
theorem dX4_has_4 : decode cX4_has 4 = .ok (.iload_n 1, 1) := by decide +kernel
theorem dX4_has_5 : decode cX4_has 5 = .ok (.aload_n 0, 1) := by decide +kernel
theorem dX4_has_6 : decode cX4_has 6 = .ok (.getfield 18, 3) := by decide +kernel
theorem dX4_has_9 : decode cX4_has 9 = .ok (.if_icmp .ge 7, 3) := by decide +kernel
theorem dX4_has_12 : decode cX4_has 12 = .ok (.iconst 1, 1) := by decide +kernel
theorem dX4_has_13 : decode cX4_has 13 = .ok (.goto 4, 3) := by decide +kernel
theorem dX4_has_16 : decode cX4_has 16 = .ok (.iconst 0, 1) := by decide +kernel
theorem dX4_has_17 : decode cX4_has 17 = .ok (.ireturn, 1) := by decide +kernel
theorem dX4_tell_0 : decode cX4_tell 0 = .ok (.aload_n 0, 1) := by decide +kernel
theorem dX4_tell_1 : decode cX4_tell 1 = .ok (.iload_n 1, 1) := by decide +kernel
theorem dX4_tell_2 : decode cX4_tell 2 = .ok (.invokevirtual 31, 3) := by decide +kernel
theorem dX4_tell_5 : decode cX4_tell 5 = .ok (.ifCond .ne 5, 3) := by decide +kernel
theorem dX4_tell_8 : decode cX4_tell 8 = .ok (.iconst (-1), 1) := by decide +kernel
theorem dX4_tell_9 : decode cX4_tell 9 = .ok (.ireturn, 1) := by decide +kernel
theorem dX4_tell_10 : decode cX4_tell 10 = .ok (.iload_n 2, 1) := by decide +kernel
theorem dX4_tell_11 : decode cX4_tell 11 = .ok (.lookupswitch 39 #[(0, 25), (1, 32)], 25) := by decide +kernel
theorem dX4_tell_36 : decode cX4_tell 36 = .ok (.aload_n 0, 1) := by decide +kernel
theorem dX4_tell_37 : decode cX4_tell 37 = .ok (.getfield 9, 3) := by decide +kernel
theorem dX4_tell_40 : decode cX4_tell 40 = .ok (.iload_n 1, 1) := by decide +kernel
theorem dX4_tell_41 : decode cX4_tell 41 = .ok (.iaload, 1) := by decide +kernel
theorem dX4_tell_42 : decode cX4_tell 42 = .ok (.ireturn, 1) := by decide +kernel
theorem dX4_tell_43 : decode cX4_tell 43 = .ok (.aload_n 0, 1) := by decide +kernel
theorem dX4_tell_44 : decode cX4_tell 44 = .ok (.getfield 15, 3) := by decide +kernel
theorem dX4_tell_47 : decode cX4_tell 47 = .ok (.iload_n 1, 1) := by decide +kernel
theorem dX4_tell_48 : decode cX4_tell 48 = .ok (.iaload, 1) := by decide +kernel
theorem dX4_tell_49 : decode cX4_tell 49 = .ok (.ireturn, 1) := by decide +kernel
theorem dX4_tell_50 : decode cX4_tell 50 = .ok (.iconst (-1), 1) := by decide +kernel
theorem dX4_tell_51 : decode cX4_tell 51 = .ok (.ireturn, 1) := by decide +kernel
theorem dX5_init_0 : decode cX5_init 0 = .ok (.aload_n 0, 1) := by decide +kernel
theorem dX5_init_1 : decode cX5_init 1 = .ok (.invokespecial 3, 3) := by decide +kernel
theorem dX5_init_4 : decode cX5_init 4 = .ok (.aload_n 0, 1) := by decide +kernel
theorem dX5_init_5 : decode cX5_init 5 = .ok (.iconst 1, 1) := by decide +kernel
theorem dX5_init_6 : decode cX5_init 6 = .ok (.putfield 9, 3) := by decide +kernel
theorem dX5_init_9 : decode cX5_init 9 = .ok (.aload_n 0, 1) := by decide +kernel
theorem dX5_init_10 : decode cX5_init 10 = .ok (.iconst 0, 1) := by decide +kernel
theorem dX5_init_11 : decode cX5_init 11 = .ok (.putfield 15, 3) := by decide +kernel
theorem dX5_init_14 : decode cX5_init 14 = .ok (.aload_n 0, 1) := by decide +kernel
theorem dX5_init_15 : decode cX5_init 15 = .ok (.iconst 0, 1) := by decide +kernel
theorem dX5_init_16 : decode cX5_init 16 = .ok (.putfield 19, 3) := by decide +kernel
theorem dX5_init_19 : decode cX5_init 19 = .ok (.aload_n 0, 1) := by decide +kernel
theorem dX5_init_20 : decode cX5_init 20 = .ok (.iload_n 1, 1) := by decide +kernel
theorem dX5_init_21 : decode cX5_init 21 = .ok (.putfield 22, 3) := by decide +kernel
theorem dX5_init_24 : decode cX5_init 24 = .ok (.aload_n 0, 1) := by decide +kernel
theorem dX5_init_25 : decode cX5_init 25 = .ok (.iload_n 1, 1) := by decide +kernel
theorem dX5_init_26 : decode cX5_init 26 = .ok (.iconst 4, 1) := by decide +kernel
theorem dX5_init_27 : decode cX5_init 27 = .ok (.iand, 1) := by decide +kernel
theorem dX5_init_28 : decode cX5_init 28 = .ok (.ifCond .eq 7, 3) := by decide +kernel
theorem dX5_init_31 : decode cX5_init 31 = .ok (.iconst 5, 1) := by decide +kernel
theorem dX5_init_32 : decode cX5_init 32 = .ok (.goto 4, 3) := by decide +kernel
theorem dX5_init_35 : decode cX5_init 35 = .ok (.iconst 1, 1) := by decide +kernel
theorem dX5_init_36 : decode cX5_init 36 = .ok (.anewarray 25, 3) := by decide +kernel
theorem dX5_init_39 : decode cX5_init 39 = .ok (.putfield 27, 3) := by decide +kernel
theorem dX5_init_42 : decode cX5_init 42 = .ok (.iconst 0, 1) := by decide +kernel
theorem dX5_init_43 : decode cX5_init 43 = .ok (.istore_n 3, 1) := by decide +kernel
theorem dX5_init_44 : decode cX5_init 44 = .ok (.iload_n 3, 1) := by decide +kernel
theorem dX5_init_45 : decode cX5_init 45 = .ok (.aload_n 0, 1) := by decide +kernel
theorem dX5_init_46 : decode cX5_init 46 = .ok (.getfield 27, 3) := by decide +kernel
theorem dX5_init_49 : decode cX5_init 49 = .ok (.arraylength, 1) := by decide +kernel
theorem dX5_init_50 : decode cX5_init 50 = .ok (.if_icmp .ge 22, 3) := by decide +kernel
theorem dX5_init_53 : decode cX5_init 53 = .ok (.aload_n 0, 1) := by decide +kernel
theorem dX5_init_54 : decode cX5_init 54 = .ok (.getfield 27, 3) := by decide +kernel
theorem dX5_init_57 : decode cX5_init 57 = .ok (.iload_n 3, 1) := by decide +kernel
theorem dX5_init_58 : decode cX5_init 58 = .ok (.new 25, 3) := by decide +kernel
theorem dX5_init_61 : decode cX5_init 61 = .ok (.dup, 1) := by decide +kernel
theorem dX5_init_62 : decode cX5_init 62 = .ok (.invokespecial 31, 3) := by decide +kernel
theorem dX5_init_65 : decode cX5_init 65 = .ok (.aastore, 1) := by decide +kernel
theorem dX5_init_66 : decode cX5_init 66 = .ok (.iinc 3 1, 3) := by decide +kernel
theorem dX5_init_69 : decode cX5_init 69 = .ok (.goto (-25), 3) := by decide +kernel
theorem dX5_init_72 : decode cX5_init 72 = .ok (.aload_n 0, 1) := by decide +kernel
theorem dX5_init_73 : decode cX5_init 73 = .ok (.new 32, 3) := by decide +kernel
theorem dX5_init_76 : decode cX5_init 76 = .ok (.dup, 1) := by decide +kernel
theorem dX5_init_77 : decode cX5_init 77 = .ok (.iload_n 2, 1) := by decide +kernel
theorem dX5_init_78 : decode cX5_init 78 = .ok (.invokespecial 34, 3) := by decide +kernel
theorem dX5_init_81 : decode cX5_init 81 = .ok (.putfield 37, 3) := by decide +kernel
theorem dX5_init_84 : decode cX5_init 84 = .ok (.aload_n 0, 1) := by decide +kernel
theorem dX5_init_85 : decode cX5_init 85 = .ok (.new 41, 3) := by decide +kernel
theorem dX5_init_88 : decode cX5_init 88 = .ok (.dup, 1) := by decide +kernel
theorem dX5_init_89 : decode cX5_init 89 = .ok (.invokespecial 43, 3) := by decide +kernel
theorem dX5_init_92 : decode cX5_init 92 = .ok (.putfield 44, 3) := by decide +kernel
theorem dX5_init_95 : decode cX5_init 95 = .ok (.return_, 1) := by decide +kernel
theorem dX5_isOpen_0 : decode cX5_isOpen 0 = .ok (.aload_n 0, 1) := by decide +kernel
theorem dX5_isOpen_1 : decode cX5_isOpen 1 = .ok (.getfield 9, 3) := by decide +kernel
theorem dX5_isOpen_4 : decode cX5_isOpen 4 = .ok (.ireturn, 1) := by decide +kernel
theorem dX5_may_0 : decode cX5_may 0 = .ok (.aload_n 0, 1) := by decide +kernel
theorem dX5_may_1 : decode cX5_may 1 = .ok (.getfield 22, 3) := by decide +kernel
theorem dX5_may_4 : decode cX5_may 4 = .ok (.iload_n 1, 1) := by decide +kernel
theorem dX5_may_5 : decode cX5_may 5 = .ok (.iand, 1) := by decide +kernel
theorem dX5_may_6 : decode cX5_may 6 = .ok (.ifCond .eq 7, 3) := by decide +kernel
theorem dX5_may_9 : decode cX5_may 9 = .ok (.iconst 1, 1) := by decide +kernel
theorem dX5_may_10 : decode cX5_may 10 = .ok (.goto 4, 3) := by decide +kernel
theorem dX5_may_13 : decode cX5_may 13 = .ok (.iconst 0, 1) := by decide +kernel
theorem dX5_may_14 : decode cX5_may 14 = .ok (.ireturn, 1) := by decide +kernel
theorem dX5_presented_0 : decode cX5_presented 0 = .ok (.aload_n 0, 1) := by decide +kernel
theorem dX5_presented_1 : decode cX5_presented 1 = .ok (.getfield 37, 3) := by decide +kernel
theorem dX5_presented_4 : decode cX5_presented 4 = .ok (.areturn, 1) := by decide +kernel
theorem dX5_scannedTerms_0 : decode cX5_scannedTerms 0 = .ok (.aload_n 0, 1) := by decide +kernel
theorem dX5_scannedTerms_1 : decode cX5_scannedTerms 1 = .ok (.getfield 44, 3) := by decide +kernel
theorem dX5_scannedTerms_4 : decode cX5_scannedTerms 4 = .ok (.areturn, 1) := by decide +kernel
theorem dX5_setOfName_0 : decode cX5_setOfName 0 = .ok (.iload_n 1, 1) := by decide +kernel
theorem dX5_setOfName_1 : decode cX5_setOfName 1 = .ok (.ifCond .lt 21, 3) := by decide +kernel
theorem dX5_setOfName_4 : decode cX5_setOfName 4 = .ok (.iload_n 1, 1) := by decide +kernel
theorem dX5_setOfName_5 : decode cX5_setOfName 5 = .ok (.aload_n 0, 1) := by decide +kernel
theorem dX5_setOfName_6 : decode cX5_setOfName 6 = .ok (.getfield 27, 3) := by decide +kernel
theorem dX5_setOfName_9 : decode cX5_setOfName 9 = .ok (.arraylength, 1) := by decide +kernel
theorem dX5_setOfName_10 : decode cX5_setOfName 10 = .ok (.if_icmp .ge 12, 3) := by decide +kernel
theorem dX5_setOfName_13 : decode cX5_setOfName 13 = .ok (.aload_n 0, 1) := by decide +kernel
theorem dX5_setOfName_14 : decode cX5_setOfName 14 = .ok (.getfield 27, 3) := by decide +kernel
theorem dX5_setOfName_17 : decode cX5_setOfName 17 = .ok (.iload_n 1, 1) := by decide +kernel
theorem dX5_setOfName_18 : decode cX5_setOfName 18 = .ok (.aaload, 1) := by decide +kernel
theorem dX5_setOfName_19 : decode cX5_setOfName 19 = .ok (.goto 4, 3) := by decide +kernel
theorem dX5_setOfName_22 : decode cX5_setOfName 22 = .ok (.aconst_null, 1) := by decide +kernel
theorem dX5_setOfName_23 : decode cX5_setOfName 23 = .ok (.areturn, 1) := by decide +kernel
theorem dX5_madeSet_0 : decode cX5_madeSet 0 = .ok (.aload_n 0, 1) := by decide +kernel
theorem dX5_madeSet_1 : decode cX5_madeSet 1 = .ok (.iload_n 1, 1) := by decide +kernel
theorem dX5_madeSet_2 : decode cX5_madeSet 2 = .ok (.invokevirtual 48, 3) := by decide +kernel
theorem dX5_madeSet_5 : decode cX5_madeSet 5 = .ok (.astore_n 2, 1) := by decide +kernel
theorem dX5_madeSet_6 : decode cX5_madeSet 6 = .ok (.aload_n 2, 1) := by decide +kernel
theorem dX5_madeSet_7 : decode cX5_madeSet 7 = .ok (.ifnull 14, 3) := by decide +kernel
theorem dX5_madeSet_10 : decode cX5_madeSet 10 = .ok (.aload_n 2, 1) := by decide +kernel
theorem dX5_madeSet_11 : decode cX5_madeSet 11 = .ok (.invokevirtual 52, 3) := by decide +kernel
theorem dX5_madeSet_14 : decode cX5_madeSet 14 = .ok (.ifCond .eq 7, 3) := by decide +kernel
theorem dX5_madeSet_17 : decode cX5_madeSet 17 = .ok (.aload_n 2, 1) := by decide +kernel
theorem dX5_madeSet_18 : decode cX5_madeSet 18 = .ok (.goto 4, 3) := by decide +kernel
theorem dX5_madeSet_21 : decode cX5_madeSet 21 = .ok (.aconst_null, 1) := by decide +kernel
theorem dX5_madeSet_22 : decode cX5_madeSet 22 = .ok (.areturn, 1) := by decide +kernel
theorem dX5_setCount_0 : decode cX5_setCount 0 = .ok (.iconst 0, 1) := by decide +kernel
theorem dX5_setCount_1 : decode cX5_setCount 1 = .ok (.istore_n 1, 1) := by decide +kernel
theorem dX5_setCount_2 : decode cX5_setCount 2 = .ok (.iconst 0, 1) := by decide +kernel
theorem dX5_setCount_3 : decode cX5_setCount 3 = .ok (.istore_n 2, 1) := by decide +kernel
theorem dX5_setCount_4 : decode cX5_setCount 4 = .ok (.iload_n 2, 1) := by decide +kernel
theorem dX5_setCount_5 : decode cX5_setCount 5 = .ok (.aload_n 0, 1) := by decide +kernel
theorem dX5_setCount_6 : decode cX5_setCount 6 = .ok (.getfield 27, 3) := by decide +kernel
theorem dX5_setCount_9 : decode cX5_setCount 9 = .ok (.arraylength, 1) := by decide +kernel
theorem dX5_setCount_10 : decode cX5_setCount 10 = .ok (.if_icmp .ge 24, 3) := by decide +kernel
theorem dX5_setCount_13 : decode cX5_setCount 13 = .ok (.aload_n 0, 1) := by decide +kernel
theorem dX5_setCount_14 : decode cX5_setCount 14 = .ok (.getfield 27, 3) := by decide +kernel
theorem dX5_setCount_17 : decode cX5_setCount 17 = .ok (.iload_n 2, 1) := by decide +kernel
theorem dX5_setCount_18 : decode cX5_setCount 18 = .ok (.aaload, 1) := by decide +kernel
theorem dX5_setCount_19 : decode cX5_setCount 19 = .ok (.invokevirtual 52, 3) := by decide +kernel
theorem dX5_setCount_22 : decode cX5_setCount 22 = .ok (.ifCond .eq 6, 3) := by decide +kernel
theorem dX5_setCount_25 : decode cX5_setCount 25 = .ok (.iinc 1 1, 3) := by decide +kernel
theorem dX5_setCount_28 : decode cX5_setCount 28 = .ok (.iinc 2 1, 3) := by decide +kernel
theorem dX5_setCount_31 : decode cX5_setCount 31 = .ok (.goto (-27), 3) := by decide +kernel
theorem dX5_setCount_34 : decode cX5_setCount 34 = .ok (.iload_n 1, 1) := by decide +kernel
theorem dX5_setCount_35 : decode cX5_setCount 35 = .ok (.ireturn, 1) := by decide +kernel
theorem dX5_diagnose_0 : decode cX5_diagnose 0 = .ok (.aload_n 0, 1) := by decide +kernel
theorem dX5_diagnose_1 : decode cX5_diagnose 1 = .ok (.dup, 1) := by decide +kernel
theorem dX5_diagnose_2 : decode cX5_diagnose 2 = .ok (.getfield 15, 3) := by decide +kernel
theorem dX5_diagnose_5 : decode cX5_diagnose 5 = .ok (.iconst 1, 1) := by decide +kernel
theorem dX5_diagnose_6 : decode cX5_diagnose 6 = .ok (.iadd, 1) := by decide +kernel
theorem dX5_diagnose_7 : decode cX5_diagnose 7 = .ok (.putfield 15, 3) := by decide +kernel
theorem dX5_diagnose_10 : decode cX5_diagnose 10 = .ok (.aload_n 0, 1) := by decide +kernel
theorem dX5_diagnose_11 : decode cX5_diagnose 11 = .ok (.iload_n 1, 1) := by decide +kernel
theorem dX5_diagnose_12 : decode cX5_diagnose 12 = .ok (.putfield 19, 3) := by decide +kernel
theorem dX5_diagnose_15 : decode cX5_diagnose 15 = .ok (.aload_n 0, 1) := by decide +kernel
theorem dX5_diagnose_16 : decode cX5_diagnose 16 = .ok (.getfield 15, 3) := by decide +kernel
theorem dX5_diagnose_19 : decode cX5_diagnose 19 = .ok (.iconst 3, 1) := by decide +kernel
theorem dX5_diagnose_20 : decode cX5_diagnose 20 = .ok (.if_icmp .lt 7, 3) := by decide +kernel
theorem dX5_diagnose_23 : decode cX5_diagnose 23 = .ok (.aload_n 0, 1) := by decide +kernel
theorem dX5_diagnose_24 : decode cX5_diagnose 24 = .ok (.invokevirtual 56, 3) := by decide +kernel
theorem dX5_diagnose_27 : decode cX5_diagnose 27 = .ok (.iload_n 1, 1) := by decide +kernel
theorem dX5_diagnose_28 : decode cX5_diagnose 28 = .ok (.ineg, 1) := by decide +kernel
theorem dX5_diagnose_29 : decode cX5_diagnose 29 = .ok (.ireturn, 1) := by decide +kernel
theorem dX5_shut_0 : decode cX5_shut 0 = .ok (.aload_n 0, 1) := by decide +kernel
theorem dX5_shut_1 : decode cX5_shut 1 = .ok (.iconst 0, 1) := by decide +kernel
theorem dX5_shut_2 : decode cX5_shut 2 = .ok (.putfield 9, 3) := by decide +kernel
theorem dX5_shut_5 : decode cX5_shut 5 = .ok (.iconst 0, 1) := by decide +kernel
theorem dX5_shut_6 : decode cX5_shut 6 = .ok (.istore_n 1, 1) := by decide +kernel
theorem dX5_shut_7 : decode cX5_shut 7 = .ok (.iload_n 1, 1) := by decide +kernel
theorem dX5_shut_8 : decode cX5_shut 8 = .ok (.aload_n 0, 1) := by decide +kernel
theorem dX5_shut_9 : decode cX5_shut 9 = .ok (.getfield 27, 3) := by decide +kernel
theorem dX5_shut_12 : decode cX5_shut 12 = .ok (.arraylength, 1) := by decide +kernel
theorem dX5_shut_13 : decode cX5_shut 13 = .ok (.if_icmp .ge 18, 3) := by decide +kernel
theorem dX5_shut_16 : decode cX5_shut 16 = .ok (.aload_n 0, 1) := by decide +kernel
theorem dX5_shut_17 : decode cX5_shut 17 = .ok (.getfield 27, 3) := by decide +kernel
theorem dX5_shut_20 : decode cX5_shut 20 = .ok (.iload_n 1, 1) := by decide +kernel
theorem dX5_shut_21 : decode cX5_shut 21 = .ok (.aaload, 1) := by decide +kernel
theorem dX5_shut_22 : decode cX5_shut 22 = .ok (.invokevirtual 59, 3) := by decide +kernel
theorem dX5_shut_25 : decode cX5_shut 25 = .ok (.iinc 1 1, 3) := by decide +kernel
theorem dX5_shut_28 : decode cX5_shut 28 = .ok (.goto (-21), 3) := by decide +kernel
theorem dX5_shut_31 : decode cX5_shut 31 = .ok (.return_, 1) := by decide +kernel
theorem dX5_tell_0 : decode cX5_tell 0 = .ok (.iload_n 1, 1) := by decide +kernel
theorem dX5_tell_1 : decode cX5_tell 1 = .ok (.tableswitch 59 0 3 #[31, 44, 49, 54], 31) := by decide +kernel
theorem dX5_tell_32 : decode cX5_tell 32 = .ok (.aload_n 0, 1) := by decide +kernel
theorem dX5_tell_33 : decode cX5_tell 33 = .ok (.getfield 9, 3) := by decide +kernel
theorem dX5_tell_36 : decode cX5_tell 36 = .ok (.ifCond .eq 7, 3) := by decide +kernel
theorem dX5_tell_39 : decode cX5_tell 39 = .ok (.iconst 1, 1) := by decide +kernel
theorem dX5_tell_40 : decode cX5_tell 40 = .ok (.goto 4, 3) := by decide +kernel
theorem dX5_tell_43 : decode cX5_tell 43 = .ok (.iconst 2, 1) := by decide +kernel
theorem dX5_tell_44 : decode cX5_tell 44 = .ok (.ireturn, 1) := by decide +kernel
theorem dX5_tell_45 : decode cX5_tell 45 = .ok (.aload_n 0, 1) := by decide +kernel
theorem dX5_tell_46 : decode cX5_tell 46 = .ok (.getfield 15, 3) := by decide +kernel
theorem dX5_tell_49 : decode cX5_tell 49 = .ok (.ireturn, 1) := by decide +kernel
theorem dX5_tell_50 : decode cX5_tell 50 = .ok (.aload_n 0, 1) := by decide +kernel
theorem dX5_tell_51 : decode cX5_tell 51 = .ok (.getfield 19, 3) := by decide +kernel
theorem dX5_tell_54 : decode cX5_tell 54 = .ok (.ireturn, 1) := by decide +kernel
theorem dX5_tell_55 : decode cX5_tell 55 = .ok (.aload_n 0, 1) := by decide +kernel
theorem dX5_tell_56 : decode cX5_tell 56 = .ok (.invokevirtual 62, 3) := by decide +kernel
theorem dX5_tell_59 : decode cX5_tell 59 = .ok (.ireturn, 1) := by decide +kernel
theorem dX5_tell_60 : decode cX5_tell 60 = .ok (.iconst (-1), 1) := by decide +kernel
theorem dX5_tell_61 : decode cX5_tell 61 = .ok (.ireturn, 1) := by decide +kernel
