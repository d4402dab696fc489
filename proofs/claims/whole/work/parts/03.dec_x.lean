theorem dX6_init_0 : decode cX6_init 0 = .ok (.aload_n 0, 1) := by decide +kernel
theorem dX6_init_1 : decode cX6_init 1 = .ok (.invokespecial 1, 3) := by decide +kernel
theorem dX6_init_4 : decode cX6_init 4 = .ok (.aload_n 0, 1) := by decide +kernel
theorem dX6_init_5 : decode cX6_init 5 = .ok (.new 7, 3) := by decide +kernel
theorem dX6_init_8 : decode cX6_init 8 = .ok (.dup, 1) := by decide +kernel
theorem dX6_init_9 : decode cX6_init 9 = .ok (.invokespecial 9, 3) := by decide +kernel
theorem dX6_init_12 : decode cX6_init 12 = .ok (.putfield 10, 3) := by decide +kernel
theorem dX6_init_15 : decode cX6_init 15 = .ok (.aload_n 0, 1) := by decide +kernel
theorem dX6_init_16 : decode cX6_init 16 = .ok (.new 16, 3) := by decide +kernel
theorem dX6_init_19 : decode cX6_init 19 = .ok (.dup, 1) := by decide +kernel
theorem dX6_init_20 : decode cX6_init 20 = .ok (.invokespecial 18, 3) := by decide +kernel
theorem dX6_init_23 : decode cX6_init 23 = .ok (.putfield 19, 3) := by decide +kernel
theorem dX6_init_26 : decode cX6_init 26 = .ok (.aload_n 0, 1) := by decide +kernel
theorem dX6_init_27 : decode cX6_init 27 = .ok (.bipush 8, 2) := by decide +kernel
theorem dX6_init_29 : decode cX6_init 29 = .ok (.anewarray 23, 3) := by decide +kernel
theorem dX6_init_32 : decode cX6_init 32 = .ok (.putfield 25, 3) := by decide +kernel
theorem dX6_init_35 : decode cX6_init 35 = .ok (.aload_n 0, 1) := by decide +kernel
theorem dX6_init_36 : decode cX6_init 36 = .ok (.iconst 0, 1) := by decide +kernel
theorem dX6_init_37 : decode cX6_init 37 = .ok (.putfield 29, 3) := by decide +kernel
theorem dX6_init_40 : decode cX6_init 40 = .ok (.return_, 1) := by decide +kernel
theorem dX6_record_0 : decode cX6_record 0 = .ok (.aload_n 0, 1) := by decide +kernel
theorem dX6_record_1 : decode cX6_record 1 = .ok (.getfield 10, 3) := by decide +kernel
theorem dX6_record_4 : decode cX6_record 4 = .ok (.iload_n 1, 1) := by decide +kernel
theorem dX6_record_5 : decode cX6_record 5 = .ok (.invokevirtual 33, 3) := by decide +kernel
theorem dX6_record_8 : decode cX6_record 8 = .ok (.ireturn, 1) := by decide +kernel
theorem dX6_term_0 : decode cX6_term 0 = .ok (.aload_n 0, 1) := by decide +kernel
theorem dX6_term_1 : decode cX6_term 1 = .ok (.getfield 10, 3) := by decide +kernel
theorem dX6_term_4 : decode cX6_term 4 = .ok (.iload_n 1, 1) := by decide +kernel
theorem dX6_term_5 : decode cX6_term 5 = .ok (.iload_n 2, 1) := by decide +kernel
theorem dX6_term_6 : decode cX6_term 6 = .ok (.iload_n 3, 1) := by decide +kernel
theorem dX6_term_7 : decode cX6_term 7 = .ok (.invokevirtual 37, 3) := by decide +kernel
theorem dX6_term_10 : decode cX6_term 10 = .ok (.ifCond .eq 7, 3) := by decide +kernel
theorem dX6_term_13 : decode cX6_term 13 = .ok (.iconst 1, 1) := by decide +kernel
theorem dX6_term_14 : decode cX6_term 14 = .ok (.goto 4, 3) := by decide +kernel
theorem dX6_term_17 : decode cX6_term 17 = .ok (.iconst (-1), 1) := by decide +kernel
theorem dX6_term_18 : decode cX6_term 18 = .ok (.ireturn, 1) := by decide +kernel
theorem dX6_question_0 : decode cX6_question 0 = .ok (.iload_n 1, 1) := by decide +kernel
theorem dX6_question_1 : decode cX6_question 1 = .ok (.ifCond .ne 14, 3) := by decide +kernel
theorem dX6_question_4 : decode cX6_question 4 = .ok (.aload_n 0, 1) := by decide +kernel
theorem dX6_question_5 : decode cX6_question 5 = .ok (.getfield 19, 3) := by decide +kernel
theorem dX6_question_8 : decode cX6_question 8 = .ok (.iload_n 2, 1) := by decide +kernel
theorem dX6_question_9 : decode cX6_question 9 = .ok (.iload_n 3, 1) := by decide +kernel
theorem dX6_question_10 : decode cX6_question 10 = .ok (.iload_n 3, 1) := by decide +kernel
theorem dX6_question_11 : decode cX6_question 11 = .ok (.invokevirtual 41, 3) := by decide +kernel
theorem dX6_question_14 : decode cX6_question 14 = .ok (.ireturn, 1) := by decide +kernel
theorem dX6_question_15 : decode cX6_question 15 = .ok (.iload_n 1, 1) := by decide +kernel
theorem dX6_question_16 : decode cX6_question 16 = .ok (.iconst 1, 1) := by decide +kernel
theorem dX6_question_17 : decode cX6_question 17 = .ok (.if_icmp .ne 15, 3) := by decide +kernel
theorem dX6_question_20 : decode cX6_question 20 = .ok (.aload_n 0, 1) := by decide +kernel
theorem dX6_question_21 : decode cX6_question 21 = .ok (.getfield 19, 3) := by decide +kernel
theorem dX6_question_24 : decode cX6_question 24 = .ok (.iload_n 2, 1) := by decide +kernel
theorem dX6_question_25 : decode cX6_question 25 = .ok (.iload_n 3, 1) := by decide +kernel
theorem dX6_question_26 : decode cX6_question 26 = .ok (.iload 4, 2) := by decide +kernel
theorem dX6_question_28 : decode cX6_question 28 = .ok (.invokevirtual 41, 3) := by decide +kernel
theorem dX6_question_31 : decode cX6_question 31 = .ok (.ireturn, 1) := by decide +kernel
theorem dX6_question_32 : decode cX6_question 32 = .ok (.aload_n 0, 1) := by decide +kernel
theorem dX6_question_33 : decode cX6_question 33 = .ok (.getfield 19, 3) := by decide +kernel
theorem dX6_question_36 : decode cX6_question 36 = .ok (.iload_n 1, 1) := by decide +kernel
theorem dX6_question_37 : decode cX6_question 37 = .ok (.iload_n 2, 1) := by decide +kernel
theorem dX6_question_38 : decode cX6_question 38 = .ok (.iload_n 3, 1) := by decide +kernel
theorem dX6_question_39 : decode cX6_question 39 = .ok (.invokevirtual 45, 3) := by decide +kernel
theorem dX6_question_42 : decode cX6_question 42 = .ok (.ireturn, 1) := by decide +kernel
theorem dX6_session_0 : decode cX6_session 0 = .ok (.iload_n 1, 1) := by decide +kernel
theorem dX6_session_1 : decode cX6_session 1 = .ok (.ifCond .lt 21, 3) := by decide +kernel
theorem dX6_session_4 : decode cX6_session 4 = .ok (.iload_n 1, 1) := by decide +kernel
theorem dX6_session_5 : decode cX6_session 5 = .ok (.bipush 7, 2) := by decide +kernel
theorem dX6_session_7 : decode cX6_session 7 = .ok (.if_icmp .gt 15, 3) := by decide +kernel
theorem dX6_session_10 : decode cX6_session 10 = .ok (.iload_n 2, 1) := by decide +kernel
theorem dX6_session_11 : decode cX6_session 11 = .ok (.iconst 1, 1) := by decide +kernel
theorem dX6_session_12 : decode cX6_session 12 = .ok (.if_icmp .lt 10, 3) := by decide +kernel
theorem dX6_session_15 : decode cX6_session 15 = .ok (.iload_n 2, 1) := by decide +kernel
theorem dX6_session_16 : decode cX6_session 16 = .ok (.sipush 1000, 3) := by decide +kernel
theorem dX6_session_19 : decode cX6_session 19 = .ok (.if_icmp .le 5, 3) := by decide +kernel
theorem dX6_session_22 : decode cX6_session 22 = .ok (.iconst (-1), 1) := by decide +kernel
theorem dX6_session_23 : decode cX6_session 23 = .ok (.ireturn, 1) := by decide +kernel
theorem dX6_session_24 : decode cX6_session 24 = .ok (.aload_n 0, 1) := by decide +kernel
theorem dX6_session_25 : decode cX6_session 25 = .ok (.getfield 29, 3) := by decide +kernel
theorem dX6_session_28 : decode cX6_session 28 = .ok (.bipush 8, 2) := by decide +kernel
theorem dX6_session_30 : decode cX6_session 30 = .ok (.if_icmp .lt 5, 3) := by decide +kernel
theorem dX6_session_33 : decode cX6_session 33 = .ok (.iconst (-1), 1) := by decide +kernel
theorem dX6_session_34 : decode cX6_session 34 = .ok (.ireturn, 1) := by decide +kernel
theorem dX6_session_35 : decode cX6_session 35 = .ok (.aload_n 0, 1) := by decide +kernel
theorem dX6_session_36 : decode cX6_session 36 = .ok (.getfield 25, 3) := by decide +kernel
theorem dX6_session_39 : decode cX6_session 39 = .ok (.aload_n 0, 1) := by decide +kernel
theorem dX6_session_40 : decode cX6_session 40 = .ok (.getfield 29, 3) := by decide +kernel
theorem dX6_session_43 : decode cX6_session 43 = .ok (.new 23, 3) := by decide +kernel
theorem dX6_session_46 : decode cX6_session 46 = .ok (.dup, 1) := by decide +kernel
theorem dX6_session_47 : decode cX6_session 47 = .ok (.iload_n 1, 1) := by decide +kernel
theorem dX6_session_48 : decode cX6_session 48 = .ok (.iload_n 2, 1) := by decide +kernel
theorem dX6_session_49 : decode cX6_session 49 = .ok (.invokespecial 48, 3) := by decide +kernel
theorem dX6_session_52 : decode cX6_session 52 = .ok (.aastore, 1) := by decide +kernel
theorem dX6_session_53 : decode cX6_session 53 = .ok (.aload_n 0, 1) := by decide +kernel
theorem dX6_session_54 : decode cX6_session 54 = .ok (.dup, 1) := by decide +kernel
theorem dX6_session_55 : decode cX6_session 55 = .ok (.getfield 29, 3) := by decide +kernel
theorem dX6_session_58 : decode cX6_session 58 = .ok (.iconst 1, 1) := by decide +kernel
theorem dX6_session_59 : decode cX6_session 59 = .ok (.iadd, 1) := by decide +kernel
theorem dX6_session_60 : decode cX6_session 60 = .ok (.putfield 29, 3) := by decide +kernel
theorem dX6_session_63 : decode cX6_session 63 = .ok (.aload_n 0, 1) := by decide +kernel
theorem dX6_session_64 : decode cX6_session 64 = .ok (.getfield 29, 3) := by decide +kernel
theorem dX6_session_67 : decode cX6_session 67 = .ok (.iconst 1, 1) := by decide +kernel
theorem dX6_session_68 : decode cX6_session 68 = .ok (.isub, 1) := by decide +kernel
theorem dX6_session_69 : decode cX6_session 69 = .ok (.ireturn, 1) := by decide +kernel
theorem dX6_search_0 : decode cX6_search 0 = .ok (.aload_n 0, 1) := by decide +kernel
theorem dX6_search_1 : decode cX6_search 1 = .ok (.iload_n 1, 1) := by decide +kernel
theorem dX6_search_2 : decode cX6_search 2 = .ok (.invokevirtual 51, 3) := by decide +kernel
theorem dX6_search_5 : decode cX6_search 5 = .ok (.astore 4, 2) := by decide +kernel
theorem dX6_search_7 : decode cX6_search 7 = .ok (.aload 4, 2) := by decide +kernel
theorem dX6_search_9 : decode cX6_search 9 = .ok (.ifnonnull 6, 3) := by decide +kernel
theorem dX6_search_12 : decode cX6_search 12 = .ok (.bipush (-101), 2) := by decide +kernel
theorem dX6_search_14 : decode cX6_search 14 = .ok (.ireturn, 1) := by decide +kernel
theorem dX6_search_15 : decode cX6_search 15 = .ok (.aload_n 0, 1) := by decide +kernel
theorem dX6_search_16 : decode cX6_search 16 = .ok (.getfield 19, 3) := by decide +kernel
theorem dX6_search_19 : decode cX6_search 19 = .ok (.iload_n 2, 1) := by decide +kernel
theorem dX6_search_20 : decode cX6_search 20 = .ok (.invokevirtual 55, 3) := by decide +kernel
theorem dX6_search_23 : decode cX6_search 23 = .ok (.ifCond .ne 11, 3) := by decide +kernel
theorem dX6_search_26 : decode cX6_search 26 = .ok (.aload 4, 2) := by decide +kernel
theorem dX6_search_28 : decode cX6_search 28 = .ok (.bipush 103, 2) := by decide +kernel
theorem dX6_search_30 : decode cX6_search 30 = .ok (.invokevirtual 59, 3) := by decide +kernel
theorem dX6_search_33 : decode cX6_search 33 = .ok (.ireturn, 1) := by decide +kernel
theorem dX6_search_34 : decode cX6_search 34 = .ok (.aload 4, 2) := by decide +kernel
theorem dX6_search_36 : decode cX6_search 36 = .ok (.iload_n 3, 1) := by decide +kernel
theorem dX6_search_37 : decode cX6_search 37 = .ok (.invokevirtual 62, 3) := by decide +kernel
theorem dX6_search_40 : decode cX6_search 40 = .ok (.astore 5, 2) := by decide +kernel
theorem dX6_search_42 : decode cX6_search 42 = .ok (.aload 5, 2) := by decide +kernel
theorem dX6_search_44 : decode cX6_search 44 = .ok (.ifnonnull 11, 3) := by decide +kernel
theorem dX6_search_47 : decode cX6_search 47 = .ok (.aload 4, 2) := by decide +kernel
theorem dX6_search_49 : decode cX6_search 49 = .ok (.bipush 104, 2) := by decide +kernel
theorem dX6_search_51 : decode cX6_search 51 = .ok (.invokevirtual 59, 3) := by decide +kernel
theorem dX6_search_54 : decode cX6_search 54 = .ok (.ireturn, 1) := by decide +kernel
theorem dX6_search_55 : decode cX6_search 55 = .ok (.aload 5, 2) := by decide +kernel
theorem dX6_search_57 : decode cX6_search 57 = .ok (.invokevirtual 66, 3) := by decide +kernel
theorem dX6_search_60 : decode cX6_search 60 = .ok (.iconst 0, 1) := by decide +kernel
theorem dX6_search_61 : decode cX6_search 61 = .ok (.istore 6, 2) := by decide +kernel
theorem dX6_search_63 : decode cX6_search 63 = .ok (.iload 6, 2) := by decide +kernel
theorem dX6_search_65 : decode cX6_search 65 = .ok (.aload_n 0, 1) := by decide +kernel
theorem dX6_search_66 : decode cX6_search 66 = .ok (.getfield 10, 3) := by decide +kernel
theorem dX6_search_69 : decode cX6_search 69 = .ok (.invokevirtual 71, 3) := by decide +kernel
theorem dX6_search_72 : decode cX6_search 72 = .ok (.if_icmp .ge 33, 3) := by decide +kernel
theorem dX6_search_75 : decode cX6_search 75 = .ok (.aload_n 0, 1) := by decide +kernel
theorem dX6_search_76 : decode cX6_search 76 = .ok (.getfield 19, 3) := by decide +kernel
theorem dX6_search_79 : decode cX6_search 79 = .ok (.iload_n 2, 1) := by decide +kernel
theorem dX6_search_80 : decode cX6_search 80 = .ok (.aload_n 0, 1) := by decide +kernel
theorem dX6_search_81 : decode cX6_search 81 = .ok (.getfield 10, 3) := by decide +kernel
theorem dX6_search_84 : decode cX6_search 84 = .ok (.iload 6, 2) := by decide +kernel
theorem dX6_search_86 : decode cX6_search 86 = .ok (.invokevirtual 75, 3) := by decide +kernel
theorem dX6_search_89 : decode cX6_search 89 = .ok (.ifCond .eq 10, 3) := by decide +kernel
theorem dX6_search_92 : decode cX6_search 92 = .ok (.aload 5, 2) := by decide +kernel
theorem dX6_search_94 : decode cX6_search 94 = .ok (.iload 6, 2) := by decide +kernel
theorem dX6_search_96 : decode cX6_search 96 = .ok (.invokevirtual 79, 3) := by decide +kernel
theorem dX6_search_99 : decode cX6_search 99 = .ok (.iinc 6 1, 3) := by decide +kernel
theorem dX6_search_102 : decode cX6_search 102 = .ok (.goto (-39), 3) := by decide +kernel
theorem dX6_search_105 : decode cX6_search 105 = .ok (.aload 5, 2) := by decide +kernel
theorem dX6_search_107 : decode cX6_search 107 = .ok (.invokevirtual 82, 3) := by decide +kernel
theorem dX6_search_110 : decode cX6_search 110 = .ok (.ifCond .ne 13, 3) := by decide +kernel
theorem dX6_search_113 : decode cX6_search 113 = .ok (.aload 4, 2) := by decide +kernel
theorem dX6_search_115 : decode cX6_search 115 = .ok (.bipush 108, 2) := by decide +kernel
theorem dX6_search_117 : decode cX6_search 117 = .ok (.invokevirtual 59, 3) := by decide +kernel
theorem dX6_search_120 : decode cX6_search 120 = .ok (.goto 8, 3) := by decide +kernel
theorem dX6_search_123 : decode cX6_search 123 = .ok (.aload 5, 2) := by decide +kernel
theorem dX6_search_125 : decode cX6_search 125 = .ok (.invokevirtual 82, 3) := by decide +kernel
theorem dX6_search_128 : decode cX6_search 128 = .ok (.ireturn, 1) := by decide +kernel
theorem dX6_size_0 : decode cX6_size 0 = .ok (.aload_n 0, 1) := by decide +kernel
theorem dX6_size_1 : decode cX6_size 1 = .ok (.iload_n 1, 1) := by decide +kernel
theorem dX6_size_2 : decode cX6_size 2 = .ok (.invokevirtual 51, 3) := by decide +kernel
theorem dX6_size_5 : decode cX6_size 5 = .ok (.astore_n 3, 1) := by decide +kernel
theorem dX6_size_6 : decode cX6_size 6 = .ok (.aload_n 3, 1) := by decide +kernel
theorem dX6_size_7 : decode cX6_size 7 = .ok (.ifnonnull 6, 3) := by decide +kernel
theorem dX6_size_10 : decode cX6_size 10 = .ok (.bipush (-101), 2) := by decide +kernel
theorem dX6_size_12 : decode cX6_size 12 = .ok (.ireturn, 1) := by decide +kernel
theorem dX6_size_13 : decode cX6_size 13 = .ok (.aload_n 3, 1) := by decide +kernel
theorem dX6_size_14 : decode cX6_size 14 = .ok (.iload_n 2, 1) := by decide +kernel
theorem dX6_size_15 : decode cX6_size 15 = .ok (.invokevirtual 83, 3) := by decide +kernel
theorem dX6_size_18 : decode cX6_size 18 = .ok (.astore 4, 2) := by decide +kernel
theorem dX6_size_20 : decode cX6_size 20 = .ok (.aload 4, 2) := by decide +kernel
theorem dX6_size_22 : decode cX6_size 22 = .ok (.ifnonnull 8, 3) := by decide +kernel
theorem dX6_size_25 : decode cX6_size 25 = .ok (.bipush (-104), 2) := by decide +kernel
theorem dX6_size_27 : decode cX6_size 27 = .ok (.goto 8, 3) := by decide +kernel
theorem dX6_size_30 : decode cX6_size 30 = .ok (.aload 4, 2) := by decide +kernel
theorem dX6_size_32 : decode cX6_size 32 = .ok (.invokevirtual 82, 3) := by decide +kernel
theorem dX6_size_35 : decode cX6_size 35 = .ok (.ireturn, 1) := by decide +kernel
theorem dX6_present_0 : decode cX6_present 0 = .ok (.aload_n 0, 1) := by decide +kernel
theorem dX6_present_1 : decode cX6_present 1 = .ok (.iload_n 1, 1) := by decide +kernel
theorem dX6_present_2 : decode cX6_present 2 = .ok (.invokevirtual 51, 3) := by decide +kernel
theorem dX6_present_5 : decode cX6_present 5 = .ok (.astore 5, 2) := by decide +kernel
theorem dX6_present_7 : decode cX6_present 7 = .ok (.aload 5, 2) := by decide +kernel
theorem dX6_present_9 : decode cX6_present 9 = .ok (.ifnonnull 6, 3) := by decide +kernel
theorem dX6_present_12 : decode cX6_present 12 = .ok (.bipush (-101), 2) := by decide +kernel
theorem dX6_present_14 : decode cX6_present 14 = .ok (.ireturn, 1) := by decide +kernel
theorem dX6_present_15 : decode cX6_present 15 = .ok (.aload 5, 2) := by decide +kernel
theorem dX6_present_17 : decode cX6_present 17 = .ok (.iload_n 2, 1) := by decide +kernel
theorem dX6_present_18 : decode cX6_present 18 = .ok (.invokevirtual 83, 3) := by decide +kernel
theorem dX6_present_21 : decode cX6_present 21 = .ok (.astore 6, 2) := by decide +kernel
theorem dX6_present_23 : decode cX6_present 23 = .ok (.aload 6, 2) := by decide +kernel
theorem dX6_present_25 : decode cX6_present 25 = .ok (.ifnonnull 11, 3) := by decide +kernel
theorem dX6_present_28 : decode cX6_present 28 = .ok (.aload 5, 2) := by decide +kernel
theorem dX6_present_30 : decode cX6_present 30 = .ok (.bipush 104, 2) := by decide +kernel
theorem dX6_present_32 : decode cX6_present 32 = .ok (.invokevirtual 59, 3) := by decide +kernel
theorem dX6_present_35 : decode cX6_present 35 = .ok (.ireturn, 1) := by decide +kernel
theorem dX6_present_36 : decode cX6_present 36 = .ok (.iload 4, 2) := by decide +kernel
theorem dX6_present_38 : decode cX6_present 38 = .ok (.iconst 1, 1) := by decide +kernel
theorem dX6_present_39 : decode cX6_present 39 = .ok (.if_icmp .ge 11, 3) := by decide +kernel
theorem dX6_present_42 : decode cX6_present 42 = .ok (.aload 5, 2) := by decide +kernel
theorem dX6_present_44 : decode cX6_present 44 = .ok (.bipush 107, 2) := by decide +kernel
theorem dX6_present_46 : decode cX6_present 46 = .ok (.invokevirtual 59, 3) := by decide +kernel
theorem dX6_present_49 : decode cX6_present 49 = .ok (.ireturn, 1) := by decide +kernel
theorem dX6_present_50 : decode cX6_present 50 = .ok (.iload_n 3, 1) := by decide +kernel
theorem dX6_present_51 : decode cX6_present 51 = .ok (.ifCond .lt 15, 3) := by decide +kernel
theorem dX6_present_54 : decode cX6_present 54 = .ok (.iload_n 3, 1) := by decide +kernel
theorem dX6_present_55 : decode cX6_present 55 = .ok (.aload 6, 2) := by decide +kernel
theorem dX6_present_57 : decode cX6_present 57 = .ok (.invokevirtual 82, 3) := by decide +kernel
theorem dX6_present_60 : decode cX6_present 60 = .ok (.iload 4, 2) := by decide +kernel
theorem dX6_present_62 : decode cX6_present 62 = .ok (.isub, 1) := by decide +kernel
theorem dX6_present_63 : decode cX6_present 63 = .ok (.if_icmp .le 11, 3) := by decide +kernel
theorem dX6_present_66 : decode cX6_present 66 = .ok (.aload 5, 2) := by decide +kernel
theorem dX6_present_68 : decode cX6_present 68 = .ok (.bipush 105, 2) := by decide +kernel
theorem dX6_present_70 : decode cX6_present 70 = .ok (.invokevirtual 59, 3) := by decide +kernel
theorem dX6_present_73 : decode cX6_present 73 = .ok (.ireturn, 1) := by decide +kernel
theorem dX6_present_74 : decode cX6_present 74 = .ok (.aload 5, 2) := by decide +kernel
theorem dX6_present_76 : decode cX6_present 76 = .ok (.invokevirtual 86, 3) := by decide +kernel
theorem dX6_present_79 : decode cX6_present 79 = .ok (.astore 7, 2) := by decide +kernel
theorem dX6_present_81 : decode cX6_present 81 = .ok (.aload 7, 2) := by decide +kernel
theorem dX6_present_83 : decode cX6_present 83 = .ok (.invokevirtual 90, 3) := by decide +kernel
theorem dX6_present_86 : decode cX6_present 86 = .ok (.iconst 0, 1) := by decide +kernel
theorem dX6_present_87 : decode cX6_present 87 = .ok (.istore 8, 2) := by decide +kernel
theorem dX6_present_89 : decode cX6_present 89 = .ok (.iload 8, 2) := by decide +kernel
theorem dX6_present_91 : decode cX6_present 91 = .ok (.iload 4, 2) := by decide +kernel
theorem dX6_present_93 : decode cX6_present 93 = .ok (.if_icmp .ge 36, 3) := by decide +kernel
theorem dX6_present_96 : decode cX6_present 96 = .ok (.aload 6, 2) := by decide +kernel
theorem dX6_present_98 : decode cX6_present 98 = .ok (.iload_n 3, 1) := by decide +kernel
theorem dX6_present_99 : decode cX6_present 99 = .ok (.iload 8, 2) := by decide +kernel
theorem dX6_present_101 : decode cX6_present 101 = .ok (.iadd, 1) := by decide +kernel
theorem dX6_present_102 : decode cX6_present 102 = .ok (.invokevirtual 95, 3) := by decide +kernel
theorem dX6_present_105 : decode cX6_present 105 = .ok (.istore 9, 2) := by decide +kernel
theorem dX6_present_107 : decode cX6_present 107 = .ok (.aload 7, 2) := by decide +kernel
theorem dX6_present_109 : decode cX6_present 109 = .ok (.iload 9, 2) := by decide +kernel
theorem dX6_present_111 : decode cX6_present 111 = .ok (.aload_n 0, 1) := by decide +kernel
theorem dX6_present_112 : decode cX6_present 112 = .ok (.getfield 10, 3) := by decide +kernel
theorem dX6_present_115 : decode cX6_present 115 = .ok (.iload 9, 2) := by decide +kernel
theorem dX6_present_117 : decode cX6_present 117 = .ok (.invokevirtual 98, 3) := by decide +kernel
theorem dX6_present_120 : decode cX6_present 120 = .ok (.invokevirtual 101, 3) := by decide +kernel
theorem dX6_present_123 : decode cX6_present 123 = .ok (.iinc 8 1, 3) := by decide +kernel
theorem dX6_present_126 : decode cX6_present 126 = .ok (.goto (-37), 3) := by decide +kernel
theorem dX6_present_129 : decode cX6_present 129 = .ok (.aload 7, 2) := by decide +kernel
theorem dX6_present_131 : decode cX6_present 131 = .ok (.invokevirtual 103, 3) := by decide +kernel
theorem dX6_present_134 : decode cX6_present 134 = .ok (.ireturn, 1) := by decide +kernel
theorem dX6_segment_0 : decode cX6_segment 0 = .ok (.aload_n 0, 1) := by decide +kernel
theorem dX6_segment_1 : decode cX6_segment 1 = .ok (.iload_n 1, 1) := by decide +kernel
theorem dX6_segment_2 : decode cX6_segment 2 = .ok (.invokevirtual 106, 3) := by decide +kernel
theorem dX6_segment_5 : decode cX6_segment 5 = .ok (.astore 4, 2) := by decide +kernel
theorem dX6_segment_7 : decode cX6_segment 7 = .ok (.aload 4, 2) := by decide +kernel
theorem dX6_segment_9 : decode cX6_segment 9 = .ok (.ifnonnull 7, 3) := by decide +kernel
theorem dX6_segment_12 : decode cX6_segment 12 = .ok (.iconst (-1), 1) := by decide +kernel
theorem dX6_segment_13 : decode cX6_segment 13 = .ok (.goto 13, 3) := by decide +kernel
theorem dX6_segment_16 : decode cX6_segment 16 = .ok (.aload 4, 2) := by decide +kernel
theorem dX6_segment_18 : decode cX6_segment 18 = .ok (.invokevirtual 86, 3) := by decide +kernel
theorem dX6_segment_21 : decode cX6_segment 21 = .ok (.iload_n 2, 1) := by decide +kernel
theorem dX6_segment_22 : decode cX6_segment 22 = .ok (.iload_n 3, 1) := by decide +kernel
theorem dX6_segment_23 : decode cX6_segment 23 = .ok (.invokevirtual 109, 3) := by decide +kernel
theorem dX6_segment_26 : decode cX6_segment 26 = .ok (.ireturn, 1) := by decide +kernel
theorem dX6_at_0 : decode cX6_at 0 = .ok (.aload_n 0, 1) := by decide +kernel
theorem dX6_at_1 : decode cX6_at 1 = .ok (.iload_n 1, 1) := by decide +kernel
theorem dX6_at_2 : decode cX6_at 2 = .ok (.invokevirtual 106, 3) := by decide +kernel
theorem dX6_at_5 : decode cX6_at 5 = .ok (.astore_n 3, 1) := by decide +kernel
theorem dX6_at_6 : decode cX6_at 6 = .ok (.aload_n 3, 1) := by decide +kernel
theorem dX6_at_7 : decode cX6_at 7 = .ok (.ifnonnull 7, 3) := by decide +kernel
theorem dX6_at_10 : decode cX6_at 10 = .ok (.iconst (-1), 1) := by decide +kernel
theorem dX6_at_11 : decode cX6_at 11 = .ok (.goto 11, 3) := by decide +kernel
theorem dX6_at_14 : decode cX6_at 14 = .ok (.aload_n 3, 1) := by decide +kernel
theorem dX6_at_15 : decode cX6_at 15 = .ok (.invokevirtual 86, 3) := by decide +kernel
theorem dX6_at_18 : decode cX6_at 18 = .ok (.iload_n 2, 1) := by decide +kernel
theorem dX6_at_19 : decode cX6_at 19 = .ok (.invokevirtual 113, 3) := by decide +kernel
theorem dX6_at_22 : decode cX6_at 22 = .ok (.ireturn, 1) := by decide +kernel
theorem dX6_sort_0 : decode cX6_sort 0 = .ok (.aload_n 0, 1) := by decide +kernel
theorem dX6_sort_1 : decode cX6_sort 1 = .ok (.iload_n 1, 1) := by decide +kernel
theorem dX6_sort_2 : decode cX6_sort 2 = .ok (.invokevirtual 51, 3) := by decide +kernel
theorem dX6_sort_5 : decode cX6_sort 5 = .ok (.astore 5, 2) := by decide +kernel
theorem dX6_sort_7 : decode cX6_sort 7 = .ok (.aload 5, 2) := by decide +kernel
theorem dX6_sort_9 : decode cX6_sort 9 = .ok (.ifnonnull 6, 3) := by decide +kernel
theorem dX6_sort_12 : decode cX6_sort 12 = .ok (.bipush (-101), 2) := by decide +kernel
theorem dX6_sort_14 : decode cX6_sort 14 = .ok (.ireturn, 1) := by decide +kernel
theorem dX6_sort_15 : decode cX6_sort 15 = .ok (.aload 5, 2) := by decide +kernel
theorem dX6_sort_17 : decode cX6_sort 17 = .ok (.iconst 1, 1) := by decide +kernel
theorem dX6_sort_18 : decode cX6_sort 18 = .ok (.invokevirtual 114, 3) := by decide +kernel
theorem dX6_sort_21 : decode cX6_sort 21 = .ok (.ifCond .ne 11, 3) := by decide +kernel
theorem dX6_sort_24 : decode cX6_sort 24 = .ok (.aload 5, 2) := by decide +kernel
theorem dX6_sort_26 : decode cX6_sort 26 = .ok (.bipush 102, 2) := by decide +kernel
theorem dX6_sort_28 : decode cX6_sort 28 = .ok (.invokevirtual 59, 3) := by decide +kernel
theorem dX6_sort_31 : decode cX6_sort 31 = .ok (.ireturn, 1) := by decide +kernel
theorem dX6_sort_32 : decode cX6_sort 32 = .ok (.aload 5, 2) := by decide +kernel
theorem dX6_sort_34 : decode cX6_sort 34 = .ok (.iload_n 2, 1) := by decide +kernel
theorem dX6_sort_35 : decode cX6_sort 35 = .ok (.invokevirtual 83, 3) := by decide +kernel
theorem dX6_sort_38 : decode cX6_sort 38 = .ok (.astore 6, 2) := by decide +kernel
theorem dX6_sort_40 : decode cX6_sort 40 = .ok (.aload 6, 2) := by decide +kernel
theorem dX6_sort_42 : decode cX6_sort 42 = .ok (.ifnonnull 11, 3) := by decide +kernel
theorem dX6_sort_45 : decode cX6_sort 45 = .ok (.aload 5, 2) := by decide +kernel
theorem dX6_sort_47 : decode cX6_sort 47 = .ok (.bipush 104, 2) := by decide +kernel
theorem dX6_sort_49 : decode cX6_sort 49 = .ok (.invokevirtual 59, 3) := by decide +kernel
theorem dX6_sort_52 : decode cX6_sort 52 = .ok (.ireturn, 1) := by decide +kernel
theorem dX6_sort_53 : decode cX6_sort 53 = .ok (.iload_n 3, 1) := by decide +kernel
theorem dX6_sort_54 : decode cX6_sort 54 = .ok (.invokestatic 117, 3) := by decide +kernel
theorem dX6_sort_57 : decode cX6_sort 57 = .ok (.ifCond .ne 11, 3) := by decide +kernel
theorem dX6_sort_60 : decode cX6_sort 60 = .ok (.aload 5, 2) := by decide +kernel
theorem dX6_sort_62 : decode cX6_sort 62 = .ok (.bipush 106, 2) := by decide +kernel
theorem dX6_sort_64 : decode cX6_sort 64 = .ok (.invokevirtual 59, 3) := by decide +kernel
theorem dX6_sort_67 : decode cX6_sort 67 = .ok (.ireturn, 1) := by decide +kernel
theorem dX6_sort_68 : decode cX6_sort 68 = .ok (.aload 6, 2) := by decide +kernel
theorem dX6_sort_70 : decode cX6_sort 70 = .ok (.aload_n 0, 1) := by decide +kernel
theorem dX6_sort_71 : decode cX6_sort 71 = .ok (.getfield 10, 3) := by decide +kernel
theorem dX6_sort_74 : decode cX6_sort 74 = .ok (.iload_n 3, 1) := by decide +kernel
theorem dX6_sort_75 : decode cX6_sort 75 = .ok (.iload 4, 2) := by decide +kernel
theorem dX6_sort_77 : decode cX6_sort 77 = .ok (.invokevirtual 120, 3) := by decide +kernel
theorem dX6_sort_80 : decode cX6_sort 80 = .ok (.aload 6, 2) := by decide +kernel
theorem dX6_sort_82 : decode cX6_sort 82 = .ok (.aload_n 0, 1) := by decide +kernel
theorem dX6_sort_83 : decode cX6_sort 83 = .ok (.getfield 10, 3) := by decide +kernel
theorem dX6_sort_86 : decode cX6_sort 86 = .ok (.iload_n 3, 1) := by decide +kernel
theorem dX6_sort_87 : decode cX6_sort 87 = .ok (.invokevirtual 124, 3) := by decide +kernel
theorem dX6_sort_90 : decode cX6_sort 90 = .ok (.ireturn, 1) := by decide +kernel
theorem dX6_scan_0 : decode cX6_scan 0 = .ok (.aload_n 0, 1) := by decide +kernel
theorem dX6_scan_1 : decode cX6_scan 1 = .ok (.iload_n 1, 1) := by decide +kernel
theorem dX6_scan_2 : decode cX6_scan 2 = .ok (.invokevirtual 51, 3) := by decide +kernel
theorem dX6_scan_5 : decode cX6_scan 5 = .ok (.astore 6, 2) := by decide +kernel
theorem dX6_scan_7 : decode cX6_scan 7 = .ok (.aload 6, 2) := by decide +kernel
theorem dX6_scan_9 : decode cX6_scan 9 = .ok (.ifnonnull 6, 3) := by decide +kernel
theorem dX6_scan_12 : decode cX6_scan 12 = .ok (.bipush (-101), 2) := by decide +kernel
theorem dX6_scan_14 : decode cX6_scan 14 = .ok (.ireturn, 1) := by decide +kernel
theorem dX6_scan_15 : decode cX6_scan 15 = .ok (.aload 6, 2) := by decide +kernel
theorem dX6_scan_17 : decode cX6_scan 17 = .ok (.iconst 2, 1) := by decide +kernel
theorem dX6_scan_18 : decode cX6_scan 18 = .ok (.invokevirtual 114, 3) := by decide +kernel
theorem dX6_scan_21 : decode cX6_scan 21 = .ok (.ifCond .ne 11, 3) := by decide +kernel
theorem dX6_scan_24 : decode cX6_scan 24 = .ok (.aload 6, 2) := by decide +kernel
theorem dX6_scan_26 : decode cX6_scan 26 = .ok (.bipush 102, 2) := by decide +kernel
theorem dX6_scan_28 : decode cX6_scan 28 = .ok (.invokevirtual 59, 3) := by decide +kernel
theorem dX6_scan_31 : decode cX6_scan 31 = .ok (.ireturn, 1) := by decide +kernel
theorem dX6_scan_32 : decode cX6_scan 32 = .ok (.iload_n 2, 1) := by decide +kernel
theorem dX6_scan_33 : decode cX6_scan 33 = .ok (.invokestatic 117, 3) := by decide +kernel
theorem dX6_scan_36 : decode cX6_scan 36 = .ok (.ifCond .ne 11, 3) := by decide +kernel
theorem dX6_scan_39 : decode cX6_scan 39 = .ok (.aload 6, 2) := by decide +kernel
theorem dX6_scan_41 : decode cX6_scan 41 = .ok (.bipush 106, 2) := by decide +kernel
theorem dX6_scan_43 : decode cX6_scan 43 = .ok (.invokevirtual 59, 3) := by decide +kernel
theorem dX6_scan_46 : decode cX6_scan 46 = .ok (.ireturn, 1) := by decide +kernel
theorem dX6_scan_47 : decode cX6_scan 47 = .ok (.iload_n 3, 1) := by decide +kernel
theorem dX6_scan_48 : decode cX6_scan 48 = .ok (.invokestatic 128, 3) := by decide +kernel
theorem dX6_scan_51 : decode cX6_scan 51 = .ok (.ifCond .eq 28, 3) := by decide +kernel
theorem dX6_scan_54 : decode cX6_scan 54 = .ok (.iload 4, 2) := by decide +kernel
theorem dX6_scan_56 : decode cX6_scan 56 = .ok (.iconst 1, 1) := by decide +kernel
theorem dX6_scan_57 : decode cX6_scan 57 = .ok (.if_icmp .lt 22, 3) := by decide +kernel
theorem dX6_scan_60 : decode cX6_scan 60 = .ok (.iload 4, 2) := by decide +kernel
theorem dX6_scan_62 : decode cX6_scan 62 = .ok (.bipush 20, 2) := by decide +kernel
theorem dX6_scan_64 : decode cX6_scan 64 = .ok (.if_icmp .gt 15, 3) := by decide +kernel
theorem dX6_scan_67 : decode cX6_scan 67 = .ok (.iload 5, 2) := by decide +kernel
theorem dX6_scan_69 : decode cX6_scan 69 = .ok (.ifCond .lt 10, 3) := by decide +kernel
theorem dX6_scan_72 : decode cX6_scan 72 = .ok (.iload 5, 2) := by decide +kernel
theorem dX6_scan_74 : decode cX6_scan 74 = .ok (.bipush 9, 2) := by decide +kernel
theorem dX6_scan_76 : decode cX6_scan 76 = .ok (.if_icmp .le 11, 3) := by decide +kernel
theorem dX6_scan_79 : decode cX6_scan 79 = .ok (.aload 6, 2) := by decide +kernel
theorem dX6_scan_81 : decode cX6_scan 81 = .ok (.bipush 107, 2) := by decide +kernel
theorem dX6_scan_83 : decode cX6_scan 83 = .ok (.invokevirtual 59, 3) := by decide +kernel
theorem dX6_scan_86 : decode cX6_scan 86 = .ok (.ireturn, 1) := by decide +kernel
theorem dX6_scan_87 : decode cX6_scan 87 = .ok (.aload_n 0, 1) := by decide +kernel
theorem dX6_scan_88 : decode cX6_scan 88 = .ok (.getfield 10, 3) := by decide +kernel
theorem dX6_scan_91 : decode cX6_scan 91 = .ok (.iload_n 2, 1) := by decide +kernel
theorem dX6_scan_92 : decode cX6_scan 92 = .ok (.iconst 0, 1) := by decide +kernel
theorem dX6_scan_93 : decode cX6_scan 93 = .ok (.invokevirtual 131, 3) := by decide +kernel
theorem dX6_scan_96 : decode cX6_scan 96 = .ok (.iconst (-1), 1) := by decide +kernel
theorem dX6_scan_97 : decode cX6_scan 97 = .ok (.if_icmp .ne 11, 3) := by decide +kernel
theorem dX6_scan_100 : decode cX6_scan 100 = .ok (.aload 6, 2) := by decide +kernel
theorem dX6_scan_102 : decode cX6_scan 102 = .ok (.bipush 108, 2) := by decide +kernel
theorem dX6_scan_104 : decode cX6_scan 104 = .ok (.invokevirtual 59, 3) := by decide +kernel
theorem dX6_scan_107 : decode cX6_scan 107 = .ok (.ireturn, 1) := by decide +kernel
theorem dX6_scan_108 : decode cX6_scan 108 = .ok (.aload 6, 2) := by decide +kernel
theorem dX6_scan_110 : decode cX6_scan 110 = .ok (.invokevirtual 134, 3) := by decide +kernel
theorem dX6_scan_113 : decode cX6_scan 113 = .ok (.aload_n 0, 1) := by decide +kernel
theorem dX6_scan_114 : decode cX6_scan 114 = .ok (.getfield 10, 3) := by decide +kernel
theorem dX6_scan_117 : decode cX6_scan 117 = .ok (.iload_n 2, 1) := by decide +kernel
theorem dX6_scan_118 : decode cX6_scan 118 = .ok (.aload_n 0, 1) := by decide +kernel
theorem dX6_scan_119 : decode cX6_scan 119 = .ok (.iload_n 2, 1) := by decide +kernel
theorem dX6_scan_120 : decode cX6_scan 120 = .ok (.iload_n 3, 1) := by decide +kernel
theorem dX6_scan_121 : decode cX6_scan 121 = .ok (.iload 5, 2) := by decide +kernel
theorem dX6_scan_123 : decode cX6_scan 123 = .ok (.invokevirtual 138, 3) := by decide +kernel
theorem dX6_scan_126 : decode cX6_scan 126 = .ok (.iload 4, 2) := by decide +kernel
theorem dX6_scan_128 : decode cX6_scan 128 = .ok (.invokevirtual 141, 3) := by decide +kernel
theorem dX6_scan_131 : decode cX6_scan 131 = .ok (.ireturn, 1) := by decide +kernel
theorem dX6_scanned_0 : decode cX6_scanned 0 = .ok (.aload_n 0, 1) := by decide +kernel
theorem dX6_scanned_1 : decode cX6_scanned 1 = .ok (.iload_n 1, 1) := by decide +kernel
theorem dX6_scanned_2 : decode cX6_scanned 2 = .ok (.invokevirtual 106, 3) := by decide +kernel
theorem dX6_scanned_5 : decode cX6_scanned 5 = .ok (.astore 4, 2) := by decide +kernel
theorem dX6_scanned_7 : decode cX6_scanned 7 = .ok (.aload 4, 2) := by decide +kernel
theorem dX6_scanned_9 : decode cX6_scanned 9 = .ok (.ifnull 15, 3) := by decide +kernel
theorem dX6_scanned_12 : decode cX6_scanned 12 = .ok (.aload 4, 2) := by decide +kernel
theorem dX6_scanned_14 : decode cX6_scanned 14 = .ok (.invokevirtual 134, 3) := by decide +kernel
theorem dX6_scanned_17 : decode cX6_scanned 17 = .ok (.iload_n 2, 1) := by decide +kernel
theorem dX6_scanned_18 : decode cX6_scanned 18 = .ok (.invokevirtual 147, 3) := by decide +kernel
theorem dX6_scanned_21 : decode cX6_scanned 21 = .ok (.ifCond .ne 13, 3) := by decide +kernel
theorem dX6_scanned_24 : decode cX6_scanned 24 = .ok (.new 148, 3) := by decide +kernel
theorem dX6_scanned_27 : decode cX6_scanned 27 = .ok (.dup, 1) := by decide +kernel
theorem dX6_scanned_28 : decode cX6_scanned 28 = .ok (.ldc 150, 2) := by decide +kernel
theorem dX6_scanned_30 : decode cX6_scanned 30 = .ok (.invokespecial 152, 3) := by decide +kernel
theorem dX6_scanned_33 : decode cX6_scanned 33 = .ok (.athrow, 1) := by decide +kernel
theorem dX6_scanned_34 : decode cX6_scanned 34 = .ok (.aload 4, 2) := by decide +kernel
theorem dX6_scanned_36 : decode cX6_scanned 36 = .ok (.invokevirtual 134, 3) := by decide +kernel
theorem dX6_scanned_39 : decode cX6_scanned 39 = .ok (.iload_n 2, 1) := by decide +kernel
theorem dX6_scanned_40 : decode cX6_scanned 40 = .ok (.iload_n 3, 1) := by decide +kernel
theorem dX6_scanned_41 : decode cX6_scanned 41 = .ok (.invokevirtual 155, 3) := by decide +kernel
theorem dX6_scanned_44 : decode cX6_scanned 44 = .ok (.ireturn, 1) := by decide +kernel
theorem dX6_drop_0 : decode cX6_drop 0 = .ok (.aload_n 0, 1) := by decide +kernel
theorem dX6_drop_1 : decode cX6_drop 1 = .ok (.iload_n 1, 1) := by decide +kernel
theorem dX6_drop_2 : decode cX6_drop 2 = .ok (.invokevirtual 51, 3) := by decide +kernel
theorem dX6_drop_5 : decode cX6_drop 5 = .ok (.astore_n 3, 1) := by decide +kernel
theorem dX6_drop_6 : decode cX6_drop 6 = .ok (.aload_n 3, 1) := by decide +kernel
theorem dX6_drop_7 : decode cX6_drop 7 = .ok (.ifnonnull 6, 3) := by decide +kernel
theorem dX6_drop_10 : decode cX6_drop 10 = .ok (.bipush (-101), 2) := by decide +kernel
theorem dX6_drop_12 : decode cX6_drop 12 = .ok (.ireturn, 1) := by decide +kernel
theorem dX6_drop_13 : decode cX6_drop 13 = .ok (.aload_n 3, 1) := by decide +kernel
theorem dX6_drop_14 : decode cX6_drop 14 = .ok (.iload_n 2, 1) := by decide +kernel
theorem dX6_drop_15 : decode cX6_drop 15 = .ok (.invokevirtual 83, 3) := by decide +kernel
theorem dX6_drop_18 : decode cX6_drop 18 = .ok (.astore 4, 2) := by decide +kernel
theorem dX6_drop_20 : decode cX6_drop 20 = .ok (.aload 4, 2) := by decide +kernel
theorem dX6_drop_22 : decode cX6_drop 22 = .ok (.ifnonnull 10, 3) := by decide +kernel
theorem dX6_drop_25 : decode cX6_drop 25 = .ok (.aload_n 3, 1) := by decide +kernel
theorem dX6_drop_26 : decode cX6_drop 26 = .ok (.bipush 104, 2) := by decide +kernel
theorem dX6_drop_28 : decode cX6_drop 28 = .ok (.invokevirtual 59, 3) := by decide +kernel
theorem dX6_drop_31 : decode cX6_drop 31 = .ok (.ireturn, 1) := by decide +kernel
theorem dX6_drop_32 : decode cX6_drop 32 = .ok (.aload 4, 2) := by decide +kernel
theorem dX6_drop_34 : decode cX6_drop 34 = .ok (.invokevirtual 158, 3) := by decide +kernel
theorem dX6_drop_37 : decode cX6_drop 37 = .ok (.iconst 1, 1) := by decide +kernel
theorem dX6_drop_38 : decode cX6_drop 38 = .ok (.ireturn, 1) := by decide +kernel
theorem dX6_close_0 : decode cX6_close 0 = .ok (.aload_n 0, 1) := by decide +kernel
theorem dX6_close_1 : decode cX6_close 1 = .ok (.iload_n 1, 1) := by decide +kernel
theorem dX6_close_2 : decode cX6_close 2 = .ok (.invokevirtual 51, 3) := by decide +kernel
theorem dX6_close_5 : decode cX6_close 5 = .ok (.astore_n 2, 1) := by decide +kernel
theorem dX6_close_6 : decode cX6_close 6 = .ok (.aload_n 2, 1) := by decide +kernel
theorem dX6_close_7 : decode cX6_close 7 = .ok (.ifnonnull 6, 3) := by decide +kernel
theorem dX6_close_10 : decode cX6_close 10 = .ok (.bipush (-101), 2) := by decide +kernel
theorem dX6_close_12 : decode cX6_close 12 = .ok (.ireturn, 1) := by decide +kernel
theorem dX6_close_13 : decode cX6_close 13 = .ok (.aload_n 2, 1) := by decide +kernel
theorem dX6_close_14 : decode cX6_close 14 = .ok (.invokevirtual 161, 3) := by decide +kernel
theorem dX6_close_17 : decode cX6_close 17 = .ok (.istore_n 3, 1) := by decide +kernel
theorem dX6_close_18 : decode cX6_close 18 = .ok (.aload_n 2, 1) := by decide +kernel
theorem dX6_close_19 : decode cX6_close 19 = .ok (.invokevirtual 164, 3) := by decide +kernel
theorem dX6_close_22 : decode cX6_close 22 = .ok (.iload_n 3, 1) := by decide +kernel
theorem dX6_close_23 : decode cX6_close 23 = .ok (.ireturn, 1) := by decide +kernel
theorem dX6_state_0 : decode cX6_state 0 = .ok (.iload_n 1, 1) := by decide +kernel
theorem dX6_state_1 : decode cX6_state 1 = .ok (.ifCond .lt 18, 3) := by decide +kernel
theorem dX6_state_4 : decode cX6_state 4 = .ok (.iload_n 1, 1) := by decide +kernel
theorem dX6_state_5 : decode cX6_state 5 = .ok (.bipush 8, 2) := by decide +kernel
theorem dX6_state_7 : decode cX6_state 7 = .ok (.if_icmp .ge 12, 3) := by decide +kernel
theorem dX6_state_10 : decode cX6_state 10 = .ok (.iload_n 2, 1) := by decide +kernel
theorem dX6_state_11 : decode cX6_state 11 = .ok (.ifCond .lt 8, 3) := by decide +kernel
theorem dX6_state_14 : decode cX6_state 14 = .ok (.iload_n 2, 1) := by decide +kernel
theorem dX6_state_15 : decode cX6_state 15 = .ok (.iconst 3, 1) := by decide +kernel
theorem dX6_state_16 : decode cX6_state 16 = .ok (.if_icmp .le 5, 3) := by decide +kernel
theorem dX6_state_19 : decode cX6_state 19 = .ok (.iconst (-1), 1) := by decide +kernel
theorem dX6_state_20 : decode cX6_state 20 = .ok (.ireturn, 1) := by decide +kernel
theorem dX6_state_21 : decode cX6_state 21 = .ok (.aload_n 0, 1) := by decide +kernel
theorem dX6_state_22 : decode cX6_state 22 = .ok (.iload_n 1, 1) := by decide +kernel
theorem dX6_state_23 : decode cX6_state 23 = .ok (.invokevirtual 106, 3) := by decide +kernel
theorem dX6_state_26 : decode cX6_state 26 = .ok (.astore_n 3, 1) := by decide +kernel
theorem dX6_state_27 : decode cX6_state 27 = .ok (.aload_n 3, 1) := by decide +kernel
theorem dX6_state_28 : decode cX6_state 28 = .ok (.ifnonnull 7, 3) := by decide +kernel
theorem dX6_state_31 : decode cX6_state 31 = .ok (.iconst 0, 1) := by decide +kernel
theorem dX6_state_32 : decode cX6_state 32 = .ok (.goto 8, 3) := by decide +kernel
theorem dX6_state_35 : decode cX6_state 35 = .ok (.aload_n 3, 1) := by decide +kernel
theorem dX6_state_36 : decode cX6_state 36 = .ok (.iload_n 2, 1) := by decide +kernel
theorem dX6_state_37 : decode cX6_state 37 = .ok (.invokevirtual 167, 3) := by decide +kernel
theorem dX6_state_40 : decode cX6_state 40 = .ok (.ireturn, 1) := by decide +kernel
theorem dX6_everOpened_0 : decode cX6_everOpened 0 = .ok (.iload_n 1, 1) := by decide +kernel
theorem dX6_everOpened_1 : decode cX6_everOpened 1 = .ok (.ifCond .lt 20, 3) := by decide +kernel
theorem dX6_everOpened_4 : decode cX6_everOpened 4 = .ok (.iload_n 1, 1) := by decide +kernel
theorem dX6_everOpened_5 : decode cX6_everOpened 5 = .ok (.aload_n 0, 1) := by decide +kernel
theorem dX6_everOpened_6 : decode cX6_everOpened 6 = .ok (.getfield 29, 3) := by decide +kernel
theorem dX6_everOpened_9 : decode cX6_everOpened 9 = .ok (.if_icmp .ge 12, 3) := by decide +kernel
theorem dX6_everOpened_12 : decode cX6_everOpened 12 = .ok (.aload_n 0, 1) := by decide +kernel
theorem dX6_everOpened_13 : decode cX6_everOpened 13 = .ok (.getfield 25, 3) := by decide +kernel
theorem dX6_everOpened_16 : decode cX6_everOpened 16 = .ok (.iload_n 1, 1) := by decide +kernel
theorem dX6_everOpened_17 : decode cX6_everOpened 17 = .ok (.aaload, 1) := by decide +kernel
theorem dX6_everOpened_18 : decode cX6_everOpened 18 = .ok (.goto 4, 3) := by decide +kernel
theorem dX6_everOpened_21 : decode cX6_everOpened 21 = .ok (.aconst_null, 1) := by decide +kernel
theorem dX6_everOpened_22 : decode cX6_everOpened 22 = .ok (.areturn, 1) := by decide +kernel
theorem dX6_openSession_0 : decode cX6_openSession 0 = .ok (.aload_n 0, 1) := by decide +kernel
theorem dX6_openSession_1 : decode cX6_openSession 1 = .ok (.iload_n 1, 1) := by decide +kernel
theorem dX6_openSession_2 : decode cX6_openSession 2 = .ok (.invokevirtual 106, 3) := by decide +kernel
theorem dX6_openSession_5 : decode cX6_openSession 5 = .ok (.astore_n 2, 1) := by decide +kernel
theorem dX6_openSession_6 : decode cX6_openSession 6 = .ok (.aload_n 2, 1) := by decide +kernel
theorem dX6_openSession_7 : decode cX6_openSession 7 = .ok (.ifnull 14, 3) := by decide +kernel
theorem dX6_openSession_10 : decode cX6_openSession 10 = .ok (.aload_n 2, 1) := by decide +kernel
theorem dX6_openSession_11 : decode cX6_openSession 11 = .ok (.invokevirtual 169, 3) := by decide +kernel
theorem dX6_openSession_14 : decode cX6_openSession 14 = .ok (.ifCond .eq 7, 3) := by decide +kernel
theorem dX6_openSession_17 : decode cX6_openSession 17 = .ok (.aload_n 2, 1) := by decide +kernel
theorem dX6_openSession_18 : decode cX6_openSession 18 = .ok (.goto 4, 3) := by decide +kernel
theorem dX6_openSession_21 : decode cX6_openSession 21 = .ok (.aconst_null, 1) := by decide +kernel
theorem dX6_openSession_22 : decode cX6_openSession 22 = .ok (.areturn, 1) := by decide +kernel
theorem dX6_stepBack_0 : decode cX6_stepBack 0 = .ok (.iload_n 2, 1) := by decide +kernel
theorem dX6_stepBack_1 : decode cX6_stepBack 1 = .ok (.istore 4, 2) := by decide +kernel
theorem dX6_stepBack_3 : decode cX6_stepBack 3 = .ok (.iconst 0, 1) := by decide +kernel
theorem dX6_stepBack_4 : decode cX6_stepBack 4 = .ok (.istore 5, 2) := by decide +kernel
theorem dX6_stepBack_6 : decode cX6_stepBack 6 = .ok (.iload 5, 2) := by decide +kernel
theorem dX6_stepBack_8 : decode cX6_stepBack 8 = .ok (.iload_n 3, 1) := by decide +kernel
theorem dX6_stepBack_9 : decode cX6_stepBack 9 = .ok (.if_icmp .ge 34, 3) := by decide +kernel
theorem dX6_stepBack_12 : decode cX6_stepBack 12 = .ok (.aload_n 0, 1) := by decide +kernel
theorem dX6_stepBack_13 : decode cX6_stepBack 13 = .ok (.getfield 10, 3) := by decide +kernel
theorem dX6_stepBack_16 : decode cX6_stepBack 16 = .ok (.iload_n 1, 1) := by decide +kernel
theorem dX6_stepBack_17 : decode cX6_stepBack 17 = .ok (.iload 4, 2) := by decide +kernel
theorem dX6_stepBack_19 : decode cX6_stepBack 19 = .ok (.invokevirtual 173, 3) := by decide +kernel
theorem dX6_stepBack_22 : decode cX6_stepBack 22 = .ok (.istore 6, 2) := by decide +kernel
theorem dX6_stepBack_24 : decode cX6_stepBack 24 = .ok (.iload 6, 2) := by decide +kernel
theorem dX6_stepBack_26 : decode cX6_stepBack 26 = .ok (.iconst (-1), 1) := by decide +kernel
theorem dX6_stepBack_27 : decode cX6_stepBack 27 = .ok (.if_icmp .ne 6, 3) := by decide +kernel
theorem dX6_stepBack_30 : decode cX6_stepBack 30 = .ok (.iload 4, 2) := by decide +kernel
theorem dX6_stepBack_32 : decode cX6_stepBack 32 = .ok (.ireturn, 1) := by decide +kernel
theorem dX6_stepBack_33 : decode cX6_stepBack 33 = .ok (.iload 6, 2) := by decide +kernel
theorem dX6_stepBack_35 : decode cX6_stepBack 35 = .ok (.istore 4, 2) := by decide +kernel
theorem dX6_stepBack_37 : decode cX6_stepBack 37 = .ok (.iinc 5 1, 3) := by decide +kernel
theorem dX6_stepBack_40 : decode cX6_stepBack 40 = .ok (.goto (-34), 3) := by decide +kernel
theorem dX6_stepBack_43 : decode cX6_stepBack 43 = .ok (.iload 4, 2) := by decide +kernel
theorem dX6_stepBack_45 : decode cX6_stepBack 45 = .ok (.ireturn, 1) := by decide +kernel
theorem dX6_isIndex_0 : decode cX6_isIndex 0 = .ok (.iload_n 0, 1) := by decide +kernel
theorem dX6_isIndex_1 : decode cX6_isIndex 1 = .ok (.ifCond .lt 12, 3) := by decide +kernel
theorem dX6_isIndex_4 : decode cX6_isIndex 4 = .ok (.iload_n 0, 1) := by decide +kernel
theorem dX6_isIndex_5 : decode cX6_isIndex 5 = .ok (.iconst 5, 1) := by decide +kernel
theorem dX6_isIndex_6 : decode cX6_isIndex 6 = .ok (.if_icmp .ge 7, 3) := by decide +kernel
theorem dX6_isIndex_9 : decode cX6_isIndex 9 = .ok (.iconst 1, 1) := by decide +kernel
theorem dX6_isIndex_10 : decode cX6_isIndex 10 = .ok (.goto 4, 3) := by decide +kernel
theorem dX6_isIndex_13 : decode cX6_isIndex 13 = .ok (.iconst 0, 1) := by decide +kernel
theorem dX6_isIndex_14 : decode cX6_isIndex 14 = .ok (.ireturn, 1) := by decide +kernel
theorem dX6_isTerm_0 : decode cX6_isTerm 0 = .ok (.iload_n 0, 1) := by decide +kernel
theorem dX6_isTerm_1 : decode cX6_isTerm 1 = .ok (.ifCond .lt 14, 3) := by decide +kernel
theorem dX6_isTerm_4 : decode cX6_isTerm 4 = .ok (.iload_n 0, 1) := by decide +kernel
theorem dX6_isTerm_5 : decode cX6_isTerm 5 = .ok (.sipush 999, 3) := by decide +kernel
theorem dX6_isTerm_8 : decode cX6_isTerm 8 = .ok (.if_icmp .gt 7, 3) := by decide +kernel
theorem dX6_isTerm_11 : decode cX6_isTerm 11 = .ok (.iconst 1, 1) := by decide +kernel
theorem dX6_isTerm_12 : decode cX6_isTerm 12 = .ok (.goto 4, 3) := by decide +kernel
theorem dX6_isTerm_15 : decode cX6_isTerm 15 = .ok (.iconst 0, 1) := by decide +kernel
theorem dX6_isTerm_16 : decode cX6_isTerm 16 = .ok (.ireturn, 1) := by decide +kernel
