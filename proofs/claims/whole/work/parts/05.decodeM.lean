theorem dM_init_0 : decode cM_init 0 = .ok (.aload_n 0, 1) := by decide +kernel
theorem dM_init_1 : decode cM_init 1 = .ok (.invokespecial 1, 3) := by decide +kernel
theorem dM_init_4 : decode cM_init 4 = .ok (.aload_n 0, 1) := by decide +kernel
theorem dM_init_5 : decode cM_init 5 = .ok (.sipush 400, 3) := by decide +kernel
theorem dM_init_8 : decode cM_init 8 = .ok (.newarray .int, 2) := by decide +kernel
theorem dM_init_10 : decode cM_init 10 = .ok (.putfield 7, 3) := by decide +kernel
theorem dM_init_13 : decode cM_init 13 = .ok (.aload_n 0, 1) := by decide +kernel
theorem dM_init_14 : decode cM_init 14 = .ok (.sipush 400, 3) := by decide +kernel
theorem dM_init_17 : decode cM_init 17 = .ok (.newarray .int, 2) := by decide +kernel
theorem dM_init_19 : decode cM_init 19 = .ok (.putfield 13, 3) := by decide +kernel
theorem dM_init_22 : decode cM_init 22 = .ok (.aload_n 0, 1) := by decide +kernel
theorem dM_init_23 : decode cM_init 23 = .ok (.sipush 400, 3) := by decide +kernel
theorem dM_init_26 : decode cM_init 26 = .ok (.newarray .int, 2) := by decide +kernel
theorem dM_init_28 : decode cM_init 28 = .ok (.putfield 16, 3) := by decide +kernel
theorem dM_init_31 : decode cM_init 31 = .ok (.aload_n 0, 1) := by decide +kernel
theorem dM_init_32 : decode cM_init 32 = .ok (.iconst 5, 1) := by decide +kernel
theorem dM_init_33 : decode cM_init 33 = .ok (.newarray .int, 2) := by decide +kernel
theorem dM_init_35 : decode cM_init 35 = .ok (.putfield 19, 3) := by decide +kernel
theorem dM_init_38 : decode cM_init 38 = .ok (.aload_n 0, 1) := by decide +kernel
theorem dM_init_39 : decode cM_init 39 = .ok (.iconst 5, 1) := by decide +kernel
theorem dM_init_40 : decode cM_init 40 = .ok (.newarray .int, 2) := by decide +kernel
theorem dM_init_42 : decode cM_init 42 = .ok (.putfield 22, 3) := by decide +kernel
theorem dM_init_45 : decode cM_init 45 = .ok (.aload_n 0, 1) := by decide +kernel
theorem dM_init_46 : decode cM_init 46 = .ok (.iconst 5, 1) := by decide +kernel
theorem dM_init_47 : decode cM_init 47 = .ok (.newarray .int, 2) := by decide +kernel
theorem dM_init_49 : decode cM_init 49 = .ok (.putfield 25, 3) := by decide +kernel
theorem dM_init_52 : decode cM_init 52 = .ok (.aload_n 0, 1) := by decide +kernel
theorem dM_init_53 : decode cM_init 53 = .ok (.iconst 5, 1) := by decide +kernel
theorem dM_init_54 : decode cM_init 54 = .ok (.newarray .boolean, 2) := by decide +kernel
theorem dM_init_56 : decode cM_init 56 = .ok (.putfield 28, 3) := by decide +kernel
theorem dM_init_59 : decode cM_init 59 = .ok (.aload_n 0, 1) := by decide +kernel
theorem dM_init_60 : decode cM_init 60 = .ok (.bipush 80, 2) := by decide +kernel
theorem dM_init_62 : decode cM_init 62 = .ok (.newarray .int, 2) := by decide +kernel
theorem dM_init_64 : decode cM_init 64 = .ok (.putfield 32, 3) := by decide +kernel
theorem dM_init_67 : decode cM_init 67 = .ok (.aload_n 0, 1) := by decide +kernel
theorem dM_init_68 : decode cM_init 68 = .ok (.bipush 16, 2) := by decide +kernel
theorem dM_init_70 : decode cM_init 70 = .ok (.newarray .int, 2) := by decide +kernel
theorem dM_init_72 : decode cM_init 72 = .ok (.putfield 35, 3) := by decide +kernel
theorem dM_init_75 : decode cM_init 75 = .ok (.aload_n 0, 1) := by decide +kernel
theorem dM_init_76 : decode cM_init 76 = .ok (.bipush 16, 2) := by decide +kernel
theorem dM_init_78 : decode cM_init 78 = .ok (.newarray .int, 2) := by decide +kernel
theorem dM_init_80 : decode cM_init 80 = .ok (.putfield 38, 3) := by decide +kernel
theorem dM_init_83 : decode cM_init 83 = .ok (.return_, 1) := by decide +kernel
theorem dM_thrown_0 : decode cM_thrown 0 = .ok (.aload_n 0, 1) := by decide +kernel
theorem dM_thrown_1 : decode cM_thrown 1 = .ok (.getfield 41, 3) := by decide +kernel
theorem dM_thrown_4 : decode cM_thrown 4 = .ok (.ireturn, 1) := by decide +kernel
theorem dM_refuse_0 : decode cM_refuse 0 = .ok (.aload_n 0, 1) := by decide +kernel
theorem dM_refuse_1 : decode cM_refuse 1 = .ok (.iload_n 1, 1) := by decide +kernel
theorem dM_refuse_2 : decode cM_refuse 2 = .ok (.ifCond .eq 7, 3) := by decide +kernel
theorem dM_refuse_5 : decode cM_refuse 5 = .ok (.iconst 1, 1) := by decide +kernel
theorem dM_refuse_6 : decode cM_refuse 6 = .ok (.goto 20, 3) := by decide +kernel
theorem dM_refuse_9 : decode cM_refuse 9 = .ok (.iload_n 2, 1) := by decide +kernel
theorem dM_refuse_10 : decode cM_refuse 10 = .ok (.ifCond .eq 7, 3) := by decide +kernel
theorem dM_refuse_13 : decode cM_refuse 13 = .ok (.iconst 2, 1) := by decide +kernel
theorem dM_refuse_14 : decode cM_refuse 14 = .ok (.goto 12, 3) := by decide +kernel
theorem dM_refuse_17 : decode cM_refuse 17 = .ok (.iload_n 3, 1) := by decide +kernel
theorem dM_refuse_18 : decode cM_refuse 18 = .ok (.ifCond .eq 7, 3) := by decide +kernel
theorem dM_refuse_21 : decode cM_refuse 21 = .ok (.iconst 3, 1) := by decide +kernel
theorem dM_refuse_22 : decode cM_refuse 22 = .ok (.goto 4, 3) := by decide +kernel
theorem dM_refuse_25 : decode cM_refuse 25 = .ok (.iconst 0, 1) := by decide +kernel
theorem dM_refuse_26 : decode cM_refuse 26 = .ok (.putfield 41, 3) := by decide +kernel
theorem dM_refuse_29 : decode cM_refuse 29 = .ok (.aload_n 0, 1) := by decide +kernel
theorem dM_refuse_30 : decode cM_refuse 30 = .ok (.getfield 41, 3) := by decide +kernel
theorem dM_refuse_33 : decode cM_refuse 33 = .ok (.ifCond .le 7, 3) := by decide +kernel
theorem dM_refuse_36 : decode cM_refuse 36 = .ok (.iconst 1, 1) := by decide +kernel
theorem dM_refuse_37 : decode cM_refuse 37 = .ok (.goto 4, 3) := by decide +kernel
theorem dM_refuse_40 : decode cM_refuse 40 = .ok (.iconst 0, 1) := by decide +kernel
theorem dM_refuse_41 : decode cM_refuse 41 = .ok (.ireturn, 1) := by decide +kernel
theorem dM_in_0 : decode cM_in 0 = .ok (.iload_n 0, 1) := by decide +kernel
theorem dM_in_1 : decode cM_in 1 = .ok (.iload_n 1, 1) := by decide +kernel
theorem dM_in_2 : decode cM_in 2 = .ok (.if_icmp .lt 12, 3) := by decide +kernel
theorem dM_in_5 : decode cM_in 5 = .ok (.iload_n 0, 1) := by decide +kernel
theorem dM_in_6 : decode cM_in 6 = .ok (.iload_n 2, 1) := by decide +kernel
theorem dM_in_7 : decode cM_in 7 = .ok (.if_icmp .gt 7, 3) := by decide +kernel
theorem dM_in_10 : decode cM_in 10 = .ok (.iconst 1, 1) := by decide +kernel
theorem dM_in_11 : decode cM_in 11 = .ok (.goto 4, 3) := by decide +kernel
theorem dM_in_14 : decode cM_in 14 = .ok (.iconst 0, 1) := by decide +kernel
theorem dM_in_15 : decode cM_in 15 = .ok (.ireturn, 1) := by decide +kernel
theorem dM_event_0 : decode cM_event 0 = .ok (.iload_n 1, 1) := by decide +kernel
theorem dM_event_1 : decode cM_event 1 = .ok (.aload_n 0, 1) := by decide +kernel
theorem dM_event_2 : decode cM_event 2 = .ok (.getfield 45, 3) := by decide +kernel
theorem dM_event_5 : decode cM_event 5 = .ok (.ifCond .le 17, 3) := by decide +kernel
theorem dM_event_8 : decode cM_event 8 = .ok (.aload_n 0, 1) := by decide +kernel
theorem dM_event_9 : decode cM_event 9 = .ok (.getfield 7, 3) := by decide +kernel
theorem dM_event_12 : decode cM_event 12 = .ok (.aload_n 0, 1) := by decide +kernel
theorem dM_event_13 : decode cM_event 13 = .ok (.getfield 45, 3) := by decide +kernel
theorem dM_event_16 : decode cM_event 16 = .ok (.iconst 1, 1) := by decide +kernel
theorem dM_event_17 : decode cM_event 17 = .ok (.isub, 1) := by decide +kernel
theorem dM_event_18 : decode cM_event 18 = .ok (.iaload, 1) := by decide +kernel
theorem dM_event_19 : decode cM_event 19 = .ok (.goto 4, 3) := by decide +kernel
theorem dM_event_22 : decode cM_event 22 = .ok (.iconst 0, 1) := by decide +kernel
theorem dM_event_23 : decode cM_event 23 = .ok (.ldc 48, 2) := by decide +kernel
theorem dM_event_25 : decode cM_event 25 = .ok (.invokestatic 49, 3) := by decide +kernel
theorem dM_event_28 : decode cM_event 28 = .ok (.ifCond .eq 17, 3) := by decide +kernel
theorem dM_event_31 : decode cM_event 31 = .ok (.iload_n 2, 1) := by decide +kernel
theorem dM_event_32 : decode cM_event 32 = .ok (.iconst 0, 1) := by decide +kernel
theorem dM_event_33 : decode cM_event 33 = .ok (.bipush 7, 2) := by decide +kernel
theorem dM_event_35 : decode cM_event 35 = .ok (.invokestatic 49, 3) := by decide +kernel
theorem dM_event_38 : decode cM_event 38 = .ok (.ifCond .eq 7, 3) := by decide +kernel
theorem dM_event_41 : decode cM_event 41 = .ok (.iconst 1, 1) := by decide +kernel
theorem dM_event_42 : decode cM_event 42 = .ok (.goto 4, 3) := by decide +kernel
theorem dM_event_45 : decode cM_event 45 = .ok (.iconst 0, 1) := by decide +kernel
theorem dM_event_46 : decode cM_event 46 = .ok (.istore 4, 2) := by decide +kernel
theorem dM_event_48 : decode cM_event 48 = .ok (.aload_n 0, 1) := by decide +kernel
theorem dM_event_49 : decode cM_event 49 = .ok (.iload 4, 2) := by decide +kernel
theorem dM_event_51 : decode cM_event 51 = .ok (.ifCond .ne 7, 3) := by decide +kernel
theorem dM_event_54 : decode cM_event 54 = .ok (.iconst 1, 1) := by decide +kernel
theorem dM_event_55 : decode cM_event 55 = .ok (.goto 4, 3) := by decide +kernel
theorem dM_event_58 : decode cM_event 58 = .ok (.iconst 0, 1) := by decide +kernel
theorem dM_event_59 : decode cM_event 59 = .ok (.aload_n 0, 1) := by decide +kernel
theorem dM_event_60 : decode cM_event 60 = .ok (.getfield 45, 3) := by decide +kernel
theorem dM_event_63 : decode cM_event 63 = .ok (.sipush 400, 3) := by decide +kernel
theorem dM_event_66 : decode cM_event 66 = .ok (.if_icmp .ne 7, 3) := by decide +kernel
theorem dM_event_69 : decode cM_event 69 = .ok (.iconst 1, 1) := by decide +kernel
theorem dM_event_70 : decode cM_event 70 = .ok (.goto 4, 3) := by decide +kernel
theorem dM_event_73 : decode cM_event 73 = .ok (.iconst 0, 1) := by decide +kernel
theorem dM_event_74 : decode cM_event 74 = .ok (.iconst 0, 1) := by decide +kernel
theorem dM_event_75 : decode cM_event 75 = .ok (.invokevirtual 53, 3) := by decide +kernel
theorem dM_event_78 : decode cM_event 78 = .ok (.ifCond .eq 5, 3) := by decide +kernel
theorem dM_event_81 : decode cM_event 81 = .ok (.iconst 0, 1) := by decide +kernel
theorem dM_event_82 : decode cM_event 82 = .ok (.ireturn, 1) := by decide +kernel
theorem dM_event_83 : decode cM_event 83 = .ok (.aload_n 0, 1) := by decide +kernel
theorem dM_event_84 : decode cM_event 84 = .ok (.getfield 7, 3) := by decide +kernel
theorem dM_event_87 : decode cM_event 87 = .ok (.aload_n 0, 1) := by decide +kernel
theorem dM_event_88 : decode cM_event 88 = .ok (.getfield 45, 3) := by decide +kernel
theorem dM_event_91 : decode cM_event 91 = .ok (.iload_n 1, 1) := by decide +kernel
theorem dM_event_92 : decode cM_event 92 = .ok (.iastore, 1) := by decide +kernel
theorem dM_event_93 : decode cM_event 93 = .ok (.aload_n 0, 1) := by decide +kernel
theorem dM_event_94 : decode cM_event 94 = .ok (.getfield 13, 3) := by decide +kernel
theorem dM_event_97 : decode cM_event 97 = .ok (.aload_n 0, 1) := by decide +kernel
theorem dM_event_98 : decode cM_event 98 = .ok (.getfield 45, 3) := by decide +kernel
theorem dM_event_101 : decode cM_event 101 = .ok (.iload_n 2, 1) := by decide +kernel
theorem dM_event_102 : decode cM_event 102 = .ok (.iastore, 1) := by decide +kernel
theorem dM_event_103 : decode cM_event 103 = .ok (.aload_n 0, 1) := by decide +kernel
theorem dM_event_104 : decode cM_event 104 = .ok (.getfield 16, 3) := by decide +kernel
theorem dM_event_107 : decode cM_event 107 = .ok (.aload_n 0, 1) := by decide +kernel
theorem dM_event_108 : decode cM_event 108 = .ok (.getfield 45, 3) := by decide +kernel
theorem dM_event_111 : decode cM_event 111 = .ok (.iload_n 3, 1) := by decide +kernel
theorem dM_event_112 : decode cM_event 112 = .ok (.iastore, 1) := by decide +kernel
theorem dM_event_113 : decode cM_event 113 = .ok (.aload_n 0, 1) := by decide +kernel
theorem dM_event_114 : decode cM_event 114 = .ok (.dup, 1) := by decide +kernel
theorem dM_event_115 : decode cM_event 115 = .ok (.getfield 45, 3) := by decide +kernel
theorem dM_event_118 : decode cM_event 118 = .ok (.iconst 1, 1) := by decide +kernel
theorem dM_event_119 : decode cM_event 119 = .ok (.iadd, 1) := by decide +kernel
theorem dM_event_120 : decode cM_event 120 = .ok (.putfield 45, 3) := by decide +kernel
theorem dM_event_123 : decode cM_event 123 = .ok (.aload_n 0, 1) := by decide +kernel
theorem dM_event_124 : decode cM_event 124 = .ok (.getfield 45, 3) := by decide +kernel
theorem dM_event_127 : decode cM_event 127 = .ok (.iconst 1, 1) := by decide +kernel
theorem dM_event_128 : decode cM_event 128 = .ok (.isub, 1) := by decide +kernel
theorem dM_event_129 : decode cM_event 129 = .ok (.ireturn, 1) := by decide +kernel
theorem dM_clear_0 : decode cM_clear 0 = .ok (.aload_n 0, 1) := by decide +kernel
theorem dM_clear_1 : decode cM_clear 1 = .ok (.iconst 0, 1) := by decide +kernel
theorem dM_clear_2 : decode cM_clear 2 = .ok (.putfield 41, 3) := by decide +kernel
theorem dM_clear_5 : decode cM_clear 5 = .ok (.aload_n 0, 1) := by decide +kernel
theorem dM_clear_6 : decode cM_clear 6 = .ok (.iconst 0, 1) := by decide +kernel
theorem dM_clear_7 : decode cM_clear 7 = .ok (.putfield 45, 3) := by decide +kernel
theorem dM_clear_10 : decode cM_clear 10 = .ok (.return_, 1) := by decide +kernel
theorem dM_pattern_0 : decode cM_pattern 0 = .ok (.aload_n 0, 1) := by decide +kernel
theorem dM_pattern_1 : decode cM_pattern 1 = .ok (.iload_n 1, 1) := by decide +kernel
theorem dM_pattern_2 : decode cM_pattern 2 = .ok (.iconst 0, 1) := by decide +kernel
theorem dM_pattern_3 : decode cM_pattern 3 = .ok (.iconst 1, 1) := by decide +kernel
theorem dM_pattern_4 : decode cM_pattern 4 = .ok (.invokestatic 49, 3) := by decide +kernel
theorem dM_pattern_7 : decode cM_pattern 7 = .ok (.ifCond .eq 13, 3) := by decide +kernel
theorem dM_pattern_10 : decode cM_pattern 10 = .ok (.iload_n 2, 1) := by decide +kernel
theorem dM_pattern_11 : decode cM_pattern 11 = .ok (.iconst 0, 1) := by decide +kernel
theorem dM_pattern_12 : decode cM_pattern 12 = .ok (.ldc 48, 2) := by decide +kernel
theorem dM_pattern_14 : decode cM_pattern 14 = .ok (.invokestatic 49, 3) := by decide +kernel
theorem dM_pattern_17 : decode cM_pattern 17 = .ok (.ifCond .ne 7, 3) := by decide +kernel
theorem dM_pattern_20 : decode cM_pattern 20 = .ok (.iconst 1, 1) := by decide +kernel
theorem dM_pattern_21 : decode cM_pattern 21 = .ok (.goto 4, 3) := by decide +kernel
theorem dM_pattern_24 : decode cM_pattern 24 = .ok (.iconst 0, 1) := by decide +kernel
theorem dM_pattern_25 : decode cM_pattern 25 = .ok (.iconst 0, 1) := by decide +kernel
theorem dM_pattern_26 : decode cM_pattern 26 = .ok (.iconst 0, 1) := by decide +kernel
theorem dM_pattern_27 : decode cM_pattern 27 = .ok (.invokevirtual 53, 3) := by decide +kernel
theorem dM_pattern_30 : decode cM_pattern 30 = .ok (.ifCond .ne 18, 3) := by decide +kernel
theorem dM_pattern_33 : decode cM_pattern 33 = .ok (.aload_n 0, 1) := by decide +kernel
theorem dM_pattern_34 : decode cM_pattern 34 = .ok (.iload_n 1, 1) := by decide +kernel
theorem dM_pattern_35 : decode cM_pattern 35 = .ok (.putfield 57, 3) := by decide +kernel
theorem dM_pattern_38 : decode cM_pattern 38 = .ok (.aload_n 0, 1) := by decide +kernel
theorem dM_pattern_39 : decode cM_pattern 39 = .ok (.iload_n 2, 1) := by decide +kernel
theorem dM_pattern_40 : decode cM_pattern 40 = .ok (.putfield 60, 3) := by decide +kernel
theorem dM_pattern_43 : decode cM_pattern 43 = .ok (.aload_n 0, 1) := by decide +kernel
theorem dM_pattern_44 : decode cM_pattern 44 = .ok (.iconst 0, 1) := by decide +kernel
theorem dM_pattern_45 : decode cM_pattern 45 = .ok (.putfield 63, 3) := by decide +kernel
theorem dM_pattern_48 : decode cM_pattern 48 = .ok (.return_, 1) := by decide +kernel
theorem dM_step_0 : decode cM_step 0 = .ok (.iload_n 1, 1) := by decide +kernel
theorem dM_step_1 : decode cM_step 1 = .ok (.iconst 1, 1) := by decide +kernel
theorem dM_step_2 : decode cM_step 2 = .ok (.sipush 255, 3) := by decide +kernel
theorem dM_step_5 : decode cM_step 5 = .ok (.invokestatic 49, 3) := by decide +kernel
theorem dM_step_8 : decode cM_step 8 = .ok (.ifCond .eq 16, 3) := by decide +kernel
theorem dM_step_11 : decode cM_step 11 = .ok (.iload_n 2, 1) := by decide +kernel
theorem dM_step_12 : decode cM_step 12 = .ok (.iconst 0, 1) := by decide +kernel
theorem dM_step_13 : decode cM_step 13 = .ok (.iconst 4, 1) := by decide +kernel
theorem dM_step_14 : decode cM_step 14 = .ok (.invokestatic 49, 3) := by decide +kernel
theorem dM_step_17 : decode cM_step 17 = .ok (.ifCond .eq 7, 3) := by decide +kernel
theorem dM_step_20 : decode cM_step 20 = .ok (.iconst 1, 1) := by decide +kernel
theorem dM_step_21 : decode cM_step 21 = .ok (.goto 4, 3) := by decide +kernel
theorem dM_step_24 : decode cM_step 24 = .ok (.iconst 0, 1) := by decide +kernel
theorem dM_step_25 : decode cM_step 25 = .ok (.istore 5, 2) := by decide +kernel
theorem dM_step_27 : decode cM_step 27 = .ok (.aload_n 0, 1) := by decide +kernel
theorem dM_step_28 : decode cM_step 28 = .ok (.iload 5, 2) := by decide +kernel
theorem dM_step_30 : decode cM_step 30 = .ok (.ifCond .ne 7, 3) := by decide +kernel
theorem dM_step_33 : decode cM_step 33 = .ok (.iconst 1, 1) := by decide +kernel
theorem dM_step_34 : decode cM_step 34 = .ok (.goto 4, 3) := by decide +kernel
theorem dM_step_37 : decode cM_step 37 = .ok (.iconst 0, 1) := by decide +kernel
theorem dM_step_38 : decode cM_step 38 = .ok (.aload_n 0, 1) := by decide +kernel
theorem dM_step_39 : decode cM_step 39 = .ok (.getfield 63, 3) := by decide +kernel
theorem dM_step_42 : decode cM_step 42 = .ok (.iconst 5, 1) := by decide +kernel
theorem dM_step_43 : decode cM_step 43 = .ok (.if_icmp .ne 7, 3) := by decide +kernel
theorem dM_step_46 : decode cM_step 46 = .ok (.iconst 1, 1) := by decide +kernel
theorem dM_step_47 : decode cM_step 47 = .ok (.goto 4, 3) := by decide +kernel
theorem dM_step_50 : decode cM_step 50 = .ok (.iconst 0, 1) := by decide +kernel
theorem dM_step_51 : decode cM_step 51 = .ok (.iconst 0, 1) := by decide +kernel
theorem dM_step_52 : decode cM_step 52 = .ok (.invokevirtual 53, 3) := by decide +kernel
theorem dM_step_55 : decode cM_step 55 = .ok (.ifCond .eq 5, 3) := by decide +kernel
theorem dM_step_58 : decode cM_step 58 = .ok (.iconst 0, 1) := by decide +kernel
theorem dM_step_59 : decode cM_step 59 = .ok (.ireturn, 1) := by decide +kernel
theorem dM_step_60 : decode cM_step 60 = .ok (.aload_n 0, 1) := by decide +kernel
theorem dM_step_61 : decode cM_step 61 = .ok (.getfield 19, 3) := by decide +kernel
theorem dM_step_64 : decode cM_step 64 = .ok (.aload_n 0, 1) := by decide +kernel
theorem dM_step_65 : decode cM_step 65 = .ok (.getfield 63, 3) := by decide +kernel
theorem dM_step_68 : decode cM_step 68 = .ok (.iload_n 1, 1) := by decide +kernel
theorem dM_step_69 : decode cM_step 69 = .ok (.iastore, 1) := by decide +kernel
theorem dM_step_70 : decode cM_step 70 = .ok (.aload_n 0, 1) := by decide +kernel
theorem dM_step_71 : decode cM_step 71 = .ok (.getfield 22, 3) := by decide +kernel
theorem dM_step_74 : decode cM_step 74 = .ok (.aload_n 0, 1) := by decide +kernel
theorem dM_step_75 : decode cM_step 75 = .ok (.getfield 63, 3) := by decide +kernel
theorem dM_step_78 : decode cM_step 78 = .ok (.iload_n 2, 1) := by decide +kernel
theorem dM_step_79 : decode cM_step 79 = .ok (.iastore, 1) := by decide +kernel
theorem dM_step_80 : decode cM_step 80 = .ok (.aload_n 0, 1) := by decide +kernel
theorem dM_step_81 : decode cM_step 81 = .ok (.getfield 25, 3) := by decide +kernel
theorem dM_step_84 : decode cM_step 84 = .ok (.aload_n 0, 1) := by decide +kernel
theorem dM_step_85 : decode cM_step 85 = .ok (.getfield 63, 3) := by decide +kernel
theorem dM_step_88 : decode cM_step 88 = .ok (.iload_n 3, 1) := by decide +kernel
theorem dM_step_89 : decode cM_step 89 = .ok (.iastore, 1) := by decide +kernel
theorem dM_step_90 : decode cM_step 90 = .ok (.aload_n 0, 1) := by decide +kernel
theorem dM_step_91 : decode cM_step 91 = .ok (.getfield 28, 3) := by decide +kernel
theorem dM_step_94 : decode cM_step 94 = .ok (.aload_n 0, 1) := by decide +kernel
theorem dM_step_95 : decode cM_step 95 = .ok (.getfield 63, 3) := by decide +kernel
theorem dM_step_98 : decode cM_step 98 = .ok (.iload 4, 2) := by decide +kernel
theorem dM_step_100 : decode cM_step 100 = .ok (.bastore, 1) := by decide +kernel
theorem dM_step_101 : decode cM_step 101 = .ok (.aload_n 0, 1) := by decide +kernel
theorem dM_step_102 : decode cM_step 102 = .ok (.dup, 1) := by decide +kernel
theorem dM_step_103 : decode cM_step 103 = .ok (.getfield 63, 3) := by decide +kernel
theorem dM_step_106 : decode cM_step 106 = .ok (.iconst 1, 1) := by decide +kernel
theorem dM_step_107 : decode cM_step 107 = .ok (.iadd, 1) := by decide +kernel
theorem dM_step_108 : decode cM_step 108 = .ok (.putfield 63, 3) := by decide +kernel
theorem dM_step_111 : decode cM_step 111 = .ok (.aload_n 0, 1) := by decide +kernel
theorem dM_step_112 : decode cM_step 112 = .ok (.getfield 63, 3) := by decide +kernel
theorem dM_step_115 : decode cM_step 115 = .ok (.iconst 1, 1) := by decide +kernel
theorem dM_step_116 : decode cM_step 116 = .ok (.isub, 1) := by decide +kernel
theorem dM_step_117 : decode cM_step 117 = .ok (.ireturn, 1) := by decide +kernel
theorem dM_from_0 : decode cM_from 0 = .ok (.aload_n 0, 1) := by decide +kernel
theorem dM_from_1 : decode cM_from 1 = .ok (.getfield 45, 3) := by decide +kernel
theorem dM_from_4 : decode cM_from 4 = .ok (.bipush 16, 2) := by decide +kernel
theorem dM_from_6 : decode cM_from 6 = .ok (.if_icmp .le 13, 3) := by decide +kernel
theorem dM_from_9 : decode cM_from 9 = .ok (.aload_n 0, 1) := by decide +kernel
theorem dM_from_10 : decode cM_from 10 = .ok (.getfield 45, 3) := by decide +kernel
theorem dM_from_13 : decode cM_from 13 = .ok (.bipush 16, 2) := by decide +kernel
theorem dM_from_15 : decode cM_from 15 = .ok (.isub, 1) := by decide +kernel
theorem dM_from_16 : decode cM_from 16 = .ok (.goto 4, 3) := by decide +kernel
theorem dM_from_19 : decode cM_from 19 = .ok (.iconst 0, 1) := by decide +kernel
theorem dM_from_20 : decode cM_from 20 = .ok (.ireturn, 1) := by decide +kernel
theorem dM_fits_0 : decode cM_fits 0 = .ok (.aload_n 0, 1) := by decide +kernel
theorem dM_fits_1 : decode cM_fits 1 = .ok (.getfield 19, 3) := by decide +kernel
theorem dM_fits_4 : decode cM_fits 4 = .ok (.iload_n 2, 1) := by decide +kernel
theorem dM_fits_5 : decode cM_fits 5 = .ok (.iaload, 1) := by decide +kernel
theorem dM_fits_6 : decode cM_fits 6 = .ok (.aload_n 0, 1) := by decide +kernel
theorem dM_fits_7 : decode cM_fits 7 = .ok (.getfield 13, 3) := by decide +kernel
theorem dM_fits_10 : decode cM_fits 10 = .ok (.iload_n 1, 1) := by decide +kernel
theorem dM_fits_11 : decode cM_fits 11 = .ok (.iaload, 1) := by decide +kernel
theorem dM_fits_12 : decode cM_fits 12 = .ok (.ishr, 1) := by decide +kernel
theorem dM_fits_13 : decode cM_fits 13 = .ok (.iconst 1, 1) := by decide +kernel
theorem dM_fits_14 : decode cM_fits 14 = .ok (.iand, 1) := by decide +kernel
theorem dM_fits_15 : decode cM_fits 15 = .ok (.iconst 1, 1) := by decide +kernel
theorem dM_fits_16 : decode cM_fits 16 = .ok (.if_icmp .ne 28, 3) := by decide +kernel
theorem dM_fits_19 : decode cM_fits 19 = .ok (.aload_n 0, 1) := by decide +kernel
theorem dM_fits_20 : decode cM_fits 20 = .ok (.getfield 7, 3) := by decide +kernel
theorem dM_fits_23 : decode cM_fits 23 = .ok (.iload_n 1, 1) := by decide +kernel
theorem dM_fits_24 : decode cM_fits 24 = .ok (.iaload, 1) := by decide +kernel
theorem dM_fits_25 : decode cM_fits 25 = .ok (.aload_n 0, 1) := by decide +kernel
theorem dM_fits_26 : decode cM_fits 26 = .ok (.getfield 7, 3) := by decide +kernel
theorem dM_fits_29 : decode cM_fits 29 = .ok (.iload 4, 2) := by decide +kernel
theorem dM_fits_31 : decode cM_fits 31 = .ok (.iaload, 1) := by decide +kernel
theorem dM_fits_32 : decode cM_fits 32 = .ok (.isub, 1) := by decide +kernel
theorem dM_fits_33 : decode cM_fits 33 = .ok (.aload_n 0, 1) := by decide +kernel
theorem dM_fits_34 : decode cM_fits 34 = .ok (.getfield 60, 3) := by decide +kernel
theorem dM_fits_37 : decode cM_fits 37 = .ok (.if_icmp .gt 7, 3) := by decide +kernel
theorem dM_fits_40 : decode cM_fits 40 = .ok (.iconst 1, 1) := by decide +kernel
theorem dM_fits_41 : decode cM_fits 41 = .ok (.goto 4, 3) := by decide +kernel
theorem dM_fits_44 : decode cM_fits 44 = .ok (.iconst 0, 1) := by decide +kernel
theorem dM_fits_45 : decode cM_fits 45 = .ok (.istore 5, 2) := by decide +kernel
theorem dM_fits_47 : decode cM_fits 47 = .ok (.aload_n 0, 1) := by decide +kernel
theorem dM_fits_48 : decode cM_fits 48 = .ok (.getfield 22, 3) := by decide +kernel
theorem dM_fits_51 : decode cM_fits 51 = .ok (.iload_n 2, 1) := by decide +kernel
theorem dM_fits_52 : decode cM_fits 52 = .ok (.iaload, 1) := by decide +kernel
theorem dM_fits_53 : decode cM_fits 53 = .ok (.tableswitch 144 1 4 #[31, 61, 91, 118], 31) := by decide +kernel
theorem dM_fits_84 : decode cM_fits 84 = .ok (.iload 5, 2) := by decide +kernel
theorem dM_fits_86 : decode cM_fits 86 = .ok (.ifCond .eq 26, 3) := by decide +kernel
theorem dM_fits_89 : decode cM_fits 89 = .ok (.iload_n 3, 1) := by decide +kernel
theorem dM_fits_90 : decode cM_fits 90 = .ok (.ifCond .lt 18, 3) := by decide +kernel
theorem dM_fits_93 : decode cM_fits 93 = .ok (.aload_n 0, 1) := by decide +kernel
theorem dM_fits_94 : decode cM_fits 94 = .ok (.getfield 16, 3) := by decide +kernel
theorem dM_fits_97 : decode cM_fits 97 = .ok (.iload_n 1, 1) := by decide +kernel
theorem dM_fits_98 : decode cM_fits 98 = .ok (.iaload, 1) := by decide +kernel
theorem dM_fits_99 : decode cM_fits 99 = .ok (.aload_n 0, 1) := by decide +kernel
theorem dM_fits_100 : decode cM_fits 100 = .ok (.getfield 16, 3) := by decide +kernel
theorem dM_fits_103 : decode cM_fits 103 = .ok (.iload_n 3, 1) := by decide +kernel
theorem dM_fits_104 : decode cM_fits 104 = .ok (.iaload, 1) := by decide +kernel
theorem dM_fits_105 : decode cM_fits 105 = .ok (.if_icmp .le 7, 3) := by decide +kernel
theorem dM_fits_108 : decode cM_fits 108 = .ok (.iconst 1, 1) := by decide +kernel
theorem dM_fits_109 : decode cM_fits 109 = .ok (.goto 4, 3) := by decide +kernel
theorem dM_fits_112 : decode cM_fits 112 = .ok (.iconst 0, 1) := by decide +kernel
theorem dM_fits_113 : decode cM_fits 113 = .ok (.ireturn, 1) := by decide +kernel
theorem dM_fits_114 : decode cM_fits 114 = .ok (.iload 5, 2) := by decide +kernel
theorem dM_fits_116 : decode cM_fits 116 = .ok (.ifCond .eq 26, 3) := by decide +kernel
theorem dM_fits_119 : decode cM_fits 119 = .ok (.iload_n 3, 1) := by decide +kernel
theorem dM_fits_120 : decode cM_fits 120 = .ok (.ifCond .lt 18, 3) := by decide +kernel
theorem dM_fits_123 : decode cM_fits 123 = .ok (.aload_n 0, 1) := by decide +kernel
theorem dM_fits_124 : decode cM_fits 124 = .ok (.getfield 16, 3) := by decide +kernel
theorem dM_fits_127 : decode cM_fits 127 = .ok (.iload_n 1, 1) := by decide +kernel
theorem dM_fits_128 : decode cM_fits 128 = .ok (.iaload, 1) := by decide +kernel
theorem dM_fits_129 : decode cM_fits 129 = .ok (.aload_n 0, 1) := by decide +kernel
theorem dM_fits_130 : decode cM_fits 130 = .ok (.getfield 16, 3) := by decide +kernel
theorem dM_fits_133 : decode cM_fits 133 = .ok (.iload_n 3, 1) := by decide +kernel
theorem dM_fits_134 : decode cM_fits 134 = .ok (.iaload, 1) := by decide +kernel
theorem dM_fits_135 : decode cM_fits 135 = .ok (.if_icmp .ge 7, 3) := by decide +kernel
theorem dM_fits_138 : decode cM_fits 138 = .ok (.iconst 1, 1) := by decide +kernel
theorem dM_fits_139 : decode cM_fits 139 = .ok (.goto 4, 3) := by decide +kernel
theorem dM_fits_142 : decode cM_fits 142 = .ok (.iconst 0, 1) := by decide +kernel
theorem dM_fits_143 : decode cM_fits 143 = .ok (.ireturn, 1) := by decide +kernel
theorem dM_fits_144 : decode cM_fits 144 = .ok (.iload 5, 2) := by decide +kernel
theorem dM_fits_146 : decode cM_fits 146 = .ok (.ifCond .eq 23, 3) := by decide +kernel
theorem dM_fits_149 : decode cM_fits 149 = .ok (.aload_n 0, 1) := by decide +kernel
theorem dM_fits_150 : decode cM_fits 150 = .ok (.getfield 16, 3) := by decide +kernel
theorem dM_fits_153 : decode cM_fits 153 = .ok (.iload_n 1, 1) := by decide +kernel
theorem dM_fits_154 : decode cM_fits 154 = .ok (.iaload, 1) := by decide +kernel
theorem dM_fits_155 : decode cM_fits 155 = .ok (.aload_n 0, 1) := by decide +kernel
theorem dM_fits_156 : decode cM_fits 156 = .ok (.getfield 16, 3) := by decide +kernel
theorem dM_fits_159 : decode cM_fits 159 = .ok (.iload 4, 2) := by decide +kernel
theorem dM_fits_161 : decode cM_fits 161 = .ok (.iaload, 1) := by decide +kernel
theorem dM_fits_162 : decode cM_fits 162 = .ok (.if_icmp .ne 7, 3) := by decide +kernel
theorem dM_fits_165 : decode cM_fits 165 = .ok (.iconst 1, 1) := by decide +kernel
theorem dM_fits_166 : decode cM_fits 166 = .ok (.goto 4, 3) := by decide +kernel
theorem dM_fits_169 : decode cM_fits 169 = .ok (.iconst 0, 1) := by decide +kernel
theorem dM_fits_170 : decode cM_fits 170 = .ok (.ireturn, 1) := by decide +kernel
theorem dM_fits_171 : decode cM_fits 171 = .ok (.iload 5, 2) := by decide +kernel
theorem dM_fits_173 : decode cM_fits 173 = .ok (.ifCond .eq 22, 3) := by decide +kernel
theorem dM_fits_176 : decode cM_fits 176 = .ok (.aload_n 0, 1) := by decide +kernel
theorem dM_fits_177 : decode cM_fits 177 = .ok (.getfield 16, 3) := by decide +kernel
theorem dM_fits_180 : decode cM_fits 180 = .ok (.iload_n 1, 1) := by decide +kernel
theorem dM_fits_181 : decode cM_fits 181 = .ok (.iaload, 1) := by decide +kernel
theorem dM_fits_182 : decode cM_fits 182 = .ok (.aload_n 0, 1) := by decide +kernel
theorem dM_fits_183 : decode cM_fits 183 = .ok (.getfield 25, 3) := by decide +kernel
theorem dM_fits_186 : decode cM_fits 186 = .ok (.iload_n 2, 1) := by decide +kernel
theorem dM_fits_187 : decode cM_fits 187 = .ok (.iaload, 1) := by decide +kernel
theorem dM_fits_188 : decode cM_fits 188 = .ok (.if_icmp .lt 7, 3) := by decide +kernel
theorem dM_fits_191 : decode cM_fits 191 = .ok (.iconst 1, 1) := by decide +kernel
theorem dM_fits_192 : decode cM_fits 192 = .ok (.goto 4, 3) := by decide +kernel
theorem dM_fits_195 : decode cM_fits 195 = .ok (.iconst 0, 1) := by decide +kernel
theorem dM_fits_196 : decode cM_fits 196 = .ok (.ireturn, 1) := by decide +kernel
theorem dM_fits_197 : decode cM_fits 197 = .ok (.iload 5, 2) := by decide +kernel
theorem dM_fits_199 : decode cM_fits 199 = .ok (.ireturn, 1) := by decide +kernel
theorem dM_waysFrom_0 : decode cM_waysFrom 0 = .ok (.aload_n 0, 1) := by decide +kernel
theorem dM_waysFrom_1 : decode cM_waysFrom 1 = .ok (.invokevirtual 66, 3) := by decide +kernel
theorem dM_waysFrom_4 : decode cM_waysFrom 4 = .ok (.istore 5, 2) := by decide +kernel
theorem dM_waysFrom_6 : decode cM_waysFrom 6 = .ok (.iconst 0, 1) := by decide +kernel
theorem dM_waysFrom_7 : decode cM_waysFrom 7 = .ok (.istore 6, 2) := by decide +kernel
theorem dM_waysFrom_9 : decode cM_waysFrom 9 = .ok (.iload 6, 2) := by decide +kernel
theorem dM_waysFrom_11 : decode cM_waysFrom 11 = .ok (.bipush 80, 2) := by decide +kernel
theorem dM_waysFrom_13 : decode cM_waysFrom 13 = .ok (.if_icmp .ge 17, 3) := by decide +kernel
theorem dM_waysFrom_16 : decode cM_waysFrom 16 = .ok (.aload_n 0, 1) := by decide +kernel
theorem dM_waysFrom_17 : decode cM_waysFrom 17 = .ok (.getfield 32, 3) := by decide +kernel
theorem dM_waysFrom_20 : decode cM_waysFrom 20 = .ok (.iload 6, 2) := by decide +kernel
theorem dM_waysFrom_22 : decode cM_waysFrom 22 = .ok (.iconst 0, 1) := by decide +kernel
theorem dM_waysFrom_23 : decode cM_waysFrom 23 = .ok (.iastore, 1) := by decide +kernel
theorem dM_waysFrom_24 : decode cM_waysFrom 24 = .ok (.iinc 6 1, 3) := by decide +kernel
theorem dM_waysFrom_27 : decode cM_waysFrom 27 = .ok (.goto (-18), 3) := by decide +kernel
theorem dM_waysFrom_30 : decode cM_waysFrom 30 = .ok (.aload_n 0, 1) := by decide +kernel
theorem dM_waysFrom_31 : decode cM_waysFrom 31 = .ok (.getfield 32, 3) := by decide +kernel
theorem dM_waysFrom_34 : decode cM_waysFrom 34 = .ok (.iconst 5, 1) := by decide +kernel
theorem dM_waysFrom_35 : decode cM_waysFrom 35 = .ok (.iload_n 2, 1) := by decide +kernel
theorem dM_waysFrom_36 : decode cM_waysFrom 36 = .ok (.iload 5, 2) := by decide +kernel
theorem dM_waysFrom_38 : decode cM_waysFrom 38 = .ok (.isub, 1) := by decide +kernel
theorem dM_waysFrom_39 : decode cM_waysFrom 39 = .ok (.imul, 1) := by decide +kernel
theorem dM_waysFrom_40 : decode cM_waysFrom 40 = .ok (.iload_n 3, 1) := by decide +kernel
theorem dM_waysFrom_41 : decode cM_waysFrom 41 = .ok (.iadd, 1) := by decide +kernel
theorem dM_waysFrom_42 : decode cM_waysFrom 42 = .ok (.iconst 1, 1) := by decide +kernel
theorem dM_waysFrom_43 : decode cM_waysFrom 43 = .ok (.iastore, 1) := by decide +kernel
theorem dM_waysFrom_44 : decode cM_waysFrom 44 = .ok (.iconst 0, 1) := by decide +kernel
theorem dM_waysFrom_45 : decode cM_waysFrom 45 = .ok (.istore 6, 2) := by decide +kernel
theorem dM_waysFrom_47 : decode cM_waysFrom 47 = .ok (.iload_n 2, 1) := by decide +kernel
theorem dM_waysFrom_48 : decode cM_waysFrom 48 = .ok (.istore 7, 2) := by decide +kernel
theorem dM_waysFrom_50 : decode cM_waysFrom 50 = .ok (.iload 7, 2) := by decide +kernel
theorem dM_waysFrom_52 : decode cM_waysFrom 52 = .ok (.aload_n 0, 1) := by decide +kernel
theorem dM_waysFrom_53 : decode cM_waysFrom 53 = .ok (.getfield 45, 3) := by decide +kernel
theorem dM_waysFrom_56 : decode cM_waysFrom 56 = .ok (.if_icmp .ge 230, 3) := by decide +kernel
theorem dM_waysFrom_59 : decode cM_waysFrom 59 = .ok (.aload_n 0, 1) := by decide +kernel
theorem dM_waysFrom_60 : decode cM_waysFrom 60 = .ok (.getfield 57, 3) := by decide +kernel
theorem dM_waysFrom_63 : decode cM_waysFrom 63 = .ok (.ifCond .ne 21, 3) := by decide +kernel
theorem dM_waysFrom_66 : decode cM_waysFrom 66 = .ok (.iload 7, 2) := by decide +kernel
theorem dM_waysFrom_68 : decode cM_waysFrom 68 = .ok (.iconst 2, 1) := by decide +kernel
theorem dM_waysFrom_69 : decode cM_waysFrom 69 = .ok (.iadd, 1) := by decide +kernel
theorem dM_waysFrom_70 : decode cM_waysFrom 70 = .ok (.aload_n 0, 1) := by decide +kernel
theorem dM_waysFrom_71 : decode cM_waysFrom 71 = .ok (.getfield 45, 3) := by decide +kernel
theorem dM_waysFrom_74 : decode cM_waysFrom 74 = .ok (.if_icmp .ge 10, 3) := by decide +kernel
theorem dM_waysFrom_77 : decode cM_waysFrom 77 = .ok (.iload 7, 2) := by decide +kernel
theorem dM_waysFrom_79 : decode cM_waysFrom 79 = .ok (.iconst 2, 1) := by decide +kernel
theorem dM_waysFrom_80 : decode cM_waysFrom 80 = .ok (.iadd, 1) := by decide +kernel
theorem dM_waysFrom_81 : decode cM_waysFrom 81 = .ok (.goto 7, 3) := by decide +kernel
theorem dM_waysFrom_84 : decode cM_waysFrom 84 = .ok (.aload_n 0, 1) := by decide +kernel
theorem dM_waysFrom_85 : decode cM_waysFrom 85 = .ok (.getfield 45, 3) := by decide +kernel
theorem dM_waysFrom_88 : decode cM_waysFrom 88 = .ok (.istore 8, 2) := by decide +kernel
theorem dM_waysFrom_90 : decode cM_waysFrom 90 = .ok (.iconst 0, 1) := by decide +kernel
theorem dM_waysFrom_91 : decode cM_waysFrom 91 = .ok (.istore 9, 2) := by decide +kernel
theorem dM_waysFrom_93 : decode cM_waysFrom 93 = .ok (.iload 9, 2) := by decide +kernel
theorem dM_waysFrom_95 : decode cM_waysFrom 95 = .ok (.aload_n 0, 1) := by decide +kernel
theorem dM_waysFrom_96 : decode cM_waysFrom 96 = .ok (.getfield 63, 3) := by decide +kernel
theorem dM_waysFrom_99 : decode cM_waysFrom 99 = .ok (.if_icmp .ge 181, 3) := by decide +kernel
theorem dM_waysFrom_102 : decode cM_waysFrom 102 = .ok (.aload_n 0, 1) := by decide +kernel
theorem dM_waysFrom_103 : decode cM_waysFrom 103 = .ok (.getfield 32, 3) := by decide +kernel
theorem dM_waysFrom_106 : decode cM_waysFrom 106 = .ok (.iconst 5, 1) := by decide +kernel
theorem dM_waysFrom_107 : decode cM_waysFrom 107 = .ok (.iload 7, 2) := by decide +kernel
theorem dM_waysFrom_109 : decode cM_waysFrom 109 = .ok (.iload 5, 2) := by decide +kernel
theorem dM_waysFrom_111 : decode cM_waysFrom 111 = .ok (.isub, 1) := by decide +kernel
theorem dM_waysFrom_112 : decode cM_waysFrom 112 = .ok (.imul, 1) := by decide +kernel
theorem dM_waysFrom_113 : decode cM_waysFrom 113 = .ok (.iload 9, 2) := by decide +kernel
theorem dM_waysFrom_115 : decode cM_waysFrom 115 = .ok (.iadd, 1) := by decide +kernel
theorem dM_waysFrom_116 : decode cM_waysFrom 116 = .ok (.iaload, 1) := by decide +kernel
theorem dM_waysFrom_117 : decode cM_waysFrom 117 = .ok (.istore 10, 2) := by decide +kernel
theorem dM_waysFrom_119 : decode cM_waysFrom 119 = .ok (.iload 9, 2) := by decide +kernel
theorem dM_waysFrom_121 : decode cM_waysFrom 121 = .ok (.aload_n 0, 1) := by decide +kernel
theorem dM_waysFrom_122 : decode cM_waysFrom 122 = .ok (.getfield 63, 3) := by decide +kernel
theorem dM_waysFrom_125 : decode cM_waysFrom 125 = .ok (.iconst 1, 1) := by decide +kernel
theorem dM_waysFrom_126 : decode cM_waysFrom 126 = .ok (.isub, 1) := by decide +kernel
theorem dM_waysFrom_127 : decode cM_waysFrom 127 = .ok (.if_icmp .ne 27, 3) := by decide +kernel
theorem dM_waysFrom_130 : decode cM_waysFrom 130 = .ok (.iload 4, 2) := by decide +kernel
theorem dM_waysFrom_132 : decode cM_waysFrom 132 = .ok (.ifCond .eq 14, 3) := by decide +kernel
theorem dM_waysFrom_135 : decode cM_waysFrom 135 = .ok (.iload 7, 2) := by decide +kernel
theorem dM_waysFrom_137 : decode cM_waysFrom 137 = .ok (.aload_n 0, 1) := by decide +kernel
theorem dM_waysFrom_138 : decode cM_waysFrom 138 = .ok (.getfield 45, 3) := by decide +kernel
theorem dM_waysFrom_141 : decode cM_waysFrom 141 = .ok (.iconst 1, 1) := by decide +kernel
theorem dM_waysFrom_142 : decode cM_waysFrom 142 = .ok (.isub, 1) := by decide +kernel
theorem dM_waysFrom_143 : decode cM_waysFrom 143 = .ok (.if_icmp .ne 11, 3) := by decide +kernel
theorem dM_waysFrom_146 : decode cM_waysFrom 146 = .ok (.iload 6, 2) := by decide +kernel
theorem dM_waysFrom_148 : decode cM_waysFrom 148 = .ok (.iload 10, 2) := by decide +kernel
theorem dM_waysFrom_150 : decode cM_waysFrom 150 = .ok (.iadd, 1) := by decide +kernel
theorem dM_waysFrom_151 : decode cM_waysFrom 151 = .ok (.goto 5, 3) := by decide +kernel
theorem dM_waysFrom_154 : decode cM_waysFrom 154 = .ok (.iload 6, 2) := by decide +kernel
theorem dM_waysFrom_156 : decode cM_waysFrom 156 = .ok (.istore 6, 2) := by decide +kernel
theorem dM_waysFrom_158 : decode cM_waysFrom 158 = .ok (.iload 7, 2) := by decide +kernel
theorem dM_waysFrom_160 : decode cM_waysFrom 160 = .ok (.iconst 1, 1) := by decide +kernel
theorem dM_waysFrom_161 : decode cM_waysFrom 161 = .ok (.iadd, 1) := by decide +kernel
theorem dM_waysFrom_162 : decode cM_waysFrom 162 = .ok (.istore 11, 2) := by decide +kernel
theorem dM_waysFrom_164 : decode cM_waysFrom 164 = .ok (.iload 11, 2) := by decide +kernel
theorem dM_waysFrom_166 : decode cM_waysFrom 166 = .ok (.iload 8, 2) := by decide +kernel
theorem dM_waysFrom_168 : decode cM_waysFrom 168 = .ok (.if_icmp .ge 106, 3) := by decide +kernel
theorem dM_waysFrom_171 : decode cM_waysFrom 171 = .ok (.iload 10, 2) := by decide +kernel
theorem dM_waysFrom_173 : decode cM_waysFrom 173 = .ok (.ifCond .le 101, 3) := by decide +kernel
theorem dM_waysFrom_176 : decode cM_waysFrom 176 = .ok (.iconst 5, 1) := by decide +kernel
theorem dM_waysFrom_177 : decode cM_waysFrom 177 = .ok (.iload 11, 2) := by decide +kernel
theorem dM_waysFrom_179 : decode cM_waysFrom 179 = .ok (.iload 5, 2) := by decide +kernel
theorem dM_waysFrom_181 : decode cM_waysFrom 181 = .ok (.isub, 1) := by decide +kernel
theorem dM_waysFrom_182 : decode cM_waysFrom 182 = .ok (.imul, 1) := by decide +kernel
theorem dM_waysFrom_183 : decode cM_waysFrom 183 = .ok (.istore 12, 2) := by decide +kernel
theorem dM_waysFrom_185 : decode cM_waysFrom 185 = .ok (.aload_n 0, 1) := by decide +kernel
theorem dM_waysFrom_186 : decode cM_waysFrom 186 = .ok (.getfield 28, 3) := by decide +kernel
theorem dM_waysFrom_189 : decode cM_waysFrom 189 = .ok (.iload 9, 2) := by decide +kernel
theorem dM_waysFrom_191 : decode cM_waysFrom 191 = .ok (.baload, 1) := by decide +kernel
theorem dM_waysFrom_192 : decode cM_waysFrom 192 = .ok (.ifCond .eq 32, 3) := by decide +kernel
theorem dM_waysFrom_195 : decode cM_waysFrom 195 = .ok (.aload_n 0, 1) := by decide +kernel
theorem dM_waysFrom_196 : decode cM_waysFrom 196 = .ok (.iload 11, 2) := by decide +kernel
theorem dM_waysFrom_198 : decode cM_waysFrom 198 = .ok (.iload 9, 2) := by decide +kernel
theorem dM_waysFrom_200 : decode cM_waysFrom 200 = .ok (.iload 7, 2) := by decide +kernel
theorem dM_waysFrom_202 : decode cM_waysFrom 202 = .ok (.iload_n 1, 1) := by decide +kernel
theorem dM_waysFrom_203 : decode cM_waysFrom 203 = .ok (.invokevirtual 70, 3) := by decide +kernel
theorem dM_waysFrom_206 : decode cM_waysFrom 206 = .ok (.ifCond .eq 18, 3) := by decide +kernel
theorem dM_waysFrom_209 : decode cM_waysFrom 209 = .ok (.aload_n 0, 1) := by decide +kernel
theorem dM_waysFrom_210 : decode cM_waysFrom 210 = .ok (.getfield 32, 3) := by decide +kernel
theorem dM_waysFrom_213 : decode cM_waysFrom 213 = .ok (.iload 12, 2) := by decide +kernel
theorem dM_waysFrom_215 : decode cM_waysFrom 215 = .ok (.iload 9, 2) := by decide +kernel
theorem dM_waysFrom_217 : decode cM_waysFrom 217 = .ok (.iadd, 1) := by decide +kernel
theorem dM_waysFrom_218 : decode cM_waysFrom 218 = .ok (.dup2, 1) := by decide +kernel
theorem dM_waysFrom_219 : decode cM_waysFrom 219 = .ok (.iaload, 1) := by decide +kernel
theorem dM_waysFrom_220 : decode cM_waysFrom 220 = .ok (.iload 10, 2) := by decide +kernel
theorem dM_waysFrom_222 : decode cM_waysFrom 222 = .ok (.iadd, 1) := by decide +kernel
theorem dM_waysFrom_223 : decode cM_waysFrom 223 = .ok (.iastore, 1) := by decide +kernel
theorem dM_waysFrom_224 : decode cM_waysFrom 224 = .ok (.iload 9, 2) := by decide +kernel
theorem dM_waysFrom_226 : decode cM_waysFrom 226 = .ok (.iconst 1, 1) := by decide +kernel
theorem dM_waysFrom_227 : decode cM_waysFrom 227 = .ok (.iadd, 1) := by decide +kernel
theorem dM_waysFrom_228 : decode cM_waysFrom 228 = .ok (.aload_n 0, 1) := by decide +kernel
theorem dM_waysFrom_229 : decode cM_waysFrom 229 = .ok (.getfield 63, 3) := by decide +kernel
theorem dM_waysFrom_232 : decode cM_waysFrom 232 = .ok (.if_icmp .ge 36, 3) := by decide +kernel
theorem dM_waysFrom_235 : decode cM_waysFrom 235 = .ok (.aload_n 0, 1) := by decide +kernel
theorem dM_waysFrom_236 : decode cM_waysFrom 236 = .ok (.iload 11, 2) := by decide +kernel
theorem dM_waysFrom_238 : decode cM_waysFrom 238 = .ok (.iload 9, 2) := by decide +kernel
theorem dM_waysFrom_240 : decode cM_waysFrom 240 = .ok (.iconst 1, 1) := by decide +kernel
theorem dM_waysFrom_241 : decode cM_waysFrom 241 = .ok (.iadd, 1) := by decide +kernel
theorem dM_waysFrom_242 : decode cM_waysFrom 242 = .ok (.iload 7, 2) := by decide +kernel
theorem dM_waysFrom_244 : decode cM_waysFrom 244 = .ok (.iload_n 1, 1) := by decide +kernel
theorem dM_waysFrom_245 : decode cM_waysFrom 245 = .ok (.invokevirtual 70, 3) := by decide +kernel
theorem dM_waysFrom_248 : decode cM_waysFrom 248 = .ok (.ifCond .eq 20, 3) := by decide +kernel
theorem dM_waysFrom_251 : decode cM_waysFrom 251 = .ok (.aload_n 0, 1) := by decide +kernel
theorem dM_waysFrom_252 : decode cM_waysFrom 252 = .ok (.getfield 32, 3) := by decide +kernel
theorem dM_waysFrom_255 : decode cM_waysFrom 255 = .ok (.iload 12, 2) := by decide +kernel
theorem dM_waysFrom_257 : decode cM_waysFrom 257 = .ok (.iload 9, 2) := by decide +kernel
theorem dM_waysFrom_259 : decode cM_waysFrom 259 = .ok (.iadd, 1) := by decide +kernel
theorem dM_waysFrom_260 : decode cM_waysFrom 260 = .ok (.iconst 1, 1) := by decide +kernel
theorem dM_waysFrom_261 : decode cM_waysFrom 261 = .ok (.iadd, 1) := by decide +kernel
theorem dM_waysFrom_262 : decode cM_waysFrom 262 = .ok (.dup2, 1) := by decide +kernel
theorem dM_waysFrom_263 : decode cM_waysFrom 263 = .ok (.iaload, 1) := by decide +kernel
theorem dM_waysFrom_264 : decode cM_waysFrom 264 = .ok (.iload 10, 2) := by decide +kernel
theorem dM_waysFrom_266 : decode cM_waysFrom 266 = .ok (.iadd, 1) := by decide +kernel
theorem dM_waysFrom_267 : decode cM_waysFrom 267 = .ok (.iastore, 1) := by decide +kernel
theorem dM_waysFrom_268 : decode cM_waysFrom 268 = .ok (.iinc 11 1, 3) := by decide +kernel
theorem dM_waysFrom_271 : decode cM_waysFrom 271 = .ok (.goto (-107), 3) := by decide +kernel
theorem dM_waysFrom_274 : decode cM_waysFrom 274 = .ok (.iinc 9 1, 3) := by decide +kernel
theorem dM_waysFrom_277 : decode cM_waysFrom 277 = .ok (.goto (-184), 3) := by decide +kernel
theorem dM_waysFrom_280 : decode cM_waysFrom 280 = .ok (.iinc 7 1, 3) := by decide +kernel
theorem dM_waysFrom_283 : decode cM_waysFrom 283 = .ok (.goto (-233), 3) := by decide +kernel
theorem dM_waysFrom_286 : decode cM_waysFrom 286 = .ok (.iload 6, 2) := by decide +kernel
theorem dM_waysFrom_288 : decode cM_waysFrom 288 = .ok (.ireturn, 1) := by decide +kernel
theorem dM_all_0 : decode cM_all 0 = .ok (.iconst 0, 1) := by decide +kernel
theorem dM_all_1 : decode cM_all 1 = .ok (.istore_n 2, 1) := by decide +kernel
theorem dM_all_2 : decode cM_all 2 = .ok (.aload_n 0, 1) := by decide +kernel
theorem dM_all_3 : decode cM_all 3 = .ok (.invokevirtual 66, 3) := by decide +kernel
theorem dM_all_6 : decode cM_all 6 = .ok (.istore_n 3, 1) := by decide +kernel
theorem dM_all_7 : decode cM_all 7 = .ok (.iload_n 3, 1) := by decide +kernel
theorem dM_all_8 : decode cM_all 8 = .ok (.aload_n 0, 1) := by decide +kernel
theorem dM_all_9 : decode cM_all 9 = .ok (.getfield 45, 3) := by decide +kernel
theorem dM_all_12 : decode cM_all 12 = .ok (.if_icmp .ge 35, 3) := by decide +kernel
theorem dM_all_15 : decode cM_all 15 = .ok (.aload_n 0, 1) := by decide +kernel
theorem dM_all_16 : decode cM_all 16 = .ok (.iload_n 3, 1) := by decide +kernel
theorem dM_all_17 : decode cM_all 17 = .ok (.iconst 0, 1) := by decide +kernel
theorem dM_all_18 : decode cM_all 18 = .ok (.iconst (-1), 1) := by decide +kernel
theorem dM_all_19 : decode cM_all 19 = .ok (.iload_n 3, 1) := by decide +kernel
theorem dM_all_20 : decode cM_all 20 = .ok (.invokevirtual 70, 3) := by decide +kernel
theorem dM_all_23 : decode cM_all 23 = .ok (.ifCond .eq 16, 3) := by decide +kernel
theorem dM_all_26 : decode cM_all 26 = .ok (.iload_n 2, 1) := by decide +kernel
theorem dM_all_27 : decode cM_all 27 = .ok (.aload_n 0, 1) := by decide +kernel
theorem dM_all_28 : decode cM_all 28 = .ok (.iload_n 3, 1) := by decide +kernel
theorem dM_all_29 : decode cM_all 29 = .ok (.iload_n 3, 1) := by decide +kernel
theorem dM_all_30 : decode cM_all 30 = .ok (.iconst 0, 1) := by decide +kernel
theorem dM_all_31 : decode cM_all 31 = .ok (.iload_n 1, 1) := by decide +kernel
theorem dM_all_32 : decode cM_all 32 = .ok (.invokevirtual 74, 3) := by decide +kernel
theorem dM_all_35 : decode cM_all 35 = .ok (.iadd, 1) := by decide +kernel
theorem dM_all_36 : decode cM_all 36 = .ok (.goto 4, 3) := by decide +kernel
theorem dM_all_39 : decode cM_all 39 = .ok (.iload_n 2, 1) := by decide +kernel
theorem dM_all_40 : decode cM_all 40 = .ok (.istore_n 2, 1) := by decide +kernel
theorem dM_all_41 : decode cM_all 41 = .ok (.iinc 3 1, 3) := by decide +kernel
theorem dM_all_44 : decode cM_all 44 = .ok (.goto (-37), 3) := by decide +kernel
theorem dM_all_47 : decode cM_all 47 = .ok (.iload_n 2, 1) := by decide +kernel
theorem dM_all_48 : decode cM_all 48 = .ok (.ireturn, 1) := by decide +kernel
theorem dM_count_0 : decode cM_count 0 = .ok (.aload_n 0, 1) := by decide +kernel
theorem dM_count_1 : decode cM_count 1 = .ok (.aload_n 0, 1) := by decide +kernel
theorem dM_count_2 : decode cM_count 2 = .ok (.getfield 63, 3) := by decide +kernel
theorem dM_count_5 : decode cM_count 5 = .ok (.ifCond .ne 7, 3) := by decide +kernel
theorem dM_count_8 : decode cM_count 8 = .ok (.iconst 1, 1) := by decide +kernel
theorem dM_count_9 : decode cM_count 9 = .ok (.goto 4, 3) := by decide +kernel
theorem dM_count_12 : decode cM_count 12 = .ok (.iconst 0, 1) := by decide +kernel
theorem dM_count_13 : decode cM_count 13 = .ok (.iconst 0, 1) := by decide +kernel
theorem dM_count_14 : decode cM_count 14 = .ok (.iconst 0, 1) := by decide +kernel
theorem dM_count_15 : decode cM_count 15 = .ok (.invokevirtual 53, 3) := by decide +kernel
theorem dM_count_18 : decode cM_count 18 = .ok (.ifCond .eq 7, 3) := by decide +kernel
theorem dM_count_21 : decode cM_count 21 = .ok (.iconst 0, 1) := by decide +kernel
theorem dM_count_22 : decode cM_count 22 = .ok (.goto 8, 3) := by decide +kernel
theorem dM_count_25 : decode cM_count 25 = .ok (.aload_n 0, 1) := by decide +kernel
theorem dM_count_26 : decode cM_count 26 = .ok (.iconst 0, 1) := by decide +kernel
theorem dM_count_27 : decode cM_count 27 = .ok (.invokevirtual 78, 3) := by decide +kernel
theorem dM_count_30 : decode cM_count 30 = .ok (.ireturn, 1) := by decide +kernel
theorem dM_latest_0 : decode cM_latest 0 = .ok (.aload_n 0, 1) := by decide +kernel
theorem dM_latest_1 : decode cM_latest 1 = .ok (.aload_n 0, 1) := by decide +kernel
theorem dM_latest_2 : decode cM_latest 2 = .ok (.getfield 63, 3) := by decide +kernel
theorem dM_latest_5 : decode cM_latest 5 = .ok (.ifCond .ne 7, 3) := by decide +kernel
theorem dM_latest_8 : decode cM_latest 8 = .ok (.iconst 1, 1) := by decide +kernel
theorem dM_latest_9 : decode cM_latest 9 = .ok (.goto 4, 3) := by decide +kernel
theorem dM_latest_12 : decode cM_latest 12 = .ok (.iconst 0, 1) := by decide +kernel
theorem dM_latest_13 : decode cM_latest 13 = .ok (.iconst 0, 1) := by decide +kernel
theorem dM_latest_14 : decode cM_latest 14 = .ok (.iconst 0, 1) := by decide +kernel
theorem dM_latest_15 : decode cM_latest 15 = .ok (.invokevirtual 53, 3) := by decide +kernel
theorem dM_latest_18 : decode cM_latest 18 = .ok (.ifCond .eq 7, 3) := by decide +kernel
theorem dM_latest_21 : decode cM_latest 21 = .ok (.iconst 0, 1) := by decide +kernel
theorem dM_latest_22 : decode cM_latest 22 = .ok (.goto 8, 3) := by decide +kernel
theorem dM_latest_25 : decode cM_latest 25 = .ok (.aload_n 0, 1) := by decide +kernel
theorem dM_latest_26 : decode cM_latest 26 = .ok (.iconst 1, 1) := by decide +kernel
theorem dM_latest_27 : decode cM_latest 27 = .ok (.invokevirtual 78, 3) := by decide +kernel
theorem dM_latest_30 : decode cM_latest 30 = .ok (.ireturn, 1) := by decide +kernel
theorem dM_notes_0 : decode cM_notes 0 = .ok (.aload_n 0, 1) := by decide +kernel
theorem dM_notes_1 : decode cM_notes 1 = .ok (.getfield 35, 3) := by decide +kernel
theorem dM_notes_4 : decode cM_notes 4 = .ok (.aload_n 0, 1) := by decide +kernel
theorem dM_notes_5 : decode cM_notes 5 = .ok (.getfield 82, 3) := by decide +kernel
theorem dM_notes_8 : decode cM_notes 8 = .ok (.iload_n 1, 1) := by decide +kernel
theorem dM_notes_9 : decode cM_notes 9 = .ok (.iastore, 1) := by decide +kernel
theorem dM_notes_10 : decode cM_notes 10 = .ok (.aload_n 0, 1) := by decide +kernel
theorem dM_notes_11 : decode cM_notes 11 = .ok (.getfield 38, 3) := by decide +kernel
theorem dM_notes_14 : decode cM_notes 14 = .ok (.aload_n 0, 1) := by decide +kernel
theorem dM_notes_15 : decode cM_notes 15 = .ok (.getfield 82, 3) := by decide +kernel
theorem dM_notes_18 : decode cM_notes 18 = .ok (.iload_n 2, 1) := by decide +kernel
theorem dM_notes_19 : decode cM_notes 19 = .ok (.iastore, 1) := by decide +kernel
theorem dM_notes_20 : decode cM_notes 20 = .ok (.aload_n 0, 1) := by decide +kernel
theorem dM_notes_21 : decode cM_notes 21 = .ok (.dup, 1) := by decide +kernel
theorem dM_notes_22 : decode cM_notes 22 = .ok (.getfield 82, 3) := by decide +kernel
theorem dM_notes_25 : decode cM_notes 25 = .ok (.iconst 1, 1) := by decide +kernel
theorem dM_notes_26 : decode cM_notes 26 = .ok (.iadd, 1) := by decide +kernel
theorem dM_notes_27 : decode cM_notes 27 = .ok (.putfield 82, 3) := by decide +kernel
theorem dM_notes_30 : decode cM_notes 30 = .ok (.return_, 1) := by decide +kernel
theorem dM_find_0 : decode cM_find 0 = .ok (.aload_n 0, 1) := by decide +kernel
theorem dM_find_1 : decode cM_find 1 = .ok (.iconst 0, 1) := by decide +kernel
theorem dM_find_2 : decode cM_find 2 = .ok (.putfield 82, 3) := by decide +kernel
theorem dM_find_5 : decode cM_find 5 = .ok (.iload_n 1, 1) := by decide +kernel
theorem dM_find_6 : decode cM_find 6 = .ok (.istore_n 2, 1) := by decide +kernel
theorem dM_find_7 : decode cM_find 7 = .ok (.aload_n 0, 1) := by decide +kernel
theorem dM_find_8 : decode cM_find 8 = .ok (.invokevirtual 66, 3) := by decide +kernel
theorem dM_find_11 : decode cM_find 11 = .ok (.istore_n 3, 1) := by decide +kernel
theorem dM_find_12 : decode cM_find 12 = .ok (.iload_n 1, 1) := by decide +kernel
theorem dM_find_13 : decode cM_find 13 = .ok (.ifCond .lt 7, 3) := by decide +kernel
theorem dM_find_16 : decode cM_find 16 = .ok (.iconst 1, 1) := by decide +kernel
theorem dM_find_17 : decode cM_find 17 = .ok (.goto 4, 3) := by decide +kernel
theorem dM_find_20 : decode cM_find 20 = .ok (.iconst 0, 1) := by decide +kernel
theorem dM_find_21 : decode cM_find 21 = .ok (.istore 4, 2) := by decide +kernel
theorem dM_find_23 : decode cM_find 23 = .ok (.iload 4, 2) := by decide +kernel
theorem dM_find_25 : decode cM_find 25 = .ok (.ifCond .eq 79, 3) := by decide +kernel
theorem dM_find_28 : decode cM_find 28 = .ok (.iload_n 3, 1) := by decide +kernel
theorem dM_find_29 : decode cM_find 29 = .ok (.aload_n 0, 1) := by decide +kernel
theorem dM_find_30 : decode cM_find 30 = .ok (.getfield 45, 3) := by decide +kernel
theorem dM_find_33 : decode cM_find 33 = .ok (.if_icmp .ge 71, 3) := by decide +kernel
theorem dM_find_36 : decode cM_find 36 = .ok (.aload_n 0, 1) := by decide +kernel
theorem dM_find_37 : decode cM_find 37 = .ok (.iload_n 3, 1) := by decide +kernel
theorem dM_find_38 : decode cM_find 38 = .ok (.iconst 0, 1) := by decide +kernel
theorem dM_find_39 : decode cM_find 39 = .ok (.iconst (-1), 1) := by decide +kernel
theorem dM_find_40 : decode cM_find 40 = .ok (.iload_n 3, 1) := by decide +kernel
theorem dM_find_41 : decode cM_find 41 = .ok (.invokevirtual 70, 3) := by decide +kernel
theorem dM_find_44 : decode cM_find 44 = .ok (.ifCond .eq 14, 3) := by decide +kernel
theorem dM_find_47 : decode cM_find 47 = .ok (.aload_n 0, 1) := by decide +kernel
theorem dM_find_48 : decode cM_find 48 = .ok (.iload_n 3, 1) := by decide +kernel
theorem dM_find_49 : decode cM_find 49 = .ok (.iload_n 3, 1) := by decide +kernel
theorem dM_find_50 : decode cM_find 50 = .ok (.iconst 0, 1) := by decide +kernel
theorem dM_find_51 : decode cM_find 51 = .ok (.iconst 0, 1) := by decide +kernel
theorem dM_find_52 : decode cM_find 52 = .ok (.invokevirtual 74, 3) := by decide +kernel
theorem dM_find_55 : decode cM_find 55 = .ok (.goto 4, 3) := by decide +kernel
theorem dM_find_58 : decode cM_find 58 = .ok (.iconst 0, 1) := by decide +kernel
theorem dM_find_59 : decode cM_find 59 = .ok (.istore 5, 2) := by decide +kernel
theorem dM_find_61 : decode cM_find 61 = .ok (.iload_n 2, 1) := by decide +kernel
theorem dM_find_62 : decode cM_find 62 = .ok (.iload 5, 2) := by decide +kernel
theorem dM_find_64 : decode cM_find 64 = .ok (.if_icmp .lt 7, 3) := by decide +kernel
theorem dM_find_67 : decode cM_find 67 = .ok (.iconst 1, 1) := by decide +kernel
theorem dM_find_68 : decode cM_find 68 = .ok (.goto 4, 3) := by decide +kernel
theorem dM_find_71 : decode cM_find 71 = .ok (.iconst 0, 1) := by decide +kernel
theorem dM_find_72 : decode cM_find 72 = .ok (.istore 4, 2) := by decide +kernel
theorem dM_find_74 : decode cM_find 74 = .ok (.iload 4, 2) := by decide +kernel
theorem dM_find_76 : decode cM_find 76 = .ok (.ifCond .eq 10, 3) := by decide +kernel
theorem dM_find_79 : decode cM_find 79 = .ok (.iload_n 2, 1) := by decide +kernel
theorem dM_find_80 : decode cM_find 80 = .ok (.iload 5, 2) := by decide +kernel
theorem dM_find_82 : decode cM_find 82 = .ok (.isub, 1) := by decide +kernel
theorem dM_find_83 : decode cM_find 83 = .ok (.goto 4, 3) := by decide +kernel
theorem dM_find_86 : decode cM_find 86 = .ok (.iload_n 2, 1) := by decide +kernel
theorem dM_find_87 : decode cM_find 87 = .ok (.istore_n 2, 1) := by decide +kernel
theorem dM_find_88 : decode cM_find 88 = .ok (.iload 4, 2) := by decide +kernel
theorem dM_find_90 : decode cM_find 90 = .ok (.ifCond .eq 9, 3) := by decide +kernel
theorem dM_find_93 : decode cM_find 93 = .ok (.iload_n 3, 1) := by decide +kernel
theorem dM_find_94 : decode cM_find 94 = .ok (.iconst 1, 1) := by decide +kernel
theorem dM_find_95 : decode cM_find 95 = .ok (.iadd, 1) := by decide +kernel
theorem dM_find_96 : decode cM_find 96 = .ok (.goto 4, 3) := by decide +kernel
theorem dM_find_99 : decode cM_find 99 = .ok (.iload_n 3, 1) := by decide +kernel
theorem dM_find_100 : decode cM_find 100 = .ok (.istore_n 3, 1) := by decide +kernel
theorem dM_find_101 : decode cM_find 101 = .ok (.goto (-78), 3) := by decide +kernel
theorem dM_find_104 : decode cM_find 104 = .ok (.iload 4, 2) := by decide +kernel
theorem dM_find_106 : decode cM_find 106 = .ok (.ifCond .ne 7, 3) := by decide +kernel
theorem dM_find_109 : decode cM_find 109 = .ok (.iload_n 1, 1) := by decide +kernel
theorem dM_find_110 : decode cM_find 110 = .ok (.ifCond .ge 5, 3) := by decide +kernel
theorem dM_find_113 : decode cM_find 113 = .ok (.iconst 0, 1) := by decide +kernel
theorem dM_find_114 : decode cM_find 114 = .ok (.ireturn, 1) := by decide +kernel
theorem dM_find_115 : decode cM_find 115 = .ok (.iload_n 3, 1) := by decide +kernel
theorem dM_find_116 : decode cM_find 116 = .ok (.istore 5, 2) := by decide +kernel
theorem dM_find_118 : decode cM_find 118 = .ok (.iconst 0, 1) := by decide +kernel
theorem dM_find_119 : decode cM_find 119 = .ok (.istore 6, 2) := by decide +kernel
theorem dM_find_121 : decode cM_find 121 = .ok (.aload_n 0, 1) := by decide +kernel
theorem dM_find_122 : decode cM_find 122 = .ok (.iload 5, 2) := by decide +kernel
theorem dM_find_124 : decode cM_find 124 = .ok (.iload 6, 2) := by decide +kernel
theorem dM_find_126 : decode cM_find 126 = .ok (.invokevirtual 85, 3) := by decide +kernel
theorem dM_find_129 : decode cM_find 129 = .ok (.iload 6, 2) := by decide +kernel
theorem dM_find_131 : decode cM_find 131 = .ok (.aload_n 0, 1) := by decide +kernel
theorem dM_find_132 : decode cM_find 132 = .ok (.getfield 63, 3) := by decide +kernel
theorem dM_find_135 : decode cM_find 135 = .ok (.iconst 1, 1) := by decide +kernel
theorem dM_find_136 : decode cM_find 136 = .ok (.isub, 1) := by decide +kernel
theorem dM_find_137 : decode cM_find 137 = .ok (.if_icmp .lt 7, 3) := by decide +kernel
theorem dM_find_140 : decode cM_find 140 = .ok (.iload_n 2, 1) := by decide +kernel
theorem dM_find_141 : decode cM_find 141 = .ok (.ifCond .le 209, 3) := by decide +kernel
theorem dM_find_144 : decode cM_find 144 = .ok (.iload 6, 2) := by decide +kernel
theorem dM_find_146 : decode cM_find 146 = .ok (.aload_n 0, 1) := by decide +kernel
theorem dM_find_147 : decode cM_find 147 = .ok (.getfield 63, 3) := by decide +kernel
theorem dM_find_150 : decode cM_find 150 = .ok (.iconst 1, 1) := by decide +kernel
theorem dM_find_151 : decode cM_find 151 = .ok (.isub, 1) := by decide +kernel
theorem dM_find_152 : decode cM_find 152 = .ok (.if_icmp .ne 9, 3) := by decide +kernel
theorem dM_find_155 : decode cM_find 155 = .ok (.iload_n 2, 1) := by decide +kernel
theorem dM_find_156 : decode cM_find 156 = .ok (.iconst 1, 1) := by decide +kernel
theorem dM_find_157 : decode cM_find 157 = .ok (.isub, 1) := by decide +kernel
theorem dM_find_158 : decode cM_find 158 = .ok (.goto 4, 3) := by decide +kernel
theorem dM_find_161 : decode cM_find 161 = .ok (.iload_n 2, 1) := by decide +kernel
theorem dM_find_162 : decode cM_find 162 = .ok (.istore_n 2, 1) := by decide +kernel
theorem dM_find_163 : decode cM_find 163 = .ok (.iload 5, 2) := by decide +kernel
theorem dM_find_165 : decode cM_find 165 = .ok (.iconst 1, 1) := by decide +kernel
theorem dM_find_166 : decode cM_find 166 = .ok (.iadd, 1) := by decide +kernel
theorem dM_find_167 : decode cM_find 167 = .ok (.istore 7, 2) := by decide +kernel
theorem dM_find_169 : decode cM_find 169 = .ok (.iload 6, 2) := by decide +kernel
theorem dM_find_171 : decode cM_find 171 = .ok (.istore 8, 2) := by decide +kernel
theorem dM_find_173 : decode cM_find 173 = .ok (.iconst 0, 1) := by decide +kernel
theorem dM_find_174 : decode cM_find 174 = .ok (.istore 9, 2) := by decide +kernel
theorem dM_find_176 : decode cM_find 176 = .ok (.iload 9, 2) := by decide +kernel
theorem dM_find_178 : decode cM_find 178 = .ok (.ifCond .ne 153, 3) := by decide +kernel
theorem dM_find_181 : decode cM_find 181 = .ok (.iload 8, 2) := by decide +kernel
theorem dM_find_183 : decode cM_find 183 = .ok (.iload 6, 2) := by decide +kernel
theorem dM_find_185 : decode cM_find 185 = .ok (.if_icmp .le 15, 3) := by decide +kernel
theorem dM_find_188 : decode cM_find 188 = .ok (.iload 8, 2) := by decide +kernel
theorem dM_find_190 : decode cM_find 190 = .ok (.aload_n 0, 1) := by decide +kernel
theorem dM_find_191 : decode cM_find 191 = .ok (.getfield 63, 3) := by decide +kernel
theorem dM_find_194 : decode cM_find 194 = .ok (.if_icmp .ge 51, 3) := by decide +kernel
theorem dM_find_197 : decode cM_find 197 = .ok (.goto 13, 3) := by decide +kernel
theorem dM_find_200 : decode cM_find 200 = .ok (.aload_n 0, 1) := by decide +kernel
theorem dM_find_201 : decode cM_find 201 = .ok (.getfield 28, 3) := by decide +kernel
theorem dM_find_204 : decode cM_find 204 = .ok (.iload 6, 2) := by decide +kernel
theorem dM_find_206 : decode cM_find 206 = .ok (.baload, 1) := by decide +kernel
theorem dM_find_207 : decode cM_find 207 = .ok (.ifCond .eq 38, 3) := by decide +kernel
theorem dM_find_210 : decode cM_find 210 = .ok (.aload_n 0, 1) := by decide +kernel
theorem dM_find_211 : decode cM_find 211 = .ok (.getfield 57, 3) := by decide +kernel
theorem dM_find_214 : decode cM_find 214 = .ok (.iconst 1, 1) := by decide +kernel
theorem dM_find_215 : decode cM_find 215 = .ok (.if_icmp .eq 12, 3) := by decide +kernel
theorem dM_find_218 : decode cM_find 218 = .ok (.iload 7, 2) := by decide +kernel
theorem dM_find_220 : decode cM_find 220 = .ok (.iload 5, 2) := by decide +kernel
theorem dM_find_222 : decode cM_find 222 = .ok (.iconst 1, 1) := by decide +kernel
theorem dM_find_223 : decode cM_find 223 = .ok (.iadd, 1) := by decide +kernel
theorem dM_find_224 : decode cM_find 224 = .ok (.if_icmp .ne 21, 3) := by decide +kernel
theorem dM_find_227 : decode cM_find 227 = .ok (.aload_n 0, 1) := by decide +kernel
theorem dM_find_228 : decode cM_find 228 = .ok (.iload 7, 2) := by decide +kernel
theorem dM_find_230 : decode cM_find 230 = .ok (.iload 8, 2) := by decide +kernel
theorem dM_find_232 : decode cM_find 232 = .ok (.iload 5, 2) := by decide +kernel
theorem dM_find_234 : decode cM_find 234 = .ok (.iload_n 3, 1) := by decide +kernel
theorem dM_find_235 : decode cM_find 235 = .ok (.invokevirtual 70, 3) := by decide +kernel
theorem dM_find_238 : decode cM_find 238 = .ok (.ifCond .eq 7, 3) := by decide +kernel
theorem dM_find_241 : decode cM_find 241 = .ok (.iconst 1, 1) := by decide +kernel
theorem dM_find_242 : decode cM_find 242 = .ok (.goto 4, 3) := by decide +kernel
theorem dM_find_245 : decode cM_find 245 = .ok (.iconst 0, 1) := by decide +kernel
theorem dM_find_246 : decode cM_find 246 = .ok (.istore 10, 2) := by decide +kernel
theorem dM_find_248 : decode cM_find 248 = .ok (.iload 10, 2) := by decide +kernel
theorem dM_find_250 : decode cM_find 250 = .ok (.ifCond .eq 16, 3) := by decide +kernel
theorem dM_find_253 : decode cM_find 253 = .ok (.aload_n 0, 1) := by decide +kernel
theorem dM_find_254 : decode cM_find 254 = .ok (.iload_n 3, 1) := by decide +kernel
theorem dM_find_255 : decode cM_find 255 = .ok (.iload 7, 2) := by decide +kernel
theorem dM_find_257 : decode cM_find 257 = .ok (.iload 8, 2) := by decide +kernel
theorem dM_find_259 : decode cM_find 259 = .ok (.iconst 0, 1) := by decide +kernel
theorem dM_find_260 : decode cM_find 260 = .ok (.invokevirtual 74, 3) := by decide +kernel
theorem dM_find_263 : decode cM_find 263 = .ok (.goto 4, 3) := by decide +kernel
theorem dM_find_266 : decode cM_find 266 = .ok (.iconst 0, 1) := by decide +kernel
theorem dM_find_267 : decode cM_find 267 = .ok (.istore 11, 2) := by decide +kernel
theorem dM_find_269 : decode cM_find 269 = .ok (.iload_n 2, 1) := by decide +kernel
theorem dM_find_270 : decode cM_find 270 = .ok (.iload 11, 2) := by decide +kernel
theorem dM_find_272 : decode cM_find 272 = .ok (.if_icmp .ge 7, 3) := by decide +kernel
theorem dM_find_275 : decode cM_find 275 = .ok (.iconst 1, 1) := by decide +kernel
theorem dM_find_276 : decode cM_find 276 = .ok (.goto 4, 3) := by decide +kernel
theorem dM_find_279 : decode cM_find 279 = .ok (.iconst 0, 1) := by decide +kernel
theorem dM_find_280 : decode cM_find 280 = .ok (.istore 9, 2) := by decide +kernel
theorem dM_find_282 : decode cM_find 282 = .ok (.iload 9, 2) := by decide +kernel
theorem dM_find_284 : decode cM_find 284 = .ok (.ifCond .ne 44, 3) := by decide +kernel
theorem dM_find_287 : decode cM_find 287 = .ok (.iload_n 2, 1) := by decide +kernel
theorem dM_find_288 : decode cM_find 288 = .ok (.iload 11, 2) := by decide +kernel
theorem dM_find_290 : decode cM_find 290 = .ok (.isub, 1) := by decide +kernel
theorem dM_find_291 : decode cM_find 291 = .ok (.istore_n 2, 1) := by decide +kernel
theorem dM_find_292 : decode cM_find 292 = .ok (.iload 8, 2) := by decide +kernel
theorem dM_find_294 : decode cM_find 294 = .ok (.iload 6, 2) := by decide +kernel
theorem dM_find_296 : decode cM_find 296 = .ok (.if_icmp .le 10, 3) := by decide +kernel
theorem dM_find_299 : decode cM_find 299 = .ok (.iload 7, 2) := by decide +kernel
theorem dM_find_301 : decode cM_find 301 = .ok (.iconst 1, 1) := by decide +kernel
theorem dM_find_302 : decode cM_find 302 = .ok (.iadd, 1) := by decide +kernel
theorem dM_find_303 : decode cM_find 303 = .ok (.goto 5, 3) := by decide +kernel
theorem dM_find_306 : decode cM_find 306 = .ok (.iload 7, 2) := by decide +kernel
theorem dM_find_308 : decode cM_find 308 = .ok (.istore 7, 2) := by decide +kernel
theorem dM_find_310 : decode cM_find 310 = .ok (.iload 8, 2) := by decide +kernel
theorem dM_find_312 : decode cM_find 312 = .ok (.iload 6, 2) := by decide +kernel
theorem dM_find_314 : decode cM_find 314 = .ok (.if_icmp .le 8, 3) := by decide +kernel
theorem dM_find_317 : decode cM_find 317 = .ok (.iload 6, 2) := by decide +kernel
theorem dM_find_319 : decode cM_find 319 = .ok (.goto 7, 3) := by decide +kernel
theorem dM_find_322 : decode cM_find 322 = .ok (.iload 6, 2) := by decide +kernel
theorem dM_find_324 : decode cM_find 324 = .ok (.iconst 1, 1) := by decide +kernel
theorem dM_find_325 : decode cM_find 325 = .ok (.iadd, 1) := by decide +kernel
theorem dM_find_326 : decode cM_find 326 = .ok (.istore 8, 2) := by decide +kernel
theorem dM_find_328 : decode cM_find 328 = .ok (.goto (-152), 3) := by decide +kernel
theorem dM_find_331 : decode cM_find 331 = .ok (.iload 7, 2) := by decide +kernel
theorem dM_find_333 : decode cM_find 333 = .ok (.istore 5, 2) := by decide +kernel
theorem dM_find_335 : decode cM_find 335 = .ok (.iload 8, 2) := by decide +kernel
theorem dM_find_337 : decode cM_find 337 = .ok (.istore 6, 2) := by decide +kernel
theorem dM_find_339 : decode cM_find 339 = .ok (.aload_n 0, 1) := by decide +kernel
theorem dM_find_340 : decode cM_find 340 = .ok (.iload 5, 2) := by decide +kernel
theorem dM_find_342 : decode cM_find 342 = .ok (.iload 6, 2) := by decide +kernel
theorem dM_find_344 : decode cM_find 344 = .ok (.invokevirtual 85, 3) := by decide +kernel
theorem dM_find_347 : decode cM_find 347 = .ok (.goto (-218), 3) := by decide +kernel
theorem dM_find_350 : decode cM_find 350 = .ok (.iconst 1, 1) := by decide +kernel
theorem dM_find_351 : decode cM_find 351 = .ok (.ireturn, 1) := by decide +kernel
theorem dM_length_0 : decode cM_length 0 = .ok (.aload_n 0, 1) := by decide +kernel
theorem dM_length_1 : decode cM_length 1 = .ok (.getfield 63, 3) := by decide +kernel
theorem dM_length_4 : decode cM_length 4 = .ok (.ifCond .le 7, 3) := by decide +kernel
theorem dM_length_7 : decode cM_length 7 = .ok (.iconst 1, 1) := by decide +kernel
theorem dM_length_8 : decode cM_length 8 = .ok (.goto 4, 3) := by decide +kernel
theorem dM_length_11 : decode cM_length 11 = .ok (.iconst 0, 1) := by decide +kernel
theorem dM_length_12 : decode cM_length 12 = .ok (.istore_n 2, 1) := by decide +kernel
theorem dM_length_13 : decode cM_length 13 = .ok (.iload_n 2, 1) := by decide +kernel
theorem dM_length_14 : decode cM_length 14 = .ok (.ifCond .eq 15, 3) := by decide +kernel
theorem dM_length_17 : decode cM_length 17 = .ok (.aload_n 0, 1) := by decide +kernel
theorem dM_length_18 : decode cM_length 18 = .ok (.iload_n 1, 1) := by decide +kernel
theorem dM_length_19 : decode cM_length 19 = .ok (.invokevirtual 89, 3) := by decide +kernel
theorem dM_length_22 : decode cM_length 22 = .ok (.ifCond .eq 7, 3) := by decide +kernel
theorem dM_length_25 : decode cM_length 25 = .ok (.iconst 1, 1) := by decide +kernel
theorem dM_length_26 : decode cM_length 26 = .ok (.goto 4, 3) := by decide +kernel
theorem dM_length_29 : decode cM_length 29 = .ok (.iconst 0, 1) := by decide +kernel
theorem dM_length_30 : decode cM_length 30 = .ok (.istore_n 3, 1) := by decide +kernel
theorem dM_length_31 : decode cM_length 31 = .ok (.aload_n 0, 1) := by decide +kernel
theorem dM_length_32 : decode cM_length 32 = .ok (.iload_n 2, 1) := by decide +kernel
theorem dM_length_33 : decode cM_length 33 = .ok (.ifCond .ne 7, 3) := by decide +kernel
theorem dM_length_36 : decode cM_length 36 = .ok (.iconst 1, 1) := by decide +kernel
theorem dM_length_37 : decode cM_length 37 = .ok (.goto 4, 3) := by decide +kernel
theorem dM_length_40 : decode cM_length 40 = .ok (.iconst 0, 1) := by decide +kernel
theorem dM_length_41 : decode cM_length 41 = .ok (.iload_n 2, 1) := by decide +kernel
theorem dM_length_42 : decode cM_length 42 = .ok (.ifCond .eq 11, 3) := by decide +kernel
theorem dM_length_45 : decode cM_length 45 = .ok (.iload_n 3, 1) := by decide +kernel
theorem dM_length_46 : decode cM_length 46 = .ok (.ifCond .ne 7, 3) := by decide +kernel
theorem dM_length_49 : decode cM_length 49 = .ok (.iconst 1, 1) := by decide +kernel
theorem dM_length_50 : decode cM_length 50 = .ok (.goto 4, 3) := by decide +kernel
theorem dM_length_53 : decode cM_length 53 = .ok (.iconst 0, 1) := by decide +kernel
theorem dM_length_54 : decode cM_length 54 = .ok (.iconst 0, 1) := by decide +kernel
theorem dM_length_55 : decode cM_length 55 = .ok (.invokevirtual 53, 3) := by decide +kernel
theorem dM_length_58 : decode cM_length 58 = .ok (.ifCond .eq 7, 3) := by decide +kernel
theorem dM_length_61 : decode cM_length 61 = .ok (.iconst 0, 1) := by decide +kernel
theorem dM_length_62 : decode cM_length 62 = .ok (.goto 7, 3) := by decide +kernel
theorem dM_length_65 : decode cM_length 65 = .ok (.aload_n 0, 1) := by decide +kernel
theorem dM_length_66 : decode cM_length 66 = .ok (.getfield 82, 3) := by decide +kernel
theorem dM_length_69 : decode cM_length 69 = .ok (.ireturn, 1) := by decide +kernel
theorem dM_match_0 : decode cM_match 0 = .ok (.aload_n 0, 1) := by decide +kernel
theorem dM_match_1 : decode cM_match 1 = .ok (.getfield 63, 3) := by decide +kernel
theorem dM_match_4 : decode cM_match 4 = .ok (.ifCond .le 7, 3) := by decide +kernel
theorem dM_match_7 : decode cM_match 7 = .ok (.iconst 1, 1) := by decide +kernel
theorem dM_match_8 : decode cM_match 8 = .ok (.goto 4, 3) := by decide +kernel
theorem dM_match_11 : decode cM_match 11 = .ok (.iconst 0, 1) := by decide +kernel
theorem dM_match_12 : decode cM_match 12 = .ok (.istore 4, 2) := by decide +kernel
theorem dM_match_14 : decode cM_match 14 = .ok (.iload 4, 2) := by decide +kernel
theorem dM_match_16 : decode cM_match 16 = .ok (.ifCond .eq 29, 3) := by decide +kernel
theorem dM_match_19 : decode cM_match 19 = .ok (.aload_n 0, 1) := by decide +kernel
theorem dM_match_20 : decode cM_match 20 = .ok (.iload_n 1, 1) := by decide +kernel
theorem dM_match_21 : decode cM_match 21 = .ok (.invokevirtual 89, 3) := by decide +kernel
theorem dM_match_24 : decode cM_match 24 = .ok (.ifCond .eq 21, 3) := by decide +kernel
theorem dM_match_27 : decode cM_match 27 = .ok (.iload_n 2, 1) := by decide +kernel
theorem dM_match_28 : decode cM_match 28 = .ok (.iconst 0, 1) := by decide +kernel
theorem dM_match_29 : decode cM_match 29 = .ok (.aload_n 0, 1) := by decide +kernel
theorem dM_match_30 : decode cM_match 30 = .ok (.getfield 82, 3) := by decide +kernel
theorem dM_match_33 : decode cM_match 33 = .ok (.iconst 1, 1) := by decide +kernel
theorem dM_match_34 : decode cM_match 34 = .ok (.isub, 1) := by decide +kernel
theorem dM_match_35 : decode cM_match 35 = .ok (.invokestatic 49, 3) := by decide +kernel
theorem dM_match_38 : decode cM_match 38 = .ok (.ifCond .eq 7, 3) := by decide +kernel
theorem dM_match_41 : decode cM_match 41 = .ok (.iconst 1, 1) := by decide +kernel
theorem dM_match_42 : decode cM_match 42 = .ok (.goto 4, 3) := by decide +kernel
theorem dM_match_45 : decode cM_match 45 = .ok (.iconst 0, 1) := by decide +kernel
theorem dM_match_46 : decode cM_match 46 = .ok (.istore 5, 2) := by decide +kernel
theorem dM_match_48 : decode cM_match 48 = .ok (.aload_n 0, 1) := by decide +kernel
theorem dM_match_49 : decode cM_match 49 = .ok (.iload 4, 2) := by decide +kernel
theorem dM_match_51 : decode cM_match 51 = .ok (.ifCond .ne 7, 3) := by decide +kernel
theorem dM_match_54 : decode cM_match 54 = .ok (.iconst 1, 1) := by decide +kernel
theorem dM_match_55 : decode cM_match 55 = .ok (.goto 4, 3) := by decide +kernel
theorem dM_match_58 : decode cM_match 58 = .ok (.iconst 0, 1) := by decide +kernel
theorem dM_match_59 : decode cM_match 59 = .ok (.iload 4, 2) := by decide +kernel
theorem dM_match_61 : decode cM_match 61 = .ok (.ifCond .eq 12, 3) := by decide +kernel
theorem dM_match_64 : decode cM_match 64 = .ok (.iload 5, 2) := by decide +kernel
theorem dM_match_66 : decode cM_match 66 = .ok (.ifCond .ne 7, 3) := by decide +kernel
theorem dM_match_69 : decode cM_match 69 = .ok (.iconst 1, 1) := by decide +kernel
theorem dM_match_70 : decode cM_match 70 = .ok (.goto 4, 3) := by decide +kernel
theorem dM_match_73 : decode cM_match 73 = .ok (.iconst 0, 1) := by decide +kernel
theorem dM_match_74 : decode cM_match 74 = .ok (.iload 5, 2) := by decide +kernel
theorem dM_match_76 : decode cM_match 76 = .ok (.ifCond .eq 16, 3) := by decide +kernel
theorem dM_match_79 : decode cM_match 79 = .ok (.iload_n 3, 1) := by decide +kernel
theorem dM_match_80 : decode cM_match 80 = .ok (.iconst 0, 1) := by decide +kernel
theorem dM_match_81 : decode cM_match 81 = .ok (.iconst 1, 1) := by decide +kernel
theorem dM_match_82 : decode cM_match 82 = .ok (.invokestatic 49, 3) := by decide +kernel
theorem dM_match_85 : decode cM_match 85 = .ok (.ifCond .ne 7, 3) := by decide +kernel
theorem dM_match_88 : decode cM_match 88 = .ok (.iconst 1, 1) := by decide +kernel
theorem dM_match_89 : decode cM_match 89 = .ok (.goto 4, 3) := by decide +kernel
theorem dM_match_92 : decode cM_match 92 = .ok (.iconst 0, 1) := by decide +kernel
theorem dM_match_93 : decode cM_match 93 = .ok (.invokevirtual 53, 3) := by decide +kernel
theorem dM_match_96 : decode cM_match 96 = .ok (.ifCond .eq 5, 3) := by decide +kernel
theorem dM_match_99 : decode cM_match 99 = .ok (.iconst 0, 1) := by decide +kernel
theorem dM_match_100 : decode cM_match 100 = .ok (.ireturn, 1) := by decide +kernel
theorem dM_match_101 : decode cM_match 101 = .ok (.iload_n 3, 1) := by decide +kernel
theorem dM_match_102 : decode cM_match 102 = .ok (.ifCond .ne 12, 3) := by decide +kernel
theorem dM_match_105 : decode cM_match 105 = .ok (.aload_n 0, 1) := by decide +kernel
theorem dM_match_106 : decode cM_match 106 = .ok (.getfield 35, 3) := by decide +kernel
theorem dM_match_109 : decode cM_match 109 = .ok (.iload_n 2, 1) := by decide +kernel
theorem dM_match_110 : decode cM_match 110 = .ok (.iaload, 1) := by decide +kernel
theorem dM_match_111 : decode cM_match 111 = .ok (.goto 9, 3) := by decide +kernel
theorem dM_match_114 : decode cM_match 114 = .ok (.aload_n 0, 1) := by decide +kernel
theorem dM_match_115 : decode cM_match 115 = .ok (.getfield 38, 3) := by decide +kernel
theorem dM_match_118 : decode cM_match 118 = .ok (.iload_n 2, 1) := by decide +kernel
theorem dM_match_119 : decode cM_match 119 = .ok (.iaload, 1) := by decide +kernel
theorem dM_match_120 : decode cM_match 120 = .ok (.ireturn, 1) := by decide +kernel
theorem dM_events_0 : decode cM_events 0 = .ok (.aload_n 0, 1) := by decide +kernel
theorem dM_events_1 : decode cM_events 1 = .ok (.iconst 0, 1) := by decide +kernel
theorem dM_events_2 : decode cM_events 2 = .ok (.putfield 41, 3) := by decide +kernel
theorem dM_events_5 : decode cM_events 5 = .ok (.aload_n 0, 1) := by decide +kernel
theorem dM_events_6 : decode cM_events 6 = .ok (.getfield 45, 3) := by decide +kernel
theorem dM_events_9 : decode cM_events 9 = .ok (.ireturn, 1) := by decide +kernel
