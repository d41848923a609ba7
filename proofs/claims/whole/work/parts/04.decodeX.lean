theorem dX_init_0 : decode cX_init 0 = .ok (.aload_n 0, 1) := by decide +kernel
theorem dX_init_1 : decode cX_init 1 = .ok (.invokespecial 1, 3) := by decide +kernel
theorem dX_init_4 : decode cX_init 4 = .ok (.aload_n 0, 1) := by decide +kernel
theorem dX_init_5 : decode cX_init 5 = .ok (.bipush 16, 2) := by decide +kernel
theorem dX_init_7 : decode cX_init 7 = .ok (.newarray .int, 2) := by decide +kernel
theorem dX_init_9 : decode cX_init 9 = .ok (.putfield 9, 3) := by decide +kernel
theorem dX_init_12 : decode cX_init 12 = .ok (.aload_n 0, 1) := by decide +kernel
theorem dX_init_13 : decode cX_init 13 = .ok (.bipush 16, 2) := by decide +kernel
theorem dX_init_15 : decode cX_init 15 = .ok (.newarray .int, 2) := by decide +kernel
theorem dX_init_17 : decode cX_init 17 = .ok (.putfield 13, 3) := by decide +kernel
theorem dX_init_20 : decode cX_init 20 = .ok (.aload_n 0, 1) := by decide +kernel
theorem dX_init_21 : decode cX_init 21 = .ok (.bipush 16, 2) := by decide +kernel
theorem dX_init_23 : decode cX_init 23 = .ok (.newarray .int, 2) := by decide +kernel
theorem dX_init_25 : decode cX_init 25 = .ok (.putfield 16, 3) := by decide +kernel
theorem dX_init_28 : decode cX_init 28 = .ok (.aload_n 0, 1) := by decide +kernel
theorem dX_init_29 : decode cX_init 29 = .ok (.iconst 5, 1) := by decide +kernel
theorem dX_init_30 : decode cX_init 30 = .ok (.newarray .int, 2) := by decide +kernel
theorem dX_init_32 : decode cX_init 32 = .ok (.putfield 19, 3) := by decide +kernel
theorem dX_init_35 : decode cX_init 35 = .ok (.aload_n 0, 1) := by decide +kernel
theorem dX_init_36 : decode cX_init 36 = .ok (.iconst 5, 1) := by decide +kernel
theorem dX_init_37 : decode cX_init 37 = .ok (.newarray .int, 2) := by decide +kernel
theorem dX_init_39 : decode cX_init 39 = .ok (.putfield 22, 3) := by decide +kernel
theorem dX_init_42 : decode cX_init 42 = .ok (.aload_n 0, 1) := by decide +kernel
theorem dX_init_43 : decode cX_init 43 = .ok (.iconst 5, 1) := by decide +kernel
theorem dX_init_44 : decode cX_init 44 = .ok (.newarray .int, 2) := by decide +kernel
theorem dX_init_46 : decode cX_init 46 = .ok (.putfield 25, 3) := by decide +kernel
theorem dX_init_49 : decode cX_init 49 = .ok (.aload_n 0, 1) := by decide +kernel
theorem dX_init_50 : decode cX_init 50 = .ok (.iconst 5, 1) := by decide +kernel
theorem dX_init_51 : decode cX_init 51 = .ok (.newarray .boolean, 2) := by decide +kernel
theorem dX_init_53 : decode cX_init 53 = .ok (.putfield 28, 3) := by decide +kernel
theorem dX_init_56 : decode cX_init 56 = .ok (.aload_n 0, 1) := by decide +kernel
theorem dX_init_57 : decode cX_init 57 = .ok (.bipush 16, 2) := by decide +kernel
theorem dX_init_59 : decode cX_init 59 = .ok (.iconst 5, 1) := by decide +kernel
theorem dX_init_60 : decode cX_init 60 = .ok (.multianewarray 32 2, 4) := by decide +kernel
theorem dX_init_64 : decode cX_init 64 = .ok (.putfield 34, 3) := by decide +kernel
theorem dX_init_67 : decode cX_init 67 = .ok (.aload_n 0, 1) := by decide +kernel
theorem dX_init_68 : decode cX_init 68 = .ok (.bipush 16, 2) := by decide +kernel
theorem dX_init_70 : decode cX_init 70 = .ok (.newarray .int, 2) := by decide +kernel
theorem dX_init_72 : decode cX_init 72 = .ok (.putfield 37, 3) := by decide +kernel
theorem dX_init_75 : decode cX_init 75 = .ok (.aload_n 0, 1) := by decide +kernel
theorem dX_init_76 : decode cX_init 76 = .ok (.bipush 16, 2) := by decide +kernel
theorem dX_init_78 : decode cX_init 78 = .ok (.newarray .int, 2) := by decide +kernel
theorem dX_init_80 : decode cX_init 80 = .ok (.putfield 40, 3) := by decide +kernel
theorem dX_init_83 : decode cX_init 83 = .ok (.aload_n 0, 1) := by decide +kernel
theorem dX_init_84 : decode cX_init 84 = .ok (.iconst 0, 1) := by decide +kernel
theorem dX_init_85 : decode cX_init 85 = .ok (.putfield 43, 3) := by decide +kernel
theorem dX_init_88 : decode cX_init 88 = .ok (.aload_n 0, 1) := by decide +kernel
theorem dX_init_89 : decode cX_init 89 = .ok (.iconst 0, 1) := by decide +kernel
theorem dX_init_90 : decode cX_init 90 = .ok (.putfield 47, 3) := by decide +kernel
theorem dX_init_93 : decode cX_init 93 = .ok (.aload_n 0, 1) := by decide +kernel
theorem dX_init_94 : decode cX_init 94 = .ok (.iconst 0, 1) := by decide +kernel
theorem dX_init_95 : decode cX_init 95 = .ok (.putfield 50, 3) := by decide +kernel
theorem dX_init_98 : decode cX_init 98 = .ok (.aload_n 0, 1) := by decide +kernel
theorem dX_init_99 : decode cX_init 99 = .ok (.iconst 0, 1) := by decide +kernel
theorem dX_init_100 : decode cX_init 100 = .ok (.putfield 53, 3) := by decide +kernel
theorem dX_init_103 : decode cX_init 103 = .ok (.aload_n 0, 1) := by decide +kernel
theorem dX_init_104 : decode cX_init 104 = .ok (.iconst 0, 1) := by decide +kernel
theorem dX_init_105 : decode cX_init 105 = .ok (.putfield 56, 3) := by decide +kernel
theorem dX_init_108 : decode cX_init 108 = .ok (.aload_n 0, 1) := by decide +kernel
theorem dX_init_109 : decode cX_init 109 = .ok (.iconst 0, 1) := by decide +kernel
theorem dX_init_110 : decode cX_init 110 = .ok (.putfield 59, 3) := by decide +kernel
theorem dX_init_113 : decode cX_init 113 = .ok (.return_, 1) := by decide +kernel
theorem dX_event_0 : decode cX_event 0 = .ok (.iload_n 1, 1) := by decide +kernel
theorem dX_event_1 : decode cX_event 1 = .ok (.aload_n 0, 1) := by decide +kernel
theorem dX_event_2 : decode cX_event 2 = .ok (.invokevirtual 62, 3) := by decide +kernel
theorem dX_event_5 : decode cX_event 5 = .ok (.if_icmp .lt 9, 3) := by decide +kernel
theorem dX_event_8 : decode cX_event 8 = .ok (.iload_n 1, 1) := by decide +kernel
theorem dX_event_9 : decode cX_event 9 = .ok (.ldc 66, 2) := by decide +kernel
theorem dX_event_11 : decode cX_event 11 = .ok (.if_icmp .le 13, 3) := by decide +kernel
theorem dX_event_14 : decode cX_event 14 = .ok (.new 67, 3) := by decide +kernel
theorem dX_event_17 : decode cX_event 17 = .ok (.dup, 1) := by decide +kernel
theorem dX_event_18 : decode cX_event 18 = .ok (.ldc 69, 2) := by decide +kernel
theorem dX_event_20 : decode cX_event 20 = .ok (.invokespecial 71, 3) := by decide +kernel
theorem dX_event_23 : decode cX_event 23 = .ok (.athrow, 1) := by decide +kernel
theorem dX_event_24 : decode cX_event 24 = .ok (.iload_n 2, 1) := by decide +kernel
theorem dX_event_25 : decode cX_event 25 = .ok (.ifCond .lt 9, 3) := by decide +kernel
theorem dX_event_28 : decode cX_event 28 = .ok (.iload_n 2, 1) := by decide +kernel
theorem dX_event_29 : decode cX_event 29 = .ok (.bipush 7, 2) := by decide +kernel
theorem dX_event_31 : decode cX_event 31 = .ok (.if_icmp .le 13, 3) := by decide +kernel
theorem dX_event_34 : decode cX_event 34 = .ok (.new 67, 3) := by decide +kernel
theorem dX_event_37 : decode cX_event 37 = .ok (.dup, 1) := by decide +kernel
theorem dX_event_38 : decode cX_event 38 = .ok (.ldc 74, 2) := by decide +kernel
theorem dX_event_40 : decode cX_event 40 = .ok (.invokespecial 71, 3) := by decide +kernel
theorem dX_event_43 : decode cX_event 43 = .ok (.athrow, 1) := by decide +kernel
theorem dX_event_44 : decode cX_event 44 = .ok (.aload_n 0, 1) := by decide +kernel
theorem dX_event_45 : decode cX_event 45 = .ok (.getfield 43, 3) := by decide +kernel
theorem dX_event_48 : decode cX_event 48 = .ok (.sipush 400, 3) := by decide +kernel
theorem dX_event_51 : decode cX_event 51 = .ok (.if_icmp .lt 13, 3) := by decide +kernel
theorem dX_event_54 : decode cX_event 54 = .ok (.new 76, 3) := by decide +kernel
theorem dX_event_57 : decode cX_event 57 = .ok (.dup, 1) := by decide +kernel
theorem dX_event_58 : decode cX_event 58 = .ok (.ldc 78, 2) := by decide +kernel
theorem dX_event_60 : decode cX_event 60 = .ok (.invokespecial 80, 3) := by decide +kernel
theorem dX_event_63 : decode cX_event 63 = .ok (.athrow, 1) := by decide +kernel
theorem dX_event_64 : decode cX_event 64 = .ok (.aload_n 0, 1) := by decide +kernel
theorem dX_event_65 : decode cX_event 65 = .ok (.getfield 47, 3) := by decide +kernel
theorem dX_event_68 : decode cX_event 68 = .ok (.bipush 16, 2) := by decide +kernel
theorem dX_event_70 : decode cX_event 70 = .ok (.if_icmp .lt 7, 3) := by decide +kernel
theorem dX_event_73 : decode cX_event 73 = .ok (.aload_n 0, 1) := by decide +kernel
theorem dX_event_74 : decode cX_event 74 = .ok (.invokevirtual 81, 3) := by decide +kernel
theorem dX_event_77 : decode cX_event 77 = .ok (.aload_n 0, 1) := by decide +kernel
theorem dX_event_78 : decode cX_event 78 = .ok (.getfield 9, 3) := by decide +kernel
theorem dX_event_81 : decode cX_event 81 = .ok (.aload_n 0, 1) := by decide +kernel
theorem dX_event_82 : decode cX_event 82 = .ok (.getfield 47, 3) := by decide +kernel
theorem dX_event_85 : decode cX_event 85 = .ok (.iload_n 1, 1) := by decide +kernel
theorem dX_event_86 : decode cX_event 86 = .ok (.iastore, 1) := by decide +kernel
theorem dX_event_87 : decode cX_event 87 = .ok (.aload_n 0, 1) := by decide +kernel
theorem dX_event_88 : decode cX_event 88 = .ok (.getfield 13, 3) := by decide +kernel
theorem dX_event_91 : decode cX_event 91 = .ok (.aload_n 0, 1) := by decide +kernel
theorem dX_event_92 : decode cX_event 92 = .ok (.getfield 47, 3) := by decide +kernel
theorem dX_event_95 : decode cX_event 95 = .ok (.iload_n 2, 1) := by decide +kernel
theorem dX_event_96 : decode cX_event 96 = .ok (.iastore, 1) := by decide +kernel
theorem dX_event_97 : decode cX_event 97 = .ok (.aload_n 0, 1) := by decide +kernel
theorem dX_event_98 : decode cX_event 98 = .ok (.getfield 16, 3) := by decide +kernel
theorem dX_event_101 : decode cX_event 101 = .ok (.aload_n 0, 1) := by decide +kernel
theorem dX_event_102 : decode cX_event 102 = .ok (.getfield 47, 3) := by decide +kernel
theorem dX_event_105 : decode cX_event 105 = .ok (.iload_n 3, 1) := by decide +kernel
theorem dX_event_106 : decode cX_event 106 = .ok (.iastore, 1) := by decide +kernel
theorem dX_event_107 : decode cX_event 107 = .ok (.aload_n 0, 1) := by decide +kernel
theorem dX_event_108 : decode cX_event 108 = .ok (.dup, 1) := by decide +kernel
theorem dX_event_109 : decode cX_event 109 = .ok (.getfield 47, 3) := by decide +kernel
theorem dX_event_112 : decode cX_event 112 = .ok (.iconst 1, 1) := by decide +kernel
theorem dX_event_113 : decode cX_event 113 = .ok (.iadd, 1) := by decide +kernel
theorem dX_event_114 : decode cX_event 114 = .ok (.putfield 47, 3) := by decide +kernel
theorem dX_event_117 : decode cX_event 117 = .ok (.aload_n 0, 1) := by decide +kernel
theorem dX_event_118 : decode cX_event 118 = .ok (.dup, 1) := by decide +kernel
theorem dX_event_119 : decode cX_event 119 = .ok (.getfield 43, 3) := by decide +kernel
theorem dX_event_122 : decode cX_event 122 = .ok (.iconst 1, 1) := by decide +kernel
theorem dX_event_123 : decode cX_event 123 = .ok (.iadd, 1) := by decide +kernel
theorem dX_event_124 : decode cX_event 124 = .ok (.putfield 43, 3) := by decide +kernel
theorem dX_event_127 : decode cX_event 127 = .ok (.aload_n 0, 1) := by decide +kernel
theorem dX_event_128 : decode cX_event 128 = .ok (.getfield 43, 3) := by decide +kernel
theorem dX_event_131 : decode cX_event 131 = .ok (.iconst 1, 1) := by decide +kernel
theorem dX_event_132 : decode cX_event 132 = .ok (.isub, 1) := by decide +kernel
theorem dX_event_133 : decode cX_event 133 = .ok (.ireturn, 1) := by decide +kernel
theorem dX_clear_0 : decode cX_clear 0 = .ok (.aload_n 0, 1) := by decide +kernel
theorem dX_clear_1 : decode cX_clear 1 = .ok (.iconst 0, 1) := by decide +kernel
theorem dX_clear_2 : decode cX_clear 2 = .ok (.putfield 43, 3) := by decide +kernel
theorem dX_clear_5 : decode cX_clear 5 = .ok (.aload_n 0, 1) := by decide +kernel
theorem dX_clear_6 : decode cX_clear 6 = .ok (.iconst 0, 1) := by decide +kernel
theorem dX_clear_7 : decode cX_clear 7 = .ok (.putfield 47, 3) := by decide +kernel
theorem dX_clear_10 : decode cX_clear 10 = .ok (.return_, 1) := by decide +kernel
theorem dX_pattern_0 : decode cX_pattern 0 = .ok (.iload_n 1, 1) := by decide +kernel
theorem dX_pattern_1 : decode cX_pattern 1 = .ok (.ifCond .eq 18, 3) := by decide +kernel
theorem dX_pattern_4 : decode cX_pattern 4 = .ok (.iload_n 1, 1) := by decide +kernel
theorem dX_pattern_5 : decode cX_pattern 5 = .ok (.iconst 1, 1) := by decide +kernel
theorem dX_pattern_6 : decode cX_pattern 6 = .ok (.if_icmp .eq 13, 3) := by decide +kernel
theorem dX_pattern_9 : decode cX_pattern 9 = .ok (.new 67, 3) := by decide +kernel
theorem dX_pattern_12 : decode cX_pattern 12 = .ok (.dup, 1) := by decide +kernel
theorem dX_pattern_13 : decode cX_pattern 13 = .ok (.ldc 84, 2) := by decide +kernel
theorem dX_pattern_15 : decode cX_pattern 15 = .ok (.invokespecial 71, 3) := by decide +kernel
theorem dX_pattern_18 : decode cX_pattern 18 = .ok (.athrow, 1) := by decide +kernel
theorem dX_pattern_19 : decode cX_pattern 19 = .ok (.iload_n 2, 1) := by decide +kernel
theorem dX_pattern_20 : decode cX_pattern 20 = .ok (.ifCond .lt 9, 3) := by decide +kernel
theorem dX_pattern_23 : decode cX_pattern 23 = .ok (.iload_n 2, 1) := by decide +kernel
theorem dX_pattern_24 : decode cX_pattern 24 = .ok (.ldc 66, 2) := by decide +kernel
theorem dX_pattern_26 : decode cX_pattern 26 = .ok (.if_icmp .le 13, 3) := by decide +kernel
theorem dX_pattern_29 : decode cX_pattern 29 = .ok (.new 67, 3) := by decide +kernel
theorem dX_pattern_32 : decode cX_pattern 32 = .ok (.dup, 1) := by decide +kernel
theorem dX_pattern_33 : decode cX_pattern 33 = .ok (.ldc 86, 2) := by decide +kernel
theorem dX_pattern_35 : decode cX_pattern 35 = .ok (.invokespecial 71, 3) := by decide +kernel
theorem dX_pattern_38 : decode cX_pattern 38 = .ok (.athrow, 1) := by decide +kernel
theorem dX_pattern_39 : decode cX_pattern 39 = .ok (.aload_n 0, 1) := by decide +kernel
theorem dX_pattern_40 : decode cX_pattern 40 = .ok (.iload_n 1, 1) := by decide +kernel
theorem dX_pattern_41 : decode cX_pattern 41 = .ok (.putfield 50, 3) := by decide +kernel
theorem dX_pattern_44 : decode cX_pattern 44 = .ok (.aload_n 0, 1) := by decide +kernel
theorem dX_pattern_45 : decode cX_pattern 45 = .ok (.iload_n 2, 1) := by decide +kernel
theorem dX_pattern_46 : decode cX_pattern 46 = .ok (.putfield 53, 3) := by decide +kernel
theorem dX_pattern_49 : decode cX_pattern 49 = .ok (.aload_n 0, 1) := by decide +kernel
theorem dX_pattern_50 : decode cX_pattern 50 = .ok (.iconst 0, 1) := by decide +kernel
theorem dX_pattern_51 : decode cX_pattern 51 = .ok (.putfield 56, 3) := by decide +kernel
theorem dX_pattern_54 : decode cX_pattern 54 = .ok (.return_, 1) := by decide +kernel
theorem dX_step_0 : decode cX_step 0 = .ok (.iload_n 1, 1) := by decide +kernel
theorem dX_step_1 : decode cX_step 1 = .ok (.iconst 1, 1) := by decide +kernel
theorem dX_step_2 : decode cX_step 2 = .ok (.if_icmp .lt 10, 3) := by decide +kernel
theorem dX_step_5 : decode cX_step 5 = .ok (.iload_n 1, 1) := by decide +kernel
theorem dX_step_6 : decode cX_step 6 = .ok (.sipush 255, 3) := by decide +kernel
theorem dX_step_9 : decode cX_step 9 = .ok (.if_icmp .le 13, 3) := by decide +kernel
theorem dX_step_12 : decode cX_step 12 = .ok (.new 67, 3) := by decide +kernel
theorem dX_step_15 : decode cX_step 15 = .ok (.dup, 1) := by decide +kernel
theorem dX_step_16 : decode cX_step 16 = .ok (.ldc 88, 2) := by decide +kernel
theorem dX_step_18 : decode cX_step 18 = .ok (.invokespecial 71, 3) := by decide +kernel
theorem dX_step_21 : decode cX_step 21 = .ok (.athrow, 1) := by decide +kernel
theorem dX_step_22 : decode cX_step 22 = .ok (.iload_n 2, 1) := by decide +kernel
theorem dX_step_23 : decode cX_step 23 = .ok (.ifCond .lt 8, 3) := by decide +kernel
theorem dX_step_26 : decode cX_step 26 = .ok (.iload_n 2, 1) := by decide +kernel
theorem dX_step_27 : decode cX_step 27 = .ok (.iconst 4, 1) := by decide +kernel
theorem dX_step_28 : decode cX_step 28 = .ok (.if_icmp .le 13, 3) := by decide +kernel
theorem dX_step_31 : decode cX_step 31 = .ok (.new 67, 3) := by decide +kernel
theorem dX_step_34 : decode cX_step 34 = .ok (.dup, 1) := by decide +kernel
theorem dX_step_35 : decode cX_step 35 = .ok (.ldc 90, 2) := by decide +kernel
theorem dX_step_37 : decode cX_step 37 = .ok (.invokespecial 71, 3) := by decide +kernel
theorem dX_step_40 : decode cX_step 40 = .ok (.athrow, 1) := by decide +kernel
theorem dX_step_41 : decode cX_step 41 = .ok (.aload_n 0, 1) := by decide +kernel
theorem dX_step_42 : decode cX_step 42 = .ok (.getfield 56, 3) := by decide +kernel
theorem dX_step_45 : decode cX_step 45 = .ok (.iconst 5, 1) := by decide +kernel
theorem dX_step_46 : decode cX_step 46 = .ok (.if_icmp .lt 13, 3) := by decide +kernel
theorem dX_step_49 : decode cX_step 49 = .ok (.new 76, 3) := by decide +kernel
theorem dX_step_52 : decode cX_step 52 = .ok (.dup, 1) := by decide +kernel
theorem dX_step_53 : decode cX_step 53 = .ok (.ldc 92, 2) := by decide +kernel
theorem dX_step_55 : decode cX_step 55 = .ok (.invokespecial 80, 3) := by decide +kernel
theorem dX_step_58 : decode cX_step 58 = .ok (.athrow, 1) := by decide +kernel
theorem dX_step_59 : decode cX_step 59 = .ok (.aload_n 0, 1) := by decide +kernel
theorem dX_step_60 : decode cX_step 60 = .ok (.getfield 19, 3) := by decide +kernel
theorem dX_step_63 : decode cX_step 63 = .ok (.aload_n 0, 1) := by decide +kernel
theorem dX_step_64 : decode cX_step 64 = .ok (.getfield 56, 3) := by decide +kernel
theorem dX_step_67 : decode cX_step 67 = .ok (.iload_n 1, 1) := by decide +kernel
theorem dX_step_68 : decode cX_step 68 = .ok (.iastore, 1) := by decide +kernel
theorem dX_step_69 : decode cX_step 69 = .ok (.aload_n 0, 1) := by decide +kernel
theorem dX_step_70 : decode cX_step 70 = .ok (.getfield 22, 3) := by decide +kernel
theorem dX_step_73 : decode cX_step 73 = .ok (.aload_n 0, 1) := by decide +kernel
theorem dX_step_74 : decode cX_step 74 = .ok (.getfield 56, 3) := by decide +kernel
theorem dX_step_77 : decode cX_step 77 = .ok (.iload_n 2, 1) := by decide +kernel
theorem dX_step_78 : decode cX_step 78 = .ok (.iastore, 1) := by decide +kernel
theorem dX_step_79 : decode cX_step 79 = .ok (.aload_n 0, 1) := by decide +kernel
theorem dX_step_80 : decode cX_step 80 = .ok (.getfield 25, 3) := by decide +kernel
theorem dX_step_83 : decode cX_step 83 = .ok (.aload_n 0, 1) := by decide +kernel
theorem dX_step_84 : decode cX_step 84 = .ok (.getfield 56, 3) := by decide +kernel
theorem dX_step_87 : decode cX_step 87 = .ok (.iload_n 3, 1) := by decide +kernel
theorem dX_step_88 : decode cX_step 88 = .ok (.iastore, 1) := by decide +kernel
theorem dX_step_89 : decode cX_step 89 = .ok (.aload_n 0, 1) := by decide +kernel
theorem dX_step_90 : decode cX_step 90 = .ok (.getfield 28, 3) := by decide +kernel
theorem dX_step_93 : decode cX_step 93 = .ok (.aload_n 0, 1) := by decide +kernel
theorem dX_step_94 : decode cX_step 94 = .ok (.getfield 56, 3) := by decide +kernel
theorem dX_step_97 : decode cX_step 97 = .ok (.iload 4, 2) := by decide +kernel
theorem dX_step_99 : decode cX_step 99 = .ok (.bastore, 1) := by decide +kernel
theorem dX_step_100 : decode cX_step 100 = .ok (.aload_n 0, 1) := by decide +kernel
theorem dX_step_101 : decode cX_step 101 = .ok (.dup, 1) := by decide +kernel
theorem dX_step_102 : decode cX_step 102 = .ok (.getfield 56, 3) := by decide +kernel
theorem dX_step_105 : decode cX_step 105 = .ok (.iconst 1, 1) := by decide +kernel
theorem dX_step_106 : decode cX_step 106 = .ok (.iadd, 1) := by decide +kernel
theorem dX_step_107 : decode cX_step 107 = .ok (.putfield 56, 3) := by decide +kernel
theorem dX_step_110 : decode cX_step 110 = .ok (.aload_n 0, 1) := by decide +kernel
theorem dX_step_111 : decode cX_step 111 = .ok (.getfield 56, 3) := by decide +kernel
theorem dX_step_114 : decode cX_step 114 = .ok (.iconst 1, 1) := by decide +kernel
theorem dX_step_115 : decode cX_step 115 = .ok (.isub, 1) := by decide +kernel
theorem dX_step_116 : decode cX_step 116 = .ok (.ireturn, 1) := by decide +kernel
theorem dX_count_0 : decode cX_count 0 = .ok (.aload_n 0, 1) := by decide +kernel
theorem dX_count_1 : decode cX_count 1 = .ok (.invokevirtual 94, 3) := by decide +kernel
theorem dX_count_4 : decode cX_count 4 = .ok (.aload_n 0, 1) := by decide +kernel
theorem dX_count_5 : decode cX_count 5 = .ok (.iconst 0, 1) := by decide +kernel
theorem dX_count_6 : decode cX_count 6 = .ok (.invokevirtual 97, 3) := by decide +kernel
theorem dX_count_9 : decode cX_count 9 = .ok (.ireturn, 1) := by decide +kernel
theorem dX_latest_0 : decode cX_latest 0 = .ok (.aload_n 0, 1) := by decide +kernel
theorem dX_latest_1 : decode cX_latest 1 = .ok (.invokevirtual 94, 3) := by decide +kernel
theorem dX_latest_4 : decode cX_latest 4 = .ok (.aload_n 0, 1) := by decide +kernel
theorem dX_latest_5 : decode cX_latest 5 = .ok (.aload_n 0, 1) := by decide +kernel
theorem dX_latest_6 : decode cX_latest 6 = .ok (.getfield 47, 3) := by decide +kernel
theorem dX_latest_9 : decode cX_latest 9 = .ok (.iconst 1, 1) := by decide +kernel
theorem dX_latest_10 : decode cX_latest 10 = .ok (.isub, 1) := by decide +kernel
theorem dX_latest_11 : decode cX_latest 11 = .ok (.invokevirtual 97, 3) := by decide +kernel
theorem dX_latest_14 : decode cX_latest 14 = .ok (.ireturn, 1) := by decide +kernel
theorem dX_length_0 : decode cX_length 0 = .ok (.aload_n 0, 1) := by decide +kernel
theorem dX_length_1 : decode cX_length 1 = .ok (.invokevirtual 94, 3) := by decide +kernel
theorem dX_length_4 : decode cX_length 4 = .ok (.aload_n 0, 1) := by decide +kernel
theorem dX_length_5 : decode cX_length 5 = .ok (.iload_n 1, 1) := by decide +kernel
theorem dX_length_6 : decode cX_length 6 = .ok (.invokevirtual 101, 3) := by decide +kernel
theorem dX_length_9 : decode cX_length 9 = .ok (.aload_n 0, 1) := by decide +kernel
theorem dX_length_10 : decode cX_length 10 = .ok (.getfield 59, 3) := by decide +kernel
theorem dX_length_13 : decode cX_length 13 = .ok (.ireturn, 1) := by decide +kernel
theorem dX_match_0 : decode cX_match 0 = .ok (.aload_n 0, 1) := by decide +kernel
theorem dX_match_1 : decode cX_match 1 = .ok (.invokevirtual 94, 3) := by decide +kernel
theorem dX_match_4 : decode cX_match 4 = .ok (.aload_n 0, 1) := by decide +kernel
theorem dX_match_5 : decode cX_match 5 = .ok (.iload_n 1, 1) := by decide +kernel
theorem dX_match_6 : decode cX_match 6 = .ok (.invokevirtual 101, 3) := by decide +kernel
theorem dX_match_9 : decode cX_match 9 = .ok (.iload_n 2, 1) := by decide +kernel
theorem dX_match_10 : decode cX_match 10 = .ok (.ifCond .lt 11, 3) := by decide +kernel
theorem dX_match_13 : decode cX_match 13 = .ok (.iload_n 2, 1) := by decide +kernel
theorem dX_match_14 : decode cX_match 14 = .ok (.aload_n 0, 1) := by decide +kernel
theorem dX_match_15 : decode cX_match 15 = .ok (.getfield 59, 3) := by decide +kernel
theorem dX_match_18 : decode cX_match 18 = .ok (.if_icmp .lt 13, 3) := by decide +kernel
theorem dX_match_21 : decode cX_match 21 = .ok (.new 105, 3) := by decide +kernel
theorem dX_match_24 : decode cX_match 24 = .ok (.dup, 1) := by decide +kernel
theorem dX_match_25 : decode cX_match 25 = .ok (.ldc 107, 2) := by decide +kernel
theorem dX_match_27 : decode cX_match 27 = .ok (.invokespecial 109, 3) := by decide +kernel
theorem dX_match_30 : decode cX_match 30 = .ok (.athrow, 1) := by decide +kernel
theorem dX_match_31 : decode cX_match 31 = .ok (.iload_n 3, 1) := by decide +kernel
theorem dX_match_32 : decode cX_match 32 = .ok (.ifCond .ne 20, 3) := by decide +kernel
theorem dX_match_35 : decode cX_match 35 = .ok (.aload_n 0, 1) := by decide +kernel
theorem dX_match_36 : decode cX_match 36 = .ok (.getfield 43, 3) := by decide +kernel
theorem dX_match_39 : decode cX_match 39 = .ok (.aload_n 0, 1) := by decide +kernel
theorem dX_match_40 : decode cX_match 40 = .ok (.getfield 47, 3) := by decide +kernel
theorem dX_match_43 : decode cX_match 43 = .ok (.isub, 1) := by decide +kernel
theorem dX_match_44 : decode cX_match 44 = .ok (.aload_n 0, 1) := by decide +kernel
theorem dX_match_45 : decode cX_match 45 = .ok (.getfield 37, 3) := by decide +kernel
theorem dX_match_48 : decode cX_match 48 = .ok (.iload_n 2, 1) := by decide +kernel
theorem dX_match_49 : decode cX_match 49 = .ok (.iaload, 1) := by decide +kernel
theorem dX_match_50 : decode cX_match 50 = .ok (.iadd, 1) := by decide +kernel
theorem dX_match_51 : decode cX_match 51 = .ok (.ireturn, 1) := by decide +kernel
theorem dX_match_52 : decode cX_match 52 = .ok (.iload_n 3, 1) := by decide +kernel
theorem dX_match_53 : decode cX_match 53 = .ok (.iconst 1, 1) := by decide +kernel
theorem dX_match_54 : decode cX_match 54 = .ok (.if_icmp .ne 10, 3) := by decide +kernel
theorem dX_match_57 : decode cX_match 57 = .ok (.aload_n 0, 1) := by decide +kernel
theorem dX_match_58 : decode cX_match 58 = .ok (.getfield 40, 3) := by decide +kernel
theorem dX_match_61 : decode cX_match 61 = .ok (.iload_n 2, 1) := by decide +kernel
theorem dX_match_62 : decode cX_match 62 = .ok (.iaload, 1) := by decide +kernel
theorem dX_match_63 : decode cX_match 63 = .ok (.ireturn, 1) := by decide +kernel
theorem dX_match_64 : decode cX_match 64 = .ok (.new 67, 3) := by decide +kernel
theorem dX_match_67 : decode cX_match 67 = .ok (.dup, 1) := by decide +kernel
theorem dX_match_68 : decode cX_match 68 = .ok (.ldc 110, 2) := by decide +kernel
theorem dX_match_70 : decode cX_match 70 = .ok (.invokespecial 71, 3) := by decide +kernel
theorem dX_match_73 : decode cX_match 73 = .ok (.athrow, 1) := by decide +kernel
theorem dX_events_0 : decode cX_events 0 = .ok (.aload_n 0, 1) := by decide +kernel
theorem dX_events_1 : decode cX_events 1 = .ok (.getfield 43, 3) := by decide +kernel
theorem dX_events_4 : decode cX_events 4 = .ok (.ireturn, 1) := by decide +kernel
theorem dX_earliestTime_0 : decode cX_earliestTime 0 = .ok (.aload_n 0, 1) := by decide +kernel
theorem dX_earliestTime_1 : decode cX_earliestTime 1 = .ok (.getfield 47, 3) := by decide +kernel
theorem dX_earliestTime_4 : decode cX_earliestTime 4 = .ok (.ifCond .le 17, 3) := by decide +kernel
theorem dX_earliestTime_7 : decode cX_earliestTime 7 = .ok (.aload_n 0, 1) := by decide +kernel
theorem dX_earliestTime_8 : decode cX_earliestTime 8 = .ok (.getfield 9, 3) := by decide +kernel
theorem dX_earliestTime_11 : decode cX_earliestTime 11 = .ok (.aload_n 0, 1) := by decide +kernel
theorem dX_earliestTime_12 : decode cX_earliestTime 12 = .ok (.getfield 47, 3) := by decide +kernel
theorem dX_earliestTime_15 : decode cX_earliestTime 15 = .ok (.iconst 1, 1) := by decide +kernel
theorem dX_earliestTime_16 : decode cX_earliestTime 16 = .ok (.isub, 1) := by decide +kernel
theorem dX_earliestTime_17 : decode cX_earliestTime 17 = .ok (.iaload, 1) := by decide +kernel
theorem dX_earliestTime_18 : decode cX_earliestTime 18 = .ok (.goto 4, 3) := by decide +kernel
theorem dX_earliestTime_21 : decode cX_earliestTime 21 = .ok (.iconst 0, 1) := by decide +kernel
theorem dX_earliestTime_22 : decode cX_earliestTime 22 = .ok (.ireturn, 1) := by decide +kernel
theorem dX_dropOldest_0 : decode cX_dropOldest 0 = .ok (.iconst 1, 1) := by decide +kernel
theorem dX_dropOldest_1 : decode cX_dropOldest 1 = .ok (.istore_n 1, 1) := by decide +kernel
theorem dX_dropOldest_2 : decode cX_dropOldest 2 = .ok (.iload_n 1, 1) := by decide +kernel
theorem dX_dropOldest_3 : decode cX_dropOldest 3 = .ok (.bipush 16, 2) := by decide +kernel
theorem dX_dropOldest_5 : decode cX_dropOldest 5 = .ok (.if_icmp .ge 51, 3) := by decide +kernel
theorem dX_dropOldest_8 : decode cX_dropOldest 8 = .ok (.aload_n 0, 1) := by decide +kernel
theorem dX_dropOldest_9 : decode cX_dropOldest 9 = .ok (.getfield 9, 3) := by decide +kernel
theorem dX_dropOldest_12 : decode cX_dropOldest 12 = .ok (.iload_n 1, 1) := by decide +kernel
theorem dX_dropOldest_13 : decode cX_dropOldest 13 = .ok (.iconst 1, 1) := by decide +kernel
theorem dX_dropOldest_14 : decode cX_dropOldest 14 = .ok (.isub, 1) := by decide +kernel
theorem dX_dropOldest_15 : decode cX_dropOldest 15 = .ok (.aload_n 0, 1) := by decide +kernel
theorem dX_dropOldest_16 : decode cX_dropOldest 16 = .ok (.getfield 9, 3) := by decide +kernel
theorem dX_dropOldest_19 : decode cX_dropOldest 19 = .ok (.iload_n 1, 1) := by decide +kernel
theorem dX_dropOldest_20 : decode cX_dropOldest 20 = .ok (.iaload, 1) := by decide +kernel
theorem dX_dropOldest_21 : decode cX_dropOldest 21 = .ok (.iastore, 1) := by decide +kernel
theorem dX_dropOldest_22 : decode cX_dropOldest 22 = .ok (.aload_n 0, 1) := by decide +kernel
theorem dX_dropOldest_23 : decode cX_dropOldest 23 = .ok (.getfield 13, 3) := by decide +kernel
theorem dX_dropOldest_26 : decode cX_dropOldest 26 = .ok (.iload_n 1, 1) := by decide +kernel
theorem dX_dropOldest_27 : decode cX_dropOldest 27 = .ok (.iconst 1, 1) := by decide +kernel
theorem dX_dropOldest_28 : decode cX_dropOldest 28 = .ok (.isub, 1) := by decide +kernel
theorem dX_dropOldest_29 : decode cX_dropOldest 29 = .ok (.aload_n 0, 1) := by decide +kernel
theorem dX_dropOldest_30 : decode cX_dropOldest 30 = .ok (.getfield 13, 3) := by decide +kernel
theorem dX_dropOldest_33 : decode cX_dropOldest 33 = .ok (.iload_n 1, 1) := by decide +kernel
theorem dX_dropOldest_34 : decode cX_dropOldest 34 = .ok (.iaload, 1) := by decide +kernel
theorem dX_dropOldest_35 : decode cX_dropOldest 35 = .ok (.iastore, 1) := by decide +kernel
theorem dX_dropOldest_36 : decode cX_dropOldest 36 = .ok (.aload_n 0, 1) := by decide +kernel
theorem dX_dropOldest_37 : decode cX_dropOldest 37 = .ok (.getfield 16, 3) := by decide +kernel
theorem dX_dropOldest_40 : decode cX_dropOldest 40 = .ok (.iload_n 1, 1) := by decide +kernel
theorem dX_dropOldest_41 : decode cX_dropOldest 41 = .ok (.iconst 1, 1) := by decide +kernel
theorem dX_dropOldest_42 : decode cX_dropOldest 42 = .ok (.isub, 1) := by decide +kernel
theorem dX_dropOldest_43 : decode cX_dropOldest 43 = .ok (.aload_n 0, 1) := by decide +kernel
theorem dX_dropOldest_44 : decode cX_dropOldest 44 = .ok (.getfield 16, 3) := by decide +kernel
theorem dX_dropOldest_47 : decode cX_dropOldest 47 = .ok (.iload_n 1, 1) := by decide +kernel
theorem dX_dropOldest_48 : decode cX_dropOldest 48 = .ok (.iaload, 1) := by decide +kernel
theorem dX_dropOldest_49 : decode cX_dropOldest 49 = .ok (.iastore, 1) := by decide +kernel
theorem dX_dropOldest_50 : decode cX_dropOldest 50 = .ok (.iinc 1 1, 3) := by decide +kernel
theorem dX_dropOldest_53 : decode cX_dropOldest 53 = .ok (.goto (-51), 3) := by decide +kernel
theorem dX_dropOldest_56 : decode cX_dropOldest 56 = .ok (.aload_n 0, 1) := by decide +kernel
theorem dX_dropOldest_57 : decode cX_dropOldest 57 = .ok (.bipush 15, 2) := by decide +kernel
theorem dX_dropOldest_59 : decode cX_dropOldest 59 = .ok (.putfield 47, 3) := by decide +kernel
theorem dX_dropOldest_62 : decode cX_dropOldest 62 = .ok (.return_, 1) := by decide +kernel
theorem dX_needSteps_0 : decode cX_needSteps 0 = .ok (.aload_n 0, 1) := by decide +kernel
theorem dX_needSteps_1 : decode cX_needSteps 1 = .ok (.getfield 56, 3) := by decide +kernel
theorem dX_needSteps_4 : decode cX_needSteps 4 = .ok (.ifCond .ne 13, 3) := by decide +kernel
theorem dX_needSteps_7 : decode cX_needSteps 7 = .ok (.new 112, 3) := by decide +kernel
theorem dX_needSteps_10 : decode cX_needSteps 10 = .ok (.dup, 1) := by decide +kernel
theorem dX_needSteps_11 : decode cX_needSteps 11 = .ok (.ldc 114, 2) := by decide +kernel
theorem dX_needSteps_13 : decode cX_needSteps 13 = .ok (.invokespecial 116, 3) := by decide +kernel
theorem dX_needSteps_16 : decode cX_needSteps 16 = .ok (.athrow, 1) := by decide +kernel
theorem dX_needSteps_17 : decode cX_needSteps 17 = .ok (.return_, 1) := by decide +kernel
theorem dX_needMatch_0 : decode cX_needMatch 0 = .ok (.aload_n 0, 1) := by decide +kernel
theorem dX_needMatch_1 : decode cX_needMatch 1 = .ok (.iload_n 1, 1) := by decide +kernel
theorem dX_needMatch_2 : decode cX_needMatch 2 = .ok (.invokevirtual 117, 3) := by decide +kernel
theorem dX_needMatch_5 : decode cX_needMatch 5 = .ok (.ifCond .ne 13, 3) := by decide +kernel
theorem dX_needMatch_8 : decode cX_needMatch 8 = .ok (.new 105, 3) := by decide +kernel
theorem dX_needMatch_11 : decode cX_needMatch 11 = .ok (.dup, 1) := by decide +kernel
theorem dX_needMatch_12 : decode cX_needMatch 12 = .ok (.ldc 121, 2) := by decide +kernel
theorem dX_needMatch_14 : decode cX_needMatch 14 = .ok (.invokespecial 109, 3) := by decide +kernel
theorem dX_needMatch_17 : decode cX_needMatch 17 = .ok (.athrow, 1) := by decide +kernel
theorem dX_needMatch_18 : decode cX_needMatch 18 = .ok (.return_, 1) := by decide +kernel
theorem dX_countEnding_0 : decode cX_countEnding 0 = .ok (.iconst 0, 1) := by decide +kernel
theorem dX_countEnding_1 : decode cX_countEnding 1 = .ok (.istore_n 2, 1) := by decide +kernel
theorem dX_countEnding_2 : decode cX_countEnding 2 = .ok (.iconst 0, 1) := by decide +kernel
theorem dX_countEnding_3 : decode cX_countEnding 3 = .ok (.istore_n 3, 1) := by decide +kernel
theorem dX_countEnding_4 : decode cX_countEnding 4 = .ok (.iload_n 3, 1) := by decide +kernel
theorem dX_countEnding_5 : decode cX_countEnding 5 = .ok (.aload_n 0, 1) := by decide +kernel
theorem dX_countEnding_6 : decode cX_countEnding 6 = .ok (.getfield 47, 3) := by decide +kernel
theorem dX_countEnding_9 : decode cX_countEnding 9 = .ok (.if_icmp .ge 18, 3) := by decide +kernel
theorem dX_countEnding_12 : decode cX_countEnding 12 = .ok (.iload_n 2, 1) := by decide +kernel
theorem dX_countEnding_13 : decode cX_countEnding 13 = .ok (.aload_n 0, 1) := by decide +kernel
theorem dX_countEnding_14 : decode cX_countEnding 14 = .ok (.iload_n 3, 1) := by decide +kernel
theorem dX_countEnding_15 : decode cX_countEnding 15 = .ok (.iload_n 1, 1) := by decide +kernel
theorem dX_countEnding_16 : decode cX_countEnding 16 = .ok (.invokevirtual 123, 3) := by decide +kernel
theorem dX_countEnding_19 : decode cX_countEnding 19 = .ok (.iadd, 1) := by decide +kernel
theorem dX_countEnding_20 : decode cX_countEnding 20 = .ok (.istore_n 2, 1) := by decide +kernel
theorem dX_countEnding_21 : decode cX_countEnding 21 = .ok (.iinc 3 1, 3) := by decide +kernel
theorem dX_countEnding_24 : decode cX_countEnding 24 = .ok (.goto (-20), 3) := by decide +kernel
theorem dX_countEnding_27 : decode cX_countEnding 27 = .ok (.iload_n 2, 1) := by decide +kernel
theorem dX_countEnding_28 : decode cX_countEnding 28 = .ok (.ireturn, 1) := by decide +kernel
theorem dX_waysFrom_0 : decode cX_waysFrom 0 = .ok (.aload_n 0, 1) := by decide +kernel
theorem dX_waysFrom_1 : decode cX_waysFrom 1 = .ok (.iload_n 1, 1) := by decide +kernel
theorem dX_waysFrom_2 : decode cX_waysFrom 2 = .ok (.iconst 0, 1) := by decide +kernel
theorem dX_waysFrom_3 : decode cX_waysFrom 3 = .ok (.iload_n 1, 1) := by decide +kernel
theorem dX_waysFrom_4 : decode cX_waysFrom 4 = .ok (.iload_n 1, 1) := by decide +kernel
theorem dX_waysFrom_5 : decode cX_waysFrom 5 = .ok (.invokevirtual 127, 3) := by decide +kernel
theorem dX_waysFrom_8 : decode cX_waysFrom 8 = .ok (.ifCond .ne 5, 3) := by decide +kernel
theorem dX_waysFrom_11 : decode cX_waysFrom 11 = .ok (.iconst 0, 1) := by decide +kernel
theorem dX_waysFrom_12 : decode cX_waysFrom 12 = .ok (.ireturn, 1) := by decide +kernel
theorem dX_waysFrom_13 : decode cX_waysFrom 13 = .ok (.aload_n 0, 1) := by decide +kernel
theorem dX_waysFrom_14 : decode cX_waysFrom 14 = .ok (.getfield 47, 3) := by decide +kernel
theorem dX_waysFrom_17 : decode cX_waysFrom 17 = .ok (.iconst 1, 1) := by decide +kernel
theorem dX_waysFrom_18 : decode cX_waysFrom 18 = .ok (.isub, 1) := by decide +kernel
theorem dX_waysFrom_19 : decode cX_waysFrom 19 = .ok (.istore_n 3, 1) := by decide +kernel
theorem dX_waysFrom_20 : decode cX_waysFrom 20 = .ok (.iload_n 3, 1) := by decide +kernel
theorem dX_waysFrom_21 : decode cX_waysFrom 21 = .ok (.iload_n 1, 1) := by decide +kernel
theorem dX_waysFrom_22 : decode cX_waysFrom 22 = .ok (.if_icmp .lt 45, 3) := by decide +kernel
theorem dX_waysFrom_25 : decode cX_waysFrom 25 = .ok (.iconst 0, 1) := by decide +kernel
theorem dX_waysFrom_26 : decode cX_waysFrom 26 = .ok (.istore 4, 2) := by decide +kernel
theorem dX_waysFrom_28 : decode cX_waysFrom 28 = .ok (.iload 4, 2) := by decide +kernel
theorem dX_waysFrom_30 : decode cX_waysFrom 30 = .ok (.aload_n 0, 1) := by decide +kernel
theorem dX_waysFrom_31 : decode cX_waysFrom 31 = .ok (.getfield 56, 3) := by decide +kernel
theorem dX_waysFrom_34 : decode cX_waysFrom 34 = .ok (.if_icmp .ge 27, 3) := by decide +kernel
theorem dX_waysFrom_37 : decode cX_waysFrom 37 = .ok (.aload_n 0, 1) := by decide +kernel
theorem dX_waysFrom_38 : decode cX_waysFrom 38 = .ok (.getfield 34, 3) := by decide +kernel
theorem dX_waysFrom_41 : decode cX_waysFrom 41 = .ok (.iload_n 3, 1) := by decide +kernel
theorem dX_waysFrom_42 : decode cX_waysFrom 42 = .ok (.aaload, 1) := by decide +kernel
theorem dX_waysFrom_43 : decode cX_waysFrom 43 = .ok (.iload 4, 2) := by decide +kernel
theorem dX_waysFrom_45 : decode cX_waysFrom 45 = .ok (.aload_n 0, 1) := by decide +kernel
theorem dX_waysFrom_46 : decode cX_waysFrom 46 = .ok (.iload_n 1, 1) := by decide +kernel
theorem dX_waysFrom_47 : decode cX_waysFrom 47 = .ok (.iload_n 3, 1) := by decide +kernel
theorem dX_waysFrom_48 : decode cX_waysFrom 48 = .ok (.iload 4, 2) := by decide +kernel
theorem dX_waysFrom_50 : decode cX_waysFrom 50 = .ok (.iload_n 2, 1) := by decide +kernel
theorem dX_waysFrom_51 : decode cX_waysFrom 51 = .ok (.invokevirtual 131, 3) := by decide +kernel
theorem dX_waysFrom_54 : decode cX_waysFrom 54 = .ok (.iastore, 1) := by decide +kernel
theorem dX_waysFrom_55 : decode cX_waysFrom 55 = .ok (.iinc 4 1, 3) := by decide +kernel
theorem dX_waysFrom_58 : decode cX_waysFrom 58 = .ok (.goto (-30), 3) := by decide +kernel
theorem dX_waysFrom_61 : decode cX_waysFrom 61 = .ok (.iinc 3 (-1), 3) := by decide +kernel
theorem dX_waysFrom_64 : decode cX_waysFrom 64 = .ok (.goto (-44), 3) := by decide +kernel
theorem dX_waysFrom_67 : decode cX_waysFrom 67 = .ok (.aload_n 0, 1) := by decide +kernel
theorem dX_waysFrom_68 : decode cX_waysFrom 68 = .ok (.getfield 34, 3) := by decide +kernel
theorem dX_waysFrom_71 : decode cX_waysFrom 71 = .ok (.iload_n 1, 1) := by decide +kernel
theorem dX_waysFrom_72 : decode cX_waysFrom 72 = .ok (.aaload, 1) := by decide +kernel
theorem dX_waysFrom_73 : decode cX_waysFrom 73 = .ok (.iconst 0, 1) := by decide +kernel
theorem dX_waysFrom_74 : decode cX_waysFrom 74 = .ok (.iaload, 1) := by decide +kernel
theorem dX_waysFrom_75 : decode cX_waysFrom 75 = .ok (.ireturn, 1) := by decide +kernel
theorem dX_waysOn_0 : decode cX_waysOn 0 = .ok (.aload_n 0, 1) := by decide +kernel
theorem dX_waysOn_1 : decode cX_waysOn 1 = .ok (.iload_n 3, 1) := by decide +kernel
theorem dX_waysOn_2 : decode cX_waysOn 2 = .ok (.invokevirtual 135, 3) := by decide +kernel
theorem dX_waysOn_5 : decode cX_waysOn 5 = .ok (.ifCond .eq 13, 3) := by decide +kernel
theorem dX_waysOn_8 : decode cX_waysOn 8 = .ok (.iload_n 2, 1) := by decide +kernel
theorem dX_waysOn_9 : decode cX_waysOn 9 = .ok (.iload 4, 2) := by decide +kernel
theorem dX_waysOn_11 : decode cX_waysOn 11 = .ok (.if_icmp .lt 7, 3) := by decide +kernel
theorem dX_waysOn_14 : decode cX_waysOn 14 = .ok (.iconst 1, 1) := by decide +kernel
theorem dX_waysOn_15 : decode cX_waysOn 15 = .ok (.goto 4, 3) := by decide +kernel
theorem dX_waysOn_18 : decode cX_waysOn 18 = .ok (.iconst 0, 1) := by decide +kernel
theorem dX_waysOn_19 : decode cX_waysOn 19 = .ok (.istore 5, 2) := by decide +kernel
theorem dX_waysOn_21 : decode cX_waysOn 21 = .ok (.iload_n 2, 1) := by decide +kernel
theorem dX_waysOn_22 : decode cX_waysOn 22 = .ok (.iconst 1, 1) := by decide +kernel
theorem dX_waysOn_23 : decode cX_waysOn 23 = .ok (.iadd, 1) := by decide +kernel
theorem dX_waysOn_24 : decode cX_waysOn 24 = .ok (.istore 6, 2) := by decide +kernel
theorem dX_waysOn_26 : decode cX_waysOn 26 = .ok (.iload 6, 2) := by decide +kernel
theorem dX_waysOn_28 : decode cX_waysOn 28 = .ok (.aload_n 0, 1) := by decide +kernel
theorem dX_waysOn_29 : decode cX_waysOn 29 = .ok (.getfield 47, 3) := by decide +kernel
theorem dX_waysOn_32 : decode cX_waysOn 32 = .ok (.if_icmp .ge 48, 3) := by decide +kernel
theorem dX_waysOn_35 : decode cX_waysOn 35 = .ok (.aload_n 0, 1) := by decide +kernel
theorem dX_waysOn_36 : decode cX_waysOn 36 = .ok (.iload_n 1, 1) := by decide +kernel
theorem dX_waysOn_37 : decode cX_waysOn 37 = .ok (.iload_n 2, 1) := by decide +kernel
theorem dX_waysOn_38 : decode cX_waysOn 38 = .ok (.iload 6, 2) := by decide +kernel
theorem dX_waysOn_40 : decode cX_waysOn 40 = .ok (.invokevirtual 138, 3) := by decide +kernel
theorem dX_waysOn_43 : decode cX_waysOn 43 = .ok (.ifCond .eq 37, 3) := by decide +kernel
theorem dX_waysOn_46 : decode cX_waysOn 46 = .ok (.iload 5, 2) := by decide +kernel
theorem dX_waysOn_48 : decode cX_waysOn 48 = .ok (.aload_n 0, 1) := by decide +kernel
theorem dX_waysOn_49 : decode cX_waysOn 49 = .ok (.iload_n 1, 1) := by decide +kernel
theorem dX_waysOn_50 : decode cX_waysOn 50 = .ok (.iload_n 2, 1) := by decide +kernel
theorem dX_waysOn_51 : decode cX_waysOn 51 = .ok (.iload_n 3, 1) := by decide +kernel
theorem dX_waysOn_52 : decode cX_waysOn 52 = .ok (.iload 6, 2) := by decide +kernel
theorem dX_waysOn_54 : decode cX_waysOn 54 = .ok (.invokevirtual 142, 3) := by decide +kernel
theorem dX_waysOn_57 : decode cX_waysOn 57 = .ok (.iadd, 1) := by decide +kernel
theorem dX_waysOn_58 : decode cX_waysOn 58 = .ok (.istore 5, 2) := by decide +kernel
theorem dX_waysOn_60 : decode cX_waysOn 60 = .ok (.iload 5, 2) := by decide +kernel
theorem dX_waysOn_62 : decode cX_waysOn 62 = .ok (.aload_n 0, 1) := by decide +kernel
theorem dX_waysOn_63 : decode cX_waysOn 63 = .ok (.iload_n 1, 1) := by decide +kernel
theorem dX_waysOn_64 : decode cX_waysOn 64 = .ok (.iload_n 2, 1) := by decide +kernel
theorem dX_waysOn_65 : decode cX_waysOn 65 = .ok (.iload_n 3, 1) := by decide +kernel
theorem dX_waysOn_66 : decode cX_waysOn 66 = .ok (.iload 6, 2) := by decide +kernel
theorem dX_waysOn_68 : decode cX_waysOn 68 = .ok (.invokevirtual 145, 3) := by decide +kernel
theorem dX_waysOn_71 : decode cX_waysOn 71 = .ok (.iadd, 1) := by decide +kernel
theorem dX_waysOn_72 : decode cX_waysOn 72 = .ok (.istore 5, 2) := by decide +kernel
theorem dX_waysOn_74 : decode cX_waysOn 74 = .ok (.iinc 6 1, 3) := by decide +kernel
theorem dX_waysOn_77 : decode cX_waysOn 77 = .ok (.goto (-51), 3) := by decide +kernel
theorem dX_waysOn_80 : decode cX_waysOn 80 = .ok (.iload 5, 2) := by decide +kernel
theorem dX_waysOn_82 : decode cX_waysOn 82 = .ok (.ireturn, 1) := by decide +kernel
theorem dX_isLastStep_0 : decode cX_isLastStep 0 = .ok (.iload_n 1, 1) := by decide +kernel
theorem dX_isLastStep_1 : decode cX_isLastStep 1 = .ok (.aload_n 0, 1) := by decide +kernel
theorem dX_isLastStep_2 : decode cX_isLastStep 2 = .ok (.getfield 56, 3) := by decide +kernel
theorem dX_isLastStep_5 : decode cX_isLastStep 5 = .ok (.iconst 1, 1) := by decide +kernel
theorem dX_isLastStep_6 : decode cX_isLastStep 6 = .ok (.isub, 1) := by decide +kernel
theorem dX_isLastStep_7 : decode cX_isLastStep 7 = .ok (.if_icmp .ne 7, 3) := by decide +kernel
theorem dX_isLastStep_10 : decode cX_isLastStep 10 = .ok (.iconst 1, 1) := by decide +kernel
theorem dX_isLastStep_11 : decode cX_isLastStep 11 = .ok (.goto 4, 3) := by decide +kernel
theorem dX_isLastStep_14 : decode cX_isLastStep 14 = .ok (.iconst 0, 1) := by decide +kernel
theorem dX_isLastStep_15 : decode cX_isLastStep 15 = .ok (.ireturn, 1) := by decide +kernel
theorem dX_mayFollow_0 : decode cX_mayFollow 0 = .ok (.aload_n 0, 1) := by decide +kernel
theorem dX_mayFollow_1 : decode cX_mayFollow 1 = .ok (.getfield 50, 3) := by decide +kernel
theorem dX_mayFollow_4 : decode cX_mayFollow 4 = .ok (.ifCond .ne 12, 3) := by decide +kernel
theorem dX_mayFollow_7 : decode cX_mayFollow 7 = .ok (.iload_n 3, 1) := by decide +kernel
theorem dX_mayFollow_8 : decode cX_mayFollow 8 = .ok (.iload_n 2, 1) := by decide +kernel
theorem dX_mayFollow_9 : decode cX_mayFollow 9 = .ok (.iconst 1, 1) := by decide +kernel
theorem dX_mayFollow_10 : decode cX_mayFollow 10 = .ok (.iadd, 1) := by decide +kernel
theorem dX_mayFollow_11 : decode cX_mayFollow 11 = .ok (.if_icmp .eq 5, 3) := by decide +kernel
theorem dX_mayFollow_14 : decode cX_mayFollow 14 = .ok (.iconst 0, 1) := by decide +kernel
theorem dX_mayFollow_15 : decode cX_mayFollow 15 = .ok (.ireturn, 1) := by decide +kernel
theorem dX_mayFollow_16 : decode cX_mayFollow 16 = .ok (.aload_n 0, 1) := by decide +kernel
theorem dX_mayFollow_17 : decode cX_mayFollow 17 = .ok (.getfield 9, 3) := by decide +kernel
theorem dX_mayFollow_20 : decode cX_mayFollow 20 = .ok (.iload_n 3, 1) := by decide +kernel
theorem dX_mayFollow_21 : decode cX_mayFollow 21 = .ok (.iaload, 1) := by decide +kernel
theorem dX_mayFollow_22 : decode cX_mayFollow 22 = .ok (.aload_n 0, 1) := by decide +kernel
theorem dX_mayFollow_23 : decode cX_mayFollow 23 = .ok (.getfield 9, 3) := by decide +kernel
theorem dX_mayFollow_26 : decode cX_mayFollow 26 = .ok (.iload_n 1, 1) := by decide +kernel
theorem dX_mayFollow_27 : decode cX_mayFollow 27 = .ok (.iaload, 1) := by decide +kernel
theorem dX_mayFollow_28 : decode cX_mayFollow 28 = .ok (.isub, 1) := by decide +kernel
theorem dX_mayFollow_29 : decode cX_mayFollow 29 = .ok (.aload_n 0, 1) := by decide +kernel
theorem dX_mayFollow_30 : decode cX_mayFollow 30 = .ok (.getfield 53, 3) := by decide +kernel
theorem dX_mayFollow_33 : decode cX_mayFollow 33 = .ok (.if_icmp .gt 7, 3) := by decide +kernel
theorem dX_mayFollow_36 : decode cX_mayFollow 36 = .ok (.iconst 1, 1) := by decide +kernel
theorem dX_mayFollow_37 : decode cX_mayFollow 37 = .ok (.goto 4, 3) := by decide +kernel
theorem dX_mayFollow_40 : decode cX_mayFollow 40 = .ok (.iconst 0, 1) := by decide +kernel
theorem dX_mayFollow_41 : decode cX_mayFollow 41 = .ok (.ireturn, 1) := by decide +kernel
theorem dX_waysBySameStep_0 : decode cX_waysBySameStep 0 = .ok (.aload_n 0, 1) := by decide +kernel
theorem dX_waysBySameStep_1 : decode cX_waysBySameStep 1 = .ok (.getfield 28, 3) := by decide +kernel
theorem dX_waysBySameStep_4 : decode cX_waysBySameStep 4 = .ok (.iload_n 3, 1) := by decide +kernel
theorem dX_waysBySameStep_5 : decode cX_waysBySameStep 5 = .ok (.baload, 1) := by decide +kernel
theorem dX_waysBySameStep_6 : decode cX_waysBySameStep 6 = .ok (.ifCond .eq 15, 3) := by decide +kernel
theorem dX_waysBySameStep_9 : decode cX_waysBySameStep 9 = .ok (.aload_n 0, 1) := by decide +kernel
theorem dX_waysBySameStep_10 : decode cX_waysBySameStep 10 = .ok (.iload 4, 2) := by decide +kernel
theorem dX_waysBySameStep_12 : decode cX_waysBySameStep 12 = .ok (.iload_n 3, 1) := by decide +kernel
theorem dX_waysBySameStep_13 : decode cX_waysBySameStep 13 = .ok (.iload_n 2, 1) := by decide +kernel
theorem dX_waysBySameStep_14 : decode cX_waysBySameStep 14 = .ok (.iload_n 1, 1) := by decide +kernel
theorem dX_waysBySameStep_15 : decode cX_waysBySameStep 15 = .ok (.invokevirtual 127, 3) := by decide +kernel
theorem dX_waysBySameStep_18 : decode cX_waysBySameStep 18 = .ok (.ifCond .ne 5, 3) := by decide +kernel
theorem dX_waysBySameStep_21 : decode cX_waysBySameStep 21 = .ok (.iconst 0, 1) := by decide +kernel
theorem dX_waysBySameStep_22 : decode cX_waysBySameStep 22 = .ok (.ireturn, 1) := by decide +kernel
theorem dX_waysBySameStep_23 : decode cX_waysBySameStep 23 = .ok (.aload_n 0, 1) := by decide +kernel
theorem dX_waysBySameStep_24 : decode cX_waysBySameStep 24 = .ok (.getfield 34, 3) := by decide +kernel
theorem dX_waysBySameStep_27 : decode cX_waysBySameStep 27 = .ok (.iload 4, 2) := by decide +kernel
theorem dX_waysBySameStep_29 : decode cX_waysBySameStep 29 = .ok (.aaload, 1) := by decide +kernel
theorem dX_waysBySameStep_30 : decode cX_waysBySameStep 30 = .ok (.iload_n 3, 1) := by decide +kernel
theorem dX_waysBySameStep_31 : decode cX_waysBySameStep 31 = .ok (.iaload, 1) := by decide +kernel
theorem dX_waysBySameStep_32 : decode cX_waysBySameStep 32 = .ok (.ireturn, 1) := by decide +kernel
theorem dX_waysByNextStep_0 : decode cX_waysByNextStep 0 = .ok (.aload_n 0, 1) := by decide +kernel
theorem dX_waysByNextStep_1 : decode cX_waysByNextStep 1 = .ok (.iload_n 3, 1) := by decide +kernel
theorem dX_waysByNextStep_2 : decode cX_waysByNextStep 2 = .ok (.invokevirtual 135, 3) := by decide +kernel
theorem dX_waysByNextStep_5 : decode cX_waysByNextStep 5 = .ok (.ifCond .ne 17, 3) := by decide +kernel
theorem dX_waysByNextStep_8 : decode cX_waysByNextStep 8 = .ok (.aload_n 0, 1) := by decide +kernel
theorem dX_waysByNextStep_9 : decode cX_waysByNextStep 9 = .ok (.iload 4, 2) := by decide +kernel
theorem dX_waysByNextStep_11 : decode cX_waysByNextStep 11 = .ok (.iload_n 3, 1) := by decide +kernel
theorem dX_waysByNextStep_12 : decode cX_waysByNextStep 12 = .ok (.iconst 1, 1) := by decide +kernel
theorem dX_waysByNextStep_13 : decode cX_waysByNextStep 13 = .ok (.iadd, 1) := by decide +kernel
theorem dX_waysByNextStep_14 : decode cX_waysByNextStep 14 = .ok (.iload_n 2, 1) := by decide +kernel
theorem dX_waysByNextStep_15 : decode cX_waysByNextStep 15 = .ok (.iload_n 1, 1) := by decide +kernel
theorem dX_waysByNextStep_16 : decode cX_waysByNextStep 16 = .ok (.invokevirtual 127, 3) := by decide +kernel
theorem dX_waysByNextStep_19 : decode cX_waysByNextStep 19 = .ok (.ifCond .ne 5, 3) := by decide +kernel
theorem dX_waysByNextStep_22 : decode cX_waysByNextStep 22 = .ok (.iconst 0, 1) := by decide +kernel
theorem dX_waysByNextStep_23 : decode cX_waysByNextStep 23 = .ok (.ireturn, 1) := by decide +kernel
theorem dX_waysByNextStep_24 : decode cX_waysByNextStep 24 = .ok (.aload_n 0, 1) := by decide +kernel
theorem dX_waysByNextStep_25 : decode cX_waysByNextStep 25 = .ok (.getfield 34, 3) := by decide +kernel
theorem dX_waysByNextStep_28 : decode cX_waysByNextStep 28 = .ok (.iload 4, 2) := by decide +kernel
theorem dX_waysByNextStep_30 : decode cX_waysByNextStep 30 = .ok (.aaload, 1) := by decide +kernel
theorem dX_waysByNextStep_31 : decode cX_waysByNextStep 31 = .ok (.iload_n 3, 1) := by decide +kernel
theorem dX_waysByNextStep_32 : decode cX_waysByNextStep 32 = .ok (.iconst 1, 1) := by decide +kernel
theorem dX_waysByNextStep_33 : decode cX_waysByNextStep 33 = .ok (.iadd, 1) := by decide +kernel
theorem dX_waysByNextStep_34 : decode cX_waysByNextStep 34 = .ok (.iaload, 1) := by decide +kernel
theorem dX_waysByNextStep_35 : decode cX_waysByNextStep 35 = .ok (.ireturn, 1) := by decide +kernel
theorem dX_fits_0 : decode cX_fits 0 = .ok (.aload_n 0, 1) := by decide +kernel
theorem dX_fits_1 : decode cX_fits 1 = .ok (.getfield 19, 3) := by decide +kernel
theorem dX_fits_4 : decode cX_fits 4 = .ok (.iload_n 2, 1) := by decide +kernel
theorem dX_fits_5 : decode cX_fits 5 = .ok (.iaload, 1) := by decide +kernel
theorem dX_fits_6 : decode cX_fits 6 = .ok (.aload_n 0, 1) := by decide +kernel
theorem dX_fits_7 : decode cX_fits 7 = .ok (.getfield 13, 3) := by decide +kernel
theorem dX_fits_10 : decode cX_fits 10 = .ok (.iload_n 1, 1) := by decide +kernel
theorem dX_fits_11 : decode cX_fits 11 = .ok (.iaload, 1) := by decide +kernel
theorem dX_fits_12 : decode cX_fits 12 = .ok (.ishr, 1) := by decide +kernel
theorem dX_fits_13 : decode cX_fits 13 = .ok (.iconst 1, 1) := by decide +kernel
theorem dX_fits_14 : decode cX_fits 14 = .ok (.iand, 1) := by decide +kernel
theorem dX_fits_15 : decode cX_fits 15 = .ok (.ifCond .ne 5, 3) := by decide +kernel
theorem dX_fits_18 : decode cX_fits 18 = .ok (.iconst 0, 1) := by decide +kernel
theorem dX_fits_19 : decode cX_fits 19 = .ok (.ireturn, 1) := by decide +kernel
theorem dX_fits_20 : decode cX_fits 20 = .ok (.aload_n 0, 1) := by decide +kernel
theorem dX_fits_21 : decode cX_fits 21 = .ok (.getfield 16, 3) := by decide +kernel
theorem dX_fits_24 : decode cX_fits 24 = .ok (.iload_n 1, 1) := by decide +kernel
theorem dX_fits_25 : decode cX_fits 25 = .ok (.iaload, 1) := by decide +kernel
theorem dX_fits_26 : decode cX_fits 26 = .ok (.istore 5, 2) := by decide +kernel
theorem dX_fits_28 : decode cX_fits 28 = .ok (.aload_n 0, 1) := by decide +kernel
theorem dX_fits_29 : decode cX_fits 29 = .ok (.getfield 22, 3) := by decide +kernel
theorem dX_fits_32 : decode cX_fits 32 = .ok (.iload_n 2, 1) := by decide +kernel
theorem dX_fits_33 : decode cX_fits 33 = .ok (.iaload, 1) := by decide +kernel
theorem dX_fits_34 : decode cX_fits 34 = .ok (.tableswitch 111 1 4 #[30, 53, 76, 94], 30) := by decide +kernel
theorem dX_fits_64 : decode cX_fits 64 = .ok (.iload_n 1, 1) := by decide +kernel
theorem dX_fits_65 : decode cX_fits 65 = .ok (.iload 4, 2) := by decide +kernel
theorem dX_fits_67 : decode cX_fits 67 = .ok (.if_icmp .eq 14, 3) := by decide +kernel
theorem dX_fits_70 : decode cX_fits 70 = .ok (.iload 5, 2) := by decide +kernel
theorem dX_fits_72 : decode cX_fits 72 = .ok (.aload_n 0, 1) := by decide +kernel
theorem dX_fits_73 : decode cX_fits 73 = .ok (.getfield 16, 3) := by decide +kernel
theorem dX_fits_76 : decode cX_fits 76 = .ok (.iload_n 3, 1) := by decide +kernel
theorem dX_fits_77 : decode cX_fits 77 = .ok (.iaload, 1) := by decide +kernel
theorem dX_fits_78 : decode cX_fits 78 = .ok (.if_icmp .le 7, 3) := by decide +kernel
theorem dX_fits_81 : decode cX_fits 81 = .ok (.iconst 1, 1) := by decide +kernel
theorem dX_fits_82 : decode cX_fits 82 = .ok (.goto 4, 3) := by decide +kernel
theorem dX_fits_85 : decode cX_fits 85 = .ok (.iconst 0, 1) := by decide +kernel
theorem dX_fits_86 : decode cX_fits 86 = .ok (.ireturn, 1) := by decide +kernel
theorem dX_fits_87 : decode cX_fits 87 = .ok (.iload_n 1, 1) := by decide +kernel
theorem dX_fits_88 : decode cX_fits 88 = .ok (.iload 4, 2) := by decide +kernel
theorem dX_fits_90 : decode cX_fits 90 = .ok (.if_icmp .eq 14, 3) := by decide +kernel
theorem dX_fits_93 : decode cX_fits 93 = .ok (.iload 5, 2) := by decide +kernel
theorem dX_fits_95 : decode cX_fits 95 = .ok (.aload_n 0, 1) := by decide +kernel
theorem dX_fits_96 : decode cX_fits 96 = .ok (.getfield 16, 3) := by decide +kernel
theorem dX_fits_99 : decode cX_fits 99 = .ok (.iload_n 3, 1) := by decide +kernel
theorem dX_fits_100 : decode cX_fits 100 = .ok (.iaload, 1) := by decide +kernel
theorem dX_fits_101 : decode cX_fits 101 = .ok (.if_icmp .ge 7, 3) := by decide +kernel
theorem dX_fits_104 : decode cX_fits 104 = .ok (.iconst 1, 1) := by decide +kernel
theorem dX_fits_105 : decode cX_fits 105 = .ok (.goto 4, 3) := by decide +kernel
theorem dX_fits_108 : decode cX_fits 108 = .ok (.iconst 0, 1) := by decide +kernel
theorem dX_fits_109 : decode cX_fits 109 = .ok (.ireturn, 1) := by decide +kernel
theorem dX_fits_110 : decode cX_fits 110 = .ok (.iload 5, 2) := by decide +kernel
theorem dX_fits_112 : decode cX_fits 112 = .ok (.aload_n 0, 1) := by decide +kernel
theorem dX_fits_113 : decode cX_fits 113 = .ok (.getfield 16, 3) := by decide +kernel
theorem dX_fits_116 : decode cX_fits 116 = .ok (.iload 4, 2) := by decide +kernel
theorem dX_fits_118 : decode cX_fits 118 = .ok (.iaload, 1) := by decide +kernel
theorem dX_fits_119 : decode cX_fits 119 = .ok (.if_icmp .ne 7, 3) := by decide +kernel
theorem dX_fits_122 : decode cX_fits 122 = .ok (.iconst 1, 1) := by decide +kernel
theorem dX_fits_123 : decode cX_fits 123 = .ok (.goto 4, 3) := by decide +kernel
theorem dX_fits_126 : decode cX_fits 126 = .ok (.iconst 0, 1) := by decide +kernel
theorem dX_fits_127 : decode cX_fits 127 = .ok (.ireturn, 1) := by decide +kernel
theorem dX_fits_128 : decode cX_fits 128 = .ok (.iload 5, 2) := by decide +kernel
theorem dX_fits_130 : decode cX_fits 130 = .ok (.aload_n 0, 1) := by decide +kernel
theorem dX_fits_131 : decode cX_fits 131 = .ok (.getfield 25, 3) := by decide +kernel
theorem dX_fits_134 : decode cX_fits 134 = .ok (.iload_n 2, 1) := by decide +kernel
theorem dX_fits_135 : decode cX_fits 135 = .ok (.iaload, 1) := by decide +kernel
theorem dX_fits_136 : decode cX_fits 136 = .ok (.if_icmp .lt 7, 3) := by decide +kernel
theorem dX_fits_139 : decode cX_fits 139 = .ok (.iconst 1, 1) := by decide +kernel
theorem dX_fits_140 : decode cX_fits 140 = .ok (.goto 4, 3) := by decide +kernel
theorem dX_fits_143 : decode cX_fits 143 = .ok (.iconst 0, 1) := by decide +kernel
theorem dX_fits_144 : decode cX_fits 144 = .ok (.ireturn, 1) := by decide +kernel
theorem dX_fits_145 : decode cX_fits 145 = .ok (.iconst 1, 1) := by decide +kernel
theorem dX_fits_146 : decode cX_fits 146 = .ok (.ireturn, 1) := by decide +kernel
theorem dX_find_0 : decode cX_find 0 = .ok (.iload_n 1, 1) := by decide +kernel
theorem dX_find_1 : decode cX_find 1 = .ok (.ifCond .ge 5, 3) := by decide +kernel
theorem dX_find_4 : decode cX_find 4 = .ok (.iconst 0, 1) := by decide +kernel
theorem dX_find_5 : decode cX_find 5 = .ok (.ireturn, 1) := by decide +kernel
theorem dX_find_6 : decode cX_find 6 = .ok (.iload_n 1, 1) := by decide +kernel
theorem dX_find_7 : decode cX_find 7 = .ok (.istore_n 2, 1) := by decide +kernel
theorem dX_find_8 : decode cX_find 8 = .ok (.iconst 0, 1) := by decide +kernel
theorem dX_find_9 : decode cX_find 9 = .ok (.istore_n 3, 1) := by decide +kernel
theorem dX_find_10 : decode cX_find 10 = .ok (.iload_n 3, 1) := by decide +kernel
theorem dX_find_11 : decode cX_find 11 = .ok (.aload_n 0, 1) := by decide +kernel
theorem dX_find_12 : decode cX_find 12 = .ok (.getfield 47, 3) := by decide +kernel
theorem dX_find_15 : decode cX_find 15 = .ok (.if_icmp .ge 36, 3) := by decide +kernel
theorem dX_find_18 : decode cX_find 18 = .ok (.aload_n 0, 1) := by decide +kernel
theorem dX_find_19 : decode cX_find 19 = .ok (.iload_n 3, 1) := by decide +kernel
theorem dX_find_20 : decode cX_find 20 = .ok (.iconst 0, 1) := by decide +kernel
theorem dX_find_21 : decode cX_find 21 = .ok (.invokevirtual 123, 3) := by decide +kernel
theorem dX_find_24 : decode cX_find 24 = .ok (.istore 4, 2) := by decide +kernel
theorem dX_find_26 : decode cX_find 26 = .ok (.iload_n 2, 1) := by decide +kernel
theorem dX_find_27 : decode cX_find 27 = .ok (.iload 4, 2) := by decide +kernel
theorem dX_find_29 : decode cX_find 29 = .ok (.if_icmp .ge 11, 3) := by decide +kernel
theorem dX_find_32 : decode cX_find 32 = .ok (.aload_n 0, 1) := by decide +kernel
theorem dX_find_33 : decode cX_find 33 = .ok (.iload_n 3, 1) := by decide +kernel
theorem dX_find_34 : decode cX_find 34 = .ok (.iload_n 2, 1) := by decide +kernel
theorem dX_find_35 : decode cX_find 35 = .ok (.invokevirtual 148, 3) := by decide +kernel
theorem dX_find_38 : decode cX_find 38 = .ok (.iconst 1, 1) := by decide +kernel
theorem dX_find_39 : decode cX_find 39 = .ok (.ireturn, 1) := by decide +kernel
theorem dX_find_40 : decode cX_find 40 = .ok (.iload_n 2, 1) := by decide +kernel
theorem dX_find_41 : decode cX_find 41 = .ok (.iload 4, 2) := by decide +kernel
theorem dX_find_43 : decode cX_find 43 = .ok (.isub, 1) := by decide +kernel
theorem dX_find_44 : decode cX_find 44 = .ok (.istore_n 2, 1) := by decide +kernel
theorem dX_find_45 : decode cX_find 45 = .ok (.iinc 3 1, 3) := by decide +kernel
theorem dX_find_48 : decode cX_find 48 = .ok (.goto (-38), 3) := by decide +kernel
theorem dX_find_51 : decode cX_find 51 = .ok (.iconst 0, 1) := by decide +kernel
theorem dX_find_52 : decode cX_find 52 = .ok (.ireturn, 1) := by decide +kernel
theorem dX_walk_0 : decode cX_walk 0 = .ok (.iload_n 2, 1) := by decide +kernel
theorem dX_walk_1 : decode cX_walk 1 = .ok (.istore_n 3, 1) := by decide +kernel
theorem dX_walk_2 : decode cX_walk 2 = .ok (.iload_n 1, 1) := by decide +kernel
theorem dX_walk_3 : decode cX_walk 3 = .ok (.istore 4, 2) := by decide +kernel
theorem dX_walk_5 : decode cX_walk 5 = .ok (.iconst 0, 1) := by decide +kernel
theorem dX_walk_6 : decode cX_walk 6 = .ok (.istore 5, 2) := by decide +kernel
theorem dX_walk_8 : decode cX_walk 8 = .ok (.aload_n 0, 1) := by decide +kernel
theorem dX_walk_9 : decode cX_walk 9 = .ok (.iconst 0, 1) := by decide +kernel
theorem dX_walk_10 : decode cX_walk 10 = .ok (.putfield 59, 3) := by decide +kernel
theorem dX_walk_13 : decode cX_walk 13 = .ok (.aload_n 0, 1) := by decide +kernel
theorem dX_walk_14 : decode cX_walk 14 = .ok (.iload 4, 2) := by decide +kernel
theorem dX_walk_16 : decode cX_walk 16 = .ok (.iload 5, 2) := by decide +kernel
theorem dX_walk_18 : decode cX_walk 18 = .ok (.invokevirtual 152, 3) := by decide +kernel
theorem dX_walk_21 : decode cX_walk 21 = .ok (.iload_n 1, 1) := by decide +kernel
theorem dX_walk_22 : decode cX_walk 22 = .ok (.iconst 1, 1) := by decide +kernel
theorem dX_walk_23 : decode cX_walk 23 = .ok (.iadd, 1) := by decide +kernel
theorem dX_walk_24 : decode cX_walk 24 = .ok (.istore 6, 2) := by decide +kernel
theorem dX_walk_26 : decode cX_walk 26 = .ok (.iload 6, 2) := by decide +kernel
theorem dX_walk_28 : decode cX_walk 28 = .ok (.aload_n 0, 1) := by decide +kernel
theorem dX_walk_29 : decode cX_walk 29 = .ok (.getfield 47, 3) := by decide +kernel
theorem dX_walk_32 : decode cX_walk 32 = .ok (.if_icmp .ge 117, 3) := by decide +kernel
theorem dX_walk_35 : decode cX_walk 35 = .ok (.iload 6, 2) := by decide +kernel
theorem dX_walk_37 : decode cX_walk 37 = .ok (.iload 4, 2) := by decide +kernel
theorem dX_walk_39 : decode cX_walk 39 = .ok (.iconst 1, 1) := by decide +kernel
theorem dX_walk_40 : decode cX_walk 40 = .ok (.iadd, 1) := by decide +kernel
theorem dX_walk_41 : decode cX_walk 41 = .ok (.if_icmp .ne 20, 3) := by decide +kernel
theorem dX_walk_44 : decode cX_walk 44 = .ok (.aload_n 0, 1) := by decide +kernel
theorem dX_walk_45 : decode cX_walk 45 = .ok (.iload 5, 2) := by decide +kernel
theorem dX_walk_47 : decode cX_walk 47 = .ok (.invokevirtual 135, 3) := by decide +kernel
theorem dX_walk_50 : decode cX_walk 50 = .ok (.ifCond .eq 11, 3) := by decide +kernel
theorem dX_walk_53 : decode cX_walk 53 = .ok (.iload_n 3, 1) := by decide +kernel
theorem dX_walk_54 : decode cX_walk 54 = .ok (.ifCond .ne 4, 3) := by decide +kernel
theorem dX_walk_57 : decode cX_walk 57 = .ok (.return_, 1) := by decide +kernel
theorem dX_walk_58 : decode cX_walk 58 = .ok (.iinc 3 (-1), 3) := by decide +kernel
theorem dX_walk_61 : decode cX_walk 61 = .ok (.aload_n 0, 1) := by decide +kernel
theorem dX_walk_62 : decode cX_walk 62 = .ok (.iload_n 1, 1) := by decide +kernel
theorem dX_walk_63 : decode cX_walk 63 = .ok (.iload 4, 2) := by decide +kernel
theorem dX_walk_65 : decode cX_walk 65 = .ok (.iload 6, 2) := by decide +kernel
theorem dX_walk_67 : decode cX_walk 67 = .ok (.invokevirtual 138, 3) := by decide +kernel
theorem dX_walk_70 : decode cX_walk 70 = .ok (.ifCond .ne 4, 3) := by decide +kernel
theorem dX_walk_73 : decode cX_walk 73 = .ok (.return_, 1) := by decide +kernel
theorem dX_walk_74 : decode cX_walk 74 = .ok (.aload_n 0, 1) := by decide +kernel
theorem dX_walk_75 : decode cX_walk 75 = .ok (.iload_n 1, 1) := by decide +kernel
theorem dX_walk_76 : decode cX_walk 76 = .ok (.iload 4, 2) := by decide +kernel
theorem dX_walk_78 : decode cX_walk 78 = .ok (.iload 5, 2) := by decide +kernel
theorem dX_walk_80 : decode cX_walk 80 = .ok (.iload 6, 2) := by decide +kernel
theorem dX_walk_82 : decode cX_walk 82 = .ok (.invokevirtual 142, 3) := by decide +kernel
theorem dX_walk_85 : decode cX_walk 85 = .ok (.istore 7, 2) := by decide +kernel
theorem dX_walk_87 : decode cX_walk 87 = .ok (.iload 7, 2) := by decide +kernel
theorem dX_walk_89 : decode cX_walk 89 = .ok (.aload_n 0, 1) := by decide +kernel
theorem dX_walk_90 : decode cX_walk 90 = .ok (.iload_n 1, 1) := by decide +kernel
theorem dX_walk_91 : decode cX_walk 91 = .ok (.iload 4, 2) := by decide +kernel
theorem dX_walk_93 : decode cX_walk 93 = .ok (.iload 5, 2) := by decide +kernel
theorem dX_walk_95 : decode cX_walk 95 = .ok (.iload 6, 2) := by decide +kernel
theorem dX_walk_97 : decode cX_walk 97 = .ok (.invokevirtual 145, 3) := by decide +kernel
theorem dX_walk_100 : decode cX_walk 100 = .ok (.iadd, 1) := by decide +kernel
theorem dX_walk_101 : decode cX_walk 101 = .ok (.istore 8, 2) := by decide +kernel
theorem dX_walk_103 : decode cX_walk 103 = .ok (.iload_n 3, 1) := by decide +kernel
theorem dX_walk_104 : decode cX_walk 104 = .ok (.iload 8, 2) := by decide +kernel
theorem dX_walk_106 : decode cX_walk 106 = .ok (.if_icmp .lt 11, 3) := by decide +kernel
theorem dX_walk_109 : decode cX_walk 109 = .ok (.iload_n 3, 1) := by decide +kernel
theorem dX_walk_110 : decode cX_walk 110 = .ok (.iload 8, 2) := by decide +kernel
theorem dX_walk_112 : decode cX_walk 112 = .ok (.isub, 1) := by decide +kernel
theorem dX_walk_113 : decode cX_walk 113 = .ok (.istore_n 3, 1) := by decide +kernel
theorem dX_walk_114 : decode cX_walk 114 = .ok (.goto 29, 3) := by decide +kernel
theorem dX_walk_117 : decode cX_walk 117 = .ok (.iload_n 3, 1) := by decide +kernel
theorem dX_walk_118 : decode cX_walk 118 = .ok (.iload 7, 2) := by decide +kernel
theorem dX_walk_120 : decode cX_walk 120 = .ok (.if_icmp .lt 11, 3) := by decide +kernel
theorem dX_walk_123 : decode cX_walk 123 = .ok (.iload_n 3, 1) := by decide +kernel
theorem dX_walk_124 : decode cX_walk 124 = .ok (.iload 7, 2) := by decide +kernel
theorem dX_walk_126 : decode cX_walk 126 = .ok (.isub, 1) := by decide +kernel
theorem dX_walk_127 : decode cX_walk 127 = .ok (.istore_n 3, 1) := by decide +kernel
theorem dX_walk_128 : decode cX_walk 128 = .ok (.iinc 5 1, 3) := by decide +kernel
theorem dX_walk_131 : decode cX_walk 131 = .ok (.iload 6, 2) := by decide +kernel
theorem dX_walk_133 : decode cX_walk 133 = .ok (.istore 4, 2) := by decide +kernel
theorem dX_walk_135 : decode cX_walk 135 = .ok (.aload_n 0, 1) := by decide +kernel
theorem dX_walk_136 : decode cX_walk 136 = .ok (.iload 4, 2) := by decide +kernel
theorem dX_walk_138 : decode cX_walk 138 = .ok (.iload 5, 2) := by decide +kernel
theorem dX_walk_140 : decode cX_walk 140 = .ok (.invokevirtual 152, 3) := by decide +kernel
theorem dX_walk_143 : decode cX_walk 143 = .ok (.iinc 6 1, 3) := by decide +kernel
theorem dX_walk_146 : decode cX_walk 146 = .ok (.goto (-120), 3) := by decide +kernel
theorem dX_walk_149 : decode cX_walk 149 = .ok (.return_, 1) := by decide +kernel
theorem dX_addFound_0 : decode cX_addFound 0 = .ok (.aload_n 0, 1) := by decide +kernel
theorem dX_addFound_1 : decode cX_addFound 1 = .ok (.getfield 59, 3) := by decide +kernel
theorem dX_addFound_4 : decode cX_addFound 4 = .ok (.bipush 16, 2) := by decide +kernel
theorem dX_addFound_6 : decode cX_addFound 6 = .ok (.if_icmp .ge 33, 3) := by decide +kernel
theorem dX_addFound_9 : decode cX_addFound 9 = .ok (.aload_n 0, 1) := by decide +kernel
theorem dX_addFound_10 : decode cX_addFound 10 = .ok (.getfield 37, 3) := by decide +kernel
theorem dX_addFound_13 : decode cX_addFound 13 = .ok (.aload_n 0, 1) := by decide +kernel
theorem dX_addFound_14 : decode cX_addFound 14 = .ok (.getfield 59, 3) := by decide +kernel
theorem dX_addFound_17 : decode cX_addFound 17 = .ok (.iload_n 1, 1) := by decide +kernel
theorem dX_addFound_18 : decode cX_addFound 18 = .ok (.iastore, 1) := by decide +kernel
theorem dX_addFound_19 : decode cX_addFound 19 = .ok (.aload_n 0, 1) := by decide +kernel
theorem dX_addFound_20 : decode cX_addFound 20 = .ok (.getfield 40, 3) := by decide +kernel
theorem dX_addFound_23 : decode cX_addFound 23 = .ok (.aload_n 0, 1) := by decide +kernel
theorem dX_addFound_24 : decode cX_addFound 24 = .ok (.getfield 59, 3) := by decide +kernel
theorem dX_addFound_27 : decode cX_addFound 27 = .ok (.iload_n 2, 1) := by decide +kernel
theorem dX_addFound_28 : decode cX_addFound 28 = .ok (.iastore, 1) := by decide +kernel
theorem dX_addFound_29 : decode cX_addFound 29 = .ok (.aload_n 0, 1) := by decide +kernel
theorem dX_addFound_30 : decode cX_addFound 30 = .ok (.dup, 1) := by decide +kernel
theorem dX_addFound_31 : decode cX_addFound 31 = .ok (.getfield 59, 3) := by decide +kernel
theorem dX_addFound_34 : decode cX_addFound 34 = .ok (.iconst 1, 1) := by decide +kernel
theorem dX_addFound_35 : decode cX_addFound 35 = .ok (.iadd, 1) := by decide +kernel
theorem dX_addFound_36 : decode cX_addFound 36 = .ok (.putfield 59, 3) := by decide +kernel
theorem dX_addFound_39 : decode cX_addFound 39 = .ok (.return_, 1) := by decide +kernel
