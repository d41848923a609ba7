theorem dL_event_0 : decode cL_event 0 = .ok (.aload 4, 2) := by decide +kernel
theorem dL_event_2 : decode cL_event 2 = .ok (.iconst 0, 1) := by decide +kernel
theorem dL_event_3 : decode cL_event 3 = .ok (.aload_n 0, 1) := by decide +kernel
theorem dL_event_4 : decode cL_event 4 = .ok (.iload_n 1, 1) := by decide +kernel
theorem dL_event_5 : decode cL_event 5 = .ok (.iload_n 2, 1) := by decide +kernel
theorem dL_event_6 : decode cL_event 6 = .ok (.iload_n 3, 1) := by decide +kernel
theorem dL_event_7 : decode cL_event 7 = .ok (.invokevirtual 7, 3) := by decide +kernel
theorem dL_event_10 : decode cL_event 10 = .ok (.i2l, 1) := by decide +kernel
theorem dL_event_11 : decode cL_event 11 = .ok (.lastore, 1) := by decide +kernel
theorem dL_event_12 : decode cL_event 12 = .ok (.goto 11, 3) := by decide +kernel
theorem dL_event_15 : decode cL_event 15 = .ok (.astore 5, 2) := by decide +kernel
theorem dL_event_17 : decode cL_event 17 = .ok (.iconst 1, 1) := by decide +kernel
theorem dL_event_18 : decode cL_event 18 = .ok (.ireturn, 1) := by decide +kernel
theorem dL_event_19 : decode cL_event 19 = .ok (.astore 5, 2) := by decide +kernel
theorem dL_event_21 : decode cL_event 21 = .ok (.iconst 2, 1) := by decide +kernel
theorem dL_event_22 : decode cL_event 22 = .ok (.ireturn, 1) := by decide +kernel
theorem dL_event_23 : decode cL_event 23 = .ok (.iconst 0, 1) := by decide +kernel
theorem dL_event_24 : decode cL_event 24 = .ok (.ireturn, 1) := by decide +kernel
theorem dL_pattern_0 : decode cL_pattern 0 = .ok (.aload_n 0, 1) := by decide +kernel
theorem dL_pattern_1 : decode cL_pattern 1 = .ok (.iload_n 1, 1) := by decide +kernel
theorem dL_pattern_2 : decode cL_pattern 2 = .ok (.iload_n 2, 1) := by decide +kernel
theorem dL_pattern_3 : decode cL_pattern 3 = .ok (.invokevirtual 17, 3) := by decide +kernel
theorem dL_pattern_6 : decode cL_pattern 6 = .ok (.goto 6, 3) := by decide +kernel
theorem dL_pattern_9 : decode cL_pattern 9 = .ok (.astore_n 3, 1) := by decide +kernel
theorem dL_pattern_10 : decode cL_pattern 10 = .ok (.iconst 1, 1) := by decide +kernel
theorem dL_pattern_11 : decode cL_pattern 11 = .ok (.ireturn, 1) := by decide +kernel
theorem dL_pattern_12 : decode cL_pattern 12 = .ok (.iconst 0, 1) := by decide +kernel
theorem dL_pattern_13 : decode cL_pattern 13 = .ok (.ireturn, 1) := by decide +kernel
theorem dL_step_0 : decode cL_step 0 = .ok (.aload 5, 2) := by decide +kernel
theorem dL_step_2 : decode cL_step 2 = .ok (.iconst 0, 1) := by decide +kernel
theorem dL_step_3 : decode cL_step 3 = .ok (.aload_n 0, 1) := by decide +kernel
theorem dL_step_4 : decode cL_step 4 = .ok (.iload_n 1, 1) := by decide +kernel
theorem dL_step_5 : decode cL_step 5 = .ok (.iload_n 2, 1) := by decide +kernel
theorem dL_step_6 : decode cL_step 6 = .ok (.iload_n 3, 1) := by decide +kernel
theorem dL_step_7 : decode cL_step 7 = .ok (.iload 4, 2) := by decide +kernel
theorem dL_step_9 : decode cL_step 9 = .ok (.invokevirtual 21, 3) := by decide +kernel
theorem dL_step_12 : decode cL_step 12 = .ok (.i2l, 1) := by decide +kernel
theorem dL_step_13 : decode cL_step 13 = .ok (.lastore, 1) := by decide +kernel
theorem dL_step_14 : decode cL_step 14 = .ok (.goto 11, 3) := by decide +kernel
theorem dL_step_17 : decode cL_step 17 = .ok (.astore 6, 2) := by decide +kernel
theorem dL_step_19 : decode cL_step 19 = .ok (.iconst 1, 1) := by decide +kernel
theorem dL_step_20 : decode cL_step 20 = .ok (.ireturn, 1) := by decide +kernel
theorem dL_step_21 : decode cL_step 21 = .ok (.astore 6, 2) := by decide +kernel
theorem dL_step_23 : decode cL_step 23 = .ok (.iconst 2, 1) := by decide +kernel
theorem dL_step_24 : decode cL_step 24 = .ok (.ireturn, 1) := by decide +kernel
theorem dL_step_25 : decode cL_step 25 = .ok (.iconst 0, 1) := by decide +kernel
theorem dL_step_26 : decode cL_step 26 = .ok (.ireturn, 1) := by decide +kernel
theorem dL_count_0 : decode cL_count 0 = .ok (.aload_n 1, 1) := by decide +kernel
theorem dL_count_1 : decode cL_count 1 = .ok (.iconst 0, 1) := by decide +kernel
theorem dL_count_2 : decode cL_count 2 = .ok (.aload_n 0, 1) := by decide +kernel
theorem dL_count_3 : decode cL_count 3 = .ok (.invokevirtual 25, 3) := by decide +kernel
theorem dL_count_6 : decode cL_count 6 = .ok (.i2l, 1) := by decide +kernel
theorem dL_count_7 : decode cL_count 7 = .ok (.lastore, 1) := by decide +kernel
theorem dL_count_8 : decode cL_count 8 = .ok (.goto 6, 3) := by decide +kernel
theorem dL_count_11 : decode cL_count 11 = .ok (.astore_n 2, 1) := by decide +kernel
theorem dL_count_12 : decode cL_count 12 = .ok (.iconst 1, 1) := by decide +kernel
theorem dL_count_13 : decode cL_count 13 = .ok (.ireturn, 1) := by decide +kernel
theorem dL_count_14 : decode cL_count 14 = .ok (.iconst 0, 1) := by decide +kernel
theorem dL_count_15 : decode cL_count 15 = .ok (.ireturn, 1) := by decide +kernel
theorem dL_latest_0 : decode cL_latest 0 = .ok (.aload_n 1, 1) := by decide +kernel
theorem dL_latest_1 : decode cL_latest 1 = .ok (.iconst 0, 1) := by decide +kernel
theorem dL_latest_2 : decode cL_latest 2 = .ok (.aload_n 0, 1) := by decide +kernel
theorem dL_latest_3 : decode cL_latest 3 = .ok (.invokevirtual 31, 3) := by decide +kernel
theorem dL_latest_6 : decode cL_latest 6 = .ok (.i2l, 1) := by decide +kernel
theorem dL_latest_7 : decode cL_latest 7 = .ok (.lastore, 1) := by decide +kernel
theorem dL_latest_8 : decode cL_latest 8 = .ok (.goto 6, 3) := by decide +kernel
theorem dL_latest_11 : decode cL_latest 11 = .ok (.astore_n 2, 1) := by decide +kernel
theorem dL_latest_12 : decode cL_latest 12 = .ok (.iconst 1, 1) := by decide +kernel
theorem dL_latest_13 : decode cL_latest 13 = .ok (.ireturn, 1) := by decide +kernel
theorem dL_latest_14 : decode cL_latest 14 = .ok (.iconst 0, 1) := by decide +kernel
theorem dL_latest_15 : decode cL_latest 15 = .ok (.ireturn, 1) := by decide +kernel
theorem dL_length_0 : decode cL_length 0 = .ok (.aload_n 2, 1) := by decide +kernel
theorem dL_length_1 : decode cL_length 1 = .ok (.iconst 0, 1) := by decide +kernel
theorem dL_length_2 : decode cL_length 2 = .ok (.aload_n 0, 1) := by decide +kernel
theorem dL_length_3 : decode cL_length 3 = .ok (.iload_n 1, 1) := by decide +kernel
theorem dL_length_4 : decode cL_length 4 = .ok (.invokevirtual 34, 3) := by decide +kernel
theorem dL_length_7 : decode cL_length 7 = .ok (.i2l, 1) := by decide +kernel
theorem dL_length_8 : decode cL_length 8 = .ok (.lastore, 1) := by decide +kernel
theorem dL_length_9 : decode cL_length 9 = .ok (.goto 9, 3) := by decide +kernel
theorem dL_length_12 : decode cL_length 12 = .ok (.astore_n 3, 1) := by decide +kernel
theorem dL_length_13 : decode cL_length 13 = .ok (.iconst 1, 1) := by decide +kernel
theorem dL_length_14 : decode cL_length 14 = .ok (.ireturn, 1) := by decide +kernel
theorem dL_length_15 : decode cL_length 15 = .ok (.astore_n 3, 1) := by decide +kernel
theorem dL_length_16 : decode cL_length 16 = .ok (.iconst 2, 1) := by decide +kernel
theorem dL_length_17 : decode cL_length 17 = .ok (.ireturn, 1) := by decide +kernel
theorem dL_length_18 : decode cL_length 18 = .ok (.iconst 0, 1) := by decide +kernel
theorem dL_length_19 : decode cL_length 19 = .ok (.ireturn, 1) := by decide +kernel
theorem dL_match_0 : decode cL_match 0 = .ok (.aload 4, 2) := by decide +kernel
theorem dL_match_2 : decode cL_match 2 = .ok (.iconst 0, 1) := by decide +kernel
theorem dL_match_3 : decode cL_match 3 = .ok (.aload_n 0, 1) := by decide +kernel
theorem dL_match_4 : decode cL_match 4 = .ok (.iload_n 1, 1) := by decide +kernel
theorem dL_match_5 : decode cL_match 5 = .ok (.iload_n 2, 1) := by decide +kernel
theorem dL_match_6 : decode cL_match 6 = .ok (.iload_n 3, 1) := by decide +kernel
theorem dL_match_7 : decode cL_match 7 = .ok (.invokevirtual 40, 3) := by decide +kernel
theorem dL_match_10 : decode cL_match 10 = .ok (.i2l, 1) := by decide +kernel
theorem dL_match_11 : decode cL_match 11 = .ok (.lastore, 1) := by decide +kernel
theorem dL_match_12 : decode cL_match 12 = .ok (.goto 15, 3) := by decide +kernel
theorem dL_match_15 : decode cL_match 15 = .ok (.astore 5, 2) := by decide +kernel
theorem dL_match_17 : decode cL_match 17 = .ok (.iconst 1, 1) := by decide +kernel
theorem dL_match_18 : decode cL_match 18 = .ok (.ireturn, 1) := by decide +kernel
theorem dL_match_19 : decode cL_match 19 = .ok (.astore 5, 2) := by decide +kernel
theorem dL_match_21 : decode cL_match 21 = .ok (.iconst 2, 1) := by decide +kernel
theorem dL_match_22 : decode cL_match 22 = .ok (.ireturn, 1) := by decide +kernel
theorem dL_match_23 : decode cL_match 23 = .ok (.astore 5, 2) := by decide +kernel
theorem dL_match_25 : decode cL_match 25 = .ok (.iconst 3, 1) := by decide +kernel
theorem dL_match_26 : decode cL_match 26 = .ok (.ireturn, 1) := by decide +kernel
theorem dL_match_27 : decode cL_match 27 = .ok (.iconst 0, 1) := by decide +kernel
theorem dL_match_28 : decode cL_match 28 = .ok (.ireturn, 1) := by decide +kernel
theorem dL_law_0 : decode cL_law 0 = .ok (.new 8, 3) := by decide +kernel
theorem dL_law_3 : decode cL_law 3 = .ok (.dup, 1) := by decide +kernel
theorem dL_law_4 : decode cL_law 4 = .ok (.invokespecial 43, 3) := by decide +kernel
theorem dL_law_7 : decode cL_law 7 = .ok (.astore_n 1, 1) := by decide +kernel
theorem dL_law_8 : decode cL_law 8 = .ok (.new 44, 3) := by decide +kernel
theorem dL_law_11 : decode cL_law 11 = .ok (.dup, 1) := by decide +kernel
theorem dL_law_12 : decode cL_law 12 = .ok (.invokespecial 46, 3) := by decide +kernel
theorem dL_law_15 : decode cL_law 15 = .ok (.astore_n 2, 1) := by decide +kernel
theorem dL_law_16 : decode cL_law 16 = .ok (.iconst 1, 1) := by decide +kernel
theorem dL_law_17 : decode cL_law 17 = .ok (.newarray .long, 2) := by decide +kernel
theorem dL_law_19 : decode cL_law 19 = .ok (.astore_n 3, 1) := by decide +kernel
theorem dL_law_20 : decode cL_law 20 = .ok (.iconst 0, 1) := by decide +kernel
theorem dL_law_21 : decode cL_law 21 = .ok (.istore 4, 2) := by decide +kernel
theorem dL_law_23 : decode cL_law 23 = .ok (.iload 4, 2) := by decide +kernel
theorem dL_law_25 : decode cL_law 25 = .ok (.aload_n 0, 1) := by decide +kernel
theorem dL_law_26 : decode cL_law 26 = .ok (.arraylength, 1) := by decide +kernel
theorem dL_law_27 : decode cL_law 27 = .ok (.iconst 5, 1) := by decide +kernel
theorem dL_law_28 : decode cL_law 28 = .ok (.isub, 1) := by decide +kernel
theorem dL_law_29 : decode cL_law 29 = .ok (.if_icmp .gt 549, 3) := by decide +kernel
theorem dL_law_32 : decode cL_law 32 = .ok (.aload_n 0, 1) := by decide +kernel
theorem dL_law_33 : decode cL_law 33 = .ok (.iload 4, 2) := by decide +kernel
theorem dL_law_35 : decode cL_law 35 = .ok (.iaload, 1) := by decide +kernel
theorem dL_law_36 : decode cL_law 36 = .ok (.bipush 15, 2) := by decide +kernel
theorem dL_law_38 : decode cL_law 38 = .ok (.iand, 1) := by decide +kernel
theorem dL_law_39 : decode cL_law 39 = .ok (.tableswitch 533 0 8 #[49, 129, 140, 188, 296, 340, 384, 440, 520], 49) := by decide +kernel
theorem dL_law_88 : decode cL_law 88 = .ok (.aload_n 1, 1) := by decide +kernel
theorem dL_law_89 : decode cL_law 89 = .ok (.aload_n 0, 1) := by decide +kernel
theorem dL_law_90 : decode cL_law 90 = .ok (.iload 4, 2) := by decide +kernel
theorem dL_law_92 : decode cL_law 92 = .ok (.iconst 1, 1) := by decide +kernel
theorem dL_law_93 : decode cL_law 93 = .ok (.iadd, 1) := by decide +kernel
theorem dL_law_94 : decode cL_law 94 = .ok (.iaload, 1) := by decide +kernel
theorem dL_law_95 : decode cL_law 95 = .ok (.aload_n 0, 1) := by decide +kernel
theorem dL_law_96 : decode cL_law 96 = .ok (.iload 4, 2) := by decide +kernel
theorem dL_law_98 : decode cL_law 98 = .ok (.iconst 2, 1) := by decide +kernel
theorem dL_law_99 : decode cL_law 99 = .ok (.iadd, 1) := by decide +kernel
theorem dL_law_100 : decode cL_law 100 = .ok (.iaload, 1) := by decide +kernel
theorem dL_law_101 : decode cL_law 101 = .ok (.aload_n 0, 1) := by decide +kernel
theorem dL_law_102 : decode cL_law 102 = .ok (.iload 4, 2) := by decide +kernel
theorem dL_law_104 : decode cL_law 104 = .ok (.iconst 3, 1) := by decide +kernel
theorem dL_law_105 : decode cL_law 105 = .ok (.iadd, 1) := by decide +kernel
theorem dL_law_106 : decode cL_law 106 = .ok (.iaload, 1) := by decide +kernel
theorem dL_law_107 : decode cL_law 107 = .ok (.aload_n 3, 1) := by decide +kernel
theorem dL_law_108 : decode cL_law 108 = .ok (.invokestatic 47, 3) := by decide +kernel
theorem dL_law_111 : decode cL_law 111 = .ok (.istore 5, 2) := by decide +kernel
theorem dL_law_113 : decode cL_law 113 = .ok (.aload_n 2, 1) := by decide +kernel
theorem dL_law_114 : decode cL_law 114 = .ok (.aload_n 0, 1) := by decide +kernel
theorem dL_law_115 : decode cL_law 115 = .ok (.iload 4, 2) := by decide +kernel
theorem dL_law_117 : decode cL_law 117 = .ok (.iconst 1, 1) := by decide +kernel
theorem dL_law_118 : decode cL_law 118 = .ok (.iadd, 1) := by decide +kernel
theorem dL_law_119 : decode cL_law 119 = .ok (.iaload, 1) := by decide +kernel
theorem dL_law_120 : decode cL_law 120 = .ok (.aload_n 0, 1) := by decide +kernel
theorem dL_law_121 : decode cL_law 121 = .ok (.iload 4, 2) := by decide +kernel
theorem dL_law_123 : decode cL_law 123 = .ok (.iconst 2, 1) := by decide +kernel
theorem dL_law_124 : decode cL_law 124 = .ok (.iadd, 1) := by decide +kernel
theorem dL_law_125 : decode cL_law 125 = .ok (.iaload, 1) := by decide +kernel
theorem dL_law_126 : decode cL_law 126 = .ok (.aload_n 0, 1) := by decide +kernel
theorem dL_law_127 : decode cL_law 127 = .ok (.iload 4, 2) := by decide +kernel
theorem dL_law_129 : decode cL_law 129 = .ok (.iconst 3, 1) := by decide +kernel
theorem dL_law_130 : decode cL_law 130 = .ok (.iadd, 1) := by decide +kernel
theorem dL_law_131 : decode cL_law 131 = .ok (.iaload, 1) := by decide +kernel
theorem dL_law_132 : decode cL_law 132 = .ok (.invokevirtual 52, 3) := by decide +kernel
theorem dL_law_135 : decode cL_law 135 = .ok (.istore 6, 2) := by decide +kernel
theorem dL_law_137 : decode cL_law 137 = .ok (.aload_n 2, 1) := by decide +kernel
theorem dL_law_138 : decode cL_law 138 = .ok (.invokevirtual 53, 3) := by decide +kernel
theorem dL_law_141 : decode cL_law 141 = .ok (.iload 5, 2) := by decide +kernel
theorem dL_law_143 : decode cL_law 143 = .ok (.if_icmp .eq 5, 3) := by decide +kernel
theorem dL_law_146 : decode cL_law 146 = .ok (.iconst 0, 1) := by decide +kernel
theorem dL_law_147 : decode cL_law 147 = .ok (.ireturn, 1) := by decide +kernel
theorem dL_law_148 : decode cL_law 148 = .ok (.iload 5, 2) := by decide +kernel
theorem dL_law_150 : decode cL_law 150 = .ok (.ifCond .ne 15, 3) := by decide +kernel
theorem dL_law_153 : decode cL_law 153 = .ok (.aload_n 3, 1) := by decide +kernel
theorem dL_law_154 : decode cL_law 154 = .ok (.iconst 0, 1) := by decide +kernel
theorem dL_law_155 : decode cL_law 155 = .ok (.laload, 1) := by decide +kernel
theorem dL_law_156 : decode cL_law 156 = .ok (.iload 6, 2) := by decide +kernel
theorem dL_law_158 : decode cL_law 158 = .ok (.i2l, 1) := by decide +kernel
theorem dL_law_159 : decode cL_law 159 = .ok (.lcmp, 1) := by decide +kernel
theorem dL_law_160 : decode cL_law 160 = .ok (.ifCond .eq 5, 3) := by decide +kernel
theorem dL_law_163 : decode cL_law 163 = .ok (.iconst 0, 1) := by decide +kernel
theorem dL_law_164 : decode cL_law 164 = .ok (.ireturn, 1) := by decide +kernel
theorem dL_law_165 : decode cL_law 165 = .ok (.goto 407, 3) := by decide +kernel
theorem dL_law_168 : decode cL_law 168 = .ok (.aload_n 1, 1) := by decide +kernel
theorem dL_law_169 : decode cL_law 169 = .ok (.invokevirtual 56, 3) := by decide +kernel
theorem dL_law_172 : decode cL_law 172 = .ok (.aload_n 2, 1) := by decide +kernel
theorem dL_law_173 : decode cL_law 173 = .ok (.invokevirtual 59, 3) := by decide +kernel
theorem dL_law_176 : decode cL_law 176 = .ok (.goto 396, 3) := by decide +kernel
theorem dL_law_179 : decode cL_law 179 = .ok (.aload_n 1, 1) := by decide +kernel
theorem dL_law_180 : decode cL_law 180 = .ok (.aload_n 0, 1) := by decide +kernel
theorem dL_law_181 : decode cL_law 181 = .ok (.iload 4, 2) := by decide +kernel
theorem dL_law_183 : decode cL_law 183 = .ok (.iconst 1, 1) := by decide +kernel
theorem dL_law_184 : decode cL_law 184 = .ok (.iadd, 1) := by decide +kernel
theorem dL_law_185 : decode cL_law 185 = .ok (.iaload, 1) := by decide +kernel
theorem dL_law_186 : decode cL_law 186 = .ok (.aload_n 0, 1) := by decide +kernel
theorem dL_law_187 : decode cL_law 187 = .ok (.iload 4, 2) := by decide +kernel
theorem dL_law_189 : decode cL_law 189 = .ok (.iconst 2, 1) := by decide +kernel
theorem dL_law_190 : decode cL_law 190 = .ok (.iadd, 1) := by decide +kernel
theorem dL_law_191 : decode cL_law 191 = .ok (.iaload, 1) := by decide +kernel
theorem dL_law_192 : decode cL_law 192 = .ok (.invokestatic 60, 3) := by decide +kernel
theorem dL_law_195 : decode cL_law 195 = .ok (.istore 5, 2) := by decide +kernel
theorem dL_law_197 : decode cL_law 197 = .ok (.aload_n 2, 1) := by decide +kernel
theorem dL_law_198 : decode cL_law 198 = .ok (.aload_n 0, 1) := by decide +kernel
theorem dL_law_199 : decode cL_law 199 = .ok (.iload 4, 2) := by decide +kernel
theorem dL_law_201 : decode cL_law 201 = .ok (.iconst 1, 1) := by decide +kernel
theorem dL_law_202 : decode cL_law 202 = .ok (.iadd, 1) := by decide +kernel
theorem dL_law_203 : decode cL_law 203 = .ok (.iaload, 1) := by decide +kernel
theorem dL_law_204 : decode cL_law 204 = .ok (.aload_n 0, 1) := by decide +kernel
theorem dL_law_205 : decode cL_law 205 = .ok (.iload 4, 2) := by decide +kernel
theorem dL_law_207 : decode cL_law 207 = .ok (.iconst 2, 1) := by decide +kernel
theorem dL_law_208 : decode cL_law 208 = .ok (.iadd, 1) := by decide +kernel
theorem dL_law_209 : decode cL_law 209 = .ok (.iaload, 1) := by decide +kernel
theorem dL_law_210 : decode cL_law 210 = .ok (.invokevirtual 63, 3) := by decide +kernel
theorem dL_law_213 : decode cL_law 213 = .ok (.aload_n 2, 1) := by decide +kernel
theorem dL_law_214 : decode cL_law 214 = .ok (.invokevirtual 53, 3) := by decide +kernel
theorem dL_law_217 : decode cL_law 217 = .ok (.iload 5, 2) := by decide +kernel
theorem dL_law_219 : decode cL_law 219 = .ok (.if_icmp .eq 5, 3) := by decide +kernel
theorem dL_law_222 : decode cL_law 222 = .ok (.iconst 0, 1) := by decide +kernel
theorem dL_law_223 : decode cL_law 223 = .ok (.ireturn, 1) := by decide +kernel
theorem dL_law_224 : decode cL_law 224 = .ok (.goto 348, 3) := by decide +kernel
theorem dL_law_227 : decode cL_law 227 = .ok (.aload_n 1, 1) := by decide +kernel
theorem dL_law_228 : decode cL_law 228 = .ok (.aload_n 0, 1) := by decide +kernel
theorem dL_law_229 : decode cL_law 229 = .ok (.iload 4, 2) := by decide +kernel
theorem dL_law_231 : decode cL_law 231 = .ok (.iconst 1, 1) := by decide +kernel
theorem dL_law_232 : decode cL_law 232 = .ok (.iadd, 1) := by decide +kernel
theorem dL_law_233 : decode cL_law 233 = .ok (.iaload, 1) := by decide +kernel
theorem dL_law_234 : decode cL_law 234 = .ok (.aload_n 0, 1) := by decide +kernel
theorem dL_law_235 : decode cL_law 235 = .ok (.iload 4, 2) := by decide +kernel
theorem dL_law_237 : decode cL_law 237 = .ok (.iconst 2, 1) := by decide +kernel
theorem dL_law_238 : decode cL_law 238 = .ok (.iadd, 1) := by decide +kernel
theorem dL_law_239 : decode cL_law 239 = .ok (.iaload, 1) := by decide +kernel
theorem dL_law_240 : decode cL_law 240 = .ok (.aload_n 0, 1) := by decide +kernel
theorem dL_law_241 : decode cL_law 241 = .ok (.iload 4, 2) := by decide +kernel
theorem dL_law_243 : decode cL_law 243 = .ok (.iconst 3, 1) := by decide +kernel
theorem dL_law_244 : decode cL_law 244 = .ok (.iadd, 1) := by decide +kernel
theorem dL_law_245 : decode cL_law 245 = .ok (.iaload, 1) := by decide +kernel
theorem dL_law_246 : decode cL_law 246 = .ok (.aload_n 0, 1) := by decide +kernel
theorem dL_law_247 : decode cL_law 247 = .ok (.iload 4, 2) := by decide +kernel
theorem dL_law_249 : decode cL_law 249 = .ok (.iconst 4, 1) := by decide +kernel
theorem dL_law_250 : decode cL_law 250 = .ok (.iadd, 1) := by decide +kernel
theorem dL_law_251 : decode cL_law 251 = .ok (.iaload, 1) := by decide +kernel
theorem dL_law_252 : decode cL_law 252 = .ok (.ifCond .eq 7, 3) := by decide +kernel
theorem dL_law_255 : decode cL_law 255 = .ok (.iconst 1, 1) := by decide +kernel
theorem dL_law_256 : decode cL_law 256 = .ok (.goto 4, 3) := by decide +kernel
theorem dL_law_259 : decode cL_law 259 = .ok (.iconst 0, 1) := by decide +kernel
theorem dL_law_260 : decode cL_law 260 = .ok (.aload_n 3, 1) := by decide +kernel
theorem dL_law_261 : decode cL_law 261 = .ok (.invokestatic 64, 3) := by decide +kernel
theorem dL_law_264 : decode cL_law 264 = .ok (.istore 5, 2) := by decide +kernel
theorem dL_law_266 : decode cL_law 266 = .ok (.aload_n 2, 1) := by decide +kernel
theorem dL_law_267 : decode cL_law 267 = .ok (.aload_n 0, 1) := by decide +kernel
theorem dL_law_268 : decode cL_law 268 = .ok (.iload 4, 2) := by decide +kernel
theorem dL_law_270 : decode cL_law 270 = .ok (.iconst 1, 1) := by decide +kernel
theorem dL_law_271 : decode cL_law 271 = .ok (.iadd, 1) := by decide +kernel
theorem dL_law_272 : decode cL_law 272 = .ok (.iaload, 1) := by decide +kernel
theorem dL_law_273 : decode cL_law 273 = .ok (.aload_n 0, 1) := by decide +kernel
theorem dL_law_274 : decode cL_law 274 = .ok (.iload 4, 2) := by decide +kernel
theorem dL_law_276 : decode cL_law 276 = .ok (.iconst 2, 1) := by decide +kernel
theorem dL_law_277 : decode cL_law 277 = .ok (.iadd, 1) := by decide +kernel
theorem dL_law_278 : decode cL_law 278 = .ok (.iaload, 1) := by decide +kernel
theorem dL_law_279 : decode cL_law 279 = .ok (.aload_n 0, 1) := by decide +kernel
theorem dL_law_280 : decode cL_law 280 = .ok (.iload 4, 2) := by decide +kernel
theorem dL_law_282 : decode cL_law 282 = .ok (.iconst 3, 1) := by decide +kernel
theorem dL_law_283 : decode cL_law 283 = .ok (.iadd, 1) := by decide +kernel
theorem dL_law_284 : decode cL_law 284 = .ok (.iaload, 1) := by decide +kernel
theorem dL_law_285 : decode cL_law 285 = .ok (.aload_n 0, 1) := by decide +kernel
theorem dL_law_286 : decode cL_law 286 = .ok (.iload 4, 2) := by decide +kernel
theorem dL_law_288 : decode cL_law 288 = .ok (.iconst 4, 1) := by decide +kernel
theorem dL_law_289 : decode cL_law 289 = .ok (.iadd, 1) := by decide +kernel
theorem dL_law_290 : decode cL_law 290 = .ok (.iaload, 1) := by decide +kernel
theorem dL_law_291 : decode cL_law 291 = .ok (.ifCond .eq 7, 3) := by decide +kernel
theorem dL_law_294 : decode cL_law 294 = .ok (.iconst 1, 1) := by decide +kernel
theorem dL_law_295 : decode cL_law 295 = .ok (.goto 4, 3) := by decide +kernel
theorem dL_law_298 : decode cL_law 298 = .ok (.iconst 0, 1) := by decide +kernel
theorem dL_law_299 : decode cL_law 299 = .ok (.invokevirtual 67, 3) := by decide +kernel
theorem dL_law_302 : decode cL_law 302 = .ok (.istore 6, 2) := by decide +kernel
theorem dL_law_304 : decode cL_law 304 = .ok (.aload_n 2, 1) := by decide +kernel
theorem dL_law_305 : decode cL_law 305 = .ok (.invokevirtual 53, 3) := by decide +kernel
theorem dL_law_308 : decode cL_law 308 = .ok (.iload 5, 2) := by decide +kernel
theorem dL_law_310 : decode cL_law 310 = .ok (.if_icmp .eq 5, 3) := by decide +kernel
theorem dL_law_313 : decode cL_law 313 = .ok (.iconst 0, 1) := by decide +kernel
theorem dL_law_314 : decode cL_law 314 = .ok (.ireturn, 1) := by decide +kernel
theorem dL_law_315 : decode cL_law 315 = .ok (.iload 5, 2) := by decide +kernel
theorem dL_law_317 : decode cL_law 317 = .ok (.ifCond .ne 15, 3) := by decide +kernel
theorem dL_law_320 : decode cL_law 320 = .ok (.aload_n 3, 1) := by decide +kernel
theorem dL_law_321 : decode cL_law 321 = .ok (.iconst 0, 1) := by decide +kernel
theorem dL_law_322 : decode cL_law 322 = .ok (.laload, 1) := by decide +kernel
theorem dL_law_323 : decode cL_law 323 = .ok (.iload 6, 2) := by decide +kernel
theorem dL_law_325 : decode cL_law 325 = .ok (.i2l, 1) := by decide +kernel
theorem dL_law_326 : decode cL_law 326 = .ok (.lcmp, 1) := by decide +kernel
theorem dL_law_327 : decode cL_law 327 = .ok (.ifCond .eq 5, 3) := by decide +kernel
theorem dL_law_330 : decode cL_law 330 = .ok (.iconst 0, 1) := by decide +kernel
theorem dL_law_331 : decode cL_law 331 = .ok (.ireturn, 1) := by decide +kernel
theorem dL_law_332 : decode cL_law 332 = .ok (.goto 240, 3) := by decide +kernel
theorem dL_law_335 : decode cL_law 335 = .ok (.aload_n 1, 1) := by decide +kernel
theorem dL_law_336 : decode cL_law 336 = .ok (.aload_n 3, 1) := by decide +kernel
theorem dL_law_337 : decode cL_law 337 = .ok (.invokestatic 68, 3) := by decide +kernel
theorem dL_law_340 : decode cL_law 340 = .ok (.istore 5, 2) := by decide +kernel
theorem dL_law_342 : decode cL_law 342 = .ok (.aload_n 2, 1) := by decide +kernel
theorem dL_law_343 : decode cL_law 343 = .ok (.invokevirtual 71, 3) := by decide +kernel
theorem dL_law_346 : decode cL_law 346 = .ok (.istore 6, 2) := by decide +kernel
theorem dL_law_348 : decode cL_law 348 = .ok (.aload_n 2, 1) := by decide +kernel
theorem dL_law_349 : decode cL_law 349 = .ok (.invokevirtual 53, 3) := by decide +kernel
theorem dL_law_352 : decode cL_law 352 = .ok (.iload 5, 2) := by decide +kernel
theorem dL_law_354 : decode cL_law 354 = .ok (.if_icmp .eq 5, 3) := by decide +kernel
theorem dL_law_357 : decode cL_law 357 = .ok (.iconst 0, 1) := by decide +kernel
theorem dL_law_358 : decode cL_law 358 = .ok (.ireturn, 1) := by decide +kernel
theorem dL_law_359 : decode cL_law 359 = .ok (.iload 5, 2) := by decide +kernel
theorem dL_law_361 : decode cL_law 361 = .ok (.ifCond .ne 15, 3) := by decide +kernel
theorem dL_law_364 : decode cL_law 364 = .ok (.aload_n 3, 1) := by decide +kernel
theorem dL_law_365 : decode cL_law 365 = .ok (.iconst 0, 1) := by decide +kernel
theorem dL_law_366 : decode cL_law 366 = .ok (.laload, 1) := by decide +kernel
theorem dL_law_367 : decode cL_law 367 = .ok (.iload 6, 2) := by decide +kernel
theorem dL_law_369 : decode cL_law 369 = .ok (.i2l, 1) := by decide +kernel
theorem dL_law_370 : decode cL_law 370 = .ok (.lcmp, 1) := by decide +kernel
theorem dL_law_371 : decode cL_law 371 = .ok (.ifCond .eq 5, 3) := by decide +kernel
theorem dL_law_374 : decode cL_law 374 = .ok (.iconst 0, 1) := by decide +kernel
theorem dL_law_375 : decode cL_law 375 = .ok (.ireturn, 1) := by decide +kernel
theorem dL_law_376 : decode cL_law 376 = .ok (.goto 196, 3) := by decide +kernel
theorem dL_law_379 : decode cL_law 379 = .ok (.aload_n 1, 1) := by decide +kernel
theorem dL_law_380 : decode cL_law 380 = .ok (.aload_n 3, 1) := by decide +kernel
theorem dL_law_381 : decode cL_law 381 = .ok (.invokestatic 72, 3) := by decide +kernel
theorem dL_law_384 : decode cL_law 384 = .ok (.istore 5, 2) := by decide +kernel
theorem dL_law_386 : decode cL_law 386 = .ok (.aload_n 2, 1) := by decide +kernel
theorem dL_law_387 : decode cL_law 387 = .ok (.invokevirtual 74, 3) := by decide +kernel
theorem dL_law_390 : decode cL_law 390 = .ok (.istore 6, 2) := by decide +kernel
theorem dL_law_392 : decode cL_law 392 = .ok (.aload_n 2, 1) := by decide +kernel
theorem dL_law_393 : decode cL_law 393 = .ok (.invokevirtual 53, 3) := by decide +kernel
theorem dL_law_396 : decode cL_law 396 = .ok (.iload 5, 2) := by decide +kernel
theorem dL_law_398 : decode cL_law 398 = .ok (.if_icmp .eq 5, 3) := by decide +kernel
theorem dL_law_401 : decode cL_law 401 = .ok (.iconst 0, 1) := by decide +kernel
theorem dL_law_402 : decode cL_law 402 = .ok (.ireturn, 1) := by decide +kernel
theorem dL_law_403 : decode cL_law 403 = .ok (.iload 5, 2) := by decide +kernel
theorem dL_law_405 : decode cL_law 405 = .ok (.ifCond .ne 15, 3) := by decide +kernel
theorem dL_law_408 : decode cL_law 408 = .ok (.aload_n 3, 1) := by decide +kernel
theorem dL_law_409 : decode cL_law 409 = .ok (.iconst 0, 1) := by decide +kernel
theorem dL_law_410 : decode cL_law 410 = .ok (.laload, 1) := by decide +kernel
theorem dL_law_411 : decode cL_law 411 = .ok (.iload 6, 2) := by decide +kernel
theorem dL_law_413 : decode cL_law 413 = .ok (.i2l, 1) := by decide +kernel
theorem dL_law_414 : decode cL_law 414 = .ok (.lcmp, 1) := by decide +kernel
theorem dL_law_415 : decode cL_law 415 = .ok (.ifCond .eq 5, 3) := by decide +kernel
theorem dL_law_418 : decode cL_law 418 = .ok (.iconst 0, 1) := by decide +kernel
theorem dL_law_419 : decode cL_law 419 = .ok (.ireturn, 1) := by decide +kernel
theorem dL_law_420 : decode cL_law 420 = .ok (.goto 152, 3) := by decide +kernel
theorem dL_law_423 : decode cL_law 423 = .ok (.aload_n 1, 1) := by decide +kernel
theorem dL_law_424 : decode cL_law 424 = .ok (.aload_n 0, 1) := by decide +kernel
theorem dL_law_425 : decode cL_law 425 = .ok (.iload 4, 2) := by decide +kernel
theorem dL_law_427 : decode cL_law 427 = .ok (.iconst 1, 1) := by decide +kernel
theorem dL_law_428 : decode cL_law 428 = .ok (.iadd, 1) := by decide +kernel
theorem dL_law_429 : decode cL_law 429 = .ok (.iaload, 1) := by decide +kernel
theorem dL_law_430 : decode cL_law 430 = .ok (.aload_n 3, 1) := by decide +kernel
theorem dL_law_431 : decode cL_law 431 = .ok (.invokestatic 75, 3) := by decide +kernel
theorem dL_law_434 : decode cL_law 434 = .ok (.istore 5, 2) := by decide +kernel
theorem dL_law_436 : decode cL_law 436 = .ok (.aload_n 2, 1) := by decide +kernel
theorem dL_law_437 : decode cL_law 437 = .ok (.aload_n 0, 1) := by decide +kernel
theorem dL_law_438 : decode cL_law 438 = .ok (.iload 4, 2) := by decide +kernel
theorem dL_law_440 : decode cL_law 440 = .ok (.iconst 1, 1) := by decide +kernel
theorem dL_law_441 : decode cL_law 441 = .ok (.iadd, 1) := by decide +kernel
theorem dL_law_442 : decode cL_law 442 = .ok (.iaload, 1) := by decide +kernel
theorem dL_law_443 : decode cL_law 443 = .ok (.invokevirtual 78, 3) := by decide +kernel
theorem dL_law_446 : decode cL_law 446 = .ok (.istore 6, 2) := by decide +kernel
theorem dL_law_448 : decode cL_law 448 = .ok (.aload_n 2, 1) := by decide +kernel
theorem dL_law_449 : decode cL_law 449 = .ok (.invokevirtual 53, 3) := by decide +kernel
theorem dL_law_452 : decode cL_law 452 = .ok (.iload 5, 2) := by decide +kernel
theorem dL_law_454 : decode cL_law 454 = .ok (.if_icmp .eq 5, 3) := by decide +kernel
theorem dL_law_457 : decode cL_law 457 = .ok (.iconst 0, 1) := by decide +kernel
theorem dL_law_458 : decode cL_law 458 = .ok (.ireturn, 1) := by decide +kernel
theorem dL_law_459 : decode cL_law 459 = .ok (.iload 5, 2) := by decide +kernel
theorem dL_law_461 : decode cL_law 461 = .ok (.ifCond .ne 15, 3) := by decide +kernel
theorem dL_law_464 : decode cL_law 464 = .ok (.aload_n 3, 1) := by decide +kernel
theorem dL_law_465 : decode cL_law 465 = .ok (.iconst 0, 1) := by decide +kernel
theorem dL_law_466 : decode cL_law 466 = .ok (.laload, 1) := by decide +kernel
theorem dL_law_467 : decode cL_law 467 = .ok (.iload 6, 2) := by decide +kernel
theorem dL_law_469 : decode cL_law 469 = .ok (.i2l, 1) := by decide +kernel
theorem dL_law_470 : decode cL_law 470 = .ok (.lcmp, 1) := by decide +kernel
theorem dL_law_471 : decode cL_law 471 = .ok (.ifCond .eq 5, 3) := by decide +kernel
theorem dL_law_474 : decode cL_law 474 = .ok (.iconst 0, 1) := by decide +kernel
theorem dL_law_475 : decode cL_law 475 = .ok (.ireturn, 1) := by decide +kernel
theorem dL_law_476 : decode cL_law 476 = .ok (.goto 96, 3) := by decide +kernel
theorem dL_law_479 : decode cL_law 479 = .ok (.aload_n 1, 1) := by decide +kernel
theorem dL_law_480 : decode cL_law 480 = .ok (.aload_n 0, 1) := by decide +kernel
theorem dL_law_481 : decode cL_law 481 = .ok (.iload 4, 2) := by decide +kernel
theorem dL_law_483 : decode cL_law 483 = .ok (.iconst 1, 1) := by decide +kernel
theorem dL_law_484 : decode cL_law 484 = .ok (.iadd, 1) := by decide +kernel
theorem dL_law_485 : decode cL_law 485 = .ok (.iaload, 1) := by decide +kernel
theorem dL_law_486 : decode cL_law 486 = .ok (.aload_n 0, 1) := by decide +kernel
theorem dL_law_487 : decode cL_law 487 = .ok (.iload 4, 2) := by decide +kernel
theorem dL_law_489 : decode cL_law 489 = .ok (.iconst 2, 1) := by decide +kernel
theorem dL_law_490 : decode cL_law 490 = .ok (.iadd, 1) := by decide +kernel
theorem dL_law_491 : decode cL_law 491 = .ok (.iaload, 1) := by decide +kernel
theorem dL_law_492 : decode cL_law 492 = .ok (.aload_n 0, 1) := by decide +kernel
theorem dL_law_493 : decode cL_law 493 = .ok (.iload 4, 2) := by decide +kernel
theorem dL_law_495 : decode cL_law 495 = .ok (.iconst 3, 1) := by decide +kernel
theorem dL_law_496 : decode cL_law 496 = .ok (.iadd, 1) := by decide +kernel
theorem dL_law_497 : decode cL_law 497 = .ok (.iaload, 1) := by decide +kernel
theorem dL_law_498 : decode cL_law 498 = .ok (.aload_n 3, 1) := by decide +kernel
theorem dL_law_499 : decode cL_law 499 = .ok (.invokestatic 79, 3) := by decide +kernel
theorem dL_law_502 : decode cL_law 502 = .ok (.istore 5, 2) := by decide +kernel
theorem dL_law_504 : decode cL_law 504 = .ok (.aload_n 2, 1) := by decide +kernel
theorem dL_law_505 : decode cL_law 505 = .ok (.aload_n 0, 1) := by decide +kernel
theorem dL_law_506 : decode cL_law 506 = .ok (.iload 4, 2) := by decide +kernel
theorem dL_law_508 : decode cL_law 508 = .ok (.iconst 1, 1) := by decide +kernel
theorem dL_law_509 : decode cL_law 509 = .ok (.iadd, 1) := by decide +kernel
theorem dL_law_510 : decode cL_law 510 = .ok (.iaload, 1) := by decide +kernel
theorem dL_law_511 : decode cL_law 511 = .ok (.aload_n 0, 1) := by decide +kernel
theorem dL_law_512 : decode cL_law 512 = .ok (.iload 4, 2) := by decide +kernel
theorem dL_law_514 : decode cL_law 514 = .ok (.iconst 2, 1) := by decide +kernel
theorem dL_law_515 : decode cL_law 515 = .ok (.iadd, 1) := by decide +kernel
theorem dL_law_516 : decode cL_law 516 = .ok (.iaload, 1) := by decide +kernel
theorem dL_law_517 : decode cL_law 517 = .ok (.aload_n 0, 1) := by decide +kernel
theorem dL_law_518 : decode cL_law 518 = .ok (.iload 4, 2) := by decide +kernel
theorem dL_law_520 : decode cL_law 520 = .ok (.iconst 3, 1) := by decide +kernel
theorem dL_law_521 : decode cL_law 521 = .ok (.iadd, 1) := by decide +kernel
theorem dL_law_522 : decode cL_law 522 = .ok (.iaload, 1) := by decide +kernel
theorem dL_law_523 : decode cL_law 523 = .ok (.invokevirtual 81, 3) := by decide +kernel
theorem dL_law_526 : decode cL_law 526 = .ok (.istore 6, 2) := by decide +kernel
theorem dL_law_528 : decode cL_law 528 = .ok (.aload_n 2, 1) := by decide +kernel
theorem dL_law_529 : decode cL_law 529 = .ok (.invokevirtual 53, 3) := by decide +kernel
theorem dL_law_532 : decode cL_law 532 = .ok (.iload 5, 2) := by decide +kernel
theorem dL_law_534 : decode cL_law 534 = .ok (.if_icmp .eq 5, 3) := by decide +kernel
theorem dL_law_537 : decode cL_law 537 = .ok (.iconst 0, 1) := by decide +kernel
theorem dL_law_538 : decode cL_law 538 = .ok (.ireturn, 1) := by decide +kernel
theorem dL_law_539 : decode cL_law 539 = .ok (.iload 5, 2) := by decide +kernel
theorem dL_law_541 : decode cL_law 541 = .ok (.ifCond .ne 15, 3) := by decide +kernel
theorem dL_law_544 : decode cL_law 544 = .ok (.aload_n 3, 1) := by decide +kernel
theorem dL_law_545 : decode cL_law 545 = .ok (.iconst 0, 1) := by decide +kernel
theorem dL_law_546 : decode cL_law 546 = .ok (.laload, 1) := by decide +kernel
theorem dL_law_547 : decode cL_law 547 = .ok (.iload 6, 2) := by decide +kernel
theorem dL_law_549 : decode cL_law 549 = .ok (.i2l, 1) := by decide +kernel
theorem dL_law_550 : decode cL_law 550 = .ok (.lcmp, 1) := by decide +kernel
theorem dL_law_551 : decode cL_law 551 = .ok (.ifCond .eq 5, 3) := by decide +kernel
theorem dL_law_554 : decode cL_law 554 = .ok (.iconst 0, 1) := by decide +kernel
theorem dL_law_555 : decode cL_law 555 = .ok (.ireturn, 1) := by decide +kernel
theorem dL_law_556 : decode cL_law 556 = .ok (.goto 16, 3) := by decide +kernel
theorem dL_law_559 : decode cL_law 559 = .ok (.aload_n 1, 1) := by decide +kernel
theorem dL_law_560 : decode cL_law 560 = .ok (.invokevirtual 82, 3) := by decide +kernel
theorem dL_law_563 : decode cL_law 563 = .ok (.aload_n 2, 1) := by decide +kernel
theorem dL_law_564 : decode cL_law 564 = .ok (.invokevirtual 85, 3) := by decide +kernel
theorem dL_law_567 : decode cL_law 567 = .ok (.if_icmp .eq 5, 3) := by decide +kernel
theorem dL_law_570 : decode cL_law 570 = .ok (.iconst 0, 1) := by decide +kernel
theorem dL_law_571 : decode cL_law 571 = .ok (.ireturn, 1) := by decide +kernel
theorem dL_law_572 : decode cL_law 572 = .ok (.iinc 4 5, 3) := by decide +kernel
theorem dL_law_575 : decode cL_law 575 = .ok (.goto (-552), 3) := by decide +kernel
theorem dL_law_578 : decode cL_law 578 = .ok (.iconst 1, 1) := by decide +kernel
theorem dL_law_579 : decode cL_law 579 = .ok (.ireturn, 1) := by decide +kernel
