theorem d_L_set_0 : decode c_L_set 0 = .ok (.aload_n 0, 1) := by decide +kernel
theorem d_L_set_1 : decode c_L_set 1 = .ok (.lload_n 1, 1) := by decide +kernel
theorem d_L_set_2 : decode c_L_set 2 = .ok (.lload_n 3, 1) := by decide +kernel
theorem d_L_set_3 : decode c_L_set 3 = .ok (.iload 5, 2) := by decide +kernel
theorem d_L_set_5 : decode c_L_set 5 = .ok (.invokevirtual 7, 3) := by decide +kernel
theorem d_L_set_8 : decode c_L_set 8 = .ok (.goto 7, 3) := by decide +kernel
theorem d_L_set_11 : decode c_L_set 11 = .ok (.astore 6, 2) := by decide +kernel
theorem d_L_set_13 : decode c_L_set 13 = .ok (.iconst 1, 1) := by decide +kernel
theorem d_L_set_14 : decode c_L_set 14 = .ok (.ireturn, 1) := by decide +kernel
theorem d_L_set_15 : decode c_L_set 15 = .ok (.iconst 0, 1) := by decide +kernel
theorem d_L_set_16 : decode c_L_set 16 = .ok (.ireturn, 1) := by decide +kernel
theorem d_L_discs_0 : decode c_L_discs 0 = .ok (.aload_n 2, 1) := by decide +kernel
theorem d_L_discs_1 : decode c_L_discs 1 = .ok (.iconst 0, 1) := by decide +kernel
theorem d_L_discs_2 : decode c_L_discs 2 = .ok (.aload_n 0, 1) := by decide +kernel
theorem d_L_discs_3 : decode c_L_discs 3 = .ok (.iload_n 1, 1) := by decide +kernel
theorem d_L_discs_4 : decode c_L_discs 4 = .ok (.invokevirtual 15, 3) := by decide +kernel
theorem d_L_discs_7 : decode c_L_discs 7 = .ok (.lastore, 1) := by decide +kernel
theorem d_L_discs_8 : decode c_L_discs 8 = .ok (.goto 6, 3) := by decide +kernel
theorem d_L_discs_11 : decode c_L_discs 11 = .ok (.astore_n 3, 1) := by decide +kernel
theorem d_L_discs_12 : decode c_L_discs 12 = .ok (.iconst 1, 1) := by decide +kernel
theorem d_L_discs_13 : decode c_L_discs 13 = .ok (.ireturn, 1) := by decide +kernel
theorem d_L_discs_14 : decode c_L_discs 14 = .ok (.iconst 0, 1) := by decide +kernel
theorem d_L_discs_15 : decode c_L_discs 15 = .ok (.ireturn, 1) := by decide +kernel
theorem d_L_turns_0 : decode c_L_turns 0 = .ok (.aload_n 2, 1) := by decide +kernel
theorem d_L_turns_1 : decode c_L_turns 1 = .ok (.iconst 0, 1) := by decide +kernel
theorem d_L_turns_2 : decode c_L_turns 2 = .ok (.aload_n 0, 1) := by decide +kernel
theorem d_L_turns_3 : decode c_L_turns 3 = .ok (.iload_n 1, 1) := by decide +kernel
theorem d_L_turns_4 : decode c_L_turns 4 = .ok (.invokevirtual 19, 3) := by decide +kernel
theorem d_L_turns_7 : decode c_L_turns 7 = .ok (.lastore, 1) := by decide +kernel
theorem d_L_turns_8 : decode c_L_turns 8 = .ok (.goto 6, 3) := by decide +kernel
theorem d_L_turns_11 : decode c_L_turns 11 = .ok (.astore_n 3, 1) := by decide +kernel
theorem d_L_turns_12 : decode c_L_turns 12 = .ok (.iconst 1, 1) := by decide +kernel
theorem d_L_turns_13 : decode c_L_turns 13 = .ok (.ireturn, 1) := by decide +kernel
theorem d_L_turns_14 : decode c_L_turns 14 = .ok (.iconst 0, 1) := by decide +kernel
theorem d_L_turns_15 : decode c_L_turns 15 = .ok (.ireturn, 1) := by decide +kernel
theorem d_L_play_0 : decode c_L_play 0 = .ok (.aload_n 2, 1) := by decide +kernel
theorem d_L_play_1 : decode c_L_play 1 = .ok (.iconst 0, 1) := by decide +kernel
theorem d_L_play_2 : decode c_L_play 2 = .ok (.aload_n 0, 1) := by decide +kernel
theorem d_L_play_3 : decode c_L_play 3 = .ok (.iload_n 1, 1) := by decide +kernel
theorem d_L_play_4 : decode c_L_play 4 = .ok (.invokevirtual 22, 3) := by decide +kernel
theorem d_L_play_7 : decode c_L_play 7 = .ok (.i2l, 1) := by decide +kernel
theorem d_L_play_8 : decode c_L_play 8 = .ok (.lastore, 1) := by decide +kernel
theorem d_L_play_9 : decode c_L_play 9 = .ok (.goto 9, 3) := by decide +kernel
theorem d_L_play_12 : decode c_L_play 12 = .ok (.astore_n 3, 1) := by decide +kernel
theorem d_L_play_13 : decode c_L_play 13 = .ok (.iconst 1, 1) := by decide +kernel
theorem d_L_play_14 : decode c_L_play 14 = .ok (.ireturn, 1) := by decide +kernel
theorem d_L_play_15 : decode c_L_play 15 = .ok (.astore_n 3, 1) := by decide +kernel
theorem d_L_play_16 : decode c_L_play 16 = .ok (.iconst 2, 1) := by decide +kernel
theorem d_L_play_17 : decode c_L_play 17 = .ok (.ireturn, 1) := by decide +kernel
theorem d_L_play_18 : decode c_L_play 18 = .ok (.iconst 0, 1) := by decide +kernel
theorem d_L_play_19 : decode c_L_play 19 = .ok (.ireturn, 1) := by decide +kernel
theorem d_L_back_0 : decode c_L_back 0 = .ok (.aload_n 1, 1) := by decide +kernel
theorem d_L_back_1 : decode c_L_back 1 = .ok (.iconst 0, 1) := by decide +kernel
theorem d_L_back_2 : decode c_L_back 2 = .ok (.aload_n 0, 1) := by decide +kernel
theorem d_L_back_3 : decode c_L_back 3 = .ok (.invokevirtual 28, 3) := by decide +kernel
theorem d_L_back_6 : decode c_L_back 6 = .ok (.i2l, 1) := by decide +kernel
theorem d_L_back_7 : decode c_L_back 7 = .ok (.lastore, 1) := by decide +kernel
theorem d_L_back_8 : decode c_L_back 8 = .ok (.goto 6, 3) := by decide +kernel
theorem d_L_back_11 : decode c_L_back 11 = .ok (.astore_n 2, 1) := by decide +kernel
theorem d_L_back_12 : decode c_L_back 12 = .ok (.iconst 1, 1) := by decide +kernel
theorem d_L_back_13 : decode c_L_back 13 = .ok (.ireturn, 1) := by decide +kernel
theorem d_L_back_14 : decode c_L_back 14 = .ok (.iconst 0, 1) := by decide +kernel
theorem d_L_back_15 : decode c_L_back 15 = .ok (.ireturn, 1) := by decide +kernel
theorem d_L_count_0 : decode c_L_count 0 = .ok (.aload_n 2, 1) := by decide +kernel
theorem d_L_count_1 : decode c_L_count 1 = .ok (.iconst 0, 1) := by decide +kernel
theorem d_L_count_2 : decode c_L_count 2 = .ok (.aload_n 0, 1) := by decide +kernel
theorem d_L_count_3 : decode c_L_count 3 = .ok (.iload_n 1, 1) := by decide +kernel
theorem d_L_count_4 : decode c_L_count 4 = .ok (.invokevirtual 34, 3) := by decide +kernel
theorem d_L_count_7 : decode c_L_count 7 = .ok (.lastore, 1) := by decide +kernel
theorem d_L_count_8 : decode c_L_count 8 = .ok (.goto 6, 3) := by decide +kernel
theorem d_L_count_11 : decode c_L_count 11 = .ok (.astore_n 3, 1) := by decide +kernel
theorem d_L_count_12 : decode c_L_count 12 = .ok (.iconst 1, 1) := by decide +kernel
theorem d_L_count_13 : decode c_L_count 13 = .ok (.ireturn, 1) := by decide +kernel
theorem d_L_count_14 : decode c_L_count 14 = .ok (.iconst 0, 1) := by decide +kernel
theorem d_L_count_15 : decode c_L_count 15 = .ok (.ireturn, 1) := by decide +kernel
theorem d_L_outcome_0 : decode c_L_outcome 0 = .ok (.aload_n 1, 1) := by decide +kernel
theorem d_L_outcome_1 : decode c_L_outcome 1 = .ok (.iconst 0, 1) := by decide +kernel
theorem d_L_outcome_2 : decode c_L_outcome 2 = .ok (.aload_n 0, 1) := by decide +kernel
theorem d_L_outcome_3 : decode c_L_outcome 3 = .ok (.invokevirtual 37, 3) := by decide +kernel
theorem d_L_outcome_6 : decode c_L_outcome 6 = .ok (.i2l, 1) := by decide +kernel
theorem d_L_outcome_7 : decode c_L_outcome 7 = .ok (.lastore, 1) := by decide +kernel
theorem d_L_outcome_8 : decode c_L_outcome 8 = .ok (.goto 6, 3) := by decide +kernel
theorem d_L_outcome_11 : decode c_L_outcome 11 = .ok (.astore_n 2, 1) := by decide +kernel
theorem d_L_outcome_12 : decode c_L_outcome 12 = .ok (.iconst 1, 1) := by decide +kernel
theorem d_L_outcome_13 : decode c_L_outcome 13 = .ok (.ireturn, 1) := by decide +kernel
theorem d_L_outcome_14 : decode c_L_outcome 14 = .ok (.iconst 0, 1) := by decide +kernel
theorem d_L_outcome_15 : decode c_L_outcome 15 = .ok (.ireturn, 1) := by decide +kernel
theorem d_L_best_0 : decode c_L_best 0 = .ok (.aload_n 1, 1) := by decide +kernel
theorem d_L_best_1 : decode c_L_best 1 = .ok (.iconst 0, 1) := by decide +kernel
theorem d_L_best_2 : decode c_L_best 2 = .ok (.aload_n 0, 1) := by decide +kernel
theorem d_L_best_3 : decode c_L_best 3 = .ok (.invokevirtual 40, 3) := by decide +kernel
theorem d_L_best_6 : decode c_L_best 6 = .ok (.i2l, 1) := by decide +kernel
theorem d_L_best_7 : decode c_L_best 7 = .ok (.lastore, 1) := by decide +kernel
theorem d_L_best_8 : decode c_L_best 8 = .ok (.goto 6, 3) := by decide +kernel
theorem d_L_best_11 : decode c_L_best 11 = .ok (.astore_n 2, 1) := by decide +kernel
theorem d_L_best_12 : decode c_L_best 12 = .ok (.iconst 1, 1) := by decide +kernel
theorem d_L_best_13 : decode c_L_best 13 = .ok (.ireturn, 1) := by decide +kernel
theorem d_L_best_14 : decode c_L_best 14 = .ok (.iconst 0, 1) := by decide +kernel
theorem d_L_best_15 : decode c_L_best 15 = .ok (.ireturn, 1) := by decide +kernel
theorem d_L_finish_0 : decode c_L_finish 0 = .ok (.aload_n 1, 1) := by decide +kernel
theorem d_L_finish_1 : decode c_L_finish 1 = .ok (.iconst 0, 1) := by decide +kernel
theorem d_L_finish_2 : decode c_L_finish 2 = .ok (.aload_n 0, 1) := by decide +kernel
theorem d_L_finish_3 : decode c_L_finish 3 = .ok (.invokevirtual 43, 3) := by decide +kernel
theorem d_L_finish_6 : decode c_L_finish 6 = .ok (.i2l, 1) := by decide +kernel
theorem d_L_finish_7 : decode c_L_finish 7 = .ok (.lastore, 1) := by decide +kernel
theorem d_L_finish_8 : decode c_L_finish 8 = .ok (.goto 6, 3) := by decide +kernel
theorem d_L_finish_11 : decode c_L_finish 11 = .ok (.astore_n 2, 1) := by decide +kernel
theorem d_L_finish_12 : decode c_L_finish 12 = .ok (.iconst 1, 1) := by decide +kernel
theorem d_L_finish_13 : decode c_L_finish 13 = .ok (.ireturn, 1) := by decide +kernel
theorem d_L_finish_14 : decode c_L_finish 14 = .ok (.iconst 0, 1) := by decide +kernel
theorem d_L_finish_15 : decode c_L_finish 15 = .ok (.ireturn, 1) := by decide +kernel
theorem d_L_border_0 : decode c_L_border 0 = .ok (.aload_n 2, 1) := by decide +kernel
theorem d_L_border_1 : decode c_L_border 1 = .ok (.iconst 0, 1) := by decide +kernel
theorem d_L_border_2 : decode c_L_border 2 = .ok (.aload_n 0, 1) := by decide +kernel
theorem d_L_border_3 : decode c_L_border 3 = .ok (.iload_n 1, 1) := by decide +kernel
theorem d_L_border_4 : decode c_L_border 4 = .ok (.invokevirtual 46, 3) := by decide +kernel
theorem d_L_border_7 : decode c_L_border 7 = .ok (.i2l, 1) := by decide +kernel
theorem d_L_border_8 : decode c_L_border 8 = .ok (.lastore, 1) := by decide +kernel
theorem d_L_border_9 : decode c_L_border 9 = .ok (.goto 6, 3) := by decide +kernel
theorem d_L_border_12 : decode c_L_border 12 = .ok (.astore_n 3, 1) := by decide +kernel
theorem d_L_border_13 : decode c_L_border 13 = .ok (.iconst 1, 1) := by decide +kernel
theorem d_L_border_14 : decode c_L_border 14 = .ok (.ireturn, 1) := by decide +kernel
theorem d_L_border_15 : decode c_L_border 15 = .ok (.iconst 0, 1) := by decide +kernel
theorem d_L_border_16 : decode c_L_border 16 = .ok (.ireturn, 1) := by decide +kernel
theorem d_L_safe_0 : decode c_L_safe 0 = .ok (.aload_n 2, 1) := by decide +kernel
theorem d_L_safe_1 : decode c_L_safe 1 = .ok (.iconst 0, 1) := by decide +kernel
theorem d_L_safe_2 : decode c_L_safe 2 = .ok (.aload_n 0, 1) := by decide +kernel
theorem d_L_safe_3 : decode c_L_safe 3 = .ok (.iload_n 1, 1) := by decide +kernel
theorem d_L_safe_4 : decode c_L_safe 4 = .ok (.invokevirtual 49, 3) := by decide +kernel
theorem d_L_safe_7 : decode c_L_safe 7 = .ok (.lastore, 1) := by decide +kernel
theorem d_L_safe_8 : decode c_L_safe 8 = .ok (.goto 6, 3) := by decide +kernel
theorem d_L_safe_11 : decode c_L_safe 11 = .ok (.astore_n 3, 1) := by decide +kernel
theorem d_L_safe_12 : decode c_L_safe 12 = .ok (.iconst 1, 1) := by decide +kernel
theorem d_L_safe_13 : decode c_L_safe 13 = .ok (.ireturn, 1) := by decide +kernel
theorem d_L_safe_14 : decode c_L_safe 14 = .ok (.iconst 0, 1) := by decide +kernel
theorem d_L_safe_15 : decode c_L_safe 15 = .ok (.ireturn, 1) := by decide +kernel
theorem d_L_law_0 : decode c_L_law 0 = .ok (.new 8, 3) := by decide +kernel
theorem d_L_law_3 : decode c_L_law 3 = .ok (.dup, 1) := by decide +kernel
theorem d_L_law_4 : decode c_L_law 4 = .ok (.invokespecial 52, 3) := by decide +kernel
theorem d_L_law_7 : decode c_L_law 7 = .ok (.astore_n 1, 1) := by decide +kernel
theorem d_L_law_8 : decode c_L_law 8 = .ok (.new 53, 3) := by decide +kernel
theorem d_L_law_11 : decode c_L_law 11 = .ok (.dup, 1) := by decide +kernel
theorem d_L_law_12 : decode c_L_law 12 = .ok (.invokespecial 55, 3) := by decide +kernel
theorem d_L_law_15 : decode c_L_law 15 = .ok (.astore_n 2, 1) := by decide +kernel
theorem d_L_law_16 : decode c_L_law 16 = .ok (.iconst 1, 1) := by decide +kernel
theorem d_L_law_17 : decode c_L_law 17 = .ok (.newarray .long, 2) := by decide +kernel
theorem d_L_law_19 : decode c_L_law 19 = .ok (.astore_n 3, 1) := by decide +kernel
theorem d_L_law_20 : decode c_L_law 20 = .ok (.iconst 0, 1) := by decide +kernel
theorem d_L_law_21 : decode c_L_law 21 = .ok (.istore 4, 2) := by decide +kernel
theorem d_L_law_23 : decode c_L_law 23 = .ok (.iload 4, 2) := by decide +kernel
theorem d_L_law_25 : decode c_L_law 25 = .ok (.aload_n 0, 1) := by decide +kernel
theorem d_L_law_26 : decode c_L_law 26 = .ok (.arraylength, 1) := by decide +kernel
theorem d_L_law_27 : decode c_L_law 27 = .ok (.bipush 6, 2) := by decide +kernel
theorem d_L_law_29 : decode c_L_law 29 = .ok (.isub, 1) := by decide +kernel
theorem d_L_law_30 : decode c_L_law 30 = .ok (.if_icmp .gt 809, 3) := by decide +kernel
theorem d_L_law_33 : decode c_L_law 33 = .ok (.aload_n 0, 1) := by decide +kernel
theorem d_L_law_34 : decode c_L_law 34 = .ok (.iload 4, 2) := by decide +kernel
theorem d_L_law_36 : decode c_L_law 36 = .ok (.iaload, 1) := by decide +kernel
theorem d_L_law_37 : decode c_L_law 37 = .ok (.bipush 31, 2) := by decide +kernel
theorem d_L_law_39 : decode c_L_law 39 = .ok (.iand, 1) := by decide +kernel
theorem d_L_law_40 : decode c_L_law 40 = .ok (.tableswitch 793 0 16 #[84, 95, 219, 274, 287, 301, 356, 369, 425, 469, 482, 495, 550, 594, 638, 682, 738], 84) := by decide +kernel
theorem d_L_law_124 : decode c_L_law 124 = .ok (.aload_n 1, 1) := by decide +kernel
theorem d_L_law_125 : decode c_L_law 125 = .ok (.invokevirtual 56, 3) := by decide +kernel
theorem d_L_law_128 : decode c_L_law 128 = .ok (.aload_n 2, 1) := by decide +kernel
theorem d_L_law_129 : decode c_L_law 129 = .ok (.invokevirtual 59, 3) := by decide +kernel
theorem d_L_law_132 : decode c_L_law 132 = .ok (.goto 701, 3) := by decide +kernel
theorem d_L_law_135 : decode c_L_law 135 = .ok (.aload_n 1, 1) := by decide +kernel
theorem d_L_law_136 : decode c_L_law 136 = .ok (.aload_n 0, 1) := by decide +kernel
theorem d_L_law_137 : decode c_L_law 137 = .ok (.iload 4, 2) := by decide +kernel
theorem d_L_law_139 : decode c_L_law 139 = .ok (.iconst 1, 1) := by decide +kernel
theorem d_L_law_140 : decode c_L_law 140 = .ok (.iadd, 1) := by decide +kernel
theorem d_L_law_141 : decode c_L_law 141 = .ok (.iaload, 1) := by decide +kernel
theorem d_L_law_142 : decode c_L_law 142 = .ok (.i2l, 1) := by decide +kernel
theorem d_L_law_143 : decode c_L_law 143 = .ok (.bipush 32, 2) := by decide +kernel
theorem d_L_law_145 : decode c_L_law 145 = .ok (.lshl, 1) := by decide +kernel
theorem d_L_law_146 : decode c_L_law 146 = .ok (.aload_n 0, 1) := by decide +kernel
theorem d_L_law_147 : decode c_L_law 147 = .ok (.iload 4, 2) := by decide +kernel
theorem d_L_law_149 : decode c_L_law 149 = .ok (.iconst 2, 1) := by decide +kernel
theorem d_L_law_150 : decode c_L_law 150 = .ok (.iadd, 1) := by decide +kernel
theorem d_L_law_151 : decode c_L_law 151 = .ok (.iaload, 1) := by decide +kernel
theorem d_L_law_152 : decode c_L_law 152 = .ok (.i2l, 1) := by decide +kernel
theorem d_L_law_153 : decode c_L_law 153 = .ok (.ldc2_w 60, 3) := by decide +kernel
theorem d_L_law_156 : decode c_L_law 156 = .ok (.land, 1) := by decide +kernel
theorem d_L_law_157 : decode c_L_law 157 = .ok (.lor, 1) := by decide +kernel
theorem d_L_law_158 : decode c_L_law 158 = .ok (.aload_n 0, 1) := by decide +kernel
theorem d_L_law_159 : decode c_L_law 159 = .ok (.iload 4, 2) := by decide +kernel
theorem d_L_law_161 : decode c_L_law 161 = .ok (.iconst 3, 1) := by decide +kernel
theorem d_L_law_162 : decode c_L_law 162 = .ok (.iadd, 1) := by decide +kernel
theorem d_L_law_163 : decode c_L_law 163 = .ok (.iaload, 1) := by decide +kernel
theorem d_L_law_164 : decode c_L_law 164 = .ok (.i2l, 1) := by decide +kernel
theorem d_L_law_165 : decode c_L_law 165 = .ok (.bipush 32, 2) := by decide +kernel
theorem d_L_law_167 : decode c_L_law 167 = .ok (.lshl, 1) := by decide +kernel
theorem d_L_law_168 : decode c_L_law 168 = .ok (.aload_n 0, 1) := by decide +kernel
theorem d_L_law_169 : decode c_L_law 169 = .ok (.iload 4, 2) := by decide +kernel
theorem d_L_law_171 : decode c_L_law 171 = .ok (.iconst 4, 1) := by decide +kernel
theorem d_L_law_172 : decode c_L_law 172 = .ok (.iadd, 1) := by decide +kernel
theorem d_L_law_173 : decode c_L_law 173 = .ok (.iaload, 1) := by decide +kernel
theorem d_L_law_174 : decode c_L_law 174 = .ok (.i2l, 1) := by decide +kernel
theorem d_L_law_175 : decode c_L_law 175 = .ok (.ldc2_w 60, 3) := by decide +kernel
theorem d_L_law_178 : decode c_L_law 178 = .ok (.land, 1) := by decide +kernel
theorem d_L_law_179 : decode c_L_law 179 = .ok (.lor, 1) := by decide +kernel
theorem d_L_law_180 : decode c_L_law 180 = .ok (.aload_n 0, 1) := by decide +kernel
theorem d_L_law_181 : decode c_L_law 181 = .ok (.iload 4, 2) := by decide +kernel
theorem d_L_law_183 : decode c_L_law 183 = .ok (.iconst 5, 1) := by decide +kernel
theorem d_L_law_184 : decode c_L_law 184 = .ok (.iadd, 1) := by decide +kernel
theorem d_L_law_185 : decode c_L_law 185 = .ok (.iaload, 1) := by decide +kernel
theorem d_L_law_186 : decode c_L_law 186 = .ok (.invokestatic 62, 3) := by decide +kernel
theorem d_L_law_189 : decode c_L_law 189 = .ok (.istore 5, 2) := by decide +kernel
theorem d_L_law_191 : decode c_L_law 191 = .ok (.aload_n 2, 1) := by decide +kernel
theorem d_L_law_192 : decode c_L_law 192 = .ok (.aload_n 0, 1) := by decide +kernel
theorem d_L_law_193 : decode c_L_law 193 = .ok (.iload 4, 2) := by decide +kernel
theorem d_L_law_195 : decode c_L_law 195 = .ok (.iconst 1, 1) := by decide +kernel
theorem d_L_law_196 : decode c_L_law 196 = .ok (.iadd, 1) := by decide +kernel
theorem d_L_law_197 : decode c_L_law 197 = .ok (.iaload, 1) := by decide +kernel
theorem d_L_law_198 : decode c_L_law 198 = .ok (.i2l, 1) := by decide +kernel
theorem d_L_law_199 : decode c_L_law 199 = .ok (.bipush 32, 2) := by decide +kernel
theorem d_L_law_201 : decode c_L_law 201 = .ok (.lshl, 1) := by decide +kernel
theorem d_L_law_202 : decode c_L_law 202 = .ok (.aload_n 0, 1) := by decide +kernel
theorem d_L_law_203 : decode c_L_law 203 = .ok (.iload 4, 2) := by decide +kernel
theorem d_L_law_205 : decode c_L_law 205 = .ok (.iconst 2, 1) := by decide +kernel
theorem d_L_law_206 : decode c_L_law 206 = .ok (.iadd, 1) := by decide +kernel
theorem d_L_law_207 : decode c_L_law 207 = .ok (.iaload, 1) := by decide +kernel
theorem d_L_law_208 : decode c_L_law 208 = .ok (.i2l, 1) := by decide +kernel
theorem d_L_law_209 : decode c_L_law 209 = .ok (.ldc2_w 60, 3) := by decide +kernel
theorem d_L_law_212 : decode c_L_law 212 = .ok (.land, 1) := by decide +kernel
theorem d_L_law_213 : decode c_L_law 213 = .ok (.lor, 1) := by decide +kernel
theorem d_L_law_214 : decode c_L_law 214 = .ok (.aload_n 0, 1) := by decide +kernel
theorem d_L_law_215 : decode c_L_law 215 = .ok (.iload 4, 2) := by decide +kernel
theorem d_L_law_217 : decode c_L_law 217 = .ok (.iconst 3, 1) := by decide +kernel
theorem d_L_law_218 : decode c_L_law 218 = .ok (.iadd, 1) := by decide +kernel
theorem d_L_law_219 : decode c_L_law 219 = .ok (.iaload, 1) := by decide +kernel
theorem d_L_law_220 : decode c_L_law 220 = .ok (.i2l, 1) := by decide +kernel
theorem d_L_law_221 : decode c_L_law 221 = .ok (.bipush 32, 2) := by decide +kernel
theorem d_L_law_223 : decode c_L_law 223 = .ok (.lshl, 1) := by decide +kernel
theorem d_L_law_224 : decode c_L_law 224 = .ok (.aload_n 0, 1) := by decide +kernel
theorem d_L_law_225 : decode c_L_law 225 = .ok (.iload 4, 2) := by decide +kernel
theorem d_L_law_227 : decode c_L_law 227 = .ok (.iconst 4, 1) := by decide +kernel
theorem d_L_law_228 : decode c_L_law 228 = .ok (.iadd, 1) := by decide +kernel
theorem d_L_law_229 : decode c_L_law 229 = .ok (.iaload, 1) := by decide +kernel
theorem d_L_law_230 : decode c_L_law 230 = .ok (.i2l, 1) := by decide +kernel
theorem d_L_law_231 : decode c_L_law 231 = .ok (.ldc2_w 60, 3) := by decide +kernel
theorem d_L_law_234 : decode c_L_law 234 = .ok (.land, 1) := by decide +kernel
theorem d_L_law_235 : decode c_L_law 235 = .ok (.lor, 1) := by decide +kernel
theorem d_L_law_236 : decode c_L_law 236 = .ok (.aload_n 0, 1) := by decide +kernel
theorem d_L_law_237 : decode c_L_law 237 = .ok (.iload 4, 2) := by decide +kernel
theorem d_L_law_239 : decode c_L_law 239 = .ok (.iconst 5, 1) := by decide +kernel
theorem d_L_law_240 : decode c_L_law 240 = .ok (.iadd, 1) := by decide +kernel
theorem d_L_law_241 : decode c_L_law 241 = .ok (.iaload, 1) := by decide +kernel
theorem d_L_law_242 : decode c_L_law 242 = .ok (.invokevirtual 67, 3) := by decide +kernel
theorem d_L_law_245 : decode c_L_law 245 = .ok (.aload_n 2, 1) := by decide +kernel
theorem d_L_law_246 : decode c_L_law 246 = .ok (.invokevirtual 68, 3) := by decide +kernel
theorem d_L_law_249 : decode c_L_law 249 = .ok (.iload 5, 2) := by decide +kernel
theorem d_L_law_251 : decode c_L_law 251 = .ok (.if_icmp .eq 5, 3) := by decide +kernel
theorem d_L_law_254 : decode c_L_law 254 = .ok (.iconst 0, 1) := by decide +kernel
theorem d_L_law_255 : decode c_L_law 255 = .ok (.ireturn, 1) := by decide +kernel
theorem d_L_law_256 : decode c_L_law 256 = .ok (.goto 577, 3) := by decide +kernel
theorem d_L_law_259 : decode c_L_law 259 = .ok (.aload_n 1, 1) := by decide +kernel
theorem d_L_law_260 : decode c_L_law 260 = .ok (.aload_n 0, 1) := by decide +kernel
theorem d_L_law_261 : decode c_L_law 261 = .ok (.iload 4, 2) := by decide +kernel
theorem d_L_law_263 : decode c_L_law 263 = .ok (.iconst 1, 1) := by decide +kernel
theorem d_L_law_264 : decode c_L_law 264 = .ok (.iadd, 1) := by decide +kernel
theorem d_L_law_265 : decode c_L_law 265 = .ok (.iaload, 1) := by decide +kernel
theorem d_L_law_266 : decode c_L_law 266 = .ok (.aload_n 3, 1) := by decide +kernel
theorem d_L_law_267 : decode c_L_law 267 = .ok (.invokestatic 71, 3) := by decide +kernel
theorem d_L_law_270 : decode c_L_law 270 = .ok (.istore 5, 2) := by decide +kernel
theorem d_L_law_272 : decode c_L_law 272 = .ok (.aload_n 2, 1) := by decide +kernel
theorem d_L_law_273 : decode c_L_law 273 = .ok (.aload_n 0, 1) := by decide +kernel
theorem d_L_law_274 : decode c_L_law 274 = .ok (.iload 4, 2) := by decide +kernel
theorem d_L_law_276 : decode c_L_law 276 = .ok (.iconst 1, 1) := by decide +kernel
theorem d_L_law_277 : decode c_L_law 277 = .ok (.iadd, 1) := by decide +kernel
theorem d_L_law_278 : decode c_L_law 278 = .ok (.iaload, 1) := by decide +kernel
theorem d_L_law_279 : decode c_L_law 279 = .ok (.invokevirtual 74, 3) := by decide +kernel
theorem d_L_law_282 : decode c_L_law 282 = .ok (.lstore 6, 2) := by decide +kernel
theorem d_L_law_284 : decode c_L_law 284 = .ok (.aload_n 2, 1) := by decide +kernel
theorem d_L_law_285 : decode c_L_law 285 = .ok (.invokevirtual 68, 3) := by decide +kernel
theorem d_L_law_288 : decode c_L_law 288 = .ok (.iload 5, 2) := by decide +kernel
theorem d_L_law_290 : decode c_L_law 290 = .ok (.if_icmp .eq 5, 3) := by decide +kernel
theorem d_L_law_293 : decode c_L_law 293 = .ok (.iconst 0, 1) := by decide +kernel
theorem d_L_law_294 : decode c_L_law 294 = .ok (.ireturn, 1) := by decide +kernel
theorem d_L_law_295 : decode c_L_law 295 = .ok (.iload 5, 2) := by decide +kernel
theorem d_L_law_297 : decode c_L_law 297 = .ok (.ifCond .ne 14, 3) := by decide +kernel
theorem d_L_law_300 : decode c_L_law 300 = .ok (.aload_n 3, 1) := by decide +kernel
theorem d_L_law_301 : decode c_L_law 301 = .ok (.iconst 0, 1) := by decide +kernel
theorem d_L_law_302 : decode c_L_law 302 = .ok (.laload, 1) := by decide +kernel
theorem d_L_law_303 : decode c_L_law 303 = .ok (.lload 6, 2) := by decide +kernel
theorem d_L_law_305 : decode c_L_law 305 = .ok (.lcmp, 1) := by decide +kernel
theorem d_L_law_306 : decode c_L_law 306 = .ok (.ifCond .eq 5, 3) := by decide +kernel
theorem d_L_law_309 : decode c_L_law 309 = .ok (.iconst 0, 1) := by decide +kernel
theorem d_L_law_310 : decode c_L_law 310 = .ok (.ireturn, 1) := by decide +kernel
theorem d_L_law_311 : decode c_L_law 311 = .ok (.goto 522, 3) := by decide +kernel
theorem d_L_law_314 : decode c_L_law 314 = .ok (.aload_n 1, 1) := by decide +kernel
theorem d_L_law_315 : decode c_L_law 315 = .ok (.invokevirtual 75, 3) := by decide +kernel
theorem d_L_law_318 : decode c_L_law 318 = .ok (.aload_n 2, 1) := by decide +kernel
theorem d_L_law_319 : decode c_L_law 319 = .ok (.invokevirtual 78, 3) := by decide +kernel
theorem d_L_law_322 : decode c_L_law 322 = .ok (.if_icmp .eq 511, 3) := by decide +kernel
theorem d_L_law_325 : decode c_L_law 325 = .ok (.iconst 0, 1) := by decide +kernel
theorem d_L_law_326 : decode c_L_law 326 = .ok (.ireturn, 1) := by decide +kernel
theorem d_L_law_327 : decode c_L_law 327 = .ok (.aload_n 1, 1) := by decide +kernel
theorem d_L_law_328 : decode c_L_law 328 = .ok (.invokevirtual 79, 3) := by decide +kernel
theorem d_L_law_331 : decode c_L_law 331 = .ok (.aload_n 2, 1) := by decide +kernel
theorem d_L_law_332 : decode c_L_law 332 = .ok (.invokevirtual 83, 3) := by decide +kernel
theorem d_L_law_335 : decode c_L_law 335 = .ok (.lcmp, 1) := by decide +kernel
theorem d_L_law_336 : decode c_L_law 336 = .ok (.ifCond .eq 497, 3) := by decide +kernel
theorem d_L_law_339 : decode c_L_law 339 = .ok (.iconst 0, 1) := by decide +kernel
theorem d_L_law_340 : decode c_L_law 340 = .ok (.ireturn, 1) := by decide +kernel
theorem d_L_law_341 : decode c_L_law 341 = .ok (.aload_n 1, 1) := by decide +kernel
theorem d_L_law_342 : decode c_L_law 342 = .ok (.aload_n 0, 1) := by decide +kernel
theorem d_L_law_343 : decode c_L_law 343 = .ok (.iload 4, 2) := by decide +kernel
theorem d_L_law_345 : decode c_L_law 345 = .ok (.iconst 1, 1) := by decide +kernel
theorem d_L_law_346 : decode c_L_law 346 = .ok (.iadd, 1) := by decide +kernel
theorem d_L_law_347 : decode c_L_law 347 = .ok (.iaload, 1) := by decide +kernel
theorem d_L_law_348 : decode c_L_law 348 = .ok (.aload_n 3, 1) := by decide +kernel
theorem d_L_law_349 : decode c_L_law 349 = .ok (.invokestatic 84, 3) := by decide +kernel
theorem d_L_law_352 : decode c_L_law 352 = .ok (.istore 5, 2) := by decide +kernel
theorem d_L_law_354 : decode c_L_law 354 = .ok (.aload_n 2, 1) := by decide +kernel
theorem d_L_law_355 : decode c_L_law 355 = .ok (.aload_n 0, 1) := by decide +kernel
theorem d_L_law_356 : decode c_L_law 356 = .ok (.iload 4, 2) := by decide +kernel
theorem d_L_law_358 : decode c_L_law 358 = .ok (.iconst 1, 1) := by decide +kernel
theorem d_L_law_359 : decode c_L_law 359 = .ok (.iadd, 1) := by decide +kernel
theorem d_L_law_360 : decode c_L_law 360 = .ok (.iaload, 1) := by decide +kernel
theorem d_L_law_361 : decode c_L_law 361 = .ok (.invokevirtual 86, 3) := by decide +kernel
theorem d_L_law_364 : decode c_L_law 364 = .ok (.lstore 6, 2) := by decide +kernel
theorem d_L_law_366 : decode c_L_law 366 = .ok (.aload_n 2, 1) := by decide +kernel
theorem d_L_law_367 : decode c_L_law 367 = .ok (.invokevirtual 68, 3) := by decide +kernel
theorem d_L_law_370 : decode c_L_law 370 = .ok (.iload 5, 2) := by decide +kernel
theorem d_L_law_372 : decode c_L_law 372 = .ok (.if_icmp .eq 5, 3) := by decide +kernel
theorem d_L_law_375 : decode c_L_law 375 = .ok (.iconst 0, 1) := by decide +kernel
theorem d_L_law_376 : decode c_L_law 376 = .ok (.ireturn, 1) := by decide +kernel
theorem d_L_law_377 : decode c_L_law 377 = .ok (.iload 5, 2) := by decide +kernel
theorem d_L_law_379 : decode c_L_law 379 = .ok (.ifCond .ne 14, 3) := by decide +kernel
theorem d_L_law_382 : decode c_L_law 382 = .ok (.aload_n 3, 1) := by decide +kernel
theorem d_L_law_383 : decode c_L_law 383 = .ok (.iconst 0, 1) := by decide +kernel
theorem d_L_law_384 : decode c_L_law 384 = .ok (.laload, 1) := by decide +kernel
theorem d_L_law_385 : decode c_L_law 385 = .ok (.lload 6, 2) := by decide +kernel
theorem d_L_law_387 : decode c_L_law 387 = .ok (.lcmp, 1) := by decide +kernel
theorem d_L_law_388 : decode c_L_law 388 = .ok (.ifCond .eq 5, 3) := by decide +kernel
theorem d_L_law_391 : decode c_L_law 391 = .ok (.iconst 0, 1) := by decide +kernel
theorem d_L_law_392 : decode c_L_law 392 = .ok (.ireturn, 1) := by decide +kernel
theorem d_L_law_393 : decode c_L_law 393 = .ok (.goto 440, 3) := by decide +kernel
theorem d_L_law_396 : decode c_L_law 396 = .ok (.aload_n 1, 1) := by decide +kernel
theorem d_L_law_397 : decode c_L_law 397 = .ok (.invokevirtual 87, 3) := by decide +kernel
theorem d_L_law_400 : decode c_L_law 400 = .ok (.aload_n 2, 1) := by decide +kernel
theorem d_L_law_401 : decode c_L_law 401 = .ok (.invokevirtual 91, 3) := by decide +kernel
theorem d_L_law_404 : decode c_L_law 404 = .ok (.if_icmp .eq 429, 3) := by decide +kernel
theorem d_L_law_407 : decode c_L_law 407 = .ok (.iconst 0, 1) := by decide +kernel
theorem d_L_law_408 : decode c_L_law 408 = .ok (.ireturn, 1) := by decide +kernel
theorem d_L_law_409 : decode c_L_law 409 = .ok (.aload_n 1, 1) := by decide +kernel
theorem d_L_law_410 : decode c_L_law 410 = .ok (.aload_n 0, 1) := by decide +kernel
theorem d_L_law_411 : decode c_L_law 411 = .ok (.iload 4, 2) := by decide +kernel
theorem d_L_law_413 : decode c_L_law 413 = .ok (.iconst 1, 1) := by decide +kernel
theorem d_L_law_414 : decode c_L_law 414 = .ok (.iadd, 1) := by decide +kernel
theorem d_L_law_415 : decode c_L_law 415 = .ok (.iaload, 1) := by decide +kernel
theorem d_L_law_416 : decode c_L_law 416 = .ok (.aload_n 3, 1) := by decide +kernel
theorem d_L_law_417 : decode c_L_law 417 = .ok (.invokestatic 92, 3) := by decide +kernel
theorem d_L_law_420 : decode c_L_law 420 = .ok (.istore 5, 2) := by decide +kernel
theorem d_L_law_422 : decode c_L_law 422 = .ok (.aload_n 2, 1) := by decide +kernel
theorem d_L_law_423 : decode c_L_law 423 = .ok (.aload_n 0, 1) := by decide +kernel
theorem d_L_law_424 : decode c_L_law 424 = .ok (.iload 4, 2) := by decide +kernel
theorem d_L_law_426 : decode c_L_law 426 = .ok (.iconst 1, 1) := by decide +kernel
theorem d_L_law_427 : decode c_L_law 427 = .ok (.iadd, 1) := by decide +kernel
theorem d_L_law_428 : decode c_L_law 428 = .ok (.iaload, 1) := by decide +kernel
theorem d_L_law_429 : decode c_L_law 429 = .ok (.invokevirtual 94, 3) := by decide +kernel
theorem d_L_law_432 : decode c_L_law 432 = .ok (.istore 6, 2) := by decide +kernel
theorem d_L_law_434 : decode c_L_law 434 = .ok (.aload_n 2, 1) := by decide +kernel
theorem d_L_law_435 : decode c_L_law 435 = .ok (.invokevirtual 68, 3) := by decide +kernel
theorem d_L_law_438 : decode c_L_law 438 = .ok (.iload 5, 2) := by decide +kernel
theorem d_L_law_440 : decode c_L_law 440 = .ok (.if_icmp .eq 5, 3) := by decide +kernel
theorem d_L_law_443 : decode c_L_law 443 = .ok (.iconst 0, 1) := by decide +kernel
theorem d_L_law_444 : decode c_L_law 444 = .ok (.ireturn, 1) := by decide +kernel
theorem d_L_law_445 : decode c_L_law 445 = .ok (.iload 5, 2) := by decide +kernel
theorem d_L_law_447 : decode c_L_law 447 = .ok (.ifCond .ne 15, 3) := by decide +kernel
theorem d_L_law_450 : decode c_L_law 450 = .ok (.aload_n 3, 1) := by decide +kernel
theorem d_L_law_451 : decode c_L_law 451 = .ok (.iconst 0, 1) := by decide +kernel
theorem d_L_law_452 : decode c_L_law 452 = .ok (.laload, 1) := by decide +kernel
theorem d_L_law_453 : decode c_L_law 453 = .ok (.iload 6, 2) := by decide +kernel
theorem d_L_law_455 : decode c_L_law 455 = .ok (.i2l, 1) := by decide +kernel
theorem d_L_law_456 : decode c_L_law 456 = .ok (.lcmp, 1) := by decide +kernel
theorem d_L_law_457 : decode c_L_law 457 = .ok (.ifCond .eq 5, 3) := by decide +kernel
theorem d_L_law_460 : decode c_L_law 460 = .ok (.iconst 0, 1) := by decide +kernel
theorem d_L_law_461 : decode c_L_law 461 = .ok (.ireturn, 1) := by decide +kernel
theorem d_L_law_462 : decode c_L_law 462 = .ok (.goto 371, 3) := by decide +kernel
theorem d_L_law_465 : decode c_L_law 465 = .ok (.aload_n 1, 1) := by decide +kernel
theorem d_L_law_466 : decode c_L_law 466 = .ok (.aload_n 3, 1) := by decide +kernel
theorem d_L_law_467 : decode c_L_law 467 = .ok (.invokestatic 95, 3) := by decide +kernel
theorem d_L_law_470 : decode c_L_law 470 = .ok (.istore 5, 2) := by decide +kernel
theorem d_L_law_472 : decode c_L_law 472 = .ok (.aload_n 2, 1) := by decide +kernel
theorem d_L_law_473 : decode c_L_law 473 = .ok (.invokevirtual 98, 3) := by decide +kernel
theorem d_L_law_476 : decode c_L_law 476 = .ok (.istore 6, 2) := by decide +kernel
theorem d_L_law_478 : decode c_L_law 478 = .ok (.aload_n 2, 1) := by decide +kernel
theorem d_L_law_479 : decode c_L_law 479 = .ok (.invokevirtual 68, 3) := by decide +kernel
theorem d_L_law_482 : decode c_L_law 482 = .ok (.iload 5, 2) := by decide +kernel
theorem d_L_law_484 : decode c_L_law 484 = .ok (.if_icmp .eq 5, 3) := by decide +kernel
theorem d_L_law_487 : decode c_L_law 487 = .ok (.iconst 0, 1) := by decide +kernel
theorem d_L_law_488 : decode c_L_law 488 = .ok (.ireturn, 1) := by decide +kernel
theorem d_L_law_489 : decode c_L_law 489 = .ok (.iload 5, 2) := by decide +kernel
theorem d_L_law_491 : decode c_L_law 491 = .ok (.ifCond .ne 15, 3) := by decide +kernel
theorem d_L_law_494 : decode c_L_law 494 = .ok (.aload_n 3, 1) := by decide +kernel
theorem d_L_law_495 : decode c_L_law 495 = .ok (.iconst 0, 1) := by decide +kernel
theorem d_L_law_496 : decode c_L_law 496 = .ok (.laload, 1) := by decide +kernel
theorem d_L_law_497 : decode c_L_law 497 = .ok (.iload 6, 2) := by decide +kernel
theorem d_L_law_499 : decode c_L_law 499 = .ok (.i2l, 1) := by decide +kernel
theorem d_L_law_500 : decode c_L_law 500 = .ok (.lcmp, 1) := by decide +kernel
theorem d_L_law_501 : decode c_L_law 501 = .ok (.ifCond .eq 5, 3) := by decide +kernel
theorem d_L_law_504 : decode c_L_law 504 = .ok (.iconst 0, 1) := by decide +kernel
theorem d_L_law_505 : decode c_L_law 505 = .ok (.ireturn, 1) := by decide +kernel
theorem d_L_law_506 : decode c_L_law 506 = .ok (.goto 327, 3) := by decide +kernel
theorem d_L_law_509 : decode c_L_law 509 = .ok (.aload_n 1, 1) := by decide +kernel
theorem d_L_law_510 : decode c_L_law 510 = .ok (.invokevirtual 99, 3) := by decide +kernel
theorem d_L_law_513 : decode c_L_law 513 = .ok (.aload_n 2, 1) := by decide +kernel
theorem d_L_law_514 : decode c_L_law 514 = .ok (.invokevirtual 102, 3) := by decide +kernel
theorem d_L_law_517 : decode c_L_law 517 = .ok (.if_icmp .eq 316, 3) := by decide +kernel
theorem d_L_law_520 : decode c_L_law 520 = .ok (.iconst 0, 1) := by decide +kernel
theorem d_L_law_521 : decode c_L_law 521 = .ok (.ireturn, 1) := by decide +kernel
theorem d_L_law_522 : decode c_L_law 522 = .ok (.aload_n 1, 1) := by decide +kernel
theorem d_L_law_523 : decode c_L_law 523 = .ok (.invokevirtual 103, 3) := by decide +kernel
theorem d_L_law_526 : decode c_L_law 526 = .ok (.aload_n 2, 1) := by decide +kernel
theorem d_L_law_527 : decode c_L_law 527 = .ok (.invokevirtual 106, 3) := by decide +kernel
theorem d_L_law_530 : decode c_L_law 530 = .ok (.if_icmp .eq 303, 3) := by decide +kernel
theorem d_L_law_533 : decode c_L_law 533 = .ok (.iconst 0, 1) := by decide +kernel
theorem d_L_law_534 : decode c_L_law 534 = .ok (.ireturn, 1) := by decide +kernel
theorem d_L_law_535 : decode c_L_law 535 = .ok (.aload_n 1, 1) := by decide +kernel
theorem d_L_law_536 : decode c_L_law 536 = .ok (.aload_n 0, 1) := by decide +kernel
theorem d_L_law_537 : decode c_L_law 537 = .ok (.iload 4, 2) := by decide +kernel
theorem d_L_law_539 : decode c_L_law 539 = .ok (.iconst 1, 1) := by decide +kernel
theorem d_L_law_540 : decode c_L_law 540 = .ok (.iadd, 1) := by decide +kernel
theorem d_L_law_541 : decode c_L_law 541 = .ok (.iaload, 1) := by decide +kernel
theorem d_L_law_542 : decode c_L_law 542 = .ok (.aload_n 3, 1) := by decide +kernel
theorem d_L_law_543 : decode c_L_law 543 = .ok (.invokestatic 107, 3) := by decide +kernel
theorem d_L_law_546 : decode c_L_law 546 = .ok (.istore 5, 2) := by decide +kernel
theorem d_L_law_548 : decode c_L_law 548 = .ok (.aload_n 2, 1) := by decide +kernel
theorem d_L_law_549 : decode c_L_law 549 = .ok (.aload_n 0, 1) := by decide +kernel
theorem d_L_law_550 : decode c_L_law 550 = .ok (.iload 4, 2) := by decide +kernel
theorem d_L_law_552 : decode c_L_law 552 = .ok (.iconst 1, 1) := by decide +kernel
theorem d_L_law_553 : decode c_L_law 553 = .ok (.iadd, 1) := by decide +kernel
theorem d_L_law_554 : decode c_L_law 554 = .ok (.iaload, 1) := by decide +kernel
theorem d_L_law_555 : decode c_L_law 555 = .ok (.invokevirtual 109, 3) := by decide +kernel
theorem d_L_law_558 : decode c_L_law 558 = .ok (.lstore 6, 2) := by decide +kernel
theorem d_L_law_560 : decode c_L_law 560 = .ok (.aload_n 2, 1) := by decide +kernel
theorem d_L_law_561 : decode c_L_law 561 = .ok (.invokevirtual 68, 3) := by decide +kernel
theorem d_L_law_564 : decode c_L_law 564 = .ok (.iload 5, 2) := by decide +kernel
theorem d_L_law_566 : decode c_L_law 566 = .ok (.if_icmp .eq 5, 3) := by decide +kernel
theorem d_L_law_569 : decode c_L_law 569 = .ok (.iconst 0, 1) := by decide +kernel
theorem d_L_law_570 : decode c_L_law 570 = .ok (.ireturn, 1) := by decide +kernel
theorem d_L_law_571 : decode c_L_law 571 = .ok (.iload 5, 2) := by decide +kernel
theorem d_L_law_573 : decode c_L_law 573 = .ok (.ifCond .ne 14, 3) := by decide +kernel
theorem d_L_law_576 : decode c_L_law 576 = .ok (.aload_n 3, 1) := by decide +kernel
theorem d_L_law_577 : decode c_L_law 577 = .ok (.iconst 0, 1) := by decide +kernel
theorem d_L_law_578 : decode c_L_law 578 = .ok (.laload, 1) := by decide +kernel
theorem d_L_law_579 : decode c_L_law 579 = .ok (.lload 6, 2) := by decide +kernel
theorem d_L_law_581 : decode c_L_law 581 = .ok (.lcmp, 1) := by decide +kernel
theorem d_L_law_582 : decode c_L_law 582 = .ok (.ifCond .eq 5, 3) := by decide +kernel
theorem d_L_law_585 : decode c_L_law 585 = .ok (.iconst 0, 1) := by decide +kernel
theorem d_L_law_586 : decode c_L_law 586 = .ok (.ireturn, 1) := by decide +kernel
theorem d_L_law_587 : decode c_L_law 587 = .ok (.goto 246, 3) := by decide +kernel
theorem d_L_law_590 : decode c_L_law 590 = .ok (.aload_n 1, 1) := by decide +kernel
theorem d_L_law_591 : decode c_L_law 591 = .ok (.aload_n 3, 1) := by decide +kernel
theorem d_L_law_592 : decode c_L_law 592 = .ok (.invokestatic 110, 3) := by decide +kernel
theorem d_L_law_595 : decode c_L_law 595 = .ok (.istore 5, 2) := by decide +kernel
theorem d_L_law_597 : decode c_L_law 597 = .ok (.aload_n 2, 1) := by decide +kernel
theorem d_L_law_598 : decode c_L_law 598 = .ok (.invokevirtual 112, 3) := by decide +kernel
theorem d_L_law_601 : decode c_L_law 601 = .ok (.istore 6, 2) := by decide +kernel
theorem d_L_law_603 : decode c_L_law 603 = .ok (.aload_n 2, 1) := by decide +kernel
theorem d_L_law_604 : decode c_L_law 604 = .ok (.invokevirtual 68, 3) := by decide +kernel
theorem d_L_law_607 : decode c_L_law 607 = .ok (.iload 5, 2) := by decide +kernel
theorem d_L_law_609 : decode c_L_law 609 = .ok (.if_icmp .eq 5, 3) := by decide +kernel
theorem d_L_law_612 : decode c_L_law 612 = .ok (.iconst 0, 1) := by decide +kernel
theorem d_L_law_613 : decode c_L_law 613 = .ok (.ireturn, 1) := by decide +kernel
theorem d_L_law_614 : decode c_L_law 614 = .ok (.iload 5, 2) := by decide +kernel
theorem d_L_law_616 : decode c_L_law 616 = .ok (.ifCond .ne 15, 3) := by decide +kernel
theorem d_L_law_619 : decode c_L_law 619 = .ok (.aload_n 3, 1) := by decide +kernel
theorem d_L_law_620 : decode c_L_law 620 = .ok (.iconst 0, 1) := by decide +kernel
theorem d_L_law_621 : decode c_L_law 621 = .ok (.laload, 1) := by decide +kernel
theorem d_L_law_622 : decode c_L_law 622 = .ok (.iload 6, 2) := by decide +kernel
theorem d_L_law_624 : decode c_L_law 624 = .ok (.i2l, 1) := by decide +kernel
theorem d_L_law_625 : decode c_L_law 625 = .ok (.lcmp, 1) := by decide +kernel
theorem d_L_law_626 : decode c_L_law 626 = .ok (.ifCond .eq 5, 3) := by decide +kernel
theorem d_L_law_629 : decode c_L_law 629 = .ok (.iconst 0, 1) := by decide +kernel
theorem d_L_law_630 : decode c_L_law 630 = .ok (.ireturn, 1) := by decide +kernel
theorem d_L_law_631 : decode c_L_law 631 = .ok (.goto 202, 3) := by decide +kernel
theorem d_L_law_634 : decode c_L_law 634 = .ok (.aload_n 1, 1) := by decide +kernel
theorem d_L_law_635 : decode c_L_law 635 = .ok (.aload_n 3, 1) := by decide +kernel
theorem d_L_law_636 : decode c_L_law 636 = .ok (.invokestatic 113, 3) := by decide +kernel
theorem d_L_law_639 : decode c_L_law 639 = .ok (.istore 5, 2) := by decide +kernel
theorem d_L_law_641 : decode c_L_law 641 = .ok (.aload_n 2, 1) := by decide +kernel
theorem d_L_law_642 : decode c_L_law 642 = .ok (.invokevirtual 115, 3) := by decide +kernel
theorem d_L_law_645 : decode c_L_law 645 = .ok (.istore 6, 2) := by decide +kernel
theorem d_L_law_647 : decode c_L_law 647 = .ok (.aload_n 2, 1) := by decide +kernel
theorem d_L_law_648 : decode c_L_law 648 = .ok (.invokevirtual 68, 3) := by decide +kernel
theorem d_L_law_651 : decode c_L_law 651 = .ok (.iload 5, 2) := by decide +kernel
theorem d_L_law_653 : decode c_L_law 653 = .ok (.if_icmp .eq 5, 3) := by decide +kernel
theorem d_L_law_656 : decode c_L_law 656 = .ok (.iconst 0, 1) := by decide +kernel
theorem d_L_law_657 : decode c_L_law 657 = .ok (.ireturn, 1) := by decide +kernel
theorem d_L_law_658 : decode c_L_law 658 = .ok (.iload 5, 2) := by decide +kernel
theorem d_L_law_660 : decode c_L_law 660 = .ok (.ifCond .ne 15, 3) := by decide +kernel
theorem d_L_law_663 : decode c_L_law 663 = .ok (.aload_n 3, 1) := by decide +kernel
theorem d_L_law_664 : decode c_L_law 664 = .ok (.iconst 0, 1) := by decide +kernel
theorem d_L_law_665 : decode c_L_law 665 = .ok (.laload, 1) := by decide +kernel
theorem d_L_law_666 : decode c_L_law 666 = .ok (.iload 6, 2) := by decide +kernel
theorem d_L_law_668 : decode c_L_law 668 = .ok (.i2l, 1) := by decide +kernel
theorem d_L_law_669 : decode c_L_law 669 = .ok (.lcmp, 1) := by decide +kernel
theorem d_L_law_670 : decode c_L_law 670 = .ok (.ifCond .eq 5, 3) := by decide +kernel
theorem d_L_law_673 : decode c_L_law 673 = .ok (.iconst 0, 1) := by decide +kernel
theorem d_L_law_674 : decode c_L_law 674 = .ok (.ireturn, 1) := by decide +kernel
theorem d_L_law_675 : decode c_L_law 675 = .ok (.goto 158, 3) := by decide +kernel
theorem d_L_law_678 : decode c_L_law 678 = .ok (.aload_n 1, 1) := by decide +kernel
theorem d_L_law_679 : decode c_L_law 679 = .ok (.aload_n 3, 1) := by decide +kernel
theorem d_L_law_680 : decode c_L_law 680 = .ok (.invokestatic 116, 3) := by decide +kernel
theorem d_L_law_683 : decode c_L_law 683 = .ok (.istore 5, 2) := by decide +kernel
theorem d_L_law_685 : decode c_L_law 685 = .ok (.aload_n 2, 1) := by decide +kernel
theorem d_L_law_686 : decode c_L_law 686 = .ok (.invokevirtual 118, 3) := by decide +kernel
theorem d_L_law_689 : decode c_L_law 689 = .ok (.istore 6, 2) := by decide +kernel
theorem d_L_law_691 : decode c_L_law 691 = .ok (.aload_n 2, 1) := by decide +kernel
theorem d_L_law_692 : decode c_L_law 692 = .ok (.invokevirtual 68, 3) := by decide +kernel
theorem d_L_law_695 : decode c_L_law 695 = .ok (.iload 5, 2) := by decide +kernel
theorem d_L_law_697 : decode c_L_law 697 = .ok (.if_icmp .eq 5, 3) := by decide +kernel
theorem d_L_law_700 : decode c_L_law 700 = .ok (.iconst 0, 1) := by decide +kernel
theorem d_L_law_701 : decode c_L_law 701 = .ok (.ireturn, 1) := by decide +kernel
theorem d_L_law_702 : decode c_L_law 702 = .ok (.iload 5, 2) := by decide +kernel
theorem d_L_law_704 : decode c_L_law 704 = .ok (.ifCond .ne 15, 3) := by decide +kernel
theorem d_L_law_707 : decode c_L_law 707 = .ok (.aload_n 3, 1) := by decide +kernel
theorem d_L_law_708 : decode c_L_law 708 = .ok (.iconst 0, 1) := by decide +kernel
theorem d_L_law_709 : decode c_L_law 709 = .ok (.laload, 1) := by decide +kernel
theorem d_L_law_710 : decode c_L_law 710 = .ok (.iload 6, 2) := by decide +kernel
theorem d_L_law_712 : decode c_L_law 712 = .ok (.i2l, 1) := by decide +kernel
theorem d_L_law_713 : decode c_L_law 713 = .ok (.lcmp, 1) := by decide +kernel
theorem d_L_law_714 : decode c_L_law 714 = .ok (.ifCond .eq 5, 3) := by decide +kernel
theorem d_L_law_717 : decode c_L_law 717 = .ok (.iconst 0, 1) := by decide +kernel
theorem d_L_law_718 : decode c_L_law 718 = .ok (.ireturn, 1) := by decide +kernel
theorem d_L_law_719 : decode c_L_law 719 = .ok (.goto 114, 3) := by decide +kernel
theorem d_L_law_722 : decode c_L_law 722 = .ok (.aload_n 1, 1) := by decide +kernel
theorem d_L_law_723 : decode c_L_law 723 = .ok (.aload_n 0, 1) := by decide +kernel
theorem d_L_law_724 : decode c_L_law 724 = .ok (.iload 4, 2) := by decide +kernel
theorem d_L_law_726 : decode c_L_law 726 = .ok (.iconst 1, 1) := by decide +kernel
theorem d_L_law_727 : decode c_L_law 727 = .ok (.iadd, 1) := by decide +kernel
theorem d_L_law_728 : decode c_L_law 728 = .ok (.iaload, 1) := by decide +kernel
theorem d_L_law_729 : decode c_L_law 729 = .ok (.aload_n 3, 1) := by decide +kernel
theorem d_L_law_730 : decode c_L_law 730 = .ok (.invokestatic 119, 3) := by decide +kernel
theorem d_L_law_733 : decode c_L_law 733 = .ok (.istore 5, 2) := by decide +kernel
theorem d_L_law_735 : decode c_L_law 735 = .ok (.aload_n 2, 1) := by decide +kernel
theorem d_L_law_736 : decode c_L_law 736 = .ok (.aload_n 0, 1) := by decide +kernel
theorem d_L_law_737 : decode c_L_law 737 = .ok (.iload 4, 2) := by decide +kernel
theorem d_L_law_739 : decode c_L_law 739 = .ok (.iconst 1, 1) := by decide +kernel
theorem d_L_law_740 : decode c_L_law 740 = .ok (.iadd, 1) := by decide +kernel
theorem d_L_law_741 : decode c_L_law 741 = .ok (.iaload, 1) := by decide +kernel
theorem d_L_law_742 : decode c_L_law 742 = .ok (.invokevirtual 121, 3) := by decide +kernel
theorem d_L_law_745 : decode c_L_law 745 = .ok (.istore 6, 2) := by decide +kernel
theorem d_L_law_747 : decode c_L_law 747 = .ok (.aload_n 2, 1) := by decide +kernel
theorem d_L_law_748 : decode c_L_law 748 = .ok (.invokevirtual 68, 3) := by decide +kernel
theorem d_L_law_751 : decode c_L_law 751 = .ok (.iload 5, 2) := by decide +kernel
theorem d_L_law_753 : decode c_L_law 753 = .ok (.if_icmp .eq 5, 3) := by decide +kernel
theorem d_L_law_756 : decode c_L_law 756 = .ok (.iconst 0, 1) := by decide +kernel
theorem d_L_law_757 : decode c_L_law 757 = .ok (.ireturn, 1) := by decide +kernel
theorem d_L_law_758 : decode c_L_law 758 = .ok (.iload 5, 2) := by decide +kernel
theorem d_L_law_760 : decode c_L_law 760 = .ok (.ifCond .ne 15, 3) := by decide +kernel
theorem d_L_law_763 : decode c_L_law 763 = .ok (.aload_n 3, 1) := by decide +kernel
theorem d_L_law_764 : decode c_L_law 764 = .ok (.iconst 0, 1) := by decide +kernel
theorem d_L_law_765 : decode c_L_law 765 = .ok (.laload, 1) := by decide +kernel
theorem d_L_law_766 : decode c_L_law 766 = .ok (.iload 6, 2) := by decide +kernel
theorem d_L_law_768 : decode c_L_law 768 = .ok (.i2l, 1) := by decide +kernel
theorem d_L_law_769 : decode c_L_law 769 = .ok (.lcmp, 1) := by decide +kernel
theorem d_L_law_770 : decode c_L_law 770 = .ok (.ifCond .eq 5, 3) := by decide +kernel
theorem d_L_law_773 : decode c_L_law 773 = .ok (.iconst 0, 1) := by decide +kernel
theorem d_L_law_774 : decode c_L_law 774 = .ok (.ireturn, 1) := by decide +kernel
theorem d_L_law_775 : decode c_L_law 775 = .ok (.goto 58, 3) := by decide +kernel
theorem d_L_law_778 : decode c_L_law 778 = .ok (.aload_n 1, 1) := by decide +kernel
theorem d_L_law_779 : decode c_L_law 779 = .ok (.aload_n 0, 1) := by decide +kernel
theorem d_L_law_780 : decode c_L_law 780 = .ok (.iload 4, 2) := by decide +kernel
theorem d_L_law_782 : decode c_L_law 782 = .ok (.iconst 1, 1) := by decide +kernel
theorem d_L_law_783 : decode c_L_law 783 = .ok (.iadd, 1) := by decide +kernel
theorem d_L_law_784 : decode c_L_law 784 = .ok (.iaload, 1) := by decide +kernel
theorem d_L_law_785 : decode c_L_law 785 = .ok (.aload_n 3, 1) := by decide +kernel
theorem d_L_law_786 : decode c_L_law 786 = .ok (.invokestatic 122, 3) := by decide +kernel
theorem d_L_law_789 : decode c_L_law 789 = .ok (.istore 5, 2) := by decide +kernel
theorem d_L_law_791 : decode c_L_law 791 = .ok (.aload_n 2, 1) := by decide +kernel
theorem d_L_law_792 : decode c_L_law 792 = .ok (.aload_n 0, 1) := by decide +kernel
theorem d_L_law_793 : decode c_L_law 793 = .ok (.iload 4, 2) := by decide +kernel
theorem d_L_law_795 : decode c_L_law 795 = .ok (.iconst 1, 1) := by decide +kernel
theorem d_L_law_796 : decode c_L_law 796 = .ok (.iadd, 1) := by decide +kernel
theorem d_L_law_797 : decode c_L_law 797 = .ok (.iaload, 1) := by decide +kernel
theorem d_L_law_798 : decode c_L_law 798 = .ok (.invokevirtual 124, 3) := by decide +kernel
theorem d_L_law_801 : decode c_L_law 801 = .ok (.lstore 6, 2) := by decide +kernel
theorem d_L_law_803 : decode c_L_law 803 = .ok (.aload_n 2, 1) := by decide +kernel
theorem d_L_law_804 : decode c_L_law 804 = .ok (.invokevirtual 68, 3) := by decide +kernel
theorem d_L_law_807 : decode c_L_law 807 = .ok (.iload 5, 2) := by decide +kernel
theorem d_L_law_809 : decode c_L_law 809 = .ok (.if_icmp .eq 5, 3) := by decide +kernel
theorem d_L_law_812 : decode c_L_law 812 = .ok (.iconst 0, 1) := by decide +kernel
theorem d_L_law_813 : decode c_L_law 813 = .ok (.ireturn, 1) := by decide +kernel
theorem d_L_law_814 : decode c_L_law 814 = .ok (.iload 5, 2) := by decide +kernel
theorem d_L_law_816 : decode c_L_law 816 = .ok (.ifCond .ne 14, 3) := by decide +kernel
theorem d_L_law_819 : decode c_L_law 819 = .ok (.aload_n 3, 1) := by decide +kernel
theorem d_L_law_820 : decode c_L_law 820 = .ok (.iconst 0, 1) := by decide +kernel
theorem d_L_law_821 : decode c_L_law 821 = .ok (.laload, 1) := by decide +kernel
theorem d_L_law_822 : decode c_L_law 822 = .ok (.lload 6, 2) := by decide +kernel
theorem d_L_law_824 : decode c_L_law 824 = .ok (.lcmp, 1) := by decide +kernel
theorem d_L_law_825 : decode c_L_law 825 = .ok (.ifCond .eq 5, 3) := by decide +kernel
theorem d_L_law_828 : decode c_L_law 828 = .ok (.iconst 0, 1) := by decide +kernel
theorem d_L_law_829 : decode c_L_law 829 = .ok (.ireturn, 1) := by decide +kernel
theorem d_L_law_830 : decode c_L_law 830 = .ok (.goto 3, 3) := by decide +kernel
theorem d_L_law_833 : decode c_L_law 833 = .ok (.iinc 4 6, 3) := by decide +kernel
theorem d_L_law_836 : decode c_L_law 836 = .ok (.goto (-813), 3) := by decide +kernel
theorem d_L_law_839 : decode c_L_law 839 = .ok (.iconst 1, 1) := by decide +kernel
theorem d_L_law_840 : decode c_L_law 840 = .ok (.ireturn, 1) := by decide +kernel
