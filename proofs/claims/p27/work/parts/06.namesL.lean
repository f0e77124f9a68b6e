theorem dL_cell_0 : decode cL_cell 0 = .ok (.iload_n 1, 1) := by decide +kernel
theorem dL_cell_1 : decode cL_cell 1 = .ok (.aload_n 0, 1) := by decide +kernel
theorem dL_cell_2 : decode cL_cell 2 = .ok (.arraylength, 1) := by decide +kernel
theorem dL_cell_3 : decode cL_cell 3 = .ok (.if_icmp .ge 9, 3) := by decide +kernel
theorem dL_cell_6 : decode cL_cell 6 = .ok (.aload_n 0, 1) := by decide +kernel
theorem dL_cell_7 : decode cL_cell 7 = .ok (.iload_n 1, 1) := by decide +kernel
theorem dL_cell_8 : decode cL_cell 8 = .ok (.iaload, 1) := by decide +kernel
theorem dL_cell_9 : decode cL_cell 9 = .ok (.goto 18, 3) := by decide +kernel
theorem dL_cell_12 : decode cL_cell 12 = .ok (.sipush 7919, 3) := by decide +kernel
theorem dL_cell_15 : decode cL_cell 15 = .ok (.iload_n 1, 1) := by decide +kernel
theorem dL_cell_16 : decode cL_cell 16 = .ok (.sipush 431, 3) := by decide +kernel
theorem dL_cell_19 : decode cL_cell 19 = .ok (.iadd, 1) := by decide +kernel
theorem dL_cell_20 : decode cL_cell 20 = .ok (.imul, 1) := by decide +kernel
theorem dL_cell_21 : decode cL_cell 21 = .ok (.iload_n 1, 1) := by decide +kernel
theorem dL_cell_22 : decode cL_cell 22 = .ok (.sipush 1453, 3) := by decide +kernel
theorem dL_cell_25 : decode cL_cell 25 = .ok (.iadd, 1) := by decide +kernel
theorem dL_cell_26 : decode cL_cell 26 = .ok (.imul, 1) := by decide +kernel
theorem dL_cell_27 : decode cL_cell 27 = .ok (.ireturn, 1) := by decide +kernel
theorem dL_low_0 : decode cL_low 0 = .ok (.iload_n 0, 1) := by decide +kernel
theorem dL_low_1 : decode cL_low 1 = .ok (.ldc 7, 2) := by decide +kernel
theorem dL_low_3 : decode cL_low 3 = .ok (.iand, 1) := by decide +kernel
theorem dL_low_4 : decode cL_low 4 = .ok (.iload_n 1, 1) := by decide +kernel
theorem dL_low_5 : decode cL_low 5 = .ok (.irem, 1) := by decide +kernel
theorem dL_low_6 : decode cL_low 6 = .ok (.ireturn, 1) := by decide +kernel
theorem dL_begin_0 : decode cL_begin 0 = .ok (.aload_n 0, 1) := by decide +kernel
theorem dL_begin_1 : decode cL_begin 1 = .ok (.iload_n 1, 1) := by decide +kernel
theorem dL_begin_2 : decode cL_begin 2 = .ok (.iload_n 2, 1) := by decide +kernel
theorem dL_begin_3 : decode cL_begin 3 = .ok (.invokevirtual 8, 3) := by decide +kernel
theorem dL_begin_6 : decode cL_begin 6 = .ok (.ireturn, 1) := by decide +kernel
theorem dL_begin_7 : decode cL_begin 7 = .ok (.astore_n 3, 1) := by decide +kernel
theorem dL_begin_8 : decode cL_begin 8 = .ok (.ldc 16, 2) := by decide +kernel
theorem dL_begin_10 : decode cL_begin 10 = .ok (.ireturn, 1) := by decide +kernel
theorem dL_put_0 : decode cL_put 0 = .ok (.aload_n 0, 1) := by decide +kernel
theorem dL_put_1 : decode cL_put 1 = .ok (.iload_n 1, 1) := by decide +kernel
theorem dL_put_2 : decode cL_put 2 = .ok (.iload_n 2, 1) := by decide +kernel
theorem dL_put_3 : decode cL_put 3 = .ok (.invokevirtual 17, 3) := by decide +kernel
theorem dL_put_6 : decode cL_put 6 = .ok (.ireturn, 1) := by decide +kernel
theorem dL_put_7 : decode cL_put 7 = .ok (.astore_n 3, 1) := by decide +kernel
theorem dL_put_8 : decode cL_put 8 = .ok (.ldc 16, 2) := by decide +kernel
theorem dL_put_10 : decode cL_put 10 = .ok (.ireturn, 1) := by decide +kernel
theorem dL_put_11 : decode cL_put 11 = .ok (.astore_n 3, 1) := by decide +kernel
theorem dL_put_12 : decode cL_put 12 = .ok (.ldc 16, 2) := by decide +kernel
theorem dL_put_14 : decode cL_put 14 = .ok (.ireturn, 1) := by decide +kernel
theorem dL_aim_0 : decode cL_aim 0 = .ok (.aload_n 0, 1) := by decide +kernel
theorem dL_aim_1 : decode cL_aim 1 = .ok (.iload_n 1, 1) := by decide +kernel
theorem dL_aim_2 : decode cL_aim 2 = .ok (.iload_n 2, 1) := by decide +kernel
theorem dL_aim_3 : decode cL_aim 3 = .ok (.invokevirtual 24, 3) := by decide +kernel
theorem dL_aim_6 : decode cL_aim 6 = .ok (.ireturn, 1) := by decide +kernel
theorem dL_aim_7 : decode cL_aim 7 = .ok (.astore_n 3, 1) := by decide +kernel
theorem dL_aim_8 : decode cL_aim 8 = .ok (.ldc 16, 2) := by decide +kernel
theorem dL_aim_10 : decode cL_aim 10 = .ok (.ireturn, 1) := by decide +kernel
theorem dL_allow_0 : decode cL_allow 0 = .ok (.aload_n 0, 1) := by decide +kernel
theorem dL_allow_1 : decode cL_allow 1 = .ok (.iload_n 1, 1) := by decide +kernel
theorem dL_allow_2 : decode cL_allow 2 = .ok (.iload_n 2, 1) := by decide +kernel
theorem dL_allow_3 : decode cL_allow 3 = .ok (.iload_n 3, 1) := by decide +kernel
theorem dL_allow_4 : decode cL_allow 4 = .ok (.invokevirtual 27, 3) := by decide +kernel
theorem dL_allow_7 : decode cL_allow 7 = .ok (.ifCond .eq 7, 3) := by decide +kernel
theorem dL_allow_10 : decode cL_allow 10 = .ok (.iconst 1, 1) := by decide +kernel
theorem dL_allow_11 : decode cL_allow 11 = .ok (.goto 4, 3) := by decide +kernel
theorem dL_allow_14 : decode cL_allow 14 = .ok (.iconst 0, 1) := by decide +kernel
theorem dL_allow_15 : decode cL_allow 15 = .ok (.ireturn, 1) := by decide +kernel
theorem dL_allow_16 : decode cL_allow 16 = .ok (.astore 4, 2) := by decide +kernel
theorem dL_allow_18 : decode cL_allow 18 = .ok (.ldc 16, 2) := by decide +kernel
theorem dL_allow_20 : decode cL_allow 20 = .ok (.ireturn, 1) := by decide +kernel
theorem dL_allow_21 : decode cL_allow 21 = .ok (.astore 4, 2) := by decide +kernel
theorem dL_allow_23 : decode cL_allow 23 = .ok (.ldc 16, 2) := by decide +kernel
theorem dL_allow_25 : decode cL_allow 25 = .ok (.ireturn, 1) := by decide +kernel
theorem dL_setColour_0 : decode cL_setColour 0 = .ok (.aload_n 0, 1) := by decide +kernel
theorem dL_setColour_1 : decode cL_setColour 1 = .ok (.iload_n 1, 1) := by decide +kernel
theorem dL_setColour_2 : decode cL_setColour 2 = .ok (.iload_n 2, 1) := by decide +kernel
theorem dL_setColour_3 : decode cL_setColour 3 = .ok (.invokevirtual 31, 3) := by decide +kernel
theorem dL_setColour_6 : decode cL_setColour 6 = .ok (.ireturn, 1) := by decide +kernel
theorem dL_setColour_7 : decode cL_setColour 7 = .ok (.astore_n 3, 1) := by decide +kernel
theorem dL_setColour_8 : decode cL_setColour 8 = .ok (.ldc 16, 2) := by decide +kernel
theorem dL_setColour_10 : decode cL_setColour 10 = .ok (.ireturn, 1) := by decide +kernel
theorem dL_setColour_11 : decode cL_setColour 11 = .ok (.astore_n 3, 1) := by decide +kernel
theorem dL_setColour_12 : decode cL_setColour 12 = .ok (.ldc 16, 2) := by decide +kernel
theorem dL_setColour_14 : decode cL_setColour 14 = .ok (.ireturn, 1) := by decide +kernel
theorem dL_move_0 : decode cL_move 0 = .ok (.aload_n 0, 1) := by decide +kernel
theorem dL_move_1 : decode cL_move 1 = .ok (.iload_n 1, 1) := by decide +kernel
theorem dL_move_2 : decode cL_move 2 = .ok (.iload_n 2, 1) := by decide +kernel
theorem dL_move_3 : decode cL_move 3 = .ok (.invokevirtual 34, 3) := by decide +kernel
theorem dL_move_6 : decode cL_move 6 = .ok (.ireturn, 1) := by decide +kernel
theorem dL_move_7 : decode cL_move 7 = .ok (.astore_n 3, 1) := by decide +kernel
theorem dL_move_8 : decode cL_move 8 = .ok (.ldc 16, 2) := by decide +kernel
theorem dL_move_10 : decode cL_move 10 = .ok (.ireturn, 1) := by decide +kernel
theorem dL_move_11 : decode cL_move 11 = .ok (.astore_n 3, 1) := by decide +kernel
theorem dL_move_12 : decode cL_move 12 = .ok (.ldc 16, 2) := by decide +kernel
theorem dL_move_14 : decode cL_move 14 = .ok (.ireturn, 1) := by decide +kernel
theorem dL_takeBack_0 : decode cL_takeBack 0 = .ok (.aload_n 0, 1) := by decide +kernel
theorem dL_takeBack_1 : decode cL_takeBack 1 = .ok (.invokevirtual 37, 3) := by decide +kernel
theorem dL_takeBack_4 : decode cL_takeBack 4 = .ok (.ireturn, 1) := by decide +kernel
theorem dL_takeBack_5 : decode cL_takeBack 5 = .ok (.astore_n 1, 1) := by decide +kernel
theorem dL_takeBack_6 : decode cL_takeBack 6 = .ok (.ldc 16, 2) := by decide +kernel
theorem dL_takeBack_8 : decode cL_takeBack 8 = .ok (.ireturn, 1) := by decide +kernel
theorem dL_lost_0 : decode cL_lost 0 = .ok (.aload_n 0, 1) := by decide +kernel
theorem dL_lost_1 : decode cL_lost 1 = .ok (.invokevirtual 41, 3) := by decide +kernel
theorem dL_lost_4 : decode cL_lost 4 = .ok (.ireturn, 1) := by decide +kernel
theorem dL_lost_5 : decode cL_lost 5 = .ok (.astore_n 1, 1) := by decide +kernel
theorem dL_lost_6 : decode cL_lost 6 = .ok (.ldc 16, 2) := by decide +kernel
theorem dL_lost_8 : decode cL_lost 8 = .ok (.ireturn, 1) := by decide +kernel
theorem dL_wayByDisks_0 : decode cL_wayByDisks 0 = .ok (.aload_n 0, 1) := by decide +kernel
theorem dL_wayByDisks_1 : decode cL_wayByDisks 1 = .ok (.invokevirtual 44, 3) := by decide +kernel
theorem dL_wayByDisks_4 : decode cL_wayByDisks 4 = .ok (.ireturn, 1) := by decide +kernel
theorem dL_wayByDisks_5 : decode cL_wayByDisks 5 = .ok (.astore_n 1, 1) := by decide +kernel
theorem dL_wayByDisks_6 : decode cL_wayByDisks 6 = .ok (.iconst (-1), 1) := by decide +kernel
theorem dL_wayByDisks_7 : decode cL_wayByDisks 7 = .ok (.ireturn, 1) := by decide +kernel
theorem dL_act_0 : decode cL_act 0 = .ok (.iload_n 1, 1) := by decide +kernel
theorem dL_act_1 : decode cL_act 1 = .ok (.bipush 24, 2) := by decide +kernel
theorem dL_act_3 : decode cL_act 3 = .ok (.ishr, 1) := by decide +kernel
theorem dL_act_4 : decode cL_act 4 = .ok (.bipush 9, 2) := by decide +kernel
theorem dL_act_6 : decode cL_act 6 = .ok (.invokestatic 47, 3) := by decide +kernel
theorem dL_act_9 : decode cL_act 9 = .ok (.ifCond .ne 7, 3) := by decide +kernel
theorem dL_act_12 : decode cL_act 12 = .ok (.iconst 1, 1) := by decide +kernel
theorem dL_act_13 : decode cL_act 13 = .ok (.goto 4, 3) := by decide +kernel
theorem dL_act_16 : decode cL_act 16 = .ok (.iconst 0, 1) := by decide +kernel
theorem dL_act_17 : decode cL_act 17 = .ok (.istore_n 2, 1) := by decide +kernel
theorem dL_act_18 : decode cL_act 18 = .ok (.aload_n 0, 1) := by decide +kernel
theorem dL_act_19 : decode cL_act 19 = .ok (.invokevirtual 52, 3) := by decide +kernel
theorem dL_act_22 : decode cL_act 22 = .ok (.istore_n 3, 1) := by decide +kernel
theorem dL_act_23 : decode cL_act 23 = .ok (.iload_n 1, 1) := by decide +kernel
theorem dL_act_24 : decode cL_act 24 = .ok (.iconst 4, 1) := by decide +kernel
theorem dL_act_25 : decode cL_act 25 = .ok (.ishr, 1) := by decide +kernel
theorem dL_act_26 : decode cL_act 26 = .ok (.iload_n 3, 1) := by decide +kernel
theorem dL_act_27 : decode cL_act 27 = .ok (.iload_n 2, 1) := by decide +kernel
theorem dL_act_28 : decode cL_act 28 = .ok (.ifCond .eq 7, 3) := by decide +kernel
theorem dL_act_31 : decode cL_act 31 = .ok (.iconst 1, 1) := by decide +kernel
theorem dL_act_32 : decode cL_act 32 = .ok (.goto 4, 3) := by decide +kernel
theorem dL_act_35 : decode cL_act 35 = .ok (.iconst 0, 1) := by decide +kernel
theorem dL_act_36 : decode cL_act 36 = .ok (.iadd, 1) := by decide +kernel
theorem dL_act_37 : decode cL_act 37 = .ok (.invokestatic 47, 3) := by decide +kernel
theorem dL_act_40 : decode cL_act 40 = .ok (.istore 4, 2) := by decide +kernel
theorem dL_act_42 : decode cL_act 42 = .ok (.iload_n 2, 1) := by decide +kernel
theorem dL_act_43 : decode cL_act 43 = .ok (.ifCond .eq 18, 3) := by decide +kernel
theorem dL_act_46 : decode cL_act 46 = .ok (.iload_n 1, 1) := by decide +kernel
theorem dL_act_47 : decode cL_act 47 = .ok (.bipush 7, 2) := by decide +kernel
theorem dL_act_49 : decode cL_act 49 = .ok (.ishr, 1) := by decide +kernel
theorem dL_act_50 : decode cL_act 50 = .ok (.iload_n 3, 1) := by decide +kernel
theorem dL_act_51 : decode cL_act 51 = .ok (.iconst 2, 1) := by decide +kernel
theorem dL_act_52 : decode cL_act 52 = .ok (.iadd, 1) := by decide +kernel
theorem dL_act_53 : decode cL_act 53 = .ok (.invokestatic 47, 3) := by decide +kernel
theorem dL_act_56 : decode cL_act 56 = .ok (.iconst 1, 1) := by decide +kernel
theorem dL_act_57 : decode cL_act 57 = .ok (.isub, 1) := by decide +kernel
theorem dL_act_58 : decode cL_act 58 = .ok (.goto 20, 3) := by decide +kernel
theorem dL_act_61 : decode cL_act 61 = .ok (.iload 4, 2) := by decide +kernel
theorem dL_act_63 : decode cL_act 63 = .ok (.iconst 1, 1) := by decide +kernel
theorem dL_act_64 : decode cL_act 64 = .ok (.iadd, 1) := by decide +kernel
theorem dL_act_65 : decode cL_act 65 = .ok (.iload_n 1, 1) := by decide +kernel
theorem dL_act_66 : decode cL_act 66 = .ok (.bipush 7, 2) := by decide +kernel
theorem dL_act_68 : decode cL_act 68 = .ok (.ishr, 1) := by decide +kernel
theorem dL_act_69 : decode cL_act 69 = .ok (.iload_n 3, 1) := by decide +kernel
theorem dL_act_70 : decode cL_act 70 = .ok (.iconst 1, 1) := by decide +kernel
theorem dL_act_71 : decode cL_act 71 = .ok (.isub, 1) := by decide +kernel
theorem dL_act_72 : decode cL_act 72 = .ok (.invokestatic 47, 3) := by decide +kernel
theorem dL_act_75 : decode cL_act 75 = .ok (.iadd, 1) := by decide +kernel
theorem dL_act_76 : decode cL_act 76 = .ok (.iload_n 3, 1) := by decide +kernel
theorem dL_act_77 : decode cL_act 77 = .ok (.irem, 1) := by decide +kernel
theorem dL_act_78 : decode cL_act 78 = .ok (.istore 5, 2) := by decide +kernel
theorem dL_act_80 : decode cL_act 80 = .ok (.iload_n 1, 1) := by decide +kernel
theorem dL_act_81 : decode cL_act 81 = .ok (.bipush 10, 2) := by decide +kernel
theorem dL_act_83 : decode cL_act 83 = .ok (.ishr, 1) := by decide +kernel
theorem dL_act_84 : decode cL_act 84 = .ok (.aload_n 0, 1) := by decide +kernel
theorem dL_act_85 : decode cL_act 85 = .ok (.invokevirtual 55, 3) := by decide +kernel
theorem dL_act_88 : decode cL_act 88 = .ok (.iload_n 2, 1) := by decide +kernel
theorem dL_act_89 : decode cL_act 89 = .ok (.ifCond .eq 7, 3) := by decide +kernel
theorem dL_act_92 : decode cL_act 92 = .ok (.iconst 1, 1) := by decide +kernel
theorem dL_act_93 : decode cL_act 93 = .ok (.goto 4, 3) := by decide +kernel
theorem dL_act_96 : decode cL_act 96 = .ok (.iconst 0, 1) := by decide +kernel
theorem dL_act_97 : decode cL_act 97 = .ok (.iadd, 1) := by decide +kernel
theorem dL_act_98 : decode cL_act 98 = .ok (.invokestatic 47, 3) := by decide +kernel
theorem dL_act_101 : decode cL_act 101 = .ok (.istore 6, 2) := by decide +kernel
theorem dL_act_103 : decode cL_act 103 = .ok (.iload_n 1, 1) := by decide +kernel
theorem dL_act_104 : decode cL_act 104 = .ok (.bipush 12, 2) := by decide +kernel
theorem dL_act_106 : decode cL_act 106 = .ok (.invokestatic 47, 3) := by decide +kernel
theorem dL_act_109 : decode cL_act 109 = .ok (.tableswitch 231 0 7 #[47, 122, 122, 131, 140, 165, 197, 226], 47) := by decide +kernel
theorem dL_act_156 : decode cL_act 156 = .ok (.iload_n 1, 1) := by decide +kernel
theorem dL_act_157 : decode cL_act 157 = .ok (.bipush 14, 2) := by decide +kernel
theorem dL_act_159 : decode cL_act 159 = .ok (.ishr, 1) := by decide +kernel
theorem dL_act_160 : decode cL_act 160 = .ok (.iconst 4, 1) := by decide +kernel
theorem dL_act_161 : decode cL_act 161 = .ok (.invokestatic 47, 3) := by decide +kernel
theorem dL_act_164 : decode cL_act 164 = .ok (.ifCond .ne 62, 3) := by decide +kernel
theorem dL_act_167 : decode cL_act 167 = .ok (.aload_n 0, 1) := by decide +kernel
theorem dL_act_168 : decode cL_act 168 = .ok (.iload_n 2, 1) := by decide +kernel
theorem dL_act_169 : decode cL_act 169 = .ok (.ifCond .eq 15, 3) := by decide +kernel
theorem dL_act_172 : decode cL_act 172 = .ok (.iload_n 1, 1) := by decide +kernel
theorem dL_act_173 : decode cL_act 173 = .ok (.bipush 15, 2) := by decide +kernel
theorem dL_act_175 : decode cL_act 175 = .ok (.ishr, 1) := by decide +kernel
theorem dL_act_176 : decode cL_act 176 = .ok (.bipush 8, 2) := by decide +kernel
theorem dL_act_178 : decode cL_act 178 = .ok (.invokestatic 47, 3) := by decide +kernel
theorem dL_act_181 : decode cL_act 181 = .ok (.goto 13, 3) := by decide +kernel
theorem dL_act_184 : decode cL_act 184 = .ok (.iconst 3, 1) := by decide +kernel
theorem dL_act_185 : decode cL_act 185 = .ok (.iload_n 1, 1) := by decide +kernel
theorem dL_act_186 : decode cL_act 186 = .ok (.bipush 15, 2) := by decide +kernel
theorem dL_act_188 : decode cL_act 188 = .ok (.ishr, 1) := by decide +kernel
theorem dL_act_189 : decode cL_act 189 = .ok (.iconst 2, 1) := by decide +kernel
theorem dL_act_190 : decode cL_act 190 = .ok (.invokestatic 47, 3) := by decide +kernel
theorem dL_act_193 : decode cL_act 193 = .ok (.iadd, 1) := by decide +kernel
theorem dL_act_194 : decode cL_act 194 = .ok (.iload_n 2, 1) := by decide +kernel
theorem dL_act_195 : decode cL_act 195 = .ok (.ifCond .eq 15, 3) := by decide +kernel
theorem dL_act_198 : decode cL_act 198 = .ok (.iload_n 1, 1) := by decide +kernel
theorem dL_act_199 : decode cL_act 199 = .ok (.bipush 18, 2) := by decide +kernel
theorem dL_act_201 : decode cL_act 201 = .ok (.ishr, 1) := by decide +kernel
theorem dL_act_202 : decode cL_act 202 = .ok (.bipush 8, 2) := by decide +kernel
theorem dL_act_204 : decode cL_act 204 = .ok (.invokestatic 47, 3) := by decide +kernel
theorem dL_act_207 : decode cL_act 207 = .ok (.goto 13, 3) := by decide +kernel
theorem dL_act_210 : decode cL_act 210 = .ok (.iconst 1, 1) := by decide +kernel
theorem dL_act_211 : decode cL_act 211 = .ok (.iload_n 1, 1) := by decide +kernel
theorem dL_act_212 : decode cL_act 212 = .ok (.bipush 18, 2) := by decide +kernel
theorem dL_act_214 : decode cL_act 214 = .ok (.ishr, 1) := by decide +kernel
theorem dL_act_215 : decode cL_act 215 = .ok (.iconst 4, 1) := by decide +kernel
theorem dL_act_216 : decode cL_act 216 = .ok (.invokestatic 47, 3) := by decide +kernel
theorem dL_act_219 : decode cL_act 219 = .ok (.iadd, 1) := by decide +kernel
theorem dL_act_220 : decode cL_act 220 = .ok (.invokestatic 58, 3) := by decide +kernel
theorem dL_act_223 : decode cL_act 223 = .ok (.goto 7, 3) := by decide +kernel
theorem dL_act_226 : decode cL_act 226 = .ok (.aload_n 0, 1) := by decide +kernel
theorem dL_act_227 : decode cL_act 227 = .ok (.invokevirtual 61, 3) := by decide +kernel
theorem dL_act_230 : decode cL_act 230 = .ok (.ireturn, 1) := by decide +kernel
theorem dL_act_231 : decode cL_act 231 = .ok (.aload_n 0, 1) := by decide +kernel
theorem dL_act_232 : decode cL_act 232 = .ok (.iload 6, 2) := by decide +kernel
theorem dL_act_234 : decode cL_act 234 = .ok (.iload 5, 2) := by decide +kernel
theorem dL_act_236 : decode cL_act 236 = .ok (.invokestatic 64, 3) := by decide +kernel
theorem dL_act_239 : decode cL_act 239 = .ok (.ireturn, 1) := by decide +kernel
theorem dL_act_240 : decode cL_act 240 = .ok (.aload_n 0, 1) := by decide +kernel
theorem dL_act_241 : decode cL_act 241 = .ok (.iload 6, 2) := by decide +kernel
theorem dL_act_243 : decode cL_act 243 = .ok (.iload 5, 2) := by decide +kernel
theorem dL_act_245 : decode cL_act 245 = .ok (.invokestatic 66, 3) := by decide +kernel
theorem dL_act_248 : decode cL_act 248 = .ok (.ireturn, 1) := by decide +kernel
theorem dL_act_249 : decode cL_act 249 = .ok (.aload_n 0, 1) := by decide +kernel
theorem dL_act_250 : decode cL_act 250 = .ok (.iload 4, 2) := by decide +kernel
theorem dL_act_252 : decode cL_act 252 = .ok (.iload 5, 2) := by decide +kernel
theorem dL_act_254 : decode cL_act 254 = .ok (.iload_n 1, 1) := by decide +kernel
theorem dL_act_255 : decode cL_act 255 = .ok (.bipush 14, 2) := by decide +kernel
theorem dL_act_257 : decode cL_act 257 = .ok (.ishr, 1) := by decide +kernel
theorem dL_act_258 : decode cL_act 258 = .ok (.iconst 3, 1) := by decide +kernel
theorem dL_act_259 : decode cL_act 259 = .ok (.invokestatic 47, 3) := by decide +kernel
theorem dL_act_262 : decode cL_act 262 = .ok (.ifCond .le 7, 3) := by decide +kernel
theorem dL_act_265 : decode cL_act 265 = .ok (.iconst 1, 1) := by decide +kernel
theorem dL_act_266 : decode cL_act 266 = .ok (.goto 4, 3) := by decide +kernel
theorem dL_act_269 : decode cL_act 269 = .ok (.iconst 0, 1) := by decide +kernel
theorem dL_act_270 : decode cL_act 270 = .ok (.invokestatic 68, 3) := by decide +kernel
theorem dL_act_273 : decode cL_act 273 = .ok (.ireturn, 1) := by decide +kernel
theorem dL_act_274 : decode cL_act 274 = .ok (.aload_n 0, 1) := by decide +kernel
theorem dL_act_275 : decode cL_act 275 = .ok (.iload 6, 2) := by decide +kernel
theorem dL_act_277 : decode cL_act 277 = .ok (.iload_n 2, 1) := by decide +kernel
theorem dL_act_278 : decode cL_act 278 = .ok (.ifCond .eq 16, 3) := by decide +kernel
theorem dL_act_281 : decode cL_act 281 = .ok (.iload_n 1, 1) := by decide +kernel
theorem dL_act_282 : decode cL_act 282 = .ok (.bipush 14, 2) := by decide +kernel
theorem dL_act_284 : decode cL_act 284 = .ok (.ishr, 1) := by decide +kernel
theorem dL_act_285 : decode cL_act 285 = .ok (.iconst 4, 1) := by decide +kernel
theorem dL_act_286 : decode cL_act 286 = .ok (.invokestatic 47, 3) := by decide +kernel
theorem dL_act_289 : decode cL_act 289 = .ok (.iconst 1, 1) := by decide +kernel
theorem dL_act_290 : decode cL_act 290 = .ok (.isub, 1) := by decide +kernel
theorem dL_act_291 : decode cL_act 291 = .ok (.goto 11, 3) := by decide +kernel
theorem dL_act_294 : decode cL_act 294 = .ok (.iload_n 1, 1) := by decide +kernel
theorem dL_act_295 : decode cL_act 295 = .ok (.bipush 14, 2) := by decide +kernel
theorem dL_act_297 : decode cL_act 297 = .ok (.ishr, 1) := by decide +kernel
theorem dL_act_298 : decode cL_act 298 = .ok (.iconst 2, 1) := by decide +kernel
theorem dL_act_299 : decode cL_act 299 = .ok (.invokestatic 47, 3) := by decide +kernel
theorem dL_act_302 : decode cL_act 302 = .ok (.invokestatic 71, 3) := by decide +kernel
theorem dL_act_305 : decode cL_act 305 = .ok (.ireturn, 1) := by decide +kernel
theorem dL_act_306 : decode cL_act 306 = .ok (.aload_n 0, 1) := by decide +kernel
theorem dL_act_307 : decode cL_act 307 = .ok (.iload_n 1, 1) := by decide +kernel
theorem dL_act_308 : decode cL_act 308 = .ok (.bipush 14, 2) := by decide +kernel
theorem dL_act_310 : decode cL_act 310 = .ok (.ishr, 1) := by decide +kernel
theorem dL_act_311 : decode cL_act 311 = .ok (.iconst 3, 1) := by decide +kernel
theorem dL_act_312 : decode cL_act 312 = .ok (.invokestatic 47, 3) := by decide +kernel
theorem dL_act_315 : decode cL_act 315 = .ok (.ifCond .ne 7, 3) := by decide +kernel
theorem dL_act_318 : decode cL_act 318 = .ok (.iconst 1, 1) := by decide +kernel
theorem dL_act_319 : decode cL_act 319 = .ok (.goto 4, 3) := by decide +kernel
theorem dL_act_322 : decode cL_act 322 = .ok (.iconst 0, 1) := by decide +kernel
theorem dL_act_323 : decode cL_act 323 = .ok (.invokevirtual 73, 3) := by decide +kernel
theorem dL_act_326 : decode cL_act 326 = .ok (.ifCond .eq 7, 3) := by decide +kernel
theorem dL_act_329 : decode cL_act 329 = .ok (.iconst 1, 1) := by decide +kernel
theorem dL_act_330 : decode cL_act 330 = .ok (.goto 4, 3) := by decide +kernel
theorem dL_act_333 : decode cL_act 333 = .ok (.iconst 0, 1) := by decide +kernel
theorem dL_act_334 : decode cL_act 334 = .ok (.ireturn, 1) := by decide +kernel
theorem dL_act_335 : decode cL_act 335 = .ok (.aload_n 0, 1) := by decide +kernel
theorem dL_act_336 : decode cL_act 336 = .ok (.invokestatic 77, 3) := by decide +kernel
theorem dL_act_339 : decode cL_act 339 = .ok (.ireturn, 1) := by decide +kernel
theorem dL_act_340 : decode cL_act 340 = .ok (.aload_n 0, 1) := by decide +kernel
theorem dL_act_341 : decode cL_act 341 = .ok (.iload 4, 2) := by decide +kernel
theorem dL_act_343 : decode cL_act 343 = .ok (.iload 5, 2) := by decide +kernel
theorem dL_act_345 : decode cL_act 345 = .ok (.invokestatic 80, 3) := by decide +kernel
theorem dL_act_348 : decode cL_act 348 = .ok (.ireturn, 1) := by decide +kernel
theorem dL_areAlike_0 : decode cL_areAlike 0 = .ok (.aload_n 0, 1) := by decide +kernel
theorem dL_areAlike_1 : decode cL_areAlike 1 = .ok (.invokevirtual 52, 3) := by decide +kernel
theorem dL_areAlike_4 : decode cL_areAlike 4 = .ok (.aload_n 1, 1) := by decide +kernel
theorem dL_areAlike_5 : decode cL_areAlike 5 = .ok (.invokevirtual 52, 3) := by decide +kernel
theorem dL_areAlike_8 : decode cL_areAlike 8 = .ok (.if_icmp .ne 73, 3) := by decide +kernel
theorem dL_areAlike_11 : decode cL_areAlike 11 = .ok (.aload_n 0, 1) := by decide +kernel
theorem dL_areAlike_12 : decode cL_areAlike 12 = .ok (.invokevirtual 55, 3) := by decide +kernel
theorem dL_areAlike_15 : decode cL_areAlike 15 = .ok (.aload_n 1, 1) := by decide +kernel
theorem dL_areAlike_16 : decode cL_areAlike 16 = .ok (.invokevirtual 55, 3) := by decide +kernel
theorem dL_areAlike_19 : decode cL_areAlike 19 = .ok (.if_icmp .ne 62, 3) := by decide +kernel
theorem dL_areAlike_22 : decode cL_areAlike 22 = .ok (.aload_n 0, 1) := by decide +kernel
theorem dL_areAlike_23 : decode cL_areAlike 23 = .ok (.invokevirtual 82, 3) := by decide +kernel
theorem dL_areAlike_26 : decode cL_areAlike 26 = .ok (.aload_n 1, 1) := by decide +kernel
theorem dL_areAlike_27 : decode cL_areAlike 27 = .ok (.invokevirtual 82, 3) := by decide +kernel
theorem dL_areAlike_30 : decode cL_areAlike 30 = .ok (.if_icmp .ne 51, 3) := by decide +kernel
theorem dL_areAlike_33 : decode cL_areAlike 33 = .ok (.aload_n 0, 1) := by decide +kernel
theorem dL_areAlike_34 : decode cL_areAlike 34 = .ok (.invokevirtual 85, 3) := by decide +kernel
theorem dL_areAlike_37 : decode cL_areAlike 37 = .ok (.aload_n 1, 1) := by decide +kernel
theorem dL_areAlike_38 : decode cL_areAlike 38 = .ok (.invokevirtual 85, 3) := by decide +kernel
theorem dL_areAlike_41 : decode cL_areAlike 41 = .ok (.if_icmp .ne 40, 3) := by decide +kernel
theorem dL_areAlike_44 : decode cL_areAlike 44 = .ok (.aload_n 0, 1) := by decide +kernel
theorem dL_areAlike_45 : decode cL_areAlike 45 = .ok (.invokevirtual 88, 3) := by decide +kernel
theorem dL_areAlike_48 : decode cL_areAlike 48 = .ok (.aload_n 1, 1) := by decide +kernel
theorem dL_areAlike_49 : decode cL_areAlike 49 = .ok (.invokevirtual 88, 3) := by decide +kernel
theorem dL_areAlike_52 : decode cL_areAlike 52 = .ok (.if_icmp .ne 29, 3) := by decide +kernel
theorem dL_areAlike_55 : decode cL_areAlike 55 = .ok (.aload_n 0, 1) := by decide +kernel
theorem dL_areAlike_56 : decode cL_areAlike 56 = .ok (.invokevirtual 91, 3) := by decide +kernel
theorem dL_areAlike_59 : decode cL_areAlike 59 = .ok (.aload_n 1, 1) := by decide +kernel
theorem dL_areAlike_60 : decode cL_areAlike 60 = .ok (.invokevirtual 91, 3) := by decide +kernel
theorem dL_areAlike_63 : decode cL_areAlike 63 = .ok (.if_icmp .ne 18, 3) := by decide +kernel
theorem dL_areAlike_66 : decode cL_areAlike 66 = .ok (.aload_n 0, 1) := by decide +kernel
theorem dL_areAlike_67 : decode cL_areAlike 67 = .ok (.invokevirtual 94, 3) := by decide +kernel
theorem dL_areAlike_70 : decode cL_areAlike 70 = .ok (.aload_n 1, 1) := by decide +kernel
theorem dL_areAlike_71 : decode cL_areAlike 71 = .ok (.invokevirtual 94, 3) := by decide +kernel
theorem dL_areAlike_74 : decode cL_areAlike 74 = .ok (.if_icmp .ne 7, 3) := by decide +kernel
theorem dL_areAlike_77 : decode cL_areAlike 77 = .ok (.iconst 1, 1) := by decide +kernel
theorem dL_areAlike_78 : decode cL_areAlike 78 = .ok (.goto 4, 3) := by decide +kernel
theorem dL_areAlike_81 : decode cL_areAlike 81 = .ok (.iconst 0, 1) := by decide +kernel
theorem dL_areAlike_82 : decode cL_areAlike 82 = .ok (.ireturn, 1) := by decide +kernel
theorem dL_isNowSo_0 : decode cL_isNowSo 0 = .ok (.aload_n 0, 1) := by decide +kernel
theorem dL_isNowSo_1 : decode cL_isNowSo 1 = .ok (.invokevirtual 52, 3) := by decide +kernel
theorem dL_isNowSo_4 : decode cL_isNowSo 4 = .ok (.istore_n 1, 1) := by decide +kernel
theorem dL_isNowSo_5 : decode cL_isNowSo 5 = .ok (.iconst 0, 1) := by decide +kernel
theorem dL_isNowSo_6 : decode cL_isNowSo 6 = .ok (.istore_n 2, 1) := by decide +kernel
theorem dL_isNowSo_7 : decode cL_isNowSo 7 = .ok (.aload_n 0, 1) := by decide +kernel
theorem dL_isNowSo_8 : decode cL_isNowSo 8 = .ok (.invokevirtual 55, 3) := by decide +kernel
theorem dL_isNowSo_11 : decode cL_isNowSo 11 = .ok (.iconst 1, 1) := by decide +kernel
theorem dL_isNowSo_12 : decode cL_isNowSo 12 = .ok (.isub, 1) := by decide +kernel
theorem dL_isNowSo_13 : decode cL_isNowSo 13 = .ok (.istore_n 3, 1) := by decide +kernel
theorem dL_isNowSo_14 : decode cL_isNowSo 14 = .ok (.iload_n 3, 1) := by decide +kernel
theorem dL_isNowSo_15 : decode cL_isNowSo 15 = .ok (.ifCond .lt 19, 3) := by decide +kernel
theorem dL_isNowSo_18 : decode cL_isNowSo 18 = .ok (.iload_n 1, 1) := by decide +kernel
theorem dL_isNowSo_19 : decode cL_isNowSo 19 = .ok (.iload_n 2, 1) := by decide +kernel
theorem dL_isNowSo_20 : decode cL_isNowSo 20 = .ok (.imul, 1) := by decide +kernel
theorem dL_isNowSo_21 : decode cL_isNowSo 21 = .ok (.aload_n 0, 1) := by decide +kernel
theorem dL_isNowSo_22 : decode cL_isNowSo 22 = .ok (.iload_n 3, 1) := by decide +kernel
theorem dL_isNowSo_23 : decode cL_isNowSo 23 = .ok (.invokevirtual 97, 3) := by decide +kernel
theorem dL_isNowSo_26 : decode cL_isNowSo 26 = .ok (.iadd, 1) := by decide +kernel
theorem dL_isNowSo_27 : decode cL_isNowSo 27 = .ok (.istore_n 2, 1) := by decide +kernel
theorem dL_isNowSo_28 : decode cL_isNowSo 28 = .ok (.iinc 3 (-1), 3) := by decide +kernel
theorem dL_isNowSo_31 : decode cL_isNowSo 31 = .ok (.goto (-17), 3) := by decide +kernel
theorem dL_isNowSo_34 : decode cL_isNowSo 34 = .ok (.iload_n 2, 1) := by decide +kernel
theorem dL_isNowSo_35 : decode cL_isNowSo 35 = .ok (.aload_n 0, 1) := by decide +kernel
theorem dL_isNowSo_36 : decode cL_isNowSo 36 = .ok (.invokevirtual 85, 3) := by decide +kernel
theorem dL_isNowSo_39 : decode cL_isNowSo 39 = .ok (.if_icmp .ne 7, 3) := by decide +kernel
theorem dL_isNowSo_42 : decode cL_isNowSo 42 = .ok (.iconst 1, 1) := by decide +kernel
theorem dL_isNowSo_43 : decode cL_isNowSo 43 = .ok (.goto 4, 3) := by decide +kernel
theorem dL_isNowSo_46 : decode cL_isNowSo 46 = .ok (.iconst 0, 1) := by decide +kernel
theorem dL_isNowSo_47 : decode cL_isNowSo 47 = .ok (.istore_n 3, 1) := by decide +kernel
theorem dL_isNowSo_48 : decode cL_isNowSo 48 = .ok (.iconst 0, 1) := by decide +kernel
theorem dL_isNowSo_49 : decode cL_isNowSo 49 = .ok (.istore 4, 2) := by decide +kernel
theorem dL_isNowSo_51 : decode cL_isNowSo 51 = .ok (.iload 4, 2) := by decide +kernel
theorem dL_isNowSo_53 : decode cL_isNowSo 53 = .ok (.iload_n 1, 1) := by decide +kernel
theorem dL_isNowSo_54 : decode cL_isNowSo 54 = .ok (.if_icmp .ge 167, 3) := by decide +kernel
theorem dL_isNowSo_57 : decode cL_isNowSo 57 = .ok (.aload_n 0, 1) := by decide +kernel
theorem dL_isNowSo_58 : decode cL_isNowSo 58 = .ok (.iload 4, 2) := by decide +kernel
theorem dL_isNowSo_60 : decode cL_isNowSo 60 = .ok (.invokevirtual 101, 3) := by decide +kernel
theorem dL_isNowSo_63 : decode cL_isNowSo 63 = .ok (.istore 5, 2) := by decide +kernel
theorem dL_isNowSo_65 : decode cL_isNowSo 65 = .ok (.iload_n 3, 1) := by decide +kernel
theorem dL_isNowSo_66 : decode cL_isNowSo 66 = .ok (.ifCond .eq 35, 3) := by decide +kernel
theorem dL_isNowSo_69 : decode cL_isNowSo 69 = .ok (.iload 5, 2) := by decide +kernel
theorem dL_isNowSo_71 : decode cL_isNowSo 71 = .ok (.iconst (-1), 1) := by decide +kernel
theorem dL_isNowSo_72 : decode cL_isNowSo 72 = .ok (.if_icmp .eq 14, 3) := by decide +kernel
theorem dL_isNowSo_75 : decode cL_isNowSo 75 = .ok (.aload_n 0, 1) := by decide +kernel
theorem dL_isNowSo_76 : decode cL_isNowSo 76 = .ok (.iload 5, 2) := by decide +kernel
theorem dL_isNowSo_78 : decode cL_isNowSo 78 = .ok (.invokevirtual 97, 3) := by decide +kernel
theorem dL_isNowSo_81 : decode cL_isNowSo 81 = .ok (.iload 4, 2) := by decide +kernel
theorem dL_isNowSo_83 : decode cL_isNowSo 83 = .ok (.if_icmp .ne 18, 3) := by decide +kernel
theorem dL_isNowSo_86 : decode cL_isNowSo 86 = .ok (.aload_n 0, 1) := by decide +kernel
theorem dL_isNowSo_87 : decode cL_isNowSo 87 = .ok (.iload 4, 2) := by decide +kernel
theorem dL_isNowSo_89 : decode cL_isNowSo 89 = .ok (.iload 4, 2) := by decide +kernel
theorem dL_isNowSo_91 : decode cL_isNowSo 91 = .ok (.invokevirtual 104, 3) := by decide +kernel
theorem dL_isNowSo_94 : decode cL_isNowSo 94 = .ok (.ifCond .ne 7, 3) := by decide +kernel
theorem dL_isNowSo_97 : decode cL_isNowSo 97 = .ok (.iconst 1, 1) := by decide +kernel
theorem dL_isNowSo_98 : decode cL_isNowSo 98 = .ok (.goto 4, 3) := by decide +kernel
theorem dL_isNowSo_101 : decode cL_isNowSo 101 = .ok (.iconst 0, 1) := by decide +kernel
theorem dL_isNowSo_102 : decode cL_isNowSo 102 = .ok (.istore_n 3, 1) := by decide +kernel
theorem dL_isNowSo_103 : decode cL_isNowSo 103 = .ok (.iconst 0, 1) := by decide +kernel
theorem dL_isNowSo_104 : decode cL_isNowSo 104 = .ok (.istore 6, 2) := by decide +kernel
theorem dL_isNowSo_106 : decode cL_isNowSo 106 = .ok (.iload 6, 2) := by decide +kernel
theorem dL_isNowSo_108 : decode cL_isNowSo 108 = .ok (.aload_n 0, 1) := by decide +kernel
theorem dL_isNowSo_109 : decode cL_isNowSo 109 = .ok (.invokevirtual 55, 3) := by decide +kernel
theorem dL_isNowSo_112 : decode cL_isNowSo 112 = .ok (.if_icmp .ge 42, 3) := by decide +kernel
theorem dL_isNowSo_115 : decode cL_isNowSo 115 = .ok (.iload_n 3, 1) := by decide +kernel
theorem dL_isNowSo_116 : decode cL_isNowSo 116 = .ok (.ifCond .eq 30, 3) := by decide +kernel
theorem dL_isNowSo_119 : decode cL_isNowSo 119 = .ok (.aload_n 0, 1) := by decide +kernel
theorem dL_isNowSo_120 : decode cL_isNowSo 120 = .ok (.iload 6, 2) := by decide +kernel
theorem dL_isNowSo_122 : decode cL_isNowSo 122 = .ok (.invokevirtual 97, 3) := by decide +kernel
theorem dL_isNowSo_125 : decode cL_isNowSo 125 = .ok (.iload 4, 2) := by decide +kernel
theorem dL_isNowSo_127 : decode cL_isNowSo 127 = .ok (.if_icmp .ne 15, 3) := by decide +kernel
theorem dL_isNowSo_130 : decode cL_isNowSo 130 = .ok (.iload 5, 2) := by decide +kernel
theorem dL_isNowSo_132 : decode cL_isNowSo 132 = .ok (.ifCond .lt 14, 3) := by decide +kernel
theorem dL_isNowSo_135 : decode cL_isNowSo 135 = .ok (.iload 5, 2) := by decide +kernel
theorem dL_isNowSo_137 : decode cL_isNowSo 137 = .ok (.iload 6, 2) := by decide +kernel
theorem dL_isNowSo_139 : decode cL_isNowSo 139 = .ok (.if_icmp .gt 7, 3) := by decide +kernel
theorem dL_isNowSo_142 : decode cL_isNowSo 142 = .ok (.iconst 1, 1) := by decide +kernel
theorem dL_isNowSo_143 : decode cL_isNowSo 143 = .ok (.goto 4, 3) := by decide +kernel
theorem dL_isNowSo_146 : decode cL_isNowSo 146 = .ok (.iconst 0, 1) := by decide +kernel
theorem dL_isNowSo_147 : decode cL_isNowSo 147 = .ok (.istore_n 3, 1) := by decide +kernel
theorem dL_isNowSo_148 : decode cL_isNowSo 148 = .ok (.iinc 6 1, 3) := by decide +kernel
theorem dL_isNowSo_151 : decode cL_isNowSo 151 = .ok (.goto (-45), 3) := by decide +kernel
theorem dL_isNowSo_154 : decode cL_isNowSo 154 = .ok (.iconst 0, 1) := by decide +kernel
theorem dL_isNowSo_155 : decode cL_isNowSo 155 = .ok (.istore 6, 2) := by decide +kernel
theorem dL_isNowSo_157 : decode cL_isNowSo 157 = .ok (.iload 6, 2) := by decide +kernel
theorem dL_isNowSo_159 : decode cL_isNowSo 159 = .ok (.iload_n 1, 1) := by decide +kernel
theorem dL_isNowSo_160 : decode cL_isNowSo 160 = .ok (.if_icmp .ge 55, 3) := by decide +kernel
theorem dL_isNowSo_163 : decode cL_isNowSo 163 = .ok (.aload_n 0, 1) := by decide +kernel
theorem dL_isNowSo_164 : decode cL_isNowSo 164 = .ok (.iload 6, 2) := by decide +kernel
theorem dL_isNowSo_166 : decode cL_isNowSo 166 = .ok (.invokevirtual 101, 3) := by decide +kernel
theorem dL_isNowSo_169 : decode cL_isNowSo 169 = .ok (.istore 7, 2) := by decide +kernel
theorem dL_isNowSo_171 : decode cL_isNowSo 171 = .ok (.iload_n 3, 1) := by decide +kernel
theorem dL_isNowSo_172 : decode cL_isNowSo 172 = .ok (.ifCond .eq 35, 3) := by decide +kernel
theorem dL_isNowSo_175 : decode cL_isNowSo 175 = .ok (.aload_n 0, 1) := by decide +kernel
theorem dL_isNowSo_176 : decode cL_isNowSo 176 = .ok (.iload 4, 2) := by decide +kernel
theorem dL_isNowSo_178 : decode cL_isNowSo 178 = .ok (.iload 6, 2) := by decide +kernel
theorem dL_isNowSo_180 : decode cL_isNowSo 180 = .ok (.invokevirtual 104, 3) := by decide +kernel
theorem dL_isNowSo_183 : decode cL_isNowSo 183 = .ok (.ifCond .eq 20, 3) := by decide +kernel
theorem dL_isNowSo_186 : decode cL_isNowSo 186 = .ok (.iload 5, 2) := by decide +kernel
theorem dL_isNowSo_188 : decode cL_isNowSo 188 = .ok (.ifCond .lt 19, 3) := by decide +kernel
theorem dL_isNowSo_191 : decode cL_isNowSo 191 = .ok (.iload 7, 2) := by decide +kernel
theorem dL_isNowSo_193 : decode cL_isNowSo 193 = .ok (.ifCond .lt 10, 3) := by decide +kernel
theorem dL_isNowSo_196 : decode cL_isNowSo 196 = .ok (.iload 7, 2) := by decide +kernel
theorem dL_isNowSo_198 : decode cL_isNowSo 198 = .ok (.iload 5, 2) := by decide +kernel
theorem dL_isNowSo_200 : decode cL_isNowSo 200 = .ok (.if_icmp .le 7, 3) := by decide +kernel
theorem dL_isNowSo_203 : decode cL_isNowSo 203 = .ok (.iconst 1, 1) := by decide +kernel
theorem dL_isNowSo_204 : decode cL_isNowSo 204 = .ok (.goto 4, 3) := by decide +kernel
theorem dL_isNowSo_207 : decode cL_isNowSo 207 = .ok (.iconst 0, 1) := by decide +kernel
theorem dL_isNowSo_208 : decode cL_isNowSo 208 = .ok (.istore_n 3, 1) := by decide +kernel
theorem dL_isNowSo_209 : decode cL_isNowSo 209 = .ok (.iinc 6 1, 3) := by decide +kernel
theorem dL_isNowSo_212 : decode cL_isNowSo 212 = .ok (.goto (-55), 3) := by decide +kernel
theorem dL_isNowSo_215 : decode cL_isNowSo 215 = .ok (.iinc 4 1, 3) := by decide +kernel
theorem dL_isNowSo_218 : decode cL_isNowSo 218 = .ok (.goto (-167), 3) := by decide +kernel
theorem dL_isNowSo_221 : decode cL_isNowSo 221 = .ok (.iload_n 3, 1) := by decide +kernel
theorem dL_isNowSo_222 : decode cL_isNowSo 222 = .ok (.ireturn, 1) := by decide +kernel
theorem dL_areWaysSo_0 : decode cL_areWaysSo 0 = .ok (.aload_n 0, 1) := by decide +kernel
theorem dL_areWaysSo_1 : decode cL_areWaysSo 1 = .ok (.invokevirtual 91, 3) := by decide +kernel
theorem dL_areWaysSo_4 : decode cL_areWaysSo 4 = .ok (.istore_n 1, 1) := by decide +kernel
theorem dL_areWaysSo_5 : decode cL_areWaysSo 5 = .ok (.aload_n 0, 1) := by decide +kernel
theorem dL_areWaysSo_6 : decode cL_areWaysSo 6 = .ok (.invokevirtual 108, 3) := by decide +kernel
theorem dL_areWaysSo_9 : decode cL_areWaysSo 9 = .ok (.istore_n 2, 1) := by decide +kernel
theorem dL_areWaysSo_10 : decode cL_areWaysSo 10 = .ok (.aload_n 0, 1) := by decide +kernel
theorem dL_areWaysSo_11 : decode cL_areWaysSo 11 = .ok (.invokestatic 111, 3) := by decide +kernel
theorem dL_areWaysSo_14 : decode cL_areWaysSo 14 = .ok (.istore_n 3, 1) := by decide +kernel
theorem dL_areWaysSo_15 : decode cL_areWaysSo 15 = .ok (.aload_n 0, 1) := by decide +kernel
theorem dL_areWaysSo_16 : decode cL_areWaysSo 16 = .ok (.invokestatic 113, 3) := by decide +kernel
theorem dL_areWaysSo_19 : decode cL_areWaysSo 19 = .ok (.istore 4, 2) := by decide +kernel
theorem dL_areWaysSo_21 : decode cL_areWaysSo 21 = .ok (.iload_n 1, 1) := by decide +kernel
theorem dL_areWaysSo_22 : decode cL_areWaysSo 22 = .ok (.ifCond .le 7, 3) := by decide +kernel
theorem dL_areWaysSo_25 : decode cL_areWaysSo 25 = .ok (.iconst 1, 1) := by decide +kernel
theorem dL_areWaysSo_26 : decode cL_areWaysSo 26 = .ok (.goto 4, 3) := by decide +kernel
theorem dL_areWaysSo_29 : decode cL_areWaysSo 29 = .ok (.iconst 0, 1) := by decide +kernel
theorem dL_areWaysSo_30 : decode cL_areWaysSo 30 = .ok (.iload_n 2, 1) := by decide +kernel
theorem dL_areWaysSo_31 : decode cL_areWaysSo 31 = .ok (.ifCond .lt 7, 3) := by decide +kernel
theorem dL_areWaysSo_34 : decode cL_areWaysSo 34 = .ok (.iconst 1, 1) := by decide +kernel
theorem dL_areWaysSo_35 : decode cL_areWaysSo 35 = .ok (.goto 4, 3) := by decide +kernel
theorem dL_areWaysSo_38 : decode cL_areWaysSo 38 = .ok (.iconst 0, 1) := by decide +kernel
theorem dL_areWaysSo_39 : decode cL_areWaysSo 39 = .ok (.if_icmp .ne 81, 3) := by decide +kernel
theorem dL_areWaysSo_42 : decode cL_areWaysSo 42 = .ok (.iload_n 1, 1) := by decide +kernel
theorem dL_areWaysSo_43 : decode cL_areWaysSo 43 = .ok (.ifCond .ne 14, 3) := by decide +kernel
theorem dL_areWaysSo_46 : decode cL_areWaysSo 46 = .ok (.aload_n 0, 1) := by decide +kernel
theorem dL_areWaysSo_47 : decode cL_areWaysSo 47 = .ok (.invokevirtual 85, 3) := by decide +kernel
theorem dL_areWaysSo_50 : decode cL_areWaysSo 50 = .ok (.aload_n 0, 1) := by decide +kernel
theorem dL_areWaysSo_51 : decode cL_areWaysSo 51 = .ok (.invokevirtual 88, 3) := by decide +kernel
theorem dL_areWaysSo_54 : decode cL_areWaysSo 54 = .ok (.if_icmp .ne 66, 3) := by decide +kernel
theorem dL_areWaysSo_57 : decode cL_areWaysSo 57 = .ok (.iload_n 1, 1) := by decide +kernel
theorem dL_areWaysSo_58 : decode cL_areWaysSo 58 = .ok (.ifCond .lt 10, 3) := by decide +kernel
theorem dL_areWaysSo_61 : decode cL_areWaysSo 61 = .ok (.aload_n 0, 1) := by decide +kernel
theorem dL_areWaysSo_62 : decode cL_areWaysSo 62 = .ok (.invokevirtual 115, 3) := by decide +kernel
theorem dL_areWaysSo_65 : decode cL_areWaysSo 65 = .ok (.ifCond .eq 55, 3) := by decide +kernel
theorem dL_areWaysSo_68 : decode cL_areWaysSo 68 = .ok (.iload 4, 2) := by decide +kernel
theorem dL_areWaysSo_70 : decode cL_areWaysSo 70 = .ok (.ifCond .lt 9, 3) := by decide +kernel
theorem dL_areWaysSo_73 : decode cL_areWaysSo 73 = .ok (.iload 4, 2) := by decide +kernel
theorem dL_areWaysSo_75 : decode cL_areWaysSo 75 = .ok (.iload_n 1, 1) := by decide +kernel
theorem dL_areWaysSo_76 : decode cL_areWaysSo 76 = .ok (.if_icmp .ne 44, 3) := by decide +kernel
theorem dL_areWaysSo_79 : decode cL_areWaysSo 79 = .ok (.aload_n 0, 1) := by decide +kernel
theorem dL_areWaysSo_80 : decode cL_areWaysSo 80 = .ok (.invokevirtual 94, 3) := by decide +kernel
theorem dL_areWaysSo_83 : decode cL_areWaysSo 83 = .ok (.ifCond .ne 7, 3) := by decide +kernel
theorem dL_areWaysSo_86 : decode cL_areWaysSo 86 = .ok (.iconst 1, 1) := by decide +kernel
theorem dL_areWaysSo_87 : decode cL_areWaysSo 87 = .ok (.goto 4, 3) := by decide +kernel
theorem dL_areWaysSo_90 : decode cL_areWaysSo 90 = .ok (.iconst 0, 1) := by decide +kernel
theorem dL_areWaysSo_91 : decode cL_areWaysSo 91 = .ok (.aload_n 0, 1) := by decide +kernel
theorem dL_areWaysSo_92 : decode cL_areWaysSo 92 = .ok (.invokevirtual 115, 3) := by decide +kernel
theorem dL_areWaysSo_95 : decode cL_areWaysSo 95 = .ok (.ifCond .ne 7, 3) := by decide +kernel
theorem dL_areWaysSo_98 : decode cL_areWaysSo 98 = .ok (.iconst 1, 1) := by decide +kernel
theorem dL_areWaysSo_99 : decode cL_areWaysSo 99 = .ok (.goto 4, 3) := by decide +kernel
theorem dL_areWaysSo_102 : decode cL_areWaysSo 102 = .ok (.iconst 0, 1) := by decide +kernel
theorem dL_areWaysSo_103 : decode cL_areWaysSo 103 = .ok (.if_icmp .ne 17, 3) := by decide +kernel
theorem dL_areWaysSo_106 : decode cL_areWaysSo 106 = .ok (.iload_n 3, 1) := by decide +kernel
theorem dL_areWaysSo_107 : decode cL_areWaysSo 107 = .ok (.ldc 16, 2) := by decide +kernel
theorem dL_areWaysSo_109 : decode cL_areWaysSo 109 = .ok (.if_icmp .eq 7, 3) := by decide +kernel
theorem dL_areWaysSo_112 : decode cL_areWaysSo 112 = .ok (.iload_n 1, 1) := by decide +kernel
theorem dL_areWaysSo_113 : decode cL_areWaysSo 113 = .ok (.ifCond .lt 7, 3) := by decide +kernel
theorem dL_areWaysSo_116 : decode cL_areWaysSo 116 = .ok (.iconst 1, 1) := by decide +kernel
theorem dL_areWaysSo_117 : decode cL_areWaysSo 117 = .ok (.goto 4, 3) := by decide +kernel
theorem dL_areWaysSo_120 : decode cL_areWaysSo 120 = .ok (.iconst 0, 1) := by decide +kernel
theorem dL_areWaysSo_121 : decode cL_areWaysSo 121 = .ok (.istore 5, 2) := by decide +kernel
theorem dL_areWaysSo_123 : decode cL_areWaysSo 123 = .ok (.iload 5, 2) := by decide +kernel
theorem dL_areWaysSo_125 : decode cL_areWaysSo 125 = .ok (.ifCond .eq 225, 3) := by decide +kernel
theorem dL_areWaysSo_128 : decode cL_areWaysSo 128 = .ok (.aload_n 0, 1) := by decide +kernel
theorem dL_areWaysSo_129 : decode cL_areWaysSo 129 = .ok (.invokevirtual 82, 3) := by decide +kernel
theorem dL_areWaysSo_132 : decode cL_areWaysSo 132 = .ok (.sipush 500, 3) := by decide +kernel
theorem dL_areWaysSo_135 : decode cL_areWaysSo 135 = .ok (.if_icmp .ge 215, 3) := by decide +kernel
theorem dL_areWaysSo_138 : decode cL_areWaysSo 138 = .ok (.aload_n 0, 1) := by decide +kernel
theorem dL_areWaysSo_139 : decode cL_areWaysSo 139 = .ok (.invokevirtual 52, 3) := by decide +kernel
theorem dL_areWaysSo_142 : decode cL_areWaysSo 142 = .ok (.istore 6, 2) := by decide +kernel
theorem dL_areWaysSo_144 : decode cL_areWaysSo 144 = .ok (.iconst 0, 1) := by decide +kernel
theorem dL_areWaysSo_145 : decode cL_areWaysSo 145 = .ok (.istore 7, 2) := by decide +kernel
theorem dL_areWaysSo_147 : decode cL_areWaysSo 147 = .ok (.iload 7, 2) := by decide +kernel
theorem dL_areWaysSo_149 : decode cL_areWaysSo 149 = .ok (.iload 6, 2) := by decide +kernel
theorem dL_areWaysSo_151 : decode cL_areWaysSo 151 = .ok (.iload 6, 2) := by decide +kernel
theorem dL_areWaysSo_153 : decode cL_areWaysSo 153 = .ok (.imul, 1) := by decide +kernel
theorem dL_areWaysSo_154 : decode cL_areWaysSo 154 = .ok (.if_icmp .ge 196, 3) := by decide +kernel
theorem dL_areWaysSo_157 : decode cL_areWaysSo 157 = .ok (.aload_n 0, 1) := by decide +kernel
theorem dL_areWaysSo_158 : decode cL_areWaysSo 158 = .ok (.iload 7, 2) := by decide +kernel
theorem dL_areWaysSo_160 : decode cL_areWaysSo 160 = .ok (.iload 6, 2) := by decide +kernel
theorem dL_areWaysSo_162 : decode cL_areWaysSo 162 = .ok (.idiv, 1) := by decide +kernel
theorem dL_areWaysSo_163 : decode cL_areWaysSo 163 = .ok (.iload 7, 2) := by decide +kernel
theorem dL_areWaysSo_165 : decode cL_areWaysSo 165 = .ok (.iload 6, 2) := by decide +kernel
theorem dL_areWaysSo_167 : decode cL_areWaysSo 167 = .ok (.irem, 1) := by decide +kernel
theorem dL_areWaysSo_168 : decode cL_areWaysSo 168 = .ok (.invokevirtual 104, 3) := by decide +kernel
theorem dL_areWaysSo_171 : decode cL_areWaysSo 171 = .ok (.ifCond .eq 173, 3) := by decide +kernel
theorem dL_areWaysSo_174 : decode cL_areWaysSo 174 = .ok (.aload_n 0, 1) := by decide +kernel
theorem dL_areWaysSo_175 : decode cL_areWaysSo 175 = .ok (.iload 7, 2) := by decide +kernel
theorem dL_areWaysSo_177 : decode cL_areWaysSo 177 = .ok (.iload 6, 2) := by decide +kernel
theorem dL_areWaysSo_179 : decode cL_areWaysSo 179 = .ok (.idiv, 1) := by decide +kernel
theorem dL_areWaysSo_180 : decode cL_areWaysSo 180 = .ok (.iload 7, 2) := by decide +kernel
theorem dL_areWaysSo_182 : decode cL_areWaysSo 182 = .ok (.iload 6, 2) := by decide +kernel
theorem dL_areWaysSo_184 : decode cL_areWaysSo 184 = .ok (.irem, 1) := by decide +kernel
theorem dL_areWaysSo_185 : decode cL_areWaysSo 185 = .ok (.invokevirtual 34, 3) := by decide +kernel
theorem dL_areWaysSo_188 : decode cL_areWaysSo 188 = .ok (.istore 8, 2) := by decide +kernel
theorem dL_areWaysSo_190 : decode cL_areWaysSo 190 = .ok (.aload_n 0, 1) := by decide +kernel
theorem dL_areWaysSo_191 : decode cL_areWaysSo 191 = .ok (.invokevirtual 91, 3) := by decide +kernel
theorem dL_areWaysSo_194 : decode cL_areWaysSo 194 = .ok (.istore 9, 2) := by decide +kernel
theorem dL_areWaysSo_196 : decode cL_areWaysSo 196 = .ok (.aload_n 0, 1) := by decide +kernel
theorem dL_areWaysSo_197 : decode cL_areWaysSo 197 = .ok (.invokestatic 111, 3) := by decide +kernel
theorem dL_areWaysSo_200 : decode cL_areWaysSo 200 = .ok (.istore 10, 2) := by decide +kernel
theorem dL_areWaysSo_202 : decode cL_areWaysSo 202 = .ok (.bipush 10, 2) := by decide +kernel
theorem dL_areWaysSo_204 : decode cL_areWaysSo 204 = .ok (.iload 7, 2) := by decide +kernel
theorem dL_areWaysSo_206 : decode cL_areWaysSo 206 = .ok (.iload 6, 2) := by decide +kernel
theorem dL_areWaysSo_208 : decode cL_areWaysSo 208 = .ok (.idiv, 1) := by decide +kernel
theorem dL_areWaysSo_209 : decode cL_areWaysSo 209 = .ok (.imul, 1) := by decide +kernel
theorem dL_areWaysSo_210 : decode cL_areWaysSo 210 = .ok (.iload 7, 2) := by decide +kernel
theorem dL_areWaysSo_212 : decode cL_areWaysSo 212 = .ok (.iload 6, 2) := by decide +kernel
theorem dL_areWaysSo_214 : decode cL_areWaysSo 214 = .ok (.irem, 1) := by decide +kernel
theorem dL_areWaysSo_215 : decode cL_areWaysSo 215 = .ok (.iadd, 1) := by decide +kernel
theorem dL_areWaysSo_216 : decode cL_areWaysSo 216 = .ok (.istore 11, 2) := by decide +kernel
theorem dL_areWaysSo_218 : decode cL_areWaysSo 218 = .ok (.iload 5, 2) := by decide +kernel
theorem dL_areWaysSo_220 : decode cL_areWaysSo 220 = .ok (.ifCond .eq 89, 3) := by decide +kernel
theorem dL_areWaysSo_223 : decode cL_areWaysSo 223 = .ok (.iload_n 1, 1) := by decide +kernel
theorem dL_areWaysSo_224 : decode cL_areWaysSo 224 = .ok (.ifCond .lt 23, 3) := by decide +kernel
theorem dL_areWaysSo_227 : decode cL_areWaysSo 227 = .ok (.aload_n 0, 1) := by decide +kernel
theorem dL_areWaysSo_228 : decode cL_areWaysSo 228 = .ok (.invokevirtual 115, 3) := by decide +kernel
theorem dL_areWaysSo_231 : decode cL_areWaysSo 231 = .ok (.ifCond .eq 16, 3) := by decide +kernel
theorem dL_areWaysSo_234 : decode cL_areWaysSo 234 = .ok (.iload 9, 2) := by decide +kernel
theorem dL_areWaysSo_236 : decode cL_areWaysSo 236 = .ok (.ifCond .lt 11, 3) := by decide +kernel
theorem dL_areWaysSo_239 : decode cL_areWaysSo 239 = .ok (.iload 9, 2) := by decide +kernel
theorem dL_areWaysSo_241 : decode cL_areWaysSo 241 = .ok (.iload_n 1, 1) := by decide +kernel
theorem dL_areWaysSo_242 : decode cL_areWaysSo 242 = .ok (.iconst 1, 1) := by decide +kernel
theorem dL_areWaysSo_243 : decode cL_areWaysSo 243 = .ok (.isub, 1) := by decide +kernel
theorem dL_areWaysSo_244 : decode cL_areWaysSo 244 = .ok (.if_icmp .lt 65, 3) := by decide +kernel
theorem dL_areWaysSo_247 : decode cL_areWaysSo 247 = .ok (.iload 11, 2) := by decide +kernel
theorem dL_areWaysSo_249 : decode cL_areWaysSo 249 = .ok (.iload_n 2, 1) := by decide +kernel
theorem dL_areWaysSo_250 : decode cL_areWaysSo 250 = .ok (.if_icmp .ne 11, 3) := by decide +kernel
theorem dL_areWaysSo_253 : decode cL_areWaysSo 253 = .ok (.iload 9, 2) := by decide +kernel
theorem dL_areWaysSo_255 : decode cL_areWaysSo 255 = .ok (.iload_n 1, 1) := by decide +kernel
theorem dL_areWaysSo_256 : decode cL_areWaysSo 256 = .ok (.iconst 1, 1) := by decide +kernel
theorem dL_areWaysSo_257 : decode cL_areWaysSo 257 = .ok (.isub, 1) := by decide +kernel
theorem dL_areWaysSo_258 : decode cL_areWaysSo 258 = .ok (.if_icmp .ne 51, 3) := by decide +kernel
theorem dL_areWaysSo_261 : decode cL_areWaysSo 261 = .ok (.iload 11, 2) := by decide +kernel
theorem dL_areWaysSo_263 : decode cL_areWaysSo 263 = .ok (.iload_n 2, 1) := by decide +kernel
theorem dL_areWaysSo_264 : decode cL_areWaysSo 264 = .ok (.if_icmp .ge 15, 3) := by decide +kernel
theorem dL_areWaysSo_267 : decode cL_areWaysSo 267 = .ok (.iload_n 2, 1) := by decide +kernel
theorem dL_areWaysSo_268 : decode cL_areWaysSo 268 = .ok (.ifCond .lt 11, 3) := by decide +kernel
theorem dL_areWaysSo_271 : decode cL_areWaysSo 271 = .ok (.iload 9, 2) := by decide +kernel
theorem dL_areWaysSo_273 : decode cL_areWaysSo 273 = .ok (.iload_n 1, 1) := by decide +kernel
theorem dL_areWaysSo_274 : decode cL_areWaysSo 274 = .ok (.iconst 1, 1) := by decide +kernel
theorem dL_areWaysSo_275 : decode cL_areWaysSo 275 = .ok (.isub, 1) := by decide +kernel
theorem dL_areWaysSo_276 : decode cL_areWaysSo 276 = .ok (.if_icmp .eq 33, 3) := by decide +kernel
theorem dL_areWaysSo_279 : decode cL_areWaysSo 279 = .ok (.iload_n 3, 1) := by decide +kernel
theorem dL_areWaysSo_280 : decode cL_areWaysSo 280 = .ok (.ldc 16, 2) := by decide +kernel
theorem dL_areWaysSo_282 : decode cL_areWaysSo 282 = .ok (.if_icmp .eq 23, 3) := by decide +kernel
theorem dL_areWaysSo_285 : decode cL_areWaysSo 285 = .ok (.iload 10, 2) := by decide +kernel
theorem dL_areWaysSo_287 : decode cL_areWaysSo 287 = .ok (.ldc 16, 2) := by decide +kernel
theorem dL_areWaysSo_289 : decode cL_areWaysSo 289 = .ok (.if_icmp .eq 16, 3) := by decide +kernel
theorem dL_areWaysSo_292 : decode cL_areWaysSo 292 = .ok (.iload 10, 2) := by decide +kernel
theorem dL_areWaysSo_294 : decode cL_areWaysSo 294 = .ok (.iload_n 3, 1) := by decide +kernel
theorem dL_areWaysSo_295 : decode cL_areWaysSo 295 = .ok (.iconst 1, 1) := by decide +kernel
theorem dL_areWaysSo_296 : decode cL_areWaysSo 296 = .ok (.iadd, 1) := by decide +kernel
theorem dL_areWaysSo_297 : decode cL_areWaysSo 297 = .ok (.iload 9, 2) := by decide +kernel
theorem dL_areWaysSo_299 : decode cL_areWaysSo 299 = .ok (.iadd, 1) := by decide +kernel
theorem dL_areWaysSo_300 : decode cL_areWaysSo 300 = .ok (.iload_n 1, 1) := by decide +kernel
theorem dL_areWaysSo_301 : decode cL_areWaysSo 301 = .ok (.isub, 1) := by decide +kernel
theorem dL_areWaysSo_302 : decode cL_areWaysSo 302 = .ok (.if_icmp .ne 7, 3) := by decide +kernel
theorem dL_areWaysSo_305 : decode cL_areWaysSo 305 = .ok (.iconst 1, 1) := by decide +kernel
theorem dL_areWaysSo_306 : decode cL_areWaysSo 306 = .ok (.goto 4, 3) := by decide +kernel
theorem dL_areWaysSo_309 : decode cL_areWaysSo 309 = .ok (.iconst 0, 1) := by decide +kernel
theorem dL_areWaysSo_310 : decode cL_areWaysSo 310 = .ok (.istore 5, 2) := by decide +kernel
theorem dL_areWaysSo_312 : decode cL_areWaysSo 312 = .ok (.aload_n 0, 1) := by decide +kernel
theorem dL_areWaysSo_313 : decode cL_areWaysSo 313 = .ok (.invokevirtual 37, 3) := by decide +kernel
theorem dL_areWaysSo_316 : decode cL_areWaysSo 316 = .ok (.istore 12, 2) := by decide +kernel
theorem dL_areWaysSo_318 : decode cL_areWaysSo 318 = .ok (.iload 5, 2) := by decide +kernel
theorem dL_areWaysSo_320 : decode cL_areWaysSo 320 = .ok (.ifCond .eq 21, 3) := by decide +kernel
theorem dL_areWaysSo_323 : decode cL_areWaysSo 323 = .ok (.iload 8, 2) := by decide +kernel
theorem dL_areWaysSo_325 : decode cL_areWaysSo 325 = .ok (.ifCond .lt 16, 3) := by decide +kernel
theorem dL_areWaysSo_328 : decode cL_areWaysSo 328 = .ok (.iload 12, 2) := by decide +kernel
theorem dL_areWaysSo_330 : decode cL_areWaysSo 330 = .ok (.aload_n 0, 1) := by decide +kernel
theorem dL_areWaysSo_331 : decode cL_areWaysSo 331 = .ok (.invokevirtual 82, 3) := by decide +kernel
theorem dL_areWaysSo_334 : decode cL_areWaysSo 334 = .ok (.if_icmp .ne 7, 3) := by decide +kernel
theorem dL_areWaysSo_337 : decode cL_areWaysSo 337 = .ok (.iconst 1, 1) := by decide +kernel
theorem dL_areWaysSo_338 : decode cL_areWaysSo 338 = .ok (.goto 4, 3) := by decide +kernel
theorem dL_areWaysSo_341 : decode cL_areWaysSo 341 = .ok (.iconst 0, 1) := by decide +kernel
theorem dL_areWaysSo_342 : decode cL_areWaysSo 342 = .ok (.istore 5, 2) := by decide +kernel
theorem dL_areWaysSo_344 : decode cL_areWaysSo 344 = .ok (.iinc 7 1, 3) := by decide +kernel
theorem dL_areWaysSo_347 : decode cL_areWaysSo 347 = .ok (.goto (-200), 3) := by decide +kernel
theorem dL_areWaysSo_350 : decode cL_areWaysSo 350 = .ok (.iload 5, 2) := by decide +kernel
theorem dL_areWaysSo_352 : decode cL_areWaysSo 352 = .ok (.ifCond .eq 15, 3) := by decide +kernel
theorem dL_areWaysSo_355 : decode cL_areWaysSo 355 = .ok (.aload_n 0, 1) := by decide +kernel
theorem dL_areWaysSo_356 : decode cL_areWaysSo 356 = .ok (.invokevirtual 91, 3) := by decide +kernel
theorem dL_areWaysSo_359 : decode cL_areWaysSo 359 = .ok (.iload_n 1, 1) := by decide +kernel
theorem dL_areWaysSo_360 : decode cL_areWaysSo 360 = .ok (.if_icmp .ne 7, 3) := by decide +kernel
theorem dL_areWaysSo_363 : decode cL_areWaysSo 363 = .ok (.iconst 1, 1) := by decide +kernel
theorem dL_areWaysSo_364 : decode cL_areWaysSo 364 = .ok (.goto 4, 3) := by decide +kernel
theorem dL_areWaysSo_367 : decode cL_areWaysSo 367 = .ok (.iconst 0, 1) := by decide +kernel
theorem dL_areWaysSo_368 : decode cL_areWaysSo 368 = .ok (.ireturn, 1) := by decide +kernel
theorem dL_law_0 : decode cL_law 0 = .ok (.new 9, 3) := by decide +kernel
theorem dL_law_3 : decode cL_law 3 = .ok (.dup, 1) := by decide +kernel
theorem dL_law_4 : decode cL_law 4 = .ok (.invokespecial 119, 3) := by decide +kernel
theorem dL_law_7 : decode cL_law 7 = .ok (.astore_n 1, 1) := by decide +kernel
theorem dL_law_8 : decode cL_law 8 = .ok (.new 9, 3) := by decide +kernel
theorem dL_law_11 : decode cL_law 11 = .ok (.dup, 1) := by decide +kernel
theorem dL_law_12 : decode cL_law 12 = .ok (.invokespecial 119, 3) := by decide +kernel
theorem dL_law_15 : decode cL_law 15 = .ok (.astore_n 2, 1) := by decide +kernel
theorem dL_law_16 : decode cL_law 16 = .ok (.iconst 0, 1) := by decide +kernel
theorem dL_law_17 : decode cL_law 17 = .ok (.istore_n 3, 1) := by decide +kernel
theorem dL_law_18 : decode cL_law 18 = .ok (.iload_n 3, 1) := by decide +kernel
theorem dL_law_19 : decode cL_law 19 = .ok (.bipush 50, 2) := by decide +kernel
theorem dL_law_21 : decode cL_law 21 = .ok (.if_icmp .ge 73, 3) := by decide +kernel
theorem dL_law_24 : decode cL_law 24 = .ok (.aload_n 0, 1) := by decide +kernel
theorem dL_law_25 : decode cL_law 25 = .ok (.iload_n 3, 1) := by decide +kernel
theorem dL_law_26 : decode cL_law 26 = .ok (.invokestatic 120, 3) := by decide +kernel
theorem dL_law_29 : decode cL_law 29 = .ok (.istore 4, 2) := by decide +kernel
theorem dL_law_31 : decode cL_law 31 = .ok (.aload_n 1, 1) := by decide +kernel
theorem dL_law_32 : decode cL_law 32 = .ok (.iload 4, 2) := by decide +kernel
theorem dL_law_34 : decode cL_law 34 = .ok (.invokestatic 124, 3) := by decide +kernel
theorem dL_law_37 : decode cL_law 37 = .ok (.istore 5, 2) := by decide +kernel
theorem dL_law_39 : decode cL_law 39 = .ok (.iload 5, 2) := by decide +kernel
theorem dL_law_41 : decode cL_law 41 = .ok (.ldc 16, 2) := by decide +kernel
theorem dL_law_43 : decode cL_law 43 = .ok (.if_icmp .eq 14, 3) := by decide +kernel
theorem dL_law_46 : decode cL_law 46 = .ok (.aload_n 2, 1) := by decide +kernel
theorem dL_law_47 : decode cL_law 47 = .ok (.iload 4, 2) := by decide +kernel
theorem dL_law_49 : decode cL_law 49 = .ok (.invokestatic 124, 3) := by decide +kernel
theorem dL_law_52 : decode cL_law 52 = .ok (.iload 5, 2) := by decide +kernel
theorem dL_law_54 : decode cL_law 54 = .ok (.if_icmp .ne 32, 3) := by decide +kernel
theorem dL_law_57 : decode cL_law 57 = .ok (.aload_n 1, 1) := by decide +kernel
theorem dL_law_58 : decode cL_law 58 = .ok (.aload_n 2, 1) := by decide +kernel
theorem dL_law_59 : decode cL_law 59 = .ok (.invokestatic 128, 3) := by decide +kernel
theorem dL_law_62 : decode cL_law 62 = .ok (.ifCond .eq 24, 3) := by decide +kernel
theorem dL_law_65 : decode cL_law 65 = .ok (.aload_n 1, 1) := by decide +kernel
theorem dL_law_66 : decode cL_law 66 = .ok (.invokestatic 132, 3) := by decide +kernel
theorem dL_law_69 : decode cL_law 69 = .ok (.ifCond .eq 17, 3) := by decide +kernel
theorem dL_law_72 : decode cL_law 72 = .ok (.iload_n 3, 1) := by decide +kernel
theorem dL_law_73 : decode cL_law 73 = .ok (.iconst 5, 1) := by decide +kernel
theorem dL_law_74 : decode cL_law 74 = .ok (.irem, 1) := by decide +kernel
theorem dL_law_75 : decode cL_law 75 = .ok (.iconst 4, 1) := by decide +kernel
theorem dL_law_76 : decode cL_law 76 = .ok (.if_icmp .ne 12, 3) := by decide +kernel
theorem dL_law_79 : decode cL_law 79 = .ok (.aload_n 1, 1) := by decide +kernel
theorem dL_law_80 : decode cL_law 80 = .ok (.invokestatic 136, 3) := by decide +kernel
theorem dL_law_83 : decode cL_law 83 = .ok (.ifCond .ne 5, 3) := by decide +kernel
theorem dL_law_86 : decode cL_law 86 = .ok (.iconst 0, 1) := by decide +kernel
theorem dL_law_87 : decode cL_law 87 = .ok (.ireturn, 1) := by decide +kernel
theorem dL_law_88 : decode cL_law 88 = .ok (.iinc 3 1, 3) := by decide +kernel
theorem dL_law_91 : decode cL_law 91 = .ok (.goto (-73), 3) := by decide +kernel
theorem dL_law_94 : decode cL_law 94 = .ok (.iconst 1, 1) := by decide +kernel
theorem dL_law_95 : decode cL_law 95 = .ok (.ireturn, 1) := by decide +kernel
