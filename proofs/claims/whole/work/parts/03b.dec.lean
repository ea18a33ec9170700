theorem dX5_init_0 : decode cX5_init 0 = .ok (.aload_n 0, 1) := by decide +kernel
theorem dX5_init_1 : decode cX5_init 1 = .ok (.invokespecial 3, 3) := by decide +kernel
theorem dX5_init_4 : decode cX5_init 4 = .ok (.aload_n 0, 1) := by decide +kernel
theorem dX5_init_5 : decode cX5_init 5 = .ok (.new 9, 3) := by decide +kernel
theorem dX5_init_8 : decode cX5_init 8 = .ok (.dup, 1) := by decide +kernel
theorem dX5_init_9 : decode cX5_init 9 = .ok (.invokespecial 11, 3) := by decide +kernel
theorem dX5_init_12 : decode cX5_init 12 = .ok (.putfield 12, 3) := by decide +kernel
theorem dX5_init_15 : decode cX5_init 15 = .ok (.aload_n 0, 1) := by decide +kernel
theorem dX5_init_16 : decode cX5_init 16 = .ok (.bipush 8, 2) := by decide +kernel
theorem dX5_init_18 : decode cX5_init 18 = .ok (.newarray .int, 2) := by decide +kernel
theorem dX5_init_20 : decode cX5_init 20 = .ok (.putfield 16, 3) := by decide +kernel
theorem dX5_init_23 : decode cX5_init 23 = .ok (.aload_n 0, 1) := by decide +kernel
theorem dX5_init_24 : decode cX5_init 24 = .ok (.iconst 3, 1) := by decide +kernel
theorem dX5_init_25 : decode cX5_init 25 = .ok (.anewarray 20, 3) := by decide +kernel
theorem dX5_init_28 : decode cX5_init 28 = .ok (.dup, 1) := by decide +kernel
theorem dX5_init_29 : decode cX5_init 29 = .ok (.iconst 0, 1) := by decide +kernel
theorem dX5_init_30 : decode cX5_init 30 = .ok (.new 20, 3) := by decide +kernel
theorem dX5_init_33 : decode cX5_init 33 = .ok (.dup, 1) := by decide +kernel
theorem dX5_init_34 : decode cX5_init 34 = .ok (.bipush 40, 2) := by decide +kernel
theorem dX5_init_36 : decode cX5_init 36 = .ok (.invokespecial 22, 3) := by decide +kernel
theorem dX5_init_39 : decode cX5_init 39 = .ok (.aastore, 1) := by decide +kernel
theorem dX5_init_40 : decode cX5_init 40 = .ok (.dup, 1) := by decide +kernel
theorem dX5_init_41 : decode cX5_init 41 = .ok (.iconst 1, 1) := by decide +kernel
theorem dX5_init_42 : decode cX5_init 42 = .ok (.new 20, 3) := by decide +kernel
theorem dX5_init_45 : decode cX5_init 45 = .ok (.dup, 1) := by decide +kernel
theorem dX5_init_46 : decode cX5_init 46 = .ok (.sipush 1051, 3) := by decide +kernel
theorem dX5_init_49 : decode cX5_init 49 = .ok (.invokespecial 22, 3) := by decide +kernel
theorem dX5_init_52 : decode cX5_init 52 = .ok (.aastore, 1) := by decide +kernel
theorem dX5_init_53 : decode cX5_init 53 = .ok (.dup, 1) := by decide +kernel
theorem dX5_init_54 : decode cX5_init 54 = .ok (.iconst 2, 1) := by decide +kernel
theorem dX5_init_55 : decode cX5_init 55 = .ok (.new 20, 3) := by decide +kernel
theorem dX5_init_58 : decode cX5_init 58 = .ok (.dup, 1) := by decide +kernel
theorem dX5_init_59 : decode cX5_init 59 = .ok (.bipush 40, 2) := by decide +kernel
theorem dX5_init_61 : decode cX5_init 61 = .ok (.invokespecial 22, 3) := by decide +kernel
theorem dX5_init_64 : decode cX5_init 64 = .ok (.aastore, 1) := by decide +kernel
theorem dX5_init_65 : decode cX5_init 65 = .ok (.putfield 25, 3) := by decide +kernel
theorem dX5_init_68 : decode cX5_init 68 = .ok (.aload_n 0, 1) := by decide +kernel
theorem dX5_init_69 : decode cX5_init 69 = .ok (.new 20, 3) := by decide +kernel
theorem dX5_init_72 : decode cX5_init 72 = .ok (.dup, 1) := by decide +kernel
theorem dX5_init_73 : decode cX5_init 73 = .ok (.sipush 180, 3) := by decide +kernel
theorem dX5_init_76 : decode cX5_init 76 = .ok (.invokespecial 22, 3) := by decide +kernel
theorem dX5_init_79 : decode cX5_init 79 = .ok (.putfield 29, 3) := by decide +kernel
theorem dX5_init_82 : decode cX5_init 82 = .ok (.aload_n 0, 1) := by decide +kernel
theorem dX5_init_83 : decode cX5_init 83 = .ok (.new 20, 3) := by decide +kernel
theorem dX5_init_86 : decode cX5_init 86 = .ok (.dup, 1) := by decide +kernel
theorem dX5_init_87 : decode cX5_init 87 = .ok (.bipush 8, 2) := by decide +kernel
theorem dX5_init_89 : decode cX5_init 89 = .ok (.invokespecial 22, 3) := by decide +kernel
theorem dX5_init_92 : decode cX5_init 92 = .ok (.putfield 33, 3) := by decide +kernel
theorem dX5_init_95 : decode cX5_init 95 = .ok (.aload_n 0, 1) := by decide +kernel
theorem dX5_init_96 : decode cX5_init 96 = .ok (.new 36, 3) := by decide +kernel
theorem dX5_init_99 : decode cX5_init 99 = .ok (.dup, 1) := by decide +kernel
theorem dX5_init_100 : decode cX5_init 100 = .ok (.invokespecial 38, 3) := by decide +kernel
theorem dX5_init_103 : decode cX5_init 103 = .ok (.putfield 39, 3) := by decide +kernel
theorem dX5_init_106 : decode cX5_init 106 = .ok (.aload_n 0, 1) := by decide +kernel
theorem dX5_init_107 : decode cX5_init 107 = .ok (.new 36, 3) := by decide +kernel
theorem dX5_init_110 : decode cX5_init 110 = .ok (.dup, 1) := by decide +kernel
theorem dX5_init_111 : decode cX5_init 111 = .ok (.invokespecial 38, 3) := by decide +kernel
theorem dX5_init_114 : decode cX5_init 114 = .ok (.putfield 43, 3) := by decide +kernel
theorem dX5_init_117 : decode cX5_init 117 = .ok (.aload_n 0, 1) := by decide +kernel
theorem dX5_init_118 : decode cX5_init 118 = .ok (.new 46, 3) := by decide +kernel
theorem dX5_init_121 : decode cX5_init 121 = .ok (.dup, 1) := by decide +kernel
theorem dX5_init_122 : decode cX5_init 122 = .ok (.aload_n 0, 1) := by decide +kernel
theorem dX5_init_123 : decode cX5_init 123 = .ok (.getfield 29, 3) := by decide +kernel
theorem dX5_init_126 : decode cX5_init 126 = .ok (.aload_n 0, 1) := by decide +kernel
theorem dX5_init_127 : decode cX5_init 127 = .ok (.getfield 43, 3) := by decide +kernel
theorem dX5_init_130 : decode cX5_init 130 = .ok (.invokespecial 48, 3) := by decide +kernel
theorem dX5_init_133 : decode cX5_init 133 = .ok (.putfield 51, 3) := by decide +kernel
theorem dX5_init_136 : decode cX5_init 136 = .ok (.aload_n 0, 1) := by decide +kernel
theorem dX5_init_137 : decode cX5_init 137 = .ok (.new 55, 3) := by decide +kernel
theorem dX5_init_140 : decode cX5_init 140 = .ok (.dup, 1) := by decide +kernel
theorem dX5_init_141 : decode cX5_init 141 = .ok (.invokespecial 57, 3) := by decide +kernel
theorem dX5_init_144 : decode cX5_init 144 = .ok (.putfield 58, 3) := by decide +kernel
theorem dX5_init_147 : decode cX5_init 147 = .ok (.aload_n 0, 1) := by decide +kernel
theorem dX5_init_148 : decode cX5_init 148 = .ok (.iconst 0, 1) := by decide +kernel
theorem dX5_init_149 : decode cX5_init 149 = .ok (.putfield 62, 3) := by decide +kernel
theorem dX5_init_152 : decode cX5_init 152 = .ok (.aload_n 0, 1) := by decide +kernel
theorem dX5_init_153 : decode cX5_init 153 = .ok (.iconst 0, 1) := by decide +kernel
theorem dX5_init_154 : decode cX5_init 154 = .ok (.putfield 66, 3) := by decide +kernel
theorem dX5_init_157 : decode cX5_init 157 = .ok (.aload_n 0, 1) := by decide +kernel
theorem dX5_init_158 : decode cX5_init 158 = .ok (.iconst 0, 1) := by decide +kernel
theorem dX5_init_159 : decode cX5_init 159 = .ok (.putfield 69, 3) := by decide +kernel
theorem dX5_init_162 : decode cX5_init 162 = .ok (.aload_n 0, 1) := by decide +kernel
theorem dX5_init_163 : decode cX5_init 163 = .ok (.iconst 0, 1) := by decide +kernel
theorem dX5_init_164 : decode cX5_init 164 = .ok (.putfield 73, 3) := by decide +kernel
theorem dX5_init_167 : decode cX5_init 167 = .ok (.aload_n 0, 1) := by decide +kernel
theorem dX5_init_168 : decode cX5_init 168 = .ok (.iconst 0, 1) := by decide +kernel
theorem dX5_init_169 : decode cX5_init 169 = .ok (.putfield 76, 3) := by decide +kernel
theorem dX5_init_172 : decode cX5_init 172 = .ok (.aload_n 0, 1) := by decide +kernel
theorem dX5_init_173 : decode cX5_init 173 = .ok (.iconst 0, 1) := by decide +kernel
theorem dX5_init_174 : decode cX5_init 174 = .ok (.putfield 79, 3) := by decide +kernel
theorem dX5_init_177 : decode cX5_init 177 = .ok (.aload_n 0, 1) := by decide +kernel
theorem dX5_init_178 : decode cX5_init 178 = .ok (.iconst 0, 1) := by decide +kernel
theorem dX5_init_179 : decode cX5_init 179 = .ok (.putfield 82, 3) := by decide +kernel
theorem dX5_init_182 : decode cX5_init 182 = .ok (.aload_n 0, 1) := by decide +kernel
theorem dX5_init_183 : decode cX5_init 183 = .ok (.iconst 0, 1) := by decide +kernel
theorem dX5_init_184 : decode cX5_init 184 = .ok (.putfield 85, 3) := by decide +kernel
theorem dX5_init_187 : decode cX5_init 187 = .ok (.aload_n 0, 1) := by decide +kernel
theorem dX5_init_188 : decode cX5_init 188 = .ok (.iconst 0, 1) := by decide +kernel
theorem dX5_init_189 : decode cX5_init 189 = .ok (.putfield 88, 3) := by decide +kernel
theorem dX5_init_192 : decode cX5_init 192 = .ok (.iconst 0, 1) := by decide +kernel
theorem dX5_init_193 : decode cX5_init 193 = .ok (.istore_n 1, 1) := by decide +kernel
theorem dX5_init_194 : decode cX5_init 194 = .ok (.iload_n 1, 1) := by decide +kernel
theorem dX5_init_195 : decode cX5_init 195 = .ok (.bipush 8, 2) := by decide +kernel
theorem dX5_init_197 : decode cX5_init 197 = .ok (.if_icmp .ge 16, 3) := by decide +kernel
theorem dX5_init_200 : decode cX5_init 200 = .ok (.aload_n 0, 1) := by decide +kernel
theorem dX5_init_201 : decode cX5_init 201 = .ok (.getfield 16, 3) := by decide +kernel
theorem dX5_init_204 : decode cX5_init 204 = .ok (.iload_n 1, 1) := by decide +kernel
theorem dX5_init_205 : decode cX5_init 205 = .ok (.iconst (-1), 1) := by decide +kernel
theorem dX5_init_206 : decode cX5_init 206 = .ok (.iastore, 1) := by decide +kernel
theorem dX5_init_207 : decode cX5_init 207 = .ok (.iinc 1 1, 3) := by decide +kernel
theorem dX5_init_210 : decode cX5_init 210 = .ok (.goto (-16), 3) := by decide +kernel
theorem dX5_init_213 : decode cX5_init 213 = .ok (.return_, 1) := by decide +kernel
theorem dX5_step_0 : decode cX5_step 0 = .ok (.iload_n 1, 1) := by decide +kernel
theorem dX5_step_1 : decode cX5_step 1 = .ok (.invokestatic 91, 3) := by decide +kernel
theorem dX5_step_4 : decode cX5_step 4 = .ok (.ifCond .eq 13, 3) := by decide +kernel
theorem dX5_step_7 : decode cX5_step 7 = .ok (.iload_n 2, 1) := by decide +kernel
theorem dX5_step_8 : decode cX5_step 8 = .ok (.iload_n 3, 1) := by decide +kernel
theorem dX5_step_9 : decode cX5_step 9 = .ok (.iload 4, 2) := by decide +kernel
theorem dX5_step_11 : decode cX5_step 11 = .ok (.invokestatic 95, 3) := by decide +kernel
theorem dX5_step_14 : decode cX5_step 14 = .ok (.ifCond .ne 13, 3) := by decide +kernel
theorem dX5_step_17 : decode cX5_step 17 = .ok (.new 99, 3) := by decide +kernel
theorem dX5_step_20 : decode cX5_step 20 = .ok (.dup, 1) := by decide +kernel
theorem dX5_step_21 : decode cX5_step 21 = .ok (.ldc 101, 2) := by decide +kernel
theorem dX5_step_23 : decode cX5_step 23 = .ok (.invokespecial 103, 3) := by decide +kernel
theorem dX5_step_26 : decode cX5_step 26 = .ok (.athrow, 1) := by decide +kernel
theorem dX5_step_27 : decode cX5_step 27 = .ok (.aload_n 0, 1) := by decide +kernel
theorem dX5_step_28 : decode cX5_step 28 = .ok (.getfield 12, 3) := by decide +kernel
theorem dX5_step_31 : decode cX5_step 31 = .ok (.iload_n 1, 1) := by decide +kernel
theorem dX5_step_32 : decode cX5_step 32 = .ok (.invokevirtual 106, 3) := by decide +kernel
theorem dX5_step_35 : decode cX5_step 35 = .ok (.bipush 6, 2) := by decide +kernel
theorem dX5_step_37 : decode cX5_step 37 = .ok (.if_icmp .lt 13, 3) := by decide +kernel
theorem dX5_step_40 : decode cX5_step 40 = .ok (.new 110, 3) := by decide +kernel
theorem dX5_step_43 : decode cX5_step 43 = .ok (.dup, 1) := by decide +kernel
theorem dX5_step_44 : decode cX5_step 44 = .ok (.ldc 112, 2) := by decide +kernel
theorem dX5_step_46 : decode cX5_step 46 = .ok (.invokespecial 114, 3) := by decide +kernel
theorem dX5_step_49 : decode cX5_step 49 = .ok (.athrow, 1) := by decide +kernel
theorem dX5_step_50 : decode cX5_step 50 = .ok (.aload_n 0, 1) := by decide +kernel
theorem dX5_step_51 : decode cX5_step 51 = .ok (.getfield 12, 3) := by decide +kernel
theorem dX5_step_54 : decode cX5_step 54 = .ok (.iload_n 1, 1) := by decide +kernel
theorem dX5_step_55 : decode cX5_step 55 = .ok (.iload_n 2, 1) := by decide +kernel
theorem dX5_step_56 : decode cX5_step 56 = .ok (.iload_n 3, 1) := by decide +kernel
theorem dX5_step_57 : decode cX5_step 57 = .ok (.iload 4, 2) := by decide +kernel
theorem dX5_step_59 : decode cX5_step 59 = .ok (.invokevirtual 115, 3) := by decide +kernel
theorem dX5_step_62 : decode cX5_step 62 = .ok (.aload_n 0, 1) := by decide +kernel
theorem dX5_step_63 : decode cX5_step 63 = .ok (.getfield 12, 3) := by decide +kernel
theorem dX5_step_66 : decode cX5_step 66 = .ok (.iload_n 1, 1) := by decide +kernel
theorem dX5_step_67 : decode cX5_step 67 = .ok (.invokevirtual 106, 3) := by decide +kernel
theorem dX5_step_70 : decode cX5_step 70 = .ok (.ireturn, 1) := by decide +kernel
theorem dX5_clear_0 : decode cX5_clear 0 = .ok (.iload_n 1, 1) := by decide +kernel
theorem dX5_clear_1 : decode cX5_clear 1 = .ok (.invokestatic 91, 3) := by decide +kernel
theorem dX5_clear_4 : decode cX5_clear 4 = .ok (.ifCond .ne 13, 3) := by decide +kernel
theorem dX5_clear_7 : decode cX5_clear 7 = .ok (.new 99, 3) := by decide +kernel
theorem dX5_clear_10 : decode cX5_clear 10 = .ok (.dup, 1) := by decide +kernel
theorem dX5_clear_11 : decode cX5_clear 11 = .ok (.ldc 119, 2) := by decide +kernel
theorem dX5_clear_13 : decode cX5_clear 13 = .ok (.invokespecial 103, 3) := by decide +kernel
theorem dX5_clear_16 : decode cX5_clear 16 = .ok (.athrow, 1) := by decide +kernel
theorem dX5_clear_17 : decode cX5_clear 17 = .ok (.aload_n 0, 1) := by decide +kernel
theorem dX5_clear_18 : decode cX5_clear 18 = .ok (.getfield 12, 3) := by decide +kernel
theorem dX5_clear_21 : decode cX5_clear 21 = .ok (.iload_n 1, 1) := by decide +kernel
theorem dX5_clear_22 : decode cX5_clear 22 = .ok (.invokevirtual 121, 3) := by decide +kernel
theorem dX5_clear_25 : decode cX5_clear 25 = .ok (.return_, 1) := by decide +kernel
theorem dX5_post_0 : decode cX5_post 0 = .ok (.iload_n 1, 1) := by decide +kernel
theorem dX5_post_1 : decode cX5_post 1 = .ok (.invokestatic 124, 3) := by decide +kernel
theorem dX5_post_4 : decode cX5_post 4 = .ok (.ifCond .eq 10, 3) := by decide +kernel
theorem dX5_post_7 : decode cX5_post 7 = .ok (.iload_n 2, 1) := by decide +kernel
theorem dX5_post_8 : decode cX5_post 8 = .ok (.invokestatic 91, 3) := by decide +kernel
theorem dX5_post_11 : decode cX5_post 11 = .ok (.ifCond .ne 13, 3) := by decide +kernel
theorem dX5_post_14 : decode cX5_post 14 = .ok (.new 99, 3) := by decide +kernel
theorem dX5_post_17 : decode cX5_post 17 = .ok (.dup, 1) := by decide +kernel
theorem dX5_post_18 : decode cX5_post 18 = .ok (.ldc 127, 2) := by decide +kernel
theorem dX5_post_20 : decode cX5_post 20 = .ok (.invokespecial 103, 3) := by decide +kernel
theorem dX5_post_23 : decode cX5_post 23 = .ok (.athrow, 1) := by decide +kernel
theorem dX5_post_24 : decode cX5_post 24 = .ok (.aload_n 0, 1) := by decide +kernel
theorem dX5_post_25 : decode cX5_post 25 = .ok (.invokevirtual 129, 3) := by decide +kernel
theorem dX5_post_28 : decode cX5_post 28 = .ok (.bipush 40, 2) := by decide +kernel
theorem dX5_post_30 : decode cX5_post 30 = .ok (.if_icmp .lt 13, 3) := by decide +kernel
theorem dX5_post_33 : decode cX5_post 33 = .ok (.new 110, 3) := by decide +kernel
theorem dX5_post_36 : decode cX5_post 36 = .ok (.dup, 1) := by decide +kernel
theorem dX5_post_37 : decode cX5_post 37 = .ok (.ldc 133, 2) := by decide +kernel
theorem dX5_post_39 : decode cX5_post 39 = .ok (.invokespecial 114, 3) := by decide +kernel
theorem dX5_post_42 : decode cX5_post 42 = .ok (.athrow, 1) := by decide +kernel
theorem dX5_post_43 : decode cX5_post 43 = .ok (.aload_n 0, 1) := by decide +kernel
theorem dX5_post_44 : decode cX5_post 44 = .ok (.getfield 25, 3) := by decide +kernel
theorem dX5_post_47 : decode cX5_post 47 = .ok (.iload_n 1, 1) := by decide +kernel
theorem dX5_post_48 : decode cX5_post 48 = .ok (.aaload, 1) := by decide +kernel
theorem dX5_post_49 : decode cX5_post 49 = .ok (.iconst 0, 1) := by decide +kernel
theorem dX5_post_50 : decode cX5_post 50 = .ok (.iload_n 2, 1) := by decide +kernel
theorem dX5_post_51 : decode cX5_post 51 = .ok (.iload_n 3, 1) := by decide +kernel
theorem dX5_post_52 : decode cX5_post 52 = .ok (.invokevirtual 135, 3) := by decide +kernel
theorem dX5_post_55 : decode cX5_post 55 = .ok (.aload_n 0, 1) := by decide +kernel
theorem dX5_post_56 : decode cX5_post 56 = .ok (.invokevirtual 129, 3) := by decide +kernel
theorem dX5_post_59 : decode cX5_post 59 = .ok (.ireturn, 1) := by decide +kernel
theorem dX5_prefer_0 : decode cX5_prefer 0 = .ok (.iload_n 1, 1) := by decide +kernel
theorem dX5_prefer_1 : decode cX5_prefer 1 = .ok (.invokestatic 124, 3) := by decide +kernel
theorem dX5_prefer_4 : decode cX5_prefer 4 = .ok (.ifCond .ne 13, 3) := by decide +kernel
theorem dX5_prefer_7 : decode cX5_prefer 7 = .ok (.new 99, 3) := by decide +kernel
theorem dX5_prefer_10 : decode cX5_prefer 10 = .ok (.dup, 1) := by decide +kernel
theorem dX5_prefer_11 : decode cX5_prefer 11 = .ok (.ldc 139, 2) := by decide +kernel
theorem dX5_prefer_13 : decode cX5_prefer 13 = .ok (.invokespecial 103, 3) := by decide +kernel
theorem dX5_prefer_16 : decode cX5_prefer 16 = .ok (.athrow, 1) := by decide +kernel
theorem dX5_prefer_17 : decode cX5_prefer 17 = .ok (.aload_n 0, 1) := by decide +kernel
theorem dX5_prefer_18 : decode cX5_prefer 18 = .ok (.iload_n 1, 1) := by decide +kernel
theorem dX5_prefer_19 : decode cX5_prefer 19 = .ok (.putfield 62, 3) := by decide +kernel
theorem dX5_prefer_22 : decode cX5_prefer 22 = .ok (.return_, 1) := by decide +kernel
theorem dX5_turn_0 : decode cX5_turn 0 = .ok (.aload_n 0, 1) := by decide +kernel
theorem dX5_turn_1 : decode cX5_turn 1 = .ok (.iconst 0, 1) := by decide +kernel
theorem dX5_turn_2 : decode cX5_turn 2 = .ok (.putfield 73, 3) := by decide +kernel
theorem dX5_turn_5 : decode cX5_turn 5 = .ok (.aload_n 0, 1) := by decide +kernel
theorem dX5_turn_6 : decode cX5_turn 6 = .ok (.invokevirtual 141, 3) := by decide +kernel
theorem dX5_turn_9 : decode cX5_turn 9 = .ok (.ifCond .eq 21, 3) := by decide +kernel
theorem dX5_turn_12 : decode cX5_turn 12 = .ok (.aload_n 0, 1) := by decide +kernel
theorem dX5_turn_13 : decode cX5_turn 13 = .ok (.invokevirtual 145, 3) := by decide +kernel
theorem dX5_turn_16 : decode cX5_turn 16 = .ok (.ifCond .eq 14, 3) := by decide +kernel
theorem dX5_turn_19 : decode cX5_turn 19 = .ok (.aload_n 0, 1) := by decide +kernel
theorem dX5_turn_20 : decode cX5_turn 20 = .ok (.invokevirtual 141, 3) := by decide +kernel
theorem dX5_turn_23 : decode cX5_turn 23 = .ok (.ifCond .eq 7, 3) := by decide +kernel
theorem dX5_turn_26 : decode cX5_turn 26 = .ok (.iconst 1, 1) := by decide +kernel
theorem dX5_turn_27 : decode cX5_turn 27 = .ok (.goto 4, 3) := by decide +kernel
theorem dX5_turn_30 : decode cX5_turn 30 = .ok (.iconst 0, 1) := by decide +kernel
theorem dX5_turn_31 : decode cX5_turn 31 = .ok (.istore_n 1, 1) := by decide +kernel
theorem dX5_turn_32 : decode cX5_turn 32 = .ok (.iload_n 1, 1) := by decide +kernel
theorem dX5_turn_33 : decode cX5_turn 33 = .ok (.ifCond .eq 20, 3) := by decide +kernel
theorem dX5_turn_36 : decode cX5_turn 36 = .ok (.aload_n 0, 1) := by decide +kernel
theorem dX5_turn_37 : decode cX5_turn 37 = .ok (.getfield 69, 3) := by decide +kernel
theorem dX5_turn_40 : decode cX5_turn 40 = .ok (.ifCond .eq 13, 3) := by decide +kernel
theorem dX5_turn_43 : decode cX5_turn 43 = .ok (.aload_n 0, 1) := by decide +kernel
theorem dX5_turn_44 : decode cX5_turn 44 = .ok (.getfield 33, 3) := by decide +kernel
theorem dX5_turn_47 : decode cX5_turn 47 = .ok (.invokevirtual 148, 3) := by decide +kernel
theorem dX5_turn_50 : decode cX5_turn 50 = .ok (.goto 4, 3) := by decide +kernel
theorem dX5_turn_53 : decode cX5_turn 53 = .ok (.iconst 0, 1) := by decide +kernel
theorem dX5_turn_54 : decode cX5_turn 54 = .ok (.istore_n 2, 1) := by decide +kernel
theorem dX5_turn_55 : decode cX5_turn 55 = .ok (.iload_n 1, 1) := by decide +kernel
theorem dX5_turn_56 : decode cX5_turn 56 = .ok (.ifCond .eq 12, 3) := by decide +kernel
theorem dX5_turn_59 : decode cX5_turn 59 = .ok (.iload_n 2, 1) := by decide +kernel
theorem dX5_turn_60 : decode cX5_turn 60 = .ok (.ifCond .ne 8, 3) := by decide +kernel
theorem dX5_turn_63 : decode cX5_turn 63 = .ok (.aload_n 0, 1) := by decide +kernel
theorem dX5_turn_64 : decode cX5_turn 64 = .ok (.iconst 0, 1) := by decide +kernel
theorem dX5_turn_65 : decode cX5_turn 65 = .ok (.putfield 69, 3) := by decide +kernel
theorem dX5_turn_68 : decode cX5_turn 68 = .ok (.iload_n 2, 1) := by decide +kernel
theorem dX5_turn_69 : decode cX5_turn 69 = .ok (.istore_n 3, 1) := by decide +kernel
theorem dX5_turn_70 : decode cX5_turn 70 = .ok (.iload_n 1, 1) := by decide +kernel
theorem dX5_turn_71 : decode cX5_turn 71 = .ok (.ifCond .eq 43, 3) := by decide +kernel
theorem dX5_turn_74 : decode cX5_turn 74 = .ok (.iload_n 3, 1) := by decide +kernel
theorem dX5_turn_75 : decode cX5_turn 75 = .ok (.ifCond .le 39, 3) := by decide +kernel
theorem dX5_turn_78 : decode cX5_turn 78 = .ok (.aload_n 0, 1) := by decide +kernel
theorem dX5_turn_79 : decode cX5_turn 79 = .ok (.iload_n 3, 1) := by decide +kernel
theorem dX5_turn_80 : decode cX5_turn 80 = .ok (.iconst 1, 1) := by decide +kernel
theorem dX5_turn_81 : decode cX5_turn 81 = .ok (.if_icmp .ne 7, 3) := by decide +kernel
theorem dX5_turn_84 : decode cX5_turn 84 = .ok (.iconst 1, 1) := by decide +kernel
theorem dX5_turn_85 : decode cX5_turn 85 = .ok (.goto 4, 3) := by decide +kernel
theorem dX5_turn_88 : decode cX5_turn 88 = .ok (.iconst 0, 1) := by decide +kernel
theorem dX5_turn_89 : decode cX5_turn 89 = .ok (.invokevirtual 151, 3) := by decide +kernel
theorem dX5_turn_92 : decode cX5_turn 92 = .ok (.ifCond .eq 14, 3) := by decide +kernel
theorem dX5_turn_95 : decode cX5_turn 95 = .ok (.aload_n 0, 1) := by decide +kernel
theorem dX5_turn_96 : decode cX5_turn 96 = .ok (.invokevirtual 141, 3) := by decide +kernel
theorem dX5_turn_99 : decode cX5_turn 99 = .ok (.ifCond .eq 7, 3) := by decide +kernel
theorem dX5_turn_102 : decode cX5_turn 102 = .ok (.iconst 1, 1) := by decide +kernel
theorem dX5_turn_103 : decode cX5_turn 103 = .ok (.goto 4, 3) := by decide +kernel
theorem dX5_turn_106 : decode cX5_turn 106 = .ok (.iconst 0, 1) := by decide +kernel
theorem dX5_turn_107 : decode cX5_turn 107 = .ok (.istore_n 1, 1) := by decide +kernel
theorem dX5_turn_108 : decode cX5_turn 108 = .ok (.iinc 3 (-1), 3) := by decide +kernel
theorem dX5_turn_111 : decode cX5_turn 111 = .ok (.goto (-41), 3) := by decide +kernel
theorem dX5_turn_114 : decode cX5_turn 114 = .ok (.aload_n 0, 1) := by decide +kernel
theorem dX5_turn_115 : decode cX5_turn 115 = .ok (.getfield 73, 3) := by decide +kernel
theorem dX5_turn_118 : decode cX5_turn 118 = .ok (.ireturn, 1) := by decide +kernel
theorem dX5_advance_0 : decode cX5_advance 0 = .ok (.iload_n 1, 1) := by decide +kernel
theorem dX5_advance_1 : decode cX5_advance 1 = .ok (.iconst 1, 1) := by decide +kernel
theorem dX5_advance_2 : decode cX5_advance 2 = .ok (.bipush 100, 2) := by decide +kernel
theorem dX5_advance_4 : decode cX5_advance 4 = .ok (.invokestatic 155, 3) := by decide +kernel
theorem dX5_advance_7 : decode cX5_advance 7 = .ok (.ifCond .ne 13, 3) := by decide +kernel
theorem dX5_advance_10 : decode cX5_advance 10 = .ok (.new 99, 3) := by decide +kernel
theorem dX5_advance_13 : decode cX5_advance 13 = .ok (.dup, 1) := by decide +kernel
theorem dX5_advance_14 : decode cX5_advance 14 = .ok (.ldc 158, 2) := by decide +kernel
theorem dX5_advance_16 : decode cX5_advance 16 = .ok (.invokespecial 103, 3) := by decide +kernel
theorem dX5_advance_19 : decode cX5_advance 19 = .ok (.athrow, 1) := by decide +kernel
theorem dX5_advance_20 : decode cX5_advance 20 = .ok (.aload_n 0, 1) := by decide +kernel
theorem dX5_advance_21 : decode cX5_advance 21 = .ok (.getfield 66, 3) := by decide +kernel
theorem dX5_advance_24 : decode cX5_advance 24 = .ok (.istore_n 2, 1) := by decide +kernel
theorem dX5_advance_25 : decode cX5_advance 25 = .ok (.aload_n 0, 1) := by decide +kernel
theorem dX5_advance_26 : decode cX5_advance 26 = .ok (.dup, 1) := by decide +kernel
theorem dX5_advance_27 : decode cX5_advance 27 = .ok (.getfield 66, 3) := by decide +kernel
theorem dX5_advance_30 : decode cX5_advance 30 = .ok (.iload_n 1, 1) := by decide +kernel
theorem dX5_advance_31 : decode cX5_advance 31 = .ok (.iadd, 1) := by decide +kernel
theorem dX5_advance_32 : decode cX5_advance 32 = .ok (.putfield 66, 3) := by decide +kernel
theorem dX5_advance_35 : decode cX5_advance 35 = .ok (.aload_n 0, 1) := by decide +kernel
theorem dX5_advance_36 : decode cX5_advance 36 = .ok (.getfield 66, 3) := by decide +kernel
theorem dX5_advance_39 : decode cX5_advance 39 = .ok (.bipush 16, 2) := by decide +kernel
theorem dX5_advance_41 : decode cX5_advance 41 = .ok (.idiv, 1) := by decide +kernel
theorem dX5_advance_42 : decode cX5_advance 42 = .ok (.iload_n 2, 1) := by decide +kernel
theorem dX5_advance_43 : decode cX5_advance 43 = .ok (.bipush 16, 2) := by decide +kernel
theorem dX5_advance_45 : decode cX5_advance 45 = .ok (.idiv, 1) := by decide +kernel
theorem dX5_advance_46 : decode cX5_advance 46 = .ok (.if_icmp .eq 8, 3) := by decide +kernel
theorem dX5_advance_49 : decode cX5_advance 49 = .ok (.aload_n 0, 1) := by decide +kernel
theorem dX5_advance_50 : decode cX5_advance 50 = .ok (.iconst 1, 1) := by decide +kernel
theorem dX5_advance_51 : decode cX5_advance 51 = .ok (.putfield 69, 3) := by decide +kernel
theorem dX5_advance_54 : decode cX5_advance 54 = .ok (.aload_n 0, 1) := by decide +kernel
theorem dX5_advance_55 : decode cX5_advance 55 = .ok (.getfield 58, 3) := by decide +kernel
theorem dX5_advance_58 : decode cX5_advance 58 = .ok (.aload_n 0, 1) := by decide +kernel
theorem dX5_advance_59 : decode cX5_advance 59 = .ok (.getfield 66, 3) := by decide +kernel
theorem dX5_advance_62 : decode cX5_advance 62 = .ok (.aload_n 0, 1) := by decide +kernel
theorem dX5_advance_63 : decode cX5_advance 63 = .ok (.getfield 25, 3) := by decide +kernel
theorem dX5_advance_66 : decode cX5_advance 66 = .ok (.iconst 1, 1) := by decide +kernel
theorem dX5_advance_67 : decode cX5_advance 67 = .ok (.aaload, 1) := by decide +kernel
theorem dX5_advance_68 : decode cX5_advance 68 = .ok (.invokevirtual 160, 3) := by decide +kernel
theorem dX5_advance_71 : decode cX5_advance 71 = .ok (.aload_n 0, 1) := by decide +kernel
theorem dX5_advance_72 : decode cX5_advance 72 = .ok (.getfield 66, 3) := by decide +kernel
theorem dX5_advance_75 : decode cX5_advance 75 = .ok (.ireturn, 1) := by decide +kernel
theorem dX5_register_0 : decode cX5_register 0 = .ok (.iload_n 1, 1) := by decide +kernel
theorem dX5_register_1 : decode cX5_register 1 = .ok (.invokestatic 164, 3) := by decide +kernel
theorem dX5_register_4 : decode cX5_register 4 = .ok (.ifCond .ne 13, 3) := by decide +kernel
theorem dX5_register_7 : decode cX5_register 7 = .ok (.new 167, 3) := by decide +kernel
theorem dX5_register_10 : decode cX5_register 10 = .ok (.dup, 1) := by decide +kernel
theorem dX5_register_11 : decode cX5_register 11 = .ok (.ldc 169, 2) := by decide +kernel
theorem dX5_register_13 : decode cX5_register 13 = .ok (.invokespecial 171, 3) := by decide +kernel
theorem dX5_register_16 : decode cX5_register 16 = .ok (.athrow, 1) := by decide +kernel
theorem dX5_register_17 : decode cX5_register 17 = .ok (.aload_n 0, 1) := by decide +kernel
theorem dX5_register_18 : decode cX5_register 18 = .ok (.getfield 16, 3) := by decide +kernel
theorem dX5_register_21 : decode cX5_register 21 = .ok (.iload_n 1, 1) := by decide +kernel
theorem dX5_register_22 : decode cX5_register 22 = .ok (.iaload, 1) := by decide +kernel
theorem dX5_register_23 : decode cX5_register 23 = .ok (.ireturn, 1) := by decide +kernel
theorem dX5_state_0 : decode cX5_state 0 = .ok (.aload_n 0, 1) := by decide +kernel
theorem dX5_state_1 : decode cX5_state 1 = .ok (.getfield 51, 3) := by decide +kernel
theorem dX5_state_4 : decode cX5_state 4 = .ok (.iload_n 1, 1) := by decide +kernel
theorem dX5_state_5 : decode cX5_state 5 = .ok (.invokevirtual 172, 3) := by decide +kernel
theorem dX5_state_8 : decode cX5_state 8 = .ok (.ifCond .ne 13, 3) := by decide +kernel
theorem dX5_state_11 : decode cX5_state 11 = .ok (.new 167, 3) := by decide +kernel
theorem dX5_state_14 : decode cX5_state 14 = .ok (.dup, 1) := by decide +kernel
theorem dX5_state_15 : decode cX5_state 15 = .ok (.ldc 175, 2) := by decide +kernel
theorem dX5_state_17 : decode cX5_state 17 = .ok (.invokespecial 171, 3) := by decide +kernel
theorem dX5_state_20 : decode cX5_state 20 = .ok (.athrow, 1) := by decide +kernel
theorem dX5_state_21 : decode cX5_state 21 = .ok (.aload_n 0, 1) := by decide +kernel
theorem dX5_state_22 : decode cX5_state 22 = .ok (.getfield 51, 3) := by decide +kernel
theorem dX5_state_25 : decode cX5_state 25 = .ok (.iload_n 1, 1) := by decide +kernel
theorem dX5_state_26 : decode cX5_state 26 = .ok (.invokevirtual 177, 3) := by decide +kernel
theorem dX5_state_29 : decode cX5_state 29 = .ok (.ireturn, 1) := by decide +kernel
theorem dX5_value_0 : decode cX5_value 0 = .ok (.aload_n 0, 1) := by decide +kernel
theorem dX5_value_1 : decode cX5_value 1 = .ok (.getfield 51, 3) := by decide +kernel
theorem dX5_value_4 : decode cX5_value 4 = .ok (.iload_n 1, 1) := by decide +kernel
theorem dX5_value_5 : decode cX5_value 5 = .ok (.invokevirtual 172, 3) := by decide +kernel
theorem dX5_value_8 : decode cX5_value 8 = .ok (.ifCond .ne 13, 3) := by decide +kernel
theorem dX5_value_11 : decode cX5_value 11 = .ok (.new 167, 3) := by decide +kernel
theorem dX5_value_14 : decode cX5_value 14 = .ok (.dup, 1) := by decide +kernel
theorem dX5_value_15 : decode cX5_value 15 = .ok (.ldc 175, 2) := by decide +kernel
theorem dX5_value_17 : decode cX5_value 17 = .ok (.invokespecial 171, 3) := by decide +kernel
theorem dX5_value_20 : decode cX5_value 20 = .ok (.athrow, 1) := by decide +kernel
theorem dX5_value_21 : decode cX5_value 21 = .ok (.aload_n 0, 1) := by decide +kernel
theorem dX5_value_22 : decode cX5_value 22 = .ok (.getfield 51, 3) := by decide +kernel
theorem dX5_value_25 : decode cX5_value 25 = .ok (.iload_n 1, 1) := by decide +kernel
theorem dX5_value_26 : decode cX5_value 26 = .ok (.invokevirtual 180, 3) := by decide +kernel
theorem dX5_value_29 : decode cX5_value 29 = .ok (.ifCond .ne 13, 3) := by decide +kernel
theorem dX5_value_32 : decode cX5_value 32 = .ok (.new 110, 3) := by decide +kernel
theorem dX5_value_35 : decode cX5_value 35 = .ok (.dup, 1) := by decide +kernel
theorem dX5_value_36 : decode cX5_value 36 = .ok (.ldc 183, 2) := by decide +kernel
theorem dX5_value_38 : decode cX5_value 38 = .ok (.invokespecial 114, 3) := by decide +kernel
theorem dX5_value_41 : decode cX5_value 41 = .ok (.athrow, 1) := by decide +kernel
theorem dX5_value_42 : decode cX5_value 42 = .ok (.aload_n 0, 1) := by decide +kernel
theorem dX5_value_43 : decode cX5_value 43 = .ok (.getfield 51, 3) := by decide +kernel
theorem dX5_value_46 : decode cX5_value 46 = .ok (.iload_n 1, 1) := by decide +kernel
theorem dX5_value_47 : decode cX5_value 47 = .ok (.invokevirtual 185, 3) := by decide +kernel
theorem dX5_value_50 : decode cX5_value 50 = .ok (.ireturn, 1) := by decide +kernel
theorem dX5_count_0 : decode cX5_count 0 = .ok (.iload_n 1, 1) := by decide +kernel
theorem dX5_count_1 : decode cX5_count 1 = .ok (.tableswitch 96 0 6 #[43, 51, 56, 64, 72, 80, 88], 43) := by decide +kernel
theorem dX5_count_44 : decode cX5_count 44 = .ok (.aload_n 0, 1) := by decide +kernel
theorem dX5_count_45 : decode cX5_count 45 = .ok (.getfield 51, 3) := by decide +kernel
theorem dX5_count_48 : decode cX5_count 48 = .ok (.invokevirtual 188, 3) := by decide +kernel
theorem dX5_count_51 : decode cX5_count 51 = .ok (.ireturn, 1) := by decide +kernel
theorem dX5_count_52 : decode cX5_count 52 = .ok (.aload_n 0, 1) := by decide +kernel
theorem dX5_count_53 : decode cX5_count 53 = .ok (.invokevirtual 129, 3) := by decide +kernel
theorem dX5_count_56 : decode cX5_count 56 = .ok (.ireturn, 1) := by decide +kernel
theorem dX5_count_57 : decode cX5_count 57 = .ok (.aload_n 0, 1) := by decide +kernel
theorem dX5_count_58 : decode cX5_count 58 = .ok (.getfield 29, 3) := by decide +kernel
theorem dX5_count_61 : decode cX5_count 61 = .ok (.invokevirtual 148, 3) := by decide +kernel
theorem dX5_count_64 : decode cX5_count 64 = .ok (.ireturn, 1) := by decide +kernel
theorem dX5_count_65 : decode cX5_count 65 = .ok (.aload_n 0, 1) := by decide +kernel
theorem dX5_count_66 : decode cX5_count 66 = .ok (.getfield 58, 3) := by decide +kernel
theorem dX5_count_69 : decode cX5_count 69 = .ok (.invokevirtual 189, 3) := by decide +kernel
theorem dX5_count_72 : decode cX5_count 72 = .ok (.ireturn, 1) := by decide +kernel
theorem dX5_count_73 : decode cX5_count 73 = .ok (.aload_n 0, 1) := by decide +kernel
theorem dX5_count_74 : decode cX5_count 74 = .ok (.getfield 33, 3) := by decide +kernel
theorem dX5_count_77 : decode cX5_count 77 = .ok (.invokevirtual 148, 3) := by decide +kernel
theorem dX5_count_80 : decode cX5_count 80 = .ok (.ireturn, 1) := by decide +kernel
theorem dX5_count_81 : decode cX5_count 81 = .ok (.aload_n 0, 1) := by decide +kernel
theorem dX5_count_82 : decode cX5_count 82 = .ok (.getfield 39, 3) := by decide +kernel
theorem dX5_count_85 : decode cX5_count 85 = .ok (.invokevirtual 190, 3) := by decide +kernel
theorem dX5_count_88 : decode cX5_count 88 = .ok (.ireturn, 1) := by decide +kernel
theorem dX5_count_89 : decode cX5_count 89 = .ok (.aload_n 0, 1) := by decide +kernel
theorem dX5_count_90 : decode cX5_count 90 = .ok (.getfield 43, 3) := by decide +kernel
theorem dX5_count_93 : decode cX5_count 93 = .ok (.invokevirtual 190, 3) := by decide +kernel
theorem dX5_count_96 : decode cX5_count 96 = .ok (.ireturn, 1) := by decide +kernel
theorem dX5_count_97 : decode cX5_count 97 = .ok (.new 99, 3) := by decide +kernel
theorem dX5_count_100 : decode cX5_count 100 = .ok (.dup, 1) := by decide +kernel
theorem dX5_count_101 : decode cX5_count 101 = .ok (.ldc 191, 2) := by decide +kernel
theorem dX5_count_103 : decode cX5_count 103 = .ok (.invokespecial 103, 3) := by decide +kernel
theorem dX5_count_106 : decode cX5_count 106 = .ok (.athrow, 1) := by decide +kernel
theorem dX5_logged_0 : decode cX5_logged 0 = .ok (.aload_n 0, 1) := by decide +kernel
theorem dX5_logged_1 : decode cX5_logged 1 = .ok (.getfield 39, 3) := by decide +kernel
theorem dX5_logged_4 : decode cX5_logged 4 = .ok (.iload_n 1, 1) := by decide +kernel
theorem dX5_logged_5 : decode cX5_logged 5 = .ok (.invokevirtual 193, 3) := by decide +kernel
theorem dX5_logged_8 : decode cX5_logged 8 = .ok (.ifCond .ne 13, 3) := by decide +kernel
theorem dX5_logged_11 : decode cX5_logged 11 = .ok (.new 167, 3) := by decide +kernel
theorem dX5_logged_14 : decode cX5_logged 14 = .ok (.dup, 1) := by decide +kernel
theorem dX5_logged_15 : decode cX5_logged 15 = .ok (.ldc 194, 2) := by decide +kernel
theorem dX5_logged_17 : decode cX5_logged 17 = .ok (.invokespecial 171, 3) := by decide +kernel
theorem dX5_logged_20 : decode cX5_logged 20 = .ok (.athrow, 1) := by decide +kernel
theorem dX5_logged_21 : decode cX5_logged 21 = .ok (.aload_n 0, 1) := by decide +kernel
theorem dX5_logged_22 : decode cX5_logged 22 = .ok (.getfield 39, 3) := by decide +kernel
theorem dX5_logged_25 : decode cX5_logged 25 = .ok (.iload_n 1, 1) := by decide +kernel
theorem dX5_logged_26 : decode cX5_logged 26 = .ok (.invokevirtual 196, 3) := by decide +kernel
theorem dX5_logged_29 : decode cX5_logged 29 = .ok (.ireturn, 1) := by decide +kernel
theorem dX5_reported_0 : decode cX5_reported 0 = .ok (.aload_n 0, 1) := by decide +kernel
theorem dX5_reported_1 : decode cX5_reported 1 = .ok (.getfield 43, 3) := by decide +kernel
theorem dX5_reported_4 : decode cX5_reported 4 = .ok (.iload_n 1, 1) := by decide +kernel
theorem dX5_reported_5 : decode cX5_reported 5 = .ok (.invokevirtual 193, 3) := by decide +kernel
theorem dX5_reported_8 : decode cX5_reported 8 = .ok (.ifCond .ne 13, 3) := by decide +kernel
theorem dX5_reported_11 : decode cX5_reported 11 = .ok (.new 167, 3) := by decide +kernel
theorem dX5_reported_14 : decode cX5_reported 14 = .ok (.dup, 1) := by decide +kernel
theorem dX5_reported_15 : decode cX5_reported 15 = .ok (.ldc 199, 2) := by decide +kernel
theorem dX5_reported_17 : decode cX5_reported 17 = .ok (.invokespecial 171, 3) := by decide +kernel
theorem dX5_reported_20 : decode cX5_reported 20 = .ok (.athrow, 1) := by decide +kernel
theorem dX5_reported_21 : decode cX5_reported 21 = .ok (.aload_n 0, 1) := by decide +kernel
theorem dX5_reported_22 : decode cX5_reported 22 = .ok (.getfield 43, 3) := by decide +kernel
theorem dX5_reported_25 : decode cX5_reported 25 = .ok (.iload_n 1, 1) := by decide +kernel
theorem dX5_reported_26 : decode cX5_reported 26 = .ok (.invokevirtual 196, 3) := by decide +kernel
theorem dX5_reported_29 : decode cX5_reported 29 = .ok (.ireturn, 1) := by decide +kernel
theorem dX5_due_0 : decode cX5_due 0 = .ok (.aload_n 0, 1) := by decide +kernel
theorem dX5_due_1 : decode cX5_due 1 = .ok (.getfield 58, 3) := by decide +kernel
theorem dX5_due_4 : decode cX5_due 4 = .ok (.iload_n 1, 1) := by decide +kernel
theorem dX5_due_5 : decode cX5_due 5 = .ok (.invokevirtual 201, 3) := by decide +kernel
theorem dX5_due_8 : decode cX5_due 8 = .ok (.ireturn, 1) := by decide +kernel
theorem dX5_time_0 : decode cX5_time 0 = .ok (.aload_n 0, 1) := by decide +kernel
theorem dX5_time_1 : decode cX5_time 1 = .ok (.getfield 66, 3) := by decide +kernel
theorem dX5_time_4 : decode cX5_time 4 = .ok (.ireturn, 1) := by decide +kernel
theorem dX5_isWithin_0 : decode cX5_isWithin 0 = .ok (.iload_n 0, 1) := by decide +kernel
theorem dX5_isWithin_1 : decode cX5_isWithin 1 = .ok (.iload_n 1, 1) := by decide +kernel
theorem dX5_isWithin_2 : decode cX5_isWithin 2 = .ok (.if_icmp .lt 12, 3) := by decide +kernel
theorem dX5_isWithin_5 : decode cX5_isWithin 5 = .ok (.iload_n 0, 1) := by decide +kernel
theorem dX5_isWithin_6 : decode cX5_isWithin 6 = .ok (.iload_n 2, 1) := by decide +kernel
theorem dX5_isWithin_7 : decode cX5_isWithin 7 = .ok (.if_icmp .gt 7, 3) := by decide +kernel
theorem dX5_isWithin_10 : decode cX5_isWithin 10 = .ok (.iconst 1, 1) := by decide +kernel
theorem dX5_isWithin_11 : decode cX5_isWithin 11 = .ok (.goto 4, 3) := by decide +kernel
theorem dX5_isWithin_14 : decode cX5_isWithin 14 = .ok (.iconst 0, 1) := by decide +kernel
theorem dX5_isWithin_15 : decode cX5_isWithin 15 = .ok (.ireturn, 1) := by decide +kernel
theorem dX5_isFunction_0 : decode cX5_isFunction 0 = .ok (.iload_n 0, 1) := by decide +kernel
theorem dX5_isFunction_1 : decode cX5_isFunction 1 = .ok (.iconst 0, 1) := by decide +kernel
theorem dX5_isFunction_2 : decode cX5_isFunction 2 = .ok (.bipush 9, 2) := by decide +kernel
theorem dX5_isFunction_4 : decode cX5_isFunction 4 = .ok (.invokestatic 155, 3) := by decide +kernel
theorem dX5_isFunction_7 : decode cX5_isFunction 7 = .ok (.ireturn, 1) := by decide +kernel
theorem dX5_isRegister_0 : decode cX5_isRegister 0 = .ok (.iload_n 0, 1) := by decide +kernel
theorem dX5_isRegister_1 : decode cX5_isRegister 1 = .ok (.iconst 0, 1) := by decide +kernel
theorem dX5_isRegister_2 : decode cX5_isRegister 2 = .ok (.bipush 7, 2) := by decide +kernel
theorem dX5_isRegister_4 : decode cX5_isRegister 4 = .ok (.invokestatic 155, 3) := by decide +kernel
theorem dX5_isRegister_7 : decode cX5_isRegister 7 = .ok (.ireturn, 1) := by decide +kernel
theorem dX5_isSource_0 : decode cX5_isSource 0 = .ok (.iload_n 0, 1) := by decide +kernel
theorem dX5_isSource_1 : decode cX5_isSource 1 = .ok (.iconst 0, 1) := by decide +kernel
theorem dX5_isSource_2 : decode cX5_isSource 2 = .ok (.iconst 2, 1) := by decide +kernel
theorem dX5_isSource_3 : decode cX5_isSource 3 = .ok (.invokestatic 155, 3) := by decide +kernel
theorem dX5_isSource_6 : decode cX5_isSource 6 = .ok (.ireturn, 1) := by decide +kernel
theorem dX5_isNumber_0 : decode cX5_isNumber 0 = .ok (.iload_n 0, 1) := by decide +kernel
theorem dX5_isNumber_1 : decode cX5_isNumber 1 = .ok (.sipush (-999), 3) := by decide +kernel
theorem dX5_isNumber_4 : decode cX5_isNumber 4 = .ok (.sipush 999, 3) := by decide +kernel
theorem dX5_isNumber_7 : decode cX5_isNumber 7 = .ok (.invokestatic 155, 3) := by decide +kernel
theorem dX5_isNumber_10 : decode cX5_isNumber 10 = .ok (.ireturn, 1) := by decide +kernel
theorem dX5_isChoice_0 : decode cX5_isChoice 0 = .ok (.iload_n 0, 1) := by decide +kernel
theorem dX5_isChoice_1 : decode cX5_isChoice 1 = .ok (.iconst 0, 1) := by decide +kernel
theorem dX5_isChoice_2 : decode cX5_isChoice 2 = .ok (.iconst 1, 1) := by decide +kernel
theorem dX5_isChoice_3 : decode cX5_isChoice 3 = .ok (.invokestatic 155, 3) := by decide +kernel
theorem dX5_isChoice_6 : decode cX5_isChoice 6 = .ok (.ireturn, 1) := by decide +kernel
theorem dX5_isKnown_0 : decode cX5_isKnown 0 = .ok (.iload_n 0, 1) := by decide +kernel
theorem dX5_isKnown_1 : decode cX5_isKnown 1 = .ok (.tableswitch 274 0 15 #[79, 99, 119, 124, 124, 148, 79, 119, 153, 173, 205, 210, 230, 250, 119, 230], 79) := by decide +kernel
theorem dX5_isKnown_80 : decode cX5_isKnown 80 = .ok (.iload_n 1, 1) := by decide +kernel
theorem dX5_isKnown_81 : decode cX5_isKnown 81 = .ok (.invokestatic 204, 3) := by decide +kernel
theorem dX5_isKnown_84 : decode cX5_isKnown 84 = .ok (.ifCond .eq 14, 3) := by decide +kernel
theorem dX5_isKnown_87 : decode cX5_isKnown 87 = .ok (.iload_n 2, 1) := by decide +kernel
theorem dX5_isKnown_88 : decode cX5_isKnown 88 = .ok (.invokestatic 207, 3) := by decide +kernel
theorem dX5_isKnown_91 : decode cX5_isKnown 91 = .ok (.ifCond .eq 7, 3) := by decide +kernel
theorem dX5_isKnown_94 : decode cX5_isKnown 94 = .ok (.iconst 1, 1) := by decide +kernel
theorem dX5_isKnown_95 : decode cX5_isKnown 95 = .ok (.goto 4, 3) := by decide +kernel
theorem dX5_isKnown_98 : decode cX5_isKnown 98 = .ok (.iconst 0, 1) := by decide +kernel
theorem dX5_isKnown_99 : decode cX5_isKnown 99 = .ok (.ireturn, 1) := by decide +kernel
theorem dX5_isKnown_100 : decode cX5_isKnown 100 = .ok (.iload_n 1, 1) := by decide +kernel
theorem dX5_isKnown_101 : decode cX5_isKnown 101 = .ok (.invokestatic 91, 3) := by decide +kernel
theorem dX5_isKnown_104 : decode cX5_isKnown 104 = .ok (.ifCond .eq 14, 3) := by decide +kernel
theorem dX5_isKnown_107 : decode cX5_isKnown 107 = .ok (.iload_n 2, 1) := by decide +kernel
theorem dX5_isKnown_108 : decode cX5_isKnown 108 = .ok (.invokestatic 124, 3) := by decide +kernel
theorem dX5_isKnown_111 : decode cX5_isKnown 111 = .ok (.ifCond .eq 7, 3) := by decide +kernel
theorem dX5_isKnown_114 : decode cX5_isKnown 114 = .ok (.iconst 1, 1) := by decide +kernel
theorem dX5_isKnown_115 : decode cX5_isKnown 115 = .ok (.goto 4, 3) := by decide +kernel
theorem dX5_isKnown_118 : decode cX5_isKnown 118 = .ok (.iconst 0, 1) := by decide +kernel
theorem dX5_isKnown_119 : decode cX5_isKnown 119 = .ok (.ireturn, 1) := by decide +kernel
theorem dX5_isKnown_120 : decode cX5_isKnown 120 = .ok (.iload_n 1, 1) := by decide +kernel
theorem dX5_isKnown_121 : decode cX5_isKnown 121 = .ok (.invokestatic 91, 3) := by decide +kernel
theorem dX5_isKnown_124 : decode cX5_isKnown 124 = .ok (.ireturn, 1) := by decide +kernel
theorem dX5_isKnown_125 : decode cX5_isKnown 125 = .ok (.iload_n 1, 1) := by decide +kernel
theorem dX5_isKnown_126 : decode cX5_isKnown 126 = .ok (.invokestatic 91, 3) := by decide +kernel
theorem dX5_isKnown_129 : decode cX5_isKnown 129 = .ok (.ifCond .eq 18, 3) := by decide +kernel
theorem dX5_isKnown_132 : decode cX5_isKnown 132 = .ok (.iload_n 2, 1) := by decide +kernel
theorem dX5_isKnown_133 : decode cX5_isKnown 133 = .ok (.iconst 0, 1) := by decide +kernel
theorem dX5_isKnown_134 : decode cX5_isKnown 134 = .ok (.sipush 200, 3) := by decide +kernel
theorem dX5_isKnown_137 : decode cX5_isKnown 137 = .ok (.invokestatic 155, 3) := by decide +kernel
theorem dX5_isKnown_140 : decode cX5_isKnown 140 = .ok (.ifCond .eq 7, 3) := by decide +kernel
theorem dX5_isKnown_143 : decode cX5_isKnown 143 = .ok (.iconst 1, 1) := by decide +kernel
theorem dX5_isKnown_144 : decode cX5_isKnown 144 = .ok (.goto 4, 3) := by decide +kernel
theorem dX5_isKnown_147 : decode cX5_isKnown 147 = .ok (.iconst 0, 1) := by decide +kernel
theorem dX5_isKnown_148 : decode cX5_isKnown 148 = .ok (.ireturn, 1) := by decide +kernel
theorem dX5_isKnown_149 : decode cX5_isKnown 149 = .ok (.iload_n 1, 1) := by decide +kernel
theorem dX5_isKnown_150 : decode cX5_isKnown 150 = .ok (.invokestatic 204, 3) := by decide +kernel
theorem dX5_isKnown_153 : decode cX5_isKnown 153 = .ok (.ireturn, 1) := by decide +kernel
theorem dX5_isKnown_154 : decode cX5_isKnown 154 = .ok (.iload_n 1, 1) := by decide +kernel
theorem dX5_isKnown_155 : decode cX5_isKnown 155 = .ok (.invokestatic 91, 3) := by decide +kernel
theorem dX5_isKnown_158 : decode cX5_isKnown 158 = .ok (.ifCond .eq 14, 3) := by decide +kernel
theorem dX5_isKnown_161 : decode cX5_isKnown 161 = .ok (.iload_n 2, 1) := by decide +kernel
theorem dX5_isKnown_162 : decode cX5_isKnown 162 = .ok (.invokestatic 91, 3) := by decide +kernel
theorem dX5_isKnown_165 : decode cX5_isKnown 165 = .ok (.ifCond .eq 7, 3) := by decide +kernel
theorem dX5_isKnown_168 : decode cX5_isKnown 168 = .ok (.iconst 1, 1) := by decide +kernel
theorem dX5_isKnown_169 : decode cX5_isKnown 169 = .ok (.goto 4, 3) := by decide +kernel
theorem dX5_isKnown_172 : decode cX5_isKnown 172 = .ok (.iconst 0, 1) := by decide +kernel
theorem dX5_isKnown_173 : decode cX5_isKnown 173 = .ok (.ireturn, 1) := by decide +kernel
theorem dX5_isKnown_174 : decode cX5_isKnown 174 = .ok (.iload_n 2, 1) := by decide +kernel
theorem dX5_isKnown_175 : decode cX5_isKnown 175 = .ok (.iconst 2, 1) := by decide +kernel
theorem dX5_isKnown_176 : decode cX5_isKnown 176 = .ok (.if_icmp .ne 10, 3) := by decide +kernel
theorem dX5_isKnown_179 : decode cX5_isKnown 179 = .ok (.iload_n 1, 1) := by decide +kernel
theorem dX5_isKnown_180 : decode cX5_isKnown 180 = .ok (.invokestatic 164, 3) := by decide +kernel
theorem dX5_isKnown_183 : decode cX5_isKnown 183 = .ok (.goto 22, 3) := by decide +kernel
theorem dX5_isKnown_186 : decode cX5_isKnown 186 = .ok (.iload_n 1, 1) := by decide +kernel
theorem dX5_isKnown_187 : decode cX5_isKnown 187 = .ok (.invokestatic 204, 3) := by decide +kernel
theorem dX5_isKnown_190 : decode cX5_isKnown 190 = .ok (.ifCond .eq 14, 3) := by decide +kernel
theorem dX5_isKnown_193 : decode cX5_isKnown 193 = .ok (.iload_n 2, 1) := by decide +kernel
theorem dX5_isKnown_194 : decode cX5_isKnown 194 = .ok (.invokestatic 207, 3) := by decide +kernel
theorem dX5_isKnown_197 : decode cX5_isKnown 197 = .ok (.ifCond .eq 7, 3) := by decide +kernel
theorem dX5_isKnown_200 : decode cX5_isKnown 200 = .ok (.iconst 1, 1) := by decide +kernel
theorem dX5_isKnown_201 : decode cX5_isKnown 201 = .ok (.goto 4, 3) := by decide +kernel
theorem dX5_isKnown_204 : decode cX5_isKnown 204 = .ok (.iconst 0, 1) := by decide +kernel
theorem dX5_isKnown_205 : decode cX5_isKnown 205 = .ok (.ireturn, 1) := by decide +kernel
theorem dX5_isKnown_206 : decode cX5_isKnown 206 = .ok (.iload_n 1, 1) := by decide +kernel
theorem dX5_isKnown_207 : decode cX5_isKnown 207 = .ok (.invokestatic 164, 3) := by decide +kernel
theorem dX5_isKnown_210 : decode cX5_isKnown 210 = .ok (.ireturn, 1) := by decide +kernel
theorem dX5_isKnown_211 : decode cX5_isKnown 211 = .ok (.iload_n 1, 1) := by decide +kernel
theorem dX5_isKnown_212 : decode cX5_isKnown 212 = .ok (.invokestatic 164, 3) := by decide +kernel
theorem dX5_isKnown_215 : decode cX5_isKnown 215 = .ok (.ifCond .eq 14, 3) := by decide +kernel
theorem dX5_isKnown_218 : decode cX5_isKnown 218 = .ok (.iload_n 2, 1) := by decide +kernel
theorem dX5_isKnown_219 : decode cX5_isKnown 219 = .ok (.invokestatic 207, 3) := by decide +kernel
theorem dX5_isKnown_222 : decode cX5_isKnown 222 = .ok (.ifCond .eq 7, 3) := by decide +kernel
theorem dX5_isKnown_225 : decode cX5_isKnown 225 = .ok (.iconst 1, 1) := by decide +kernel
theorem dX5_isKnown_226 : decode cX5_isKnown 226 = .ok (.goto 4, 3) := by decide +kernel
theorem dX5_isKnown_229 : decode cX5_isKnown 229 = .ok (.iconst 0, 1) := by decide +kernel
theorem dX5_isKnown_230 : decode cX5_isKnown 230 = .ok (.ireturn, 1) := by decide +kernel
theorem dX5_isKnown_231 : decode cX5_isKnown 231 = .ok (.iload_n 1, 1) := by decide +kernel
theorem dX5_isKnown_232 : decode cX5_isKnown 232 = .ok (.invokestatic 164, 3) := by decide +kernel
theorem dX5_isKnown_235 : decode cX5_isKnown 235 = .ok (.ifCond .eq 14, 3) := by decide +kernel
theorem dX5_isKnown_238 : decode cX5_isKnown 238 = .ok (.iload_n 2, 1) := by decide +kernel
theorem dX5_isKnown_239 : decode cX5_isKnown 239 = .ok (.invokestatic 164, 3) := by decide +kernel
theorem dX5_isKnown_242 : decode cX5_isKnown 242 = .ok (.ifCond .eq 7, 3) := by decide +kernel
theorem dX5_isKnown_245 : decode cX5_isKnown 245 = .ok (.iconst 1, 1) := by decide +kernel
theorem dX5_isKnown_246 : decode cX5_isKnown 246 = .ok (.goto 4, 3) := by decide +kernel
theorem dX5_isKnown_249 : decode cX5_isKnown 249 = .ok (.iconst 0, 1) := by decide +kernel
theorem dX5_isKnown_250 : decode cX5_isKnown 250 = .ok (.ireturn, 1) := by decide +kernel
theorem dX5_isKnown_251 : decode cX5_isKnown 251 = .ok (.iload_n 1, 1) := by decide +kernel
theorem dX5_isKnown_252 : decode cX5_isKnown 252 = .ok (.invokestatic 164, 3) := by decide +kernel
theorem dX5_isKnown_255 : decode cX5_isKnown 255 = .ok (.ifCond .eq 18, 3) := by decide +kernel
theorem dX5_isKnown_258 : decode cX5_isKnown 258 = .ok (.iload_n 2, 1) := by decide +kernel
theorem dX5_isKnown_259 : decode cX5_isKnown 259 = .ok (.iconst 0, 1) := by decide +kernel
theorem dX5_isKnown_260 : decode cX5_isKnown 260 = .ok (.sipush 255, 3) := by decide +kernel
theorem dX5_isKnown_263 : decode cX5_isKnown 263 = .ok (.invokestatic 155, 3) := by decide +kernel
theorem dX5_isKnown_266 : decode cX5_isKnown 266 = .ok (.ifCond .eq 7, 3) := by decide +kernel
theorem dX5_isKnown_269 : decode cX5_isKnown 269 = .ok (.iconst 1, 1) := by decide +kernel
theorem dX5_isKnown_270 : decode cX5_isKnown 270 = .ok (.goto 4, 3) := by decide +kernel
theorem dX5_isKnown_273 : decode cX5_isKnown 273 = .ok (.iconst 0, 1) := by decide +kernel
theorem dX5_isKnown_274 : decode cX5_isKnown 274 = .ok (.ireturn, 1) := by decide +kernel
theorem dX5_isKnown_275 : decode cX5_isKnown 275 = .ok (.iconst 0, 1) := by decide +kernel
theorem dX5_isKnown_276 : decode cX5_isKnown 276 = .ok (.ireturn, 1) := by decide +kernel
theorem dX5_waitingTasks_0 : decode cX5_waitingTasks 0 = .ok (.iconst 0, 1) := by decide +kernel
theorem dX5_waitingTasks_1 : decode cX5_waitingTasks 1 = .ok (.istore_n 1, 1) := by decide +kernel
theorem dX5_waitingTasks_2 : decode cX5_waitingTasks 2 = .ok (.iconst 0, 1) := by decide +kernel
theorem dX5_waitingTasks_3 : decode cX5_waitingTasks 3 = .ok (.istore_n 2, 1) := by decide +kernel
theorem dX5_waitingTasks_4 : decode cX5_waitingTasks 4 = .ok (.iload_n 2, 1) := by decide +kernel
theorem dX5_waitingTasks_5 : decode cX5_waitingTasks 5 = .ok (.iconst 3, 1) := by decide +kernel
theorem dX5_waitingTasks_6 : decode cX5_waitingTasks 6 = .ok (.if_icmp .ge 21, 3) := by decide +kernel
theorem dX5_waitingTasks_9 : decode cX5_waitingTasks 9 = .ok (.iload_n 1, 1) := by decide +kernel
theorem dX5_waitingTasks_10 : decode cX5_waitingTasks 10 = .ok (.aload_n 0, 1) := by decide +kernel
theorem dX5_waitingTasks_11 : decode cX5_waitingTasks 11 = .ok (.getfield 25, 3) := by decide +kernel
theorem dX5_waitingTasks_14 : decode cX5_waitingTasks 14 = .ok (.iload_n 2, 1) := by decide +kernel
theorem dX5_waitingTasks_15 : decode cX5_waitingTasks 15 = .ok (.aaload, 1) := by decide +kernel
theorem dX5_waitingTasks_16 : decode cX5_waitingTasks 16 = .ok (.invokevirtual 148, 3) := by decide +kernel
theorem dX5_waitingTasks_19 : decode cX5_waitingTasks 19 = .ok (.iadd, 1) := by decide +kernel
theorem dX5_waitingTasks_20 : decode cX5_waitingTasks 20 = .ok (.istore_n 1, 1) := by decide +kernel
theorem dX5_waitingTasks_21 : decode cX5_waitingTasks 21 = .ok (.iinc 2 1, 3) := by decide +kernel
theorem dX5_waitingTasks_24 : decode cX5_waitingTasks 24 = .ok (.goto (-20), 3) := by decide +kernel
theorem dX5_waitingTasks_27 : decode cX5_waitingTasks 27 = .ok (.iload_n 1, 1) := by decide +kernel
theorem dX5_waitingTasks_28 : decode cX5_waitingTasks 28 = .ok (.ireturn, 1) := by decide +kernel
theorem dX5_checkpoint_0 : decode cX5_checkpoint 0 = .ok (.iconst 0, 1) := by decide +kernel
theorem dX5_checkpoint_1 : decode cX5_checkpoint 1 = .ok (.istore_n 1, 1) := by decide +kernel
theorem dX5_checkpoint_2 : decode cX5_checkpoint 2 = .ok (.iload_n 1, 1) := by decide +kernel
theorem dX5_checkpoint_3 : decode cX5_checkpoint 3 = .ok (.sipush 1000, 3) := by decide +kernel
theorem dX5_checkpoint_6 : decode cX5_checkpoint 6 = .ok (.if_icmp .ge 115, 3) := by decide +kernel
theorem dX5_checkpoint_9 : decode cX5_checkpoint 9 = .ok (.aload_n 0, 1) := by decide +kernel
theorem dX5_checkpoint_10 : decode cX5_checkpoint 10 = .ok (.getfield 29, 3) := by decide +kernel
theorem dX5_checkpoint_13 : decode cX5_checkpoint 13 = .ok (.invokevirtual 148, 3) := by decide +kernel
theorem dX5_checkpoint_16 : decode cX5_checkpoint 16 = .ok (.ifCond .le 105, 3) := by decide +kernel
theorem dX5_checkpoint_19 : decode cX5_checkpoint 19 = .ok (.aload_n 0, 1) := by decide +kernel
theorem dX5_checkpoint_20 : decode cX5_checkpoint 20 = .ok (.getfield 73, 3) := by decide +kernel
theorem dX5_checkpoint_23 : decode cX5_checkpoint 23 = .ok (.bipush 50, 2) := by decide +kernel
theorem dX5_checkpoint_25 : decode cX5_checkpoint 25 = .ok (.if_icmp .lt 12, 3) := by decide +kernel
theorem dX5_checkpoint_28 : decode cX5_checkpoint 28 = .ok (.aload_n 0, 1) := by decide +kernel
theorem dX5_checkpoint_29 : decode cX5_checkpoint 29 = .ok (.invokevirtual 210, 3) := by decide +kernel
theorem dX5_checkpoint_32 : decode cX5_checkpoint 32 = .ok (.ifCond .eq 5, 3) := by decide +kernel
theorem dX5_checkpoint_35 : decode cX5_checkpoint 35 = .ok (.iconst 0, 1) := by decide +kernel
theorem dX5_checkpoint_36 : decode cX5_checkpoint 36 = .ok (.ireturn, 1) := by decide +kernel
theorem dX5_checkpoint_37 : decode cX5_checkpoint 37 = .ok (.aload_n 0, 1) := by decide +kernel
theorem dX5_checkpoint_38 : decode cX5_checkpoint 38 = .ok (.getfield 29, 3) := by decide +kernel
theorem dX5_checkpoint_41 : decode cX5_checkpoint 41 = .ok (.invokevirtual 213, 3) := by decide +kernel
theorem dX5_checkpoint_44 : decode cX5_checkpoint 44 = .ok (.istore_n 2, 1) := by decide +kernel
theorem dX5_checkpoint_45 : decode cX5_checkpoint 45 = .ok (.aload_n 0, 1) := by decide +kernel
theorem dX5_checkpoint_46 : decode cX5_checkpoint 46 = .ok (.getfield 29, 3) := by decide +kernel
theorem dX5_checkpoint_49 : decode cX5_checkpoint 49 = .ok (.invokevirtual 216, 3) := by decide +kernel
theorem dX5_checkpoint_52 : decode cX5_checkpoint 52 = .ok (.istore_n 3, 1) := by decide +kernel
theorem dX5_checkpoint_53 : decode cX5_checkpoint 53 = .ok (.aload_n 0, 1) := by decide +kernel
theorem dX5_checkpoint_54 : decode cX5_checkpoint 54 = .ok (.getfield 29, 3) := by decide +kernel
theorem dX5_checkpoint_57 : decode cX5_checkpoint 57 = .ok (.invokevirtual 219, 3) := by decide +kernel
theorem dX5_checkpoint_60 : decode cX5_checkpoint 60 = .ok (.istore 4, 2) := by decide +kernel
theorem dX5_checkpoint_62 : decode cX5_checkpoint 62 = .ok (.aload_n 0, 1) := by decide +kernel
theorem dX5_checkpoint_63 : decode cX5_checkpoint 63 = .ok (.getfield 29, 3) := by decide +kernel
theorem dX5_checkpoint_66 : decode cX5_checkpoint 66 = .ok (.invokevirtual 222, 3) := by decide +kernel
theorem dX5_checkpoint_69 : decode cX5_checkpoint 69 = .ok (.iload_n 2, 1) := by decide +kernel
theorem dX5_checkpoint_70 : decode cX5_checkpoint 70 = .ok (.ifCond .ne 18, 3) := by decide +kernel
theorem dX5_checkpoint_73 : decode cX5_checkpoint 73 = .ok (.aload_n 0, 1) := by decide +kernel
theorem dX5_checkpoint_74 : decode cX5_checkpoint 74 = .ok (.iload_n 3, 1) := by decide +kernel
theorem dX5_checkpoint_75 : decode cX5_checkpoint 75 = .ok (.iload 4, 2) := by decide +kernel
theorem dX5_checkpoint_77 : decode cX5_checkpoint 77 = .ok (.iconst 1, 1) := by decide +kernel
theorem dX5_checkpoint_78 : decode cX5_checkpoint 78 = .ok (.invokevirtual 225, 3) := by decide +kernel
theorem dX5_checkpoint_81 : decode cX5_checkpoint 81 = .ok (.aload_n 0, 1) := by decide +kernel
theorem dX5_checkpoint_82 : decode cX5_checkpoint 82 = .ok (.invokevirtual 228, 3) := by decide +kernel
theorem dX5_checkpoint_85 : decode cX5_checkpoint 85 = .ok (.goto 30, 3) := by decide +kernel
theorem dX5_checkpoint_88 : decode cX5_checkpoint 88 = .ok (.iload_n 2, 1) := by decide +kernel
theorem dX5_checkpoint_89 : decode cX5_checkpoint 89 = .ok (.iconst 2, 1) := by decide +kernel
theorem dX5_checkpoint_90 : decode cX5_checkpoint 90 = .ok (.if_icmp .ne 11, 3) := by decide +kernel
theorem dX5_checkpoint_93 : decode cX5_checkpoint 93 = .ok (.aload_n 0, 1) := by decide +kernel
theorem dX5_checkpoint_94 : decode cX5_checkpoint 94 = .ok (.iload_n 3, 1) := by decide +kernel
theorem dX5_checkpoint_95 : decode cX5_checkpoint 95 = .ok (.invokevirtual 231, 3) := by decide +kernel
theorem dX5_checkpoint_98 : decode cX5_checkpoint 98 = .ok (.goto 17, 3) := by decide +kernel
theorem dX5_checkpoint_101 : decode cX5_checkpoint 101 = .ok (.aload_n 0, 1) := by decide +kernel
theorem dX5_checkpoint_102 : decode cX5_checkpoint 102 = .ok (.getfield 51, 3) := by decide +kernel
theorem dX5_checkpoint_105 : decode cX5_checkpoint 105 = .ok (.iload 4, 2) := by decide +kernel
theorem dX5_checkpoint_107 : decode cX5_checkpoint 107 = .ok (.bipush 16, 2) := by decide +kernel
theorem dX5_checkpoint_109 : decode cX5_checkpoint 109 = .ok (.bipush 16, 2) := by decide +kernel
theorem dX5_checkpoint_111 : decode cX5_checkpoint 111 = .ok (.iload_n 3, 1) := by decide +kernel
theorem dX5_checkpoint_112 : decode cX5_checkpoint 112 = .ok (.invokevirtual 234, 3) := by decide +kernel
theorem dX5_checkpoint_115 : decode cX5_checkpoint 115 = .ok (.iinc 1 1, 3) := by decide +kernel
theorem dX5_checkpoint_118 : decode cX5_checkpoint 118 = .ok (.goto (-116), 3) := by decide +kernel
theorem dX5_checkpoint_121 : decode cX5_checkpoint 121 = .ok (.aload_n 0, 1) := by decide +kernel
theorem dX5_checkpoint_122 : decode cX5_checkpoint 122 = .ok (.getfield 51, 3) := by decide +kernel
theorem dX5_checkpoint_125 : decode cX5_checkpoint 125 = .ok (.invokevirtual 237, 3) := by decide +kernel
theorem dX5_checkpoint_128 : decode cX5_checkpoint 128 = .ok (.iconst 1, 1) := by decide +kernel
theorem dX5_checkpoint_129 : decode cX5_checkpoint 129 = .ok (.ireturn, 1) := by decide +kernel
theorem dX5_microtaskBeginsRun_0 : decode cX5_microtaskBeginsRun 0 = .ok (.aload_n 0, 1) := by decide +kernel
theorem dX5_microtaskBeginsRun_1 : decode cX5_microtaskBeginsRun 1 = .ok (.getfield 29, 3) := by decide +kernel
theorem dX5_microtaskBeginsRun_4 : decode cX5_microtaskBeginsRun 4 = .ok (.invokevirtual 213, 3) := by decide +kernel
theorem dX5_microtaskBeginsRun_7 : decode cX5_microtaskBeginsRun 7 = .ok (.istore_n 1, 1) := by decide +kernel
theorem dX5_microtaskBeginsRun_8 : decode cX5_microtaskBeginsRun 8 = .ok (.iload_n 1, 1) := by decide +kernel
theorem dX5_microtaskBeginsRun_9 : decode cX5_microtaskBeginsRun 9 = .ok (.ifCond .eq 28, 3) := by decide +kernel
theorem dX5_microtaskBeginsRun_12 : decode cX5_microtaskBeginsRun 12 = .ok (.iload_n 1, 1) := by decide +kernel
theorem dX5_microtaskBeginsRun_13 : decode cX5_microtaskBeginsRun 13 = .ok (.iconst 2, 1) := by decide +kernel
theorem dX5_microtaskBeginsRun_14 : decode cX5_microtaskBeginsRun 14 = .ok (.if_icmp .ne 27, 3) := by decide +kernel
theorem dX5_microtaskBeginsRun_17 : decode cX5_microtaskBeginsRun 17 = .ok (.aload_n 0, 1) := by decide +kernel
theorem dX5_microtaskBeginsRun_18 : decode cX5_microtaskBeginsRun 18 = .ok (.getfield 51, 3) := by decide +kernel
theorem dX5_microtaskBeginsRun_21 : decode cX5_microtaskBeginsRun 21 = .ok (.aload_n 0, 1) := by decide +kernel
theorem dX5_microtaskBeginsRun_22 : decode cX5_microtaskBeginsRun 22 = .ok (.getfield 29, 3) := by decide +kernel
theorem dX5_microtaskBeginsRun_25 : decode cX5_microtaskBeginsRun 25 = .ok (.invokevirtual 216, 3) := by decide +kernel
theorem dX5_microtaskBeginsRun_28 : decode cX5_microtaskBeginsRun 28 = .ok (.invokevirtual 240, 3) := by decide +kernel
theorem dX5_microtaskBeginsRun_31 : decode cX5_microtaskBeginsRun 31 = .ok (.invokestatic 91, 3) := by decide +kernel
theorem dX5_microtaskBeginsRun_34 : decode cX5_microtaskBeginsRun 34 = .ok (.ifCond .eq 7, 3) := by decide +kernel
theorem dX5_microtaskBeginsRun_37 : decode cX5_microtaskBeginsRun 37 = .ok (.iconst 1, 1) := by decide +kernel
theorem dX5_microtaskBeginsRun_38 : decode cX5_microtaskBeginsRun 38 = .ok (.goto 4, 3) := by decide +kernel
theorem dX5_microtaskBeginsRun_41 : decode cX5_microtaskBeginsRun 41 = .ok (.iconst 0, 1) := by decide +kernel
theorem dX5_microtaskBeginsRun_42 : decode cX5_microtaskBeginsRun 42 = .ok (.ireturn, 1) := by decide +kernel
theorem dX5_doReaction_0 : decode cX5_doReaction 0 = .ok (.aload_n 0, 1) := by decide +kernel
theorem dX5_doReaction_1 : decode cX5_doReaction 1 = .ok (.getfield 51, 3) := by decide +kernel
theorem dX5_doReaction_4 : decode cX5_doReaction 4 = .ok (.iload_n 1, 1) := by decide +kernel
theorem dX5_doReaction_5 : decode cX5_doReaction 5 = .ok (.invokevirtual 243, 3) := by decide +kernel
theorem dX5_doReaction_8 : decode cX5_doReaction 8 = .ok (.istore_n 2, 1) := by decide +kernel
theorem dX5_doReaction_9 : decode cX5_doReaction 9 = .ok (.aload_n 0, 1) := by decide +kernel
theorem dX5_doReaction_10 : decode cX5_doReaction 10 = .ok (.getfield 51, 3) := by decide +kernel
theorem dX5_doReaction_13 : decode cX5_doReaction 13 = .ok (.iload_n 1, 1) := by decide +kernel
theorem dX5_doReaction_14 : decode cX5_doReaction 14 = .ok (.invokevirtual 246, 3) := by decide +kernel
theorem dX5_doReaction_17 : decode cX5_doReaction 17 = .ok (.istore_n 3, 1) := by decide +kernel
theorem dX5_doReaction_18 : decode cX5_doReaction 18 = .ok (.aload_n 0, 1) := by decide +kernel
theorem dX5_doReaction_19 : decode cX5_doReaction 19 = .ok (.getfield 51, 3) := by decide +kernel
theorem dX5_doReaction_22 : decode cX5_doReaction 22 = .ok (.iload_n 2, 1) := by decide +kernel
theorem dX5_doReaction_23 : decode cX5_doReaction 23 = .ok (.invokevirtual 180, 3) := by decide +kernel
theorem dX5_doReaction_26 : decode cX5_doReaction 26 = .ok (.istore 4, 2) := by decide +kernel
theorem dX5_doReaction_28 : decode cX5_doReaction 28 = .ok (.aload_n 0, 1) := by decide +kernel
theorem dX5_doReaction_29 : decode cX5_doReaction 29 = .ok (.getfield 51, 3) := by decide +kernel
theorem dX5_doReaction_32 : decode cX5_doReaction 32 = .ok (.iload_n 2, 1) := by decide +kernel
theorem dX5_doReaction_33 : decode cX5_doReaction 33 = .ok (.invokevirtual 185, 3) := by decide +kernel
theorem dX5_doReaction_36 : decode cX5_doReaction 36 = .ok (.istore 5, 2) := by decide +kernel
theorem dX5_doReaction_38 : decode cX5_doReaction 38 = .ok (.aload_n 0, 1) := by decide +kernel
theorem dX5_doReaction_39 : decode cX5_doReaction 39 = .ok (.getfield 51, 3) := by decide +kernel
theorem dX5_doReaction_42 : decode cX5_doReaction 42 = .ok (.iload_n 1, 1) := by decide +kernel
theorem dX5_doReaction_43 : decode cX5_doReaction 43 = .ok (.invokevirtual 240, 3) := by decide +kernel
theorem dX5_doReaction_46 : decode cX5_doReaction 46 = .ok (.istore 6, 2) := by decide +kernel
theorem dX5_doReaction_48 : decode cX5_doReaction 48 = .ok (.iload 6, 2) := by decide +kernel
theorem dX5_doReaction_50 : decode cX5_doReaction 50 = .ok (.bipush 16, 2) := by decide +kernel
theorem dX5_doReaction_52 : decode cX5_doReaction 52 = .ok (.if_icmp .ne 18, 3) := by decide +kernel
theorem dX5_doReaction_55 : decode cX5_doReaction 55 = .ok (.aload_n 0, 1) := by decide +kernel
theorem dX5_doReaction_56 : decode cX5_doReaction 56 = .ok (.getfield 51, 3) := by decide +kernel
theorem dX5_doReaction_59 : decode cX5_doReaction 59 = .ok (.iload_n 3, 1) := by decide +kernel
theorem dX5_doReaction_60 : decode cX5_doReaction 60 = .ok (.iload 4, 2) := by decide +kernel
theorem dX5_doReaction_62 : decode cX5_doReaction 62 = .ok (.iload 5, 2) := by decide +kernel
theorem dX5_doReaction_64 : decode cX5_doReaction 64 = .ok (.invokevirtual 249, 3) := by decide +kernel
theorem dX5_doReaction_67 : decode cX5_doReaction 67 = .ok (.goto 40, 3) := by decide +kernel
theorem dX5_doReaction_70 : decode cX5_doReaction 70 = .ok (.iload 6, 2) := by decide +kernel
theorem dX5_doReaction_72 : decode cX5_doReaction 72 = .ok (.invokestatic 91, 3) := by decide +kernel
theorem dX5_doReaction_75 : decode cX5_doReaction 75 = .ok (.ifCond .eq 20, 3) := by decide +kernel
theorem dX5_doReaction_78 : decode cX5_doReaction 78 = .ok (.aload_n 0, 1) := by decide +kernel
theorem dX5_doReaction_79 : decode cX5_doReaction 79 = .ok (.iload 6, 2) := by decide +kernel
theorem dX5_doReaction_81 : decode cX5_doReaction 81 = .ok (.iload 5, 2) := by decide +kernel
theorem dX5_doReaction_83 : decode cX5_doReaction 83 = .ok (.iconst 1, 1) := by decide +kernel
theorem dX5_doReaction_84 : decode cX5_doReaction 84 = .ok (.invokevirtual 225, 3) := by decide +kernel
theorem dX5_doReaction_87 : decode cX5_doReaction 87 = .ok (.aload_n 0, 1) := by decide +kernel
theorem dX5_doReaction_88 : decode cX5_doReaction 88 = .ok (.iload_n 3, 1) := by decide +kernel
theorem dX5_doReaction_89 : decode cX5_doReaction 89 = .ok (.invokevirtual 252, 3) := by decide +kernel
theorem dX5_doReaction_92 : decode cX5_doReaction 92 = .ok (.goto 15, 3) := by decide +kernel
theorem dX5_doReaction_95 : decode cX5_doReaction 95 = .ok (.aload_n 0, 1) := by decide +kernel
theorem dX5_doReaction_96 : decode cX5_doReaction 96 = .ok (.getfield 51, 3) := by decide +kernel
theorem dX5_doReaction_99 : decode cX5_doReaction 99 = .ok (.iload_n 3, 1) := by decide +kernel
theorem dX5_doReaction_100 : decode cX5_doReaction 100 = .ok (.iload 4, 2) := by decide +kernel
theorem dX5_doReaction_102 : decode cX5_doReaction 102 = .ok (.iload 5, 2) := by decide +kernel
theorem dX5_doReaction_104 : decode cX5_doReaction 104 = .ok (.invokevirtual 255, 3) := by decide +kernel
theorem dX5_doReaction_107 : decode cX5_doReaction 107 = .ok (.return_, 1) := by decide +kernel
theorem dX5_settleWithResult_0 : decode cX5_settleWithResult 0 = .ok (.aload_n 0, 1) := by decide +kernel
theorem dX5_settleWithResult_1 : decode cX5_settleWithResult 1 = .ok (.getfield 82, 3) := by decide +kernel
theorem dX5_settleWithResult_4 : decode cX5_settleWithResult 4 = .ok (.ifCond .eq 19, 3) := by decide +kernel
theorem dX5_settleWithResult_7 : decode cX5_settleWithResult 7 = .ok (.aload_n 0, 1) := by decide +kernel
theorem dX5_settleWithResult_8 : decode cX5_settleWithResult 8 = .ok (.getfield 51, 3) := by decide +kernel
theorem dX5_settleWithResult_11 : decode cX5_settleWithResult 11 = .ok (.iload_n 1, 1) := by decide +kernel
theorem dX5_settleWithResult_12 : decode cX5_settleWithResult 12 = .ok (.iconst 2, 1) := by decide +kernel
theorem dX5_settleWithResult_13 : decode cX5_settleWithResult 13 = .ok (.aload_n 0, 1) := by decide +kernel
theorem dX5_settleWithResult_14 : decode cX5_settleWithResult 14 = .ok (.getfield 88, 3) := by decide +kernel
theorem dX5_settleWithResult_17 : decode cX5_settleWithResult 17 = .ok (.invokevirtual 255, 3) := by decide +kernel
theorem dX5_settleWithResult_20 : decode cX5_settleWithResult 20 = .ok (.goto 38, 3) := by decide +kernel
theorem dX5_settleWithResult_23 : decode cX5_settleWithResult 23 = .ok (.aload_n 0, 1) := by decide +kernel
theorem dX5_settleWithResult_24 : decode cX5_settleWithResult 24 = .ok (.getfield 85, 3) := by decide +kernel
theorem dX5_settleWithResult_27 : decode cX5_settleWithResult 27 = .ok (.ifCond .eq 18, 3) := by decide +kernel
theorem dX5_settleWithResult_30 : decode cX5_settleWithResult 30 = .ok (.aload_n 0, 1) := by decide +kernel
theorem dX5_settleWithResult_31 : decode cX5_settleWithResult 31 = .ok (.getfield 51, 3) := by decide +kernel
theorem dX5_settleWithResult_34 : decode cX5_settleWithResult 34 = .ok (.iload_n 1, 1) := by decide +kernel
theorem dX5_settleWithResult_35 : decode cX5_settleWithResult 35 = .ok (.aload_n 0, 1) := by decide +kernel
theorem dX5_settleWithResult_36 : decode cX5_settleWithResult 36 = .ok (.getfield 88, 3) := by decide +kernel
theorem dX5_settleWithResult_39 : decode cX5_settleWithResult 39 = .ok (.invokevirtual 258, 3) := by decide +kernel
theorem dX5_settleWithResult_42 : decode cX5_settleWithResult 42 = .ok (.goto 16, 3) := by decide +kernel
theorem dX5_settleWithResult_45 : decode cX5_settleWithResult 45 = .ok (.aload_n 0, 1) := by decide +kernel
theorem dX5_settleWithResult_46 : decode cX5_settleWithResult 46 = .ok (.getfield 51, 3) := by decide +kernel
theorem dX5_settleWithResult_49 : decode cX5_settleWithResult 49 = .ok (.iload_n 1, 1) := by decide +kernel
theorem dX5_settleWithResult_50 : decode cX5_settleWithResult 50 = .ok (.iconst 1, 1) := by decide +kernel
theorem dX5_settleWithResult_51 : decode cX5_settleWithResult 51 = .ok (.aload_n 0, 1) := by decide +kernel
theorem dX5_settleWithResult_52 : decode cX5_settleWithResult 52 = .ok (.getfield 88, 3) := by decide +kernel
theorem dX5_settleWithResult_55 : decode cX5_settleWithResult 55 = .ok (.invokevirtual 255, 3) := by decide +kernel
theorem dX5_settleWithResult_58 : decode cX5_settleWithResult 58 = .ok (.return_, 1) := by decide +kernel
theorem dX5_doTask_0 : decode cX5_doTask 0 = .ok (.aload_n 0, 1) := by decide +kernel
theorem dX5_doTask_1 : decode cX5_doTask 1 = .ok (.invokevirtual 262, 3) := by decide +kernel
theorem dX5_doTask_4 : decode cX5_doTask 4 = .ok (.istore_n 1, 1) := by decide +kernel
theorem dX5_doTask_5 : decode cX5_doTask 5 = .ok (.iload_n 1, 1) := by decide +kernel
theorem dX5_doTask_6 : decode cX5_doTask 6 = .ok (.iconst (-1), 1) := by decide +kernel
theorem dX5_doTask_7 : decode cX5_doTask 7 = .ok (.if_icmp .ne 5, 3) := by decide +kernel
theorem dX5_doTask_10 : decode cX5_doTask 10 = .ok (.iconst 1, 1) := by decide +kernel
theorem dX5_doTask_11 : decode cX5_doTask 11 = .ok (.ireturn, 1) := by decide +kernel
theorem dX5_doTask_12 : decode cX5_doTask 12 = .ok (.aload_n 0, 1) := by decide +kernel
theorem dX5_doTask_13 : decode cX5_doTask 13 = .ok (.getfield 25, 3) := by decide +kernel
theorem dX5_doTask_16 : decode cX5_doTask 16 = .ok (.iload_n 1, 1) := by decide +kernel
theorem dX5_doTask_17 : decode cX5_doTask 17 = .ok (.aaload, 1) := by decide +kernel
theorem dX5_doTask_18 : decode cX5_doTask 18 = .ok (.astore_n 2, 1) := by decide +kernel
theorem dX5_doTask_19 : decode cX5_doTask 19 = .ok (.aload_n 2, 1) := by decide +kernel
theorem dX5_doTask_20 : decode cX5_doTask 20 = .ok (.invokevirtual 216, 3) := by decide +kernel
theorem dX5_doTask_23 : decode cX5_doTask 23 = .ok (.istore_n 3, 1) := by decide +kernel
theorem dX5_doTask_24 : decode cX5_doTask 24 = .ok (.aload_n 2, 1) := by decide +kernel
theorem dX5_doTask_25 : decode cX5_doTask 25 = .ok (.invokevirtual 219, 3) := by decide +kernel
theorem dX5_doTask_28 : decode cX5_doTask 28 = .ok (.istore 4, 2) := by decide +kernel
theorem dX5_doTask_30 : decode cX5_doTask 30 = .ok (.aload_n 2, 1) := by decide +kernel
theorem dX5_doTask_31 : decode cX5_doTask 31 = .ok (.invokevirtual 213, 3) := by decide +kernel
theorem dX5_doTask_34 : decode cX5_doTask 34 = .ok (.iconst 1, 1) := by decide +kernel
theorem dX5_doTask_35 : decode cX5_doTask 35 = .ok (.if_icmp .ne 7, 3) := by decide +kernel
theorem dX5_doTask_38 : decode cX5_doTask 38 = .ok (.iconst 1, 1) := by decide +kernel
theorem dX5_doTask_39 : decode cX5_doTask 39 = .ok (.goto 4, 3) := by decide +kernel
theorem dX5_doTask_42 : decode cX5_doTask 42 = .ok (.iconst 0, 1) := by decide +kernel
theorem dX5_doTask_43 : decode cX5_doTask 43 = .ok (.istore 5, 2) := by decide +kernel
theorem dX5_doTask_45 : decode cX5_doTask 45 = .ok (.iload 5, 2) := by decide +kernel
theorem dX5_doTask_47 : decode cX5_doTask 47 = .ok (.ifCond .eq 15, 3) := by decide +kernel
theorem dX5_doTask_50 : decode cX5_doTask 50 = .ok (.aload_n 0, 1) := by decide +kernel
theorem dX5_doTask_51 : decode cX5_doTask 51 = .ok (.getfield 58, 3) := by decide +kernel
theorem dX5_doTask_54 : decode cX5_doTask 54 = .ok (.iload_n 3, 1) := by decide +kernel
theorem dX5_doTask_55 : decode cX5_doTask 55 = .ok (.invokevirtual 265, 3) := by decide +kernel
theorem dX5_doTask_58 : decode cX5_doTask 58 = .ok (.iconst (-1), 1) := by decide +kernel
theorem dX5_doTask_59 : decode cX5_doTask 59 = .ok (.if_icmp .eq 7, 3) := by decide +kernel
theorem dX5_doTask_62 : decode cX5_doTask 62 = .ok (.iconst 1, 1) := by decide +kernel
theorem dX5_doTask_63 : decode cX5_doTask 63 = .ok (.goto 4, 3) := by decide +kernel
theorem dX5_doTask_66 : decode cX5_doTask 66 = .ok (.iconst 0, 1) := by decide +kernel
theorem dX5_doTask_67 : decode cX5_doTask 67 = .ok (.istore 6, 2) := by decide +kernel
theorem dX5_doTask_69 : decode cX5_doTask 69 = .ok (.iload 6, 2) := by decide +kernel
theorem dX5_doTask_71 : decode cX5_doTask 71 = .ok (.ifCond .eq 14, 3) := by decide +kernel
theorem dX5_doTask_74 : decode cX5_doTask 74 = .ok (.aload_n 0, 1) := by decide +kernel
theorem dX5_doTask_75 : decode cX5_doTask 75 = .ok (.getfield 73, 3) := by decide +kernel
theorem dX5_doTask_78 : decode cX5_doTask 78 = .ok (.bipush 50, 2) := by decide +kernel
theorem dX5_doTask_80 : decode cX5_doTask 80 = .ok (.if_icmp .lt 5, 3) := by decide +kernel
theorem dX5_doTask_83 : decode cX5_doTask 83 = .ok (.iconst 0, 1) := by decide +kernel
theorem dX5_doTask_84 : decode cX5_doTask 84 = .ok (.ireturn, 1) := by decide +kernel
theorem dX5_doTask_85 : decode cX5_doTask 85 = .ok (.aload_n 2, 1) := by decide +kernel
theorem dX5_doTask_86 : decode cX5_doTask 86 = .ok (.invokevirtual 222, 3) := by decide +kernel
theorem dX5_doTask_89 : decode cX5_doTask 89 = .ok (.iload 5, 2) := by decide +kernel
theorem dX5_doTask_91 : decode cX5_doTask 91 = .ok (.ifCond .eq 11, 3) := by decide +kernel
theorem dX5_doTask_94 : decode cX5_doTask 94 = .ok (.aload_n 0, 1) := by decide +kernel
theorem dX5_doTask_95 : decode cX5_doTask 95 = .ok (.iload_n 3, 1) := by decide +kernel
theorem dX5_doTask_96 : decode cX5_doTask 96 = .ok (.invokevirtual 268, 3) := by decide +kernel
theorem dX5_doTask_99 : decode cX5_doTask 99 = .ok (.goto 15, 3) := by decide +kernel
theorem dX5_doTask_102 : decode cX5_doTask 102 = .ok (.aload_n 0, 1) := by decide +kernel
theorem dX5_doTask_103 : decode cX5_doTask 103 = .ok (.iload_n 3, 1) := by decide +kernel
theorem dX5_doTask_104 : decode cX5_doTask 104 = .ok (.iload 4, 2) := by decide +kernel
theorem dX5_doTask_106 : decode cX5_doTask 106 = .ok (.iconst 1, 1) := by decide +kernel
theorem dX5_doTask_107 : decode cX5_doTask 107 = .ok (.invokevirtual 225, 3) := by decide +kernel
theorem dX5_doTask_110 : decode cX5_doTask 110 = .ok (.aload_n 0, 1) := by decide +kernel
theorem dX5_doTask_111 : decode cX5_doTask 111 = .ok (.invokevirtual 228, 3) := by decide +kernel
theorem dX5_doTask_114 : decode cX5_doTask 114 = .ok (.iconst 1, 1) := by decide +kernel
theorem dX5_doTask_115 : decode cX5_doTask 115 = .ok (.ireturn, 1) := by decide +kernel
theorem dX5_sourceOfNextTask_0 : decode cX5_sourceOfNextTask 0 = .ok (.aload_n 0, 1) := by decide +kernel
theorem dX5_sourceOfNextTask_1 : decode cX5_sourceOfNextTask 1 = .ok (.getfield 25, 3) := by decide +kernel
theorem dX5_sourceOfNextTask_4 : decode cX5_sourceOfNextTask 4 = .ok (.aload_n 0, 1) := by decide +kernel
theorem dX5_sourceOfNextTask_5 : decode cX5_sourceOfNextTask 5 = .ok (.getfield 62, 3) := by decide +kernel
theorem dX5_sourceOfNextTask_8 : decode cX5_sourceOfNextTask 8 = .ok (.aaload, 1) := by decide +kernel
theorem dX5_sourceOfNextTask_9 : decode cX5_sourceOfNextTask 9 = .ok (.invokevirtual 148, 3) := by decide +kernel
theorem dX5_sourceOfNextTask_12 : decode cX5_sourceOfNextTask 12 = .ok (.ifCond .le 8, 3) := by decide +kernel
theorem dX5_sourceOfNextTask_15 : decode cX5_sourceOfNextTask 15 = .ok (.aload_n 0, 1) := by decide +kernel
theorem dX5_sourceOfNextTask_16 : decode cX5_sourceOfNextTask 16 = .ok (.getfield 62, 3) := by decide +kernel
theorem dX5_sourceOfNextTask_19 : decode cX5_sourceOfNextTask 19 = .ok (.ireturn, 1) := by decide +kernel
theorem dX5_sourceOfNextTask_20 : decode cX5_sourceOfNextTask 20 = .ok (.iconst 0, 1) := by decide +kernel
theorem dX5_sourceOfNextTask_21 : decode cX5_sourceOfNextTask 21 = .ok (.istore_n 1, 1) := by decide +kernel
theorem dX5_sourceOfNextTask_22 : decode cX5_sourceOfNextTask 22 = .ok (.iload_n 1, 1) := by decide +kernel
theorem dX5_sourceOfNextTask_23 : decode cX5_sourceOfNextTask 23 = .ok (.iconst 3, 1) := by decide +kernel
theorem dX5_sourceOfNextTask_24 : decode cX5_sourceOfNextTask 24 = .ok (.if_icmp .ge 23, 3) := by decide +kernel
theorem dX5_sourceOfNextTask_27 : decode cX5_sourceOfNextTask 27 = .ok (.aload_n 0, 1) := by decide +kernel
theorem dX5_sourceOfNextTask_28 : decode cX5_sourceOfNextTask 28 = .ok (.getfield 25, 3) := by decide +kernel
theorem dX5_sourceOfNextTask_31 : decode cX5_sourceOfNextTask 31 = .ok (.iload_n 1, 1) := by decide +kernel
theorem dX5_sourceOfNextTask_32 : decode cX5_sourceOfNextTask 32 = .ok (.aaload, 1) := by decide +kernel
theorem dX5_sourceOfNextTask_33 : decode cX5_sourceOfNextTask 33 = .ok (.invokevirtual 148, 3) := by decide +kernel
theorem dX5_sourceOfNextTask_36 : decode cX5_sourceOfNextTask 36 = .ok (.ifCond .le 5, 3) := by decide +kernel
theorem dX5_sourceOfNextTask_39 : decode cX5_sourceOfNextTask 39 = .ok (.iload_n 1, 1) := by decide +kernel
theorem dX5_sourceOfNextTask_40 : decode cX5_sourceOfNextTask 40 = .ok (.ireturn, 1) := by decide +kernel
theorem dX5_sourceOfNextTask_41 : decode cX5_sourceOfNextTask 41 = .ok (.iinc 1 1, 3) := by decide +kernel
theorem dX5_sourceOfNextTask_44 : decode cX5_sourceOfNextTask 44 = .ok (.goto (-22), 3) := by decide +kernel
theorem dX5_sourceOfNextTask_47 : decode cX5_sourceOfNextTask 47 = .ok (.iconst (-1), 1) := by decide +kernel
theorem dX5_sourceOfNextTask_48 : decode cX5_sourceOfNextTask 48 = .ok (.ireturn, 1) := by decide +kernel
theorem dX5_doTimer_0 : decode cX5_doTimer 0 = .ok (.aload_n 0, 1) := by decide +kernel
theorem dX5_doTimer_1 : decode cX5_doTimer 1 = .ok (.getfield 58, 3) := by decide +kernel
theorem dX5_doTimer_4 : decode cX5_doTimer 4 = .ok (.iload_n 1, 1) := by decide +kernel
theorem dX5_doTimer_5 : decode cX5_doTimer 5 = .ok (.invokevirtual 265, 3) := by decide +kernel
theorem dX5_doTimer_8 : decode cX5_doTimer 8 = .ok (.istore_n 2, 1) := by decide +kernel
theorem dX5_doTimer_9 : decode cX5_doTimer 9 = .ok (.iload_n 2, 1) := by decide +kernel
theorem dX5_doTimer_10 : decode cX5_doTimer 10 = .ok (.iconst (-1), 1) := by decide +kernel
theorem dX5_doTimer_11 : decode cX5_doTimer 11 = .ok (.if_icmp .ne 4, 3) := by decide +kernel
theorem dX5_doTimer_14 : decode cX5_doTimer 14 = .ok (.return_, 1) := by decide +kernel
theorem dX5_doTimer_15 : decode cX5_doTimer 15 = .ok (.aload_n 0, 1) := by decide +kernel
theorem dX5_doTimer_16 : decode cX5_doTimer 16 = .ok (.getfield 58, 3) := by decide +kernel
theorem dX5_doTimer_19 : decode cX5_doTimer 19 = .ok (.iload_n 2, 1) := by decide +kernel
theorem dX5_doTimer_20 : decode cX5_doTimer 20 = .ok (.invokevirtual 271, 3) := by decide +kernel
theorem dX5_doTimer_23 : decode cX5_doTimer 23 = .ok (.istore_n 3, 1) := by decide +kernel
theorem dX5_doTimer_24 : decode cX5_doTimer 24 = .ok (.aload_n 0, 1) := by decide +kernel
theorem dX5_doTimer_25 : decode cX5_doTimer 25 = .ok (.getfield 58, 3) := by decide +kernel
theorem dX5_doTimer_28 : decode cX5_doTimer 28 = .ok (.iload_n 2, 1) := by decide +kernel
theorem dX5_doTimer_29 : decode cX5_doTimer 29 = .ok (.invokevirtual 274, 3) := by decide +kernel
theorem dX5_doTimer_32 : decode cX5_doTimer 32 = .ok (.istore 4, 2) := by decide +kernel
theorem dX5_doTimer_34 : decode cX5_doTimer 34 = .ok (.aload_n 0, 1) := by decide +kernel
theorem dX5_doTimer_35 : decode cX5_doTimer 35 = .ok (.aload_n 0, 1) := by decide +kernel
theorem dX5_doTimer_36 : decode cX5_doTimer 36 = .ok (.getfield 58, 3) := by decide +kernel
theorem dX5_doTimer_39 : decode cX5_doTimer 39 = .ok (.iload_n 2, 1) := by decide +kernel
theorem dX5_doTimer_40 : decode cX5_doTimer 40 = .ok (.invokevirtual 277, 3) := by decide +kernel
theorem dX5_doTimer_43 : decode cX5_doTimer 43 = .ok (.putfield 79, 3) := by decide +kernel
theorem dX5_doTimer_46 : decode cX5_doTimer 46 = .ok (.aload_n 0, 1) := by decide +kernel
theorem dX5_doTimer_47 : decode cX5_doTimer 47 = .ok (.getfield 58, 3) := by decide +kernel
theorem dX5_doTimer_50 : decode cX5_doTimer 50 = .ok (.iload_n 2, 1) := by decide +kernel
theorem dX5_doTimer_51 : decode cX5_doTimer 51 = .ok (.invokevirtual 280, 3) := by decide +kernel
theorem dX5_doTimer_54 : decode cX5_doTimer 54 = .ok (.ifCond .ne 11, 3) := by decide +kernel
theorem dX5_doTimer_57 : decode cX5_doTimer 57 = .ok (.aload_n 0, 1) := by decide +kernel
theorem dX5_doTimer_58 : decode cX5_doTimer 58 = .ok (.getfield 58, 3) := by decide +kernel
theorem dX5_doTimer_61 : decode cX5_doTimer 61 = .ok (.iload_n 1, 1) := by decide +kernel
theorem dX5_doTimer_62 : decode cX5_doTimer 62 = .ok (.invokevirtual 283, 3) := by decide +kernel
theorem dX5_doTimer_65 : decode cX5_doTimer 65 = .ok (.aload_n 0, 1) := by decide +kernel
theorem dX5_doTimer_66 : decode cX5_doTimer 66 = .ok (.iload_n 3, 1) := by decide +kernel
theorem dX5_doTimer_67 : decode cX5_doTimer 67 = .ok (.iload 4, 2) := by decide +kernel
theorem dX5_doTimer_69 : decode cX5_doTimer 69 = .ok (.iconst 1, 1) := by decide +kernel
theorem dX5_doTimer_70 : decode cX5_doTimer 70 = .ok (.invokevirtual 225, 3) := by decide +kernel
theorem dX5_doTimer_73 : decode cX5_doTimer 73 = .ok (.aload_n 0, 1) := by decide +kernel
theorem dX5_doTimer_74 : decode cX5_doTimer 74 = .ok (.invokevirtual 228, 3) := by decide +kernel
theorem dX5_doTimer_77 : decode cX5_doTimer 77 = .ok (.aload_n 0, 1) := by decide +kernel
theorem dX5_doTimer_78 : decode cX5_doTimer 78 = .ok (.iconst 0, 1) := by decide +kernel
theorem dX5_doTimer_79 : decode cX5_doTimer 79 = .ok (.putfield 79, 3) := by decide +kernel
theorem dX5_doTimer_82 : decode cX5_doTimer 82 = .ok (.aload_n 0, 1) := by decide +kernel
theorem dX5_doTimer_83 : decode cX5_doTimer 83 = .ok (.getfield 58, 3) := by decide +kernel
theorem dX5_doTimer_86 : decode cX5_doTimer 86 = .ok (.iload_n 1, 1) := by decide +kernel
theorem dX5_doTimer_87 : decode cX5_doTimer 87 = .ok (.aload_n 0, 1) := by decide +kernel
theorem dX5_doTimer_88 : decode cX5_doTimer 88 = .ok (.getfield 66, 3) := by decide +kernel
theorem dX5_doTimer_91 : decode cX5_doTimer 91 = .ok (.invokevirtual 286, 3) := by decide +kernel
theorem dX5_doTimer_94 : decode cX5_doTimer 94 = .ok (.return_, 1) := by decide +kernel
theorem dX5_doFrame_0 : decode cX5_doFrame 0 = .ok (.aload_n 0, 1) := by decide +kernel
theorem dX5_doFrame_1 : decode cX5_doFrame 1 = .ok (.getfield 73, 3) := by decide +kernel
theorem dX5_doFrame_4 : decode cX5_doFrame 4 = .ok (.bipush 50, 2) := by decide +kernel
theorem dX5_doFrame_6 : decode cX5_doFrame 6 = .ok (.if_icmp .lt 5, 3) := by decide +kernel
theorem dX5_doFrame_9 : decode cX5_doFrame 9 = .ok (.iconst 0, 1) := by decide +kernel
theorem dX5_doFrame_10 : decode cX5_doFrame 10 = .ok (.ireturn, 1) := by decide +kernel
theorem dX5_doFrame_11 : decode cX5_doFrame 11 = .ok (.aload_n 0, 1) := by decide +kernel
theorem dX5_doFrame_12 : decode cX5_doFrame 12 = .ok (.getfield 33, 3) := by decide +kernel
theorem dX5_doFrame_15 : decode cX5_doFrame 15 = .ok (.invokevirtual 216, 3) := by decide +kernel
theorem dX5_doFrame_18 : decode cX5_doFrame 18 = .ok (.istore_n 2, 1) := by decide +kernel
theorem dX5_doFrame_19 : decode cX5_doFrame 19 = .ok (.aload_n 0, 1) := by decide +kernel
theorem dX5_doFrame_20 : decode cX5_doFrame 20 = .ok (.getfield 33, 3) := by decide +kernel
theorem dX5_doFrame_23 : decode cX5_doFrame 23 = .ok (.invokevirtual 222, 3) := by decide +kernel
theorem dX5_doFrame_26 : decode cX5_doFrame 26 = .ok (.aload_n 0, 1) := by decide +kernel
theorem dX5_doFrame_27 : decode cX5_doFrame 27 = .ok (.iload_n 2, 1) := by decide +kernel
theorem dX5_doFrame_28 : decode cX5_doFrame 28 = .ok (.aload_n 0, 1) := by decide +kernel
theorem dX5_doFrame_29 : decode cX5_doFrame 29 = .ok (.getfield 66, 3) := by decide +kernel
theorem dX5_doFrame_32 : decode cX5_doFrame 32 = .ok (.iconst 1, 1) := by decide +kernel
theorem dX5_doFrame_33 : decode cX5_doFrame 33 = .ok (.invokevirtual 225, 3) := by decide +kernel
theorem dX5_doFrame_36 : decode cX5_doFrame 36 = .ok (.aload_n 0, 1) := by decide +kernel
theorem dX5_doFrame_37 : decode cX5_doFrame 37 = .ok (.invokevirtual 228, 3) := by decide +kernel
theorem dX5_doFrame_40 : decode cX5_doFrame 40 = .ok (.iload_n 1, 1) := by decide +kernel
theorem dX5_doFrame_41 : decode cX5_doFrame 41 = .ok (.ifCond .eq 8, 3) := by decide +kernel
theorem dX5_doFrame_44 : decode cX5_doFrame 44 = .ok (.aload_n 0, 1) := by decide +kernel
theorem dX5_doFrame_45 : decode cX5_doFrame 45 = .ok (.iconst 0, 1) := by decide +kernel
theorem dX5_doFrame_46 : decode cX5_doFrame 46 = .ok (.putfield 69, 3) := by decide +kernel
theorem dX5_doFrame_49 : decode cX5_doFrame 49 = .ok (.iconst 1, 1) := by decide +kernel
theorem dX5_doFrame_50 : decode cX5_doFrame 50 = .ok (.ireturn, 1) := by decide +kernel
theorem dX5_reportFailure_0 : decode cX5_reportFailure 0 = .ok (.aload_n 0, 1) := by decide +kernel
theorem dX5_reportFailure_1 : decode cX5_reportFailure 1 = .ok (.getfield 82, 3) := by decide +kernel
theorem dX5_reportFailure_4 : decode cX5_reportFailure 4 = .ok (.ifCond .eq 18, 3) := by decide +kernel
theorem dX5_reportFailure_7 : decode cX5_reportFailure 7 = .ok (.aload_n 0, 1) := by decide +kernel
theorem dX5_reportFailure_8 : decode cX5_reportFailure 8 = .ok (.getfield 43, 3) := by decide +kernel
theorem dX5_reportFailure_11 : decode cX5_reportFailure 11 = .ok (.sipush 10000, 3) := by decide +kernel
theorem dX5_reportFailure_14 : decode cX5_reportFailure 14 = .ok (.aload_n 0, 1) := by decide +kernel
theorem dX5_reportFailure_15 : decode cX5_reportFailure 15 = .ok (.getfield 88, 3) := by decide +kernel
theorem dX5_reportFailure_18 : decode cX5_reportFailure 18 = .ok (.iadd, 1) := by decide +kernel
theorem dX5_reportFailure_19 : decode cX5_reportFailure 19 = .ok (.invokevirtual 289, 3) := by decide +kernel
theorem dX5_reportFailure_22 : decode cX5_reportFailure 22 = .ok (.return_, 1) := by decide +kernel
theorem dX5_fail_0 : decode cX5_fail 0 = .ok (.aload_n 0, 1) := by decide +kernel
theorem dX5_fail_1 : decode cX5_fail 1 = .ok (.iconst 1, 1) := by decide +kernel
theorem dX5_fail_2 : decode cX5_fail 2 = .ok (.putfield 82, 3) := by decide +kernel
theorem dX5_fail_5 : decode cX5_fail 5 = .ok (.aload_n 0, 1) := by decide +kernel
theorem dX5_fail_6 : decode cX5_fail 6 = .ok (.iload_n 1, 1) := by decide +kernel
theorem dX5_fail_7 : decode cX5_fail 7 = .ok (.putfield 88, 3) := by decide +kernel
theorem dX5_fail_10 : decode cX5_fail 10 = .ok (.return_, 1) := by decide +kernel
theorem dX5_endWith_0 : decode cX5_endWith 0 = .ok (.aload_n 0, 1) := by decide +kernel
theorem dX5_endWith_1 : decode cX5_endWith 1 = .ok (.iload_n 2, 1) := by decide +kernel
theorem dX5_endWith_2 : decode cX5_endWith 2 = .ok (.putfield 85, 3) := by decide +kernel
theorem dX5_endWith_5 : decode cX5_endWith 5 = .ok (.aload_n 0, 1) := by decide +kernel
theorem dX5_endWith_6 : decode cX5_endWith 6 = .ok (.iload_n 1, 1) := by decide +kernel
theorem dX5_endWith_7 : decode cX5_endWith 7 = .ok (.putfield 88, 3) := by decide +kernel
theorem dX5_endWith_10 : decode cX5_endWith 10 = .ok (.return_, 1) := by decide +kernel
theorem dX5_countRun_0 : decode cX5_countRun 0 = .ok (.iload_n 1, 1) := by decide +kernel
theorem dX5_countRun_1 : decode cX5_countRun 1 = .ok (.iconst 1, 1) := by decide +kernel
theorem dX5_countRun_2 : decode cX5_countRun 2 = .ok (.if_icmp .ne 21, 3) := by decide +kernel
theorem dX5_countRun_5 : decode cX5_countRun 5 = .ok (.aload_n 0, 1) := by decide +kernel
theorem dX5_countRun_6 : decode cX5_countRun 6 = .ok (.dup, 1) := by decide +kernel
theorem dX5_countRun_7 : decode cX5_countRun 7 = .ok (.getfield 73, 3) := by decide +kernel
theorem dX5_countRun_10 : decode cX5_countRun 10 = .ok (.iconst 1, 1) := by decide +kernel
theorem dX5_countRun_11 : decode cX5_countRun 11 = .ok (.iadd, 1) := by decide +kernel
theorem dX5_countRun_12 : decode cX5_countRun 12 = .ok (.putfield 73, 3) := by decide +kernel
theorem dX5_countRun_15 : decode cX5_countRun 15 = .ok (.aload_n 0, 1) := by decide +kernel
theorem dX5_countRun_16 : decode cX5_countRun 16 = .ok (.iconst 0, 1) := by decide +kernel
theorem dX5_countRun_17 : decode cX5_countRun 17 = .ok (.putfield 76, 3) := by decide +kernel
theorem dX5_countRun_20 : decode cX5_countRun 20 = .ok (.goto 13, 3) := by decide +kernel
theorem dX5_countRun_23 : decode cX5_countRun 23 = .ok (.aload_n 0, 1) := by decide +kernel
theorem dX5_countRun_24 : decode cX5_countRun 24 = .ok (.dup, 1) := by decide +kernel
theorem dX5_countRun_25 : decode cX5_countRun 25 = .ok (.getfield 76, 3) := by decide +kernel
theorem dX5_countRun_28 : decode cX5_countRun 28 = .ok (.iconst 1, 1) := by decide +kernel
theorem dX5_countRun_29 : decode cX5_countRun 29 = .ok (.iadd, 1) := by decide +kernel
theorem dX5_countRun_30 : decode cX5_countRun 30 = .ok (.putfield 76, 3) := by decide +kernel
theorem dX5_countRun_33 : decode cX5_countRun 33 = .ok (.return_, 1) := by decide +kernel
theorem dX5_run_0 : decode cX5_run 0 = .ok (.aload_n 0, 1) := by decide +kernel
theorem dX5_run_1 : decode cX5_run 1 = .ok (.iload_n 3, 1) := by decide +kernel
theorem dX5_run_2 : decode cX5_run 2 = .ok (.invokevirtual 292, 3) := by decide +kernel
theorem dX5_run_5 : decode cX5_run 5 = .ok (.aload_n 0, 1) := by decide +kernel
theorem dX5_run_6 : decode cX5_run 6 = .ok (.iconst 0, 1) := by decide +kernel
theorem dX5_run_7 : decode cX5_run 7 = .ok (.putfield 82, 3) := by decide +kernel
theorem dX5_run_10 : decode cX5_run 10 = .ok (.aload_n 0, 1) := by decide +kernel
theorem dX5_run_11 : decode cX5_run 11 = .ok (.iconst 0, 1) := by decide +kernel
theorem dX5_run_12 : decode cX5_run 12 = .ok (.iconst 0, 1) := by decide +kernel
theorem dX5_run_13 : decode cX5_run 13 = .ok (.invokevirtual 295, 3) := by decide +kernel
theorem dX5_run_16 : decode cX5_run 16 = .ok (.aload_n 0, 1) := by decide +kernel
theorem dX5_run_17 : decode cX5_run 17 = .ok (.getfield 12, 3) := by decide +kernel
theorem dX5_run_20 : decode cX5_run 20 = .ok (.iload_n 1, 1) := by decide +kernel
theorem dX5_run_21 : decode cX5_run 21 = .ok (.invokevirtual 106, 3) := by decide +kernel
theorem dX5_run_24 : decode cX5_run 24 = .ok (.istore 4, 2) := by decide +kernel
theorem dX5_run_26 : decode cX5_run 26 = .ok (.iconst 0, 1) := by decide +kernel
theorem dX5_run_27 : decode cX5_run 27 = .ok (.istore 5, 2) := by decide +kernel
theorem dX5_run_29 : decode cX5_run 29 = .ok (.iload 5, 2) := by decide +kernel
theorem dX5_run_31 : decode cX5_run 31 = .ok (.iload 4, 2) := by decide +kernel
theorem dX5_run_33 : decode cX5_run 33 = .ok (.if_icmp .ge 52, 3) := by decide +kernel
theorem dX5_run_36 : decode cX5_run 36 = .ok (.aload_n 0, 1) := by decide +kernel
theorem dX5_run_37 : decode cX5_run 37 = .ok (.getfield 82, 3) := by decide +kernel
theorem dX5_run_40 : decode cX5_run 40 = .ok (.ifCond .ne 45, 3) := by decide +kernel
theorem dX5_run_43 : decode cX5_run 43 = .ok (.aload_n 0, 1) := by decide +kernel
theorem dX5_run_44 : decode cX5_run 44 = .ok (.aload_n 0, 1) := by decide +kernel
theorem dX5_run_45 : decode cX5_run 45 = .ok (.getfield 12, 3) := by decide +kernel
theorem dX5_run_48 : decode cX5_run 48 = .ok (.iload_n 1, 1) := by decide +kernel
theorem dX5_run_49 : decode cX5_run 49 = .ok (.iload 5, 2) := by decide +kernel
theorem dX5_run_51 : decode cX5_run 51 = .ok (.invokevirtual 299, 3) := by decide +kernel
theorem dX5_run_54 : decode cX5_run 54 = .ok (.aload_n 0, 1) := by decide +kernel
theorem dX5_run_55 : decode cX5_run 55 = .ok (.getfield 12, 3) := by decide +kernel
theorem dX5_run_58 : decode cX5_run 58 = .ok (.iload_n 1, 1) := by decide +kernel
theorem dX5_run_59 : decode cX5_run 59 = .ok (.iload 5, 2) := by decide +kernel
theorem dX5_run_61 : decode cX5_run 61 = .ok (.invokevirtual 303, 3) := by decide +kernel
theorem dX5_run_64 : decode cX5_run 64 = .ok (.aload_n 0, 1) := by decide +kernel
theorem dX5_run_65 : decode cX5_run 65 = .ok (.getfield 12, 3) := by decide +kernel
theorem dX5_run_68 : decode cX5_run 68 = .ok (.iload_n 1, 1) := by decide +kernel
theorem dX5_run_69 : decode cX5_run 69 = .ok (.iload 5, 2) := by decide +kernel
theorem dX5_run_71 : decode cX5_run 71 = .ok (.invokevirtual 306, 3) := by decide +kernel
theorem dX5_run_74 : decode cX5_run 74 = .ok (.iload_n 2, 1) := by decide +kernel
theorem dX5_run_75 : decode cX5_run 75 = .ok (.iload_n 3, 1) := by decide +kernel
theorem dX5_run_76 : decode cX5_run 76 = .ok (.invokevirtual 309, 3) := by decide +kernel
theorem dX5_run_79 : decode cX5_run 79 = .ok (.iinc 5 1, 3) := by decide +kernel
theorem dX5_run_82 : decode cX5_run 82 = .ok (.goto (-53), 3) := by decide +kernel
theorem dX5_run_85 : decode cX5_run 85 = .ok (.return_, 1) := by decide +kernel
theorem dX5_doStep_0 : decode cX5_doStep 0 = .ok (.iload_n 1, 1) := by decide +kernel
theorem dX5_doStep_1 : decode cX5_doStep 1 = .ok (.tableswitch 307 0 15 #[79, 100, 111, 121, 133, 145, 156, 174, 186, 199, 210, 218, 246, 268, 284, 292], 79) := by decide +kernel
theorem dX5_doStep_80 : decode cX5_doStep 80 = .ok (.aload_n 0, 1) := by decide +kernel
theorem dX5_doStep_81 : decode cX5_doStep 81 = .ok (.getfield 39, 3) := by decide +kernel
theorem dX5_doStep_84 : decode cX5_doStep 84 = .ok (.iload_n 3, 1) := by decide +kernel
theorem dX5_doStep_85 : decode cX5_doStep 85 = .ok (.iconst 1, 1) := by decide +kernel
theorem dX5_doStep_86 : decode cX5_doStep 86 = .ok (.if_icmp .ne 8, 3) := by decide +kernel
theorem dX5_doStep_89 : decode cX5_doStep 89 = .ok (.iload 4, 2) := by decide +kernel
theorem dX5_doStep_91 : decode cX5_doStep 91 = .ok (.goto 4, 3) := by decide +kernel
theorem dX5_doStep_94 : decode cX5_doStep 94 = .ok (.iload_n 2, 1) := by decide +kernel
theorem dX5_doStep_95 : decode cX5_doStep 95 = .ok (.invokevirtual 289, 3) := by decide +kernel
theorem dX5_doStep_98 : decode cX5_doStep 98 = .ok (.goto 210, 3) := by decide +kernel
theorem dX5_doStep_101 : decode cX5_doStep 101 = .ok (.aload_n 0, 1) := by decide +kernel
theorem dX5_doStep_102 : decode cX5_doStep 102 = .ok (.iload_n 3, 1) := by decide +kernel
theorem dX5_doStep_103 : decode cX5_doStep 103 = .ok (.iload_n 2, 1) := by decide +kernel
theorem dX5_doStep_104 : decode cX5_doStep 104 = .ok (.iload 4, 2) := by decide +kernel
theorem dX5_doStep_106 : decode cX5_doStep 106 = .ok (.invokevirtual 313, 3) := by decide +kernel
theorem dX5_doStep_109 : decode cX5_doStep 109 = .ok (.goto 199, 3) := by decide +kernel
theorem dX5_doStep_112 : decode cX5_doStep 112 = .ok (.aload_n 0, 1) := by decide +kernel
theorem dX5_doStep_113 : decode cX5_doStep 113 = .ok (.iload_n 2, 1) := by decide +kernel
theorem dX5_doStep_114 : decode cX5_doStep 114 = .ok (.iload 4, 2) := by decide +kernel
theorem dX5_doStep_116 : decode cX5_doStep 116 = .ok (.invokevirtual 316, 3) := by decide +kernel
theorem dX5_doStep_119 : decode cX5_doStep 119 = .ok (.goto 189, 3) := by decide +kernel
theorem dX5_doStep_122 : decode cX5_doStep 122 = .ok (.aload_n 0, 1) := by decide +kernel
theorem dX5_doStep_123 : decode cX5_doStep 123 = .ok (.iload_n 2, 1) := by decide +kernel
theorem dX5_doStep_124 : decode cX5_doStep 124 = .ok (.iload 4, 2) := by decide +kernel
theorem dX5_doStep_126 : decode cX5_doStep 126 = .ok (.iload_n 3, 1) := by decide +kernel
theorem dX5_doStep_127 : decode cX5_doStep 127 = .ok (.iconst 0, 1) := by decide +kernel
theorem dX5_doStep_128 : decode cX5_doStep 128 = .ok (.invokevirtual 319, 3) := by decide +kernel
theorem dX5_doStep_131 : decode cX5_doStep 131 = .ok (.goto 177, 3) := by decide +kernel
theorem dX5_doStep_134 : decode cX5_doStep 134 = .ok (.aload_n 0, 1) := by decide +kernel
theorem dX5_doStep_135 : decode cX5_doStep 135 = .ok (.iload_n 2, 1) := by decide +kernel
theorem dX5_doStep_136 : decode cX5_doStep 136 = .ok (.iload 4, 2) := by decide +kernel
theorem dX5_doStep_138 : decode cX5_doStep 138 = .ok (.iload_n 3, 1) := by decide +kernel
theorem dX5_doStep_139 : decode cX5_doStep 139 = .ok (.iconst 1, 1) := by decide +kernel
theorem dX5_doStep_140 : decode cX5_doStep 140 = .ok (.invokevirtual 319, 3) := by decide +kernel
theorem dX5_doStep_143 : decode cX5_doStep 143 = .ok (.goto 165, 3) := by decide +kernel
theorem dX5_doStep_146 : decode cX5_doStep 146 = .ok (.aload_n 0, 1) := by decide +kernel
theorem dX5_doStep_147 : decode cX5_doStep 147 = .ok (.getfield 58, 3) := by decide +kernel
theorem dX5_doStep_150 : decode cX5_doStep 150 = .ok (.iload_n 2, 1) := by decide +kernel
theorem dX5_doStep_151 : decode cX5_doStep 151 = .ok (.invokevirtual 283, 3) := by decide +kernel
theorem dX5_doStep_154 : decode cX5_doStep 154 = .ok (.goto 154, 3) := by decide +kernel
theorem dX5_doStep_157 : decode cX5_doStep 157 = .ok (.aload_n 0, 1) := by decide +kernel
theorem dX5_doStep_158 : decode cX5_doStep 158 = .ok (.iload_n 3, 1) := by decide +kernel
theorem dX5_doStep_159 : decode cX5_doStep 159 = .ok (.iconst 1, 1) := by decide +kernel
theorem dX5_doStep_160 : decode cX5_doStep 160 = .ok (.if_icmp .ne 8, 3) := by decide +kernel
theorem dX5_doStep_163 : decode cX5_doStep 163 = .ok (.iload 4, 2) := by decide +kernel
theorem dX5_doStep_165 : decode cX5_doStep 165 = .ok (.goto 4, 3) := by decide +kernel
theorem dX5_doStep_168 : decode cX5_doStep 168 = .ok (.iload_n 2, 1) := by decide +kernel
theorem dX5_doStep_169 : decode cX5_doStep 169 = .ok (.invokevirtual 323, 3) := by decide +kernel
theorem dX5_doStep_172 : decode cX5_doStep 172 = .ok (.goto 136, 3) := by decide +kernel
theorem dX5_doStep_175 : decode cX5_doStep 175 = .ok (.aload_n 0, 1) := by decide +kernel
theorem dX5_doStep_176 : decode cX5_doStep 176 = .ok (.iload_n 2, 1) := by decide +kernel
theorem dX5_doStep_177 : decode cX5_doStep 177 = .ok (.iload 4, 2) := by decide +kernel
theorem dX5_doStep_179 : decode cX5_doStep 179 = .ok (.iload 5, 2) := by decide +kernel
theorem dX5_doStep_181 : decode cX5_doStep 181 = .ok (.invokevirtual 326, 3) := by decide +kernel
theorem dX5_doStep_184 : decode cX5_doStep 184 = .ok (.goto 124, 3) := by decide +kernel
theorem dX5_doStep_187 : decode cX5_doStep 187 = .ok (.aload_n 0, 1) := by decide +kernel
theorem dX5_doStep_188 : decode cX5_doStep 188 = .ok (.iload_n 2, 1) := by decide +kernel
theorem dX5_doStep_189 : decode cX5_doStep 189 = .ok (.iload_n 3, 1) := by decide +kernel
theorem dX5_doStep_190 : decode cX5_doStep 190 = .ok (.iload 4, 2) := by decide +kernel
theorem dX5_doStep_192 : decode cX5_doStep 192 = .ok (.iload 5, 2) := by decide +kernel
theorem dX5_doStep_194 : decode cX5_doStep 194 = .ok (.invokevirtual 329, 3) := by decide +kernel
theorem dX5_doStep_197 : decode cX5_doStep 197 = .ok (.goto 111, 3) := by decide +kernel
theorem dX5_doStep_200 : decode cX5_doStep 200 = .ok (.aload_n 0, 1) := by decide +kernel
theorem dX5_doStep_201 : decode cX5_doStep 201 = .ok (.iload_n 2, 1) := by decide +kernel
theorem dX5_doStep_202 : decode cX5_doStep 202 = .ok (.iload_n 3, 1) := by decide +kernel
theorem dX5_doStep_203 : decode cX5_doStep 203 = .ok (.iload 4, 2) := by decide +kernel
theorem dX5_doStep_205 : decode cX5_doStep 205 = .ok (.invokevirtual 332, 3) := by decide +kernel
theorem dX5_doStep_208 : decode cX5_doStep 208 = .ok (.goto 100, 3) := by decide +kernel
theorem dX5_doStep_211 : decode cX5_doStep 211 = .ok (.aload_n 0, 1) := by decide +kernel
theorem dX5_doStep_212 : decode cX5_doStep 212 = .ok (.iload_n 2, 1) := by decide +kernel
theorem dX5_doStep_213 : decode cX5_doStep 213 = .ok (.invokevirtual 335, 3) := by decide +kernel
theorem dX5_doStep_216 : decode cX5_doStep 216 = .ok (.goto 92, 3) := by decide +kernel
theorem dX5_doStep_219 : decode cX5_doStep 219 = .ok (.aload_n 0, 1) := by decide +kernel
theorem dX5_doStep_220 : decode cX5_doStep 220 = .ok (.getfield 51, 3) := by decide +kernel
theorem dX5_doStep_223 : decode cX5_doStep 223 = .ok (.aload_n 0, 1) := by decide +kernel
theorem dX5_doStep_224 : decode cX5_doStep 224 = .ok (.getfield 16, 3) := by decide +kernel
theorem dX5_doStep_227 : decode cX5_doStep 227 = .ok (.iload_n 2, 1) := by decide +kernel
theorem dX5_doStep_228 : decode cX5_doStep 228 = .ok (.iaload, 1) := by decide +kernel
theorem dX5_doStep_229 : decode cX5_doStep 229 = .ok (.iload_n 3, 1) := by decide +kernel
theorem dX5_doStep_230 : decode cX5_doStep 230 = .ok (.iconst 1, 1) := by decide +kernel
theorem dX5_doStep_231 : decode cX5_doStep 231 = .ok (.if_icmp .ne 7, 3) := by decide +kernel
theorem dX5_doStep_234 : decode cX5_doStep 234 = .ok (.iconst 2, 1) := by decide +kernel
theorem dX5_doStep_235 : decode cX5_doStep 235 = .ok (.goto 4, 3) := by decide +kernel
theorem dX5_doStep_238 : decode cX5_doStep 238 = .ok (.iconst 1, 1) := by decide +kernel
theorem dX5_doStep_239 : decode cX5_doStep 239 = .ok (.iload 4, 2) := by decide +kernel
theorem dX5_doStep_241 : decode cX5_doStep 241 = .ok (.invokevirtual 255, 3) := by decide +kernel
theorem dX5_doStep_244 : decode cX5_doStep 244 = .ok (.goto 64, 3) := by decide +kernel
theorem dX5_doStep_247 : decode cX5_doStep 247 = .ok (.aload_n 0, 1) := by decide +kernel
theorem dX5_doStep_248 : decode cX5_doStep 248 = .ok (.getfield 51, 3) := by decide +kernel
theorem dX5_doStep_251 : decode cX5_doStep 251 = .ok (.aload_n 0, 1) := by decide +kernel
theorem dX5_doStep_252 : decode cX5_doStep 252 = .ok (.getfield 16, 3) := by decide +kernel
theorem dX5_doStep_255 : decode cX5_doStep 255 = .ok (.iload_n 2, 1) := by decide +kernel
theorem dX5_doStep_256 : decode cX5_doStep 256 = .ok (.iaload, 1) := by decide +kernel
theorem dX5_doStep_257 : decode cX5_doStep 257 = .ok (.aload_n 0, 1) := by decide +kernel
theorem dX5_doStep_258 : decode cX5_doStep 258 = .ok (.getfield 16, 3) := by decide +kernel
theorem dX5_doStep_261 : decode cX5_doStep 261 = .ok (.iload_n 3, 1) := by decide +kernel
theorem dX5_doStep_262 : decode cX5_doStep 262 = .ok (.iaload, 1) := by decide +kernel
theorem dX5_doStep_263 : decode cX5_doStep 263 = .ok (.invokevirtual 258, 3) := by decide +kernel
theorem dX5_doStep_266 : decode cX5_doStep 266 = .ok (.goto 42, 3) := by decide +kernel
theorem dX5_doStep_269 : decode cX5_doStep 269 = .ok (.aload_n 0, 1) := by decide +kernel
theorem dX5_doStep_270 : decode cX5_doStep 270 = .ok (.iload_n 2, 1) := by decide +kernel
theorem dX5_doStep_271 : decode cX5_doStep 271 = .ok (.iload_n 3, 1) := by decide +kernel
theorem dX5_doStep_272 : decode cX5_doStep 272 = .ok (.bipush 16, 2) := by decide +kernel
theorem dX5_doStep_274 : decode cX5_doStep 274 = .ok (.irem, 1) := by decide +kernel
theorem dX5_doStep_275 : decode cX5_doStep 275 = .ok (.iload_n 3, 1) := by decide +kernel
theorem dX5_doStep_276 : decode cX5_doStep 276 = .ok (.bipush 16, 2) := by decide +kernel
theorem dX5_doStep_278 : decode cX5_doStep 278 = .ok (.idiv, 1) := by decide +kernel
theorem dX5_doStep_279 : decode cX5_doStep 279 = .ok (.invokevirtual 338, 3) := by decide +kernel
theorem dX5_doStep_282 : decode cX5_doStep 282 = .ok (.goto 26, 3) := by decide +kernel
theorem dX5_doStep_285 : decode cX5_doStep 285 = .ok (.aload_n 0, 1) := by decide +kernel
theorem dX5_doStep_286 : decode cX5_doStep 286 = .ok (.iload_n 2, 1) := by decide +kernel
theorem dX5_doStep_287 : decode cX5_doStep 287 = .ok (.invokevirtual 341, 3) := by decide +kernel
theorem dX5_doStep_290 : decode cX5_doStep 290 = .ok (.goto 18, 3) := by decide +kernel
theorem dX5_doStep_293 : decode cX5_doStep 293 = .ok (.aload_n 0, 1) := by decide +kernel
theorem dX5_doStep_294 : decode cX5_doStep 294 = .ok (.getfield 16, 3) := by decide +kernel
theorem dX5_doStep_297 : decode cX5_doStep 297 = .ok (.iload_n 2, 1) := by decide +kernel
theorem dX5_doStep_298 : decode cX5_doStep 298 = .ok (.aload_n 0, 1) := by decide +kernel
theorem dX5_doStep_299 : decode cX5_doStep 299 = .ok (.getfield 16, 3) := by decide +kernel
theorem dX5_doStep_302 : decode cX5_doStep 302 = .ok (.iload_n 3, 1) := by decide +kernel
theorem dX5_doStep_303 : decode cX5_doStep 303 = .ok (.iaload, 1) := by decide +kernel
theorem dX5_doStep_304 : decode cX5_doStep 304 = .ok (.iastore, 1) := by decide +kernel
theorem dX5_doStep_305 : decode cX5_doStep 305 = .ok (.goto 3, 3) := by decide +kernel
theorem dX5_doStep_308 : decode cX5_doStep 308 = .ok (.return_, 1) := by decide +kernel
theorem dX5_postStep_0 : decode cX5_postStep 0 = .ok (.aload_n 0, 1) := by decide +kernel
theorem dX5_postStep_1 : decode cX5_postStep 1 = .ok (.invokevirtual 129, 3) := by decide +kernel
theorem dX5_postStep_4 : decode cX5_postStep 4 = .ok (.bipush 40, 2) := by decide +kernel
theorem dX5_postStep_6 : decode cX5_postStep 6 = .ok (.if_icmp .lt 12, 3) := by decide +kernel
theorem dX5_postStep_9 : decode cX5_postStep 9 = .ok (.aload_n 0, 1) := by decide +kernel
theorem dX5_postStep_10 : decode cX5_postStep 10 = .ok (.bipush (-2), 2) := by decide +kernel
theorem dX5_postStep_12 : decode cX5_postStep 12 = .ok (.invokevirtual 323, 3) := by decide +kernel
theorem dX5_postStep_15 : decode cX5_postStep 15 = .ok (.goto 15, 3) := by decide +kernel
theorem dX5_postStep_18 : decode cX5_postStep 18 = .ok (.aload_n 0, 1) := by decide +kernel
theorem dX5_postStep_19 : decode cX5_postStep 19 = .ok (.getfield 25, 3) := by decide +kernel
theorem dX5_postStep_22 : decode cX5_postStep 22 = .ok (.iload_n 1, 1) := by decide +kernel
theorem dX5_postStep_23 : decode cX5_postStep 23 = .ok (.aaload, 1) := by decide +kernel
theorem dX5_postStep_24 : decode cX5_postStep 24 = .ok (.iconst 0, 1) := by decide +kernel
theorem dX5_postStep_25 : decode cX5_postStep 25 = .ok (.iload_n 2, 1) := by decide +kernel
theorem dX5_postStep_26 : decode cX5_postStep 26 = .ok (.iload_n 3, 1) := by decide +kernel
theorem dX5_postStep_27 : decode cX5_postStep 27 = .ok (.invokevirtual 135, 3) := by decide +kernel
theorem dX5_postStep_30 : decode cX5_postStep 30 = .ok (.return_, 1) := by decide +kernel
theorem dX5_microStep_0 : decode cX5_microStep 0 = .ok (.aload_n 0, 1) := by decide +kernel
theorem dX5_microStep_1 : decode cX5_microStep 1 = .ok (.getfield 29, 3) := by decide +kernel
theorem dX5_microStep_4 : decode cX5_microStep 4 = .ok (.invokevirtual 148, 3) := by decide +kernel
theorem dX5_microStep_7 : decode cX5_microStep 7 = .ok (.bipush 60, 2) := by decide +kernel
theorem dX5_microStep_9 : decode cX5_microStep 9 = .ok (.if_icmp .lt 12, 3) := by decide +kernel
theorem dX5_microStep_12 : decode cX5_microStep 12 = .ok (.aload_n 0, 1) := by decide +kernel
theorem dX5_microStep_13 : decode cX5_microStep 13 = .ok (.bipush (-2), 2) := by decide +kernel
theorem dX5_microStep_15 : decode cX5_microStep 15 = .ok (.invokevirtual 323, 3) := by decide +kernel
theorem dX5_microStep_18 : decode cX5_microStep 18 = .ok (.goto 13, 3) := by decide +kernel
theorem dX5_microStep_21 : decode cX5_microStep 21 = .ok (.aload_n 0, 1) := by decide +kernel
theorem dX5_microStep_22 : decode cX5_microStep 22 = .ok (.getfield 29, 3) := by decide +kernel
theorem dX5_microStep_25 : decode cX5_microStep 25 = .ok (.iconst 0, 1) := by decide +kernel
theorem dX5_microStep_26 : decode cX5_microStep 26 = .ok (.iload_n 1, 1) := by decide +kernel
theorem dX5_microStep_27 : decode cX5_microStep 27 = .ok (.iload_n 2, 1) := by decide +kernel
theorem dX5_microStep_28 : decode cX5_microStep 28 = .ok (.invokevirtual 135, 3) := by decide +kernel
theorem dX5_microStep_31 : decode cX5_microStep 31 = .ok (.return_, 1) := by decide +kernel
theorem dX5_timerStep_0 : decode cX5_timerStep 0 = .ok (.aload_n 0, 1) := by decide +kernel
theorem dX5_timerStep_1 : decode cX5_timerStep 1 = .ok (.getfield 58, 3) := by decide +kernel
theorem dX5_timerStep_4 : decode cX5_timerStep 4 = .ok (.invokevirtual 344, 3) := by decide +kernel
theorem dX5_timerStep_7 : decode cX5_timerStep 7 = .ok (.ifCond .eq 12, 3) := by decide +kernel
theorem dX5_timerStep_10 : decode cX5_timerStep 10 = .ok (.aload_n 0, 1) := by decide +kernel
theorem dX5_timerStep_11 : decode cX5_timerStep 11 = .ok (.bipush (-2), 2) := by decide +kernel
theorem dX5_timerStep_13 : decode cX5_timerStep 13 = .ok (.invokevirtual 323, 3) := by decide +kernel
theorem dX5_timerStep_16 : decode cX5_timerStep 16 = .ok (.goto 25, 3) := by decide +kernel
theorem dX5_timerStep_19 : decode cX5_timerStep 19 = .ok (.aload_n 0, 1) := by decide +kernel
theorem dX5_timerStep_20 : decode cX5_timerStep 20 = .ok (.getfield 58, 3) := by decide +kernel
theorem dX5_timerStep_23 : decode cX5_timerStep 23 = .ok (.iload_n 1, 1) := by decide +kernel
theorem dX5_timerStep_24 : decode cX5_timerStep 24 = .ok (.iload_n 2, 1) := by decide +kernel
theorem dX5_timerStep_25 : decode cX5_timerStep 25 = .ok (.iload_n 3, 1) := by decide +kernel
theorem dX5_timerStep_26 : decode cX5_timerStep 26 = .ok (.iload 4, 2) := by decide +kernel
theorem dX5_timerStep_28 : decode cX5_timerStep 28 = .ok (.aload_n 0, 1) := by decide +kernel
theorem dX5_timerStep_29 : decode cX5_timerStep 29 = .ok (.getfield 79, 3) := by decide +kernel
theorem dX5_timerStep_32 : decode cX5_timerStep 32 = .ok (.iconst 1, 1) := by decide +kernel
theorem dX5_timerStep_33 : decode cX5_timerStep 33 = .ok (.iadd, 1) := by decide +kernel
theorem dX5_timerStep_34 : decode cX5_timerStep 34 = .ok (.aload_n 0, 1) := by decide +kernel
theorem dX5_timerStep_35 : decode cX5_timerStep 35 = .ok (.getfield 66, 3) := by decide +kernel
theorem dX5_timerStep_38 : decode cX5_timerStep 38 = .ok (.invokevirtual 347, 3) := by decide +kernel
theorem dX5_timerStep_41 : decode cX5_timerStep 41 = .ok (.return_, 1) := by decide +kernel
theorem dX5_frameStep_0 : decode cX5_frameStep 0 = .ok (.aload_n 0, 1) := by decide +kernel
theorem dX5_frameStep_1 : decode cX5_frameStep 1 = .ok (.getfield 33, 3) := by decide +kernel
theorem dX5_frameStep_4 : decode cX5_frameStep 4 = .ok (.invokevirtual 148, 3) := by decide +kernel
theorem dX5_frameStep_7 : decode cX5_frameStep 7 = .ok (.bipush 8, 2) := by decide +kernel
theorem dX5_frameStep_9 : decode cX5_frameStep 9 = .ok (.if_icmp .lt 12, 3) := by decide +kernel
theorem dX5_frameStep_12 : decode cX5_frameStep 12 = .ok (.aload_n 0, 1) := by decide +kernel
theorem dX5_frameStep_13 : decode cX5_frameStep 13 = .ok (.bipush (-2), 2) := by decide +kernel
theorem dX5_frameStep_15 : decode cX5_frameStep 15 = .ok (.invokevirtual 323, 3) := by decide +kernel
theorem dX5_frameStep_18 : decode cX5_frameStep 18 = .ok (.goto 13, 3) := by decide +kernel
theorem dX5_frameStep_21 : decode cX5_frameStep 21 = .ok (.aload_n 0, 1) := by decide +kernel
theorem dX5_frameStep_22 : decode cX5_frameStep 22 = .ok (.getfield 33, 3) := by decide +kernel
theorem dX5_frameStep_25 : decode cX5_frameStep 25 = .ok (.iconst 0, 1) := by decide +kernel
theorem dX5_frameStep_26 : decode cX5_frameStep 26 = .ok (.iload_n 1, 1) := by decide +kernel
theorem dX5_frameStep_27 : decode cX5_frameStep 27 = .ok (.iconst 0, 1) := by decide +kernel
theorem dX5_frameStep_28 : decode cX5_frameStep 28 = .ok (.invokevirtual 135, 3) := by decide +kernel
theorem dX5_frameStep_31 : decode cX5_frameStep 31 = .ok (.return_, 1) := by decide +kernel
theorem dX5_mayCall_0 : decode cX5_mayCall 0 = .ok (.iload_n 1, 1) := by decide +kernel
theorem dX5_mayCall_1 : decode cX5_mayCall 1 = .ok (.bipush 6, 2) := by decide +kernel
theorem dX5_mayCall_3 : decode cX5_mayCall 3 = .ok (.if_icmp .ge 16, 3) := by decide +kernel
theorem dX5_mayCall_6 : decode cX5_mayCall 6 = .ok (.aload_n 0, 1) := by decide +kernel
theorem dX5_mayCall_7 : decode cX5_mayCall 7 = .ok (.getfield 76, 3) := by decide +kernel
theorem dX5_mayCall_10 : decode cX5_mayCall 10 = .ok (.bipush 30, 2) := by decide +kernel
theorem dX5_mayCall_12 : decode cX5_mayCall 12 = .ok (.if_icmp .ge 7, 3) := by decide +kernel
theorem dX5_mayCall_15 : decode cX5_mayCall 15 = .ok (.iconst 1, 1) := by decide +kernel
theorem dX5_mayCall_16 : decode cX5_mayCall 16 = .ok (.goto 4, 3) := by decide +kernel
theorem dX5_mayCall_19 : decode cX5_mayCall 19 = .ok (.iconst 0, 1) := by decide +kernel
theorem dX5_mayCall_20 : decode cX5_mayCall 20 = .ok (.ireturn, 1) := by decide +kernel
theorem dX5_callStep_0 : decode cX5_callStep 0 = .ok (.aload_n 0, 1) := by decide +kernel
theorem dX5_callStep_1 : decode cX5_callStep 1 = .ok (.iload_n 3, 1) := by decide +kernel
theorem dX5_callStep_2 : decode cX5_callStep 2 = .ok (.invokevirtual 351, 3) := by decide +kernel
theorem dX5_callStep_5 : decode cX5_callStep 5 = .ok (.ifCond .eq 15, 3) := by decide +kernel
theorem dX5_callStep_8 : decode cX5_callStep 8 = .ok (.aload_n 0, 1) := by decide +kernel
theorem dX5_callStep_9 : decode cX5_callStep 9 = .ok (.iload_n 1, 1) := by decide +kernel
theorem dX5_callStep_10 : decode cX5_callStep 10 = .ok (.iload_n 2, 1) := by decide +kernel
theorem dX5_callStep_11 : decode cX5_callStep 11 = .ok (.iload_n 3, 1) := by decide +kernel
theorem dX5_callStep_12 : decode cX5_callStep 12 = .ok (.iconst 1, 1) := by decide +kernel
theorem dX5_callStep_13 : decode cX5_callStep 13 = .ok (.iadd, 1) := by decide +kernel
theorem dX5_callStep_14 : decode cX5_callStep 14 = .ok (.invokevirtual 225, 3) := by decide +kernel
theorem dX5_callStep_17 : decode cX5_callStep 17 = .ok (.goto 8, 3) := by decide +kernel
theorem dX5_callStep_20 : decode cX5_callStep 20 = .ok (.aload_n 0, 1) := by decide +kernel
theorem dX5_callStep_21 : decode cX5_callStep 21 = .ok (.iconst (-1), 1) := by decide +kernel
theorem dX5_callStep_22 : decode cX5_callStep 22 = .ok (.invokevirtual 323, 3) := by decide +kernel
theorem dX5_callStep_25 : decode cX5_callStep 25 = .ok (.return_, 1) := by decide +kernel
theorem dX5_tryStep_0 : decode cX5_tryStep 0 = .ok (.aload_n 0, 1) := by decide +kernel
theorem dX5_tryStep_1 : decode cX5_tryStep 1 = .ok (.iload 4, 2) := by decide +kernel
theorem dX5_tryStep_3 : decode cX5_tryStep 3 = .ok (.invokevirtual 351, 3) := by decide +kernel
theorem dX5_tryStep_6 : decode cX5_tryStep 6 = .ok (.ifCond .ne 9, 3) := by decide +kernel
theorem dX5_tryStep_9 : decode cX5_tryStep 9 = .ok (.aload_n 0, 1) := by decide +kernel
theorem dX5_tryStep_10 : decode cX5_tryStep 10 = .ok (.iconst (-1), 1) := by decide +kernel
theorem dX5_tryStep_11 : decode cX5_tryStep 11 = .ok (.invokevirtual 323, 3) := by decide +kernel
theorem dX5_tryStep_14 : decode cX5_tryStep 14 = .ok (.return_, 1) := by decide +kernel
theorem dX5_tryStep_15 : decode cX5_tryStep 15 = .ok (.aload_n 0, 1) := by decide +kernel
theorem dX5_tryStep_16 : decode cX5_tryStep 16 = .ok (.iload_n 1, 1) := by decide +kernel
theorem dX5_tryStep_17 : decode cX5_tryStep 17 = .ok (.iload_n 3, 1) := by decide +kernel
theorem dX5_tryStep_18 : decode cX5_tryStep 18 = .ok (.iload 4, 2) := by decide +kernel
theorem dX5_tryStep_20 : decode cX5_tryStep 20 = .ok (.iconst 1, 1) := by decide +kernel
theorem dX5_tryStep_21 : decode cX5_tryStep 21 = .ok (.iadd, 1) := by decide +kernel
theorem dX5_tryStep_22 : decode cX5_tryStep 22 = .ok (.invokevirtual 225, 3) := by decide +kernel
theorem dX5_tryStep_25 : decode cX5_tryStep 25 = .ok (.aload_n 0, 1) := by decide +kernel
theorem dX5_tryStep_26 : decode cX5_tryStep 26 = .ok (.getfield 82, 3) := by decide +kernel
theorem dX5_tryStep_29 : decode cX5_tryStep 29 = .ok (.ifCond .eq 14, 3) := by decide +kernel
theorem dX5_tryStep_32 : decode cX5_tryStep 32 = .ok (.aload_n 0, 1) := by decide +kernel
theorem dX5_tryStep_33 : decode cX5_tryStep 33 = .ok (.iload_n 2, 1) := by decide +kernel
theorem dX5_tryStep_34 : decode cX5_tryStep 34 = .ok (.aload_n 0, 1) := by decide +kernel
theorem dX5_tryStep_35 : decode cX5_tryStep 35 = .ok (.getfield 88, 3) := by decide +kernel
theorem dX5_tryStep_38 : decode cX5_tryStep 38 = .ok (.iload 4, 2) := by decide +kernel
theorem dX5_tryStep_40 : decode cX5_tryStep 40 = .ok (.invokevirtual 326, 3) := by decide +kernel
theorem dX5_tryStep_43 : decode cX5_tryStep 43 = .ok (.return_, 1) := by decide +kernel
theorem dX5_answerStep_0 : decode cX5_answerStep 0 = .ok (.iload_n 2, 1) := by decide +kernel
theorem dX5_answerStep_1 : decode cX5_answerStep 1 = .ok (.iconst 2, 1) := by decide +kernel
theorem dX5_answerStep_2 : decode cX5_answerStep 2 = .ok (.if_icmp .ne 44, 3) := by decide +kernel
theorem dX5_answerStep_5 : decode cX5_answerStep 5 = .ok (.aload_n 0, 1) := by decide +kernel
theorem dX5_answerStep_6 : decode cX5_answerStep 6 = .ok (.getfield 16, 3) := by decide +kernel
theorem dX5_answerStep_9 : decode cX5_answerStep 9 = .ok (.iload_n 1, 1) := by decide +kernel
theorem dX5_answerStep_10 : decode cX5_answerStep 10 = .ok (.iaload, 1) := by decide +kernel
theorem dX5_answerStep_11 : decode cX5_answerStep 11 = .ok (.iconst (-1), 1) := by decide +kernel
theorem dX5_answerStep_12 : decode cX5_answerStep 12 = .ok (.if_icmp .eq 7, 3) := by decide +kernel
theorem dX5_answerStep_15 : decode cX5_answerStep 15 = .ok (.iconst 1, 1) := by decide +kernel
theorem dX5_answerStep_16 : decode cX5_answerStep 16 = .ok (.goto 4, 3) := by decide +kernel
theorem dX5_answerStep_19 : decode cX5_answerStep 19 = .ok (.iconst 0, 1) := by decide +kernel
theorem dX5_answerStep_20 : decode cX5_answerStep 20 = .ok (.istore 4, 2) := by decide +kernel
theorem dX5_answerStep_22 : decode cX5_answerStep 22 = .ok (.aload_n 0, 1) := by decide +kernel
theorem dX5_answerStep_23 : decode cX5_answerStep 23 = .ok (.iload 4, 2) := by decide +kernel
theorem dX5_answerStep_25 : decode cX5_answerStep 25 = .ok (.ifCond .eq 12, 3) := by decide +kernel
theorem dX5_answerStep_28 : decode cX5_answerStep 28 = .ok (.aload_n 0, 1) := by decide +kernel
theorem dX5_answerStep_29 : decode cX5_answerStep 29 = .ok (.getfield 16, 3) := by decide +kernel
theorem dX5_answerStep_32 : decode cX5_answerStep 32 = .ok (.iload_n 1, 1) := by decide +kernel
theorem dX5_answerStep_33 : decode cX5_answerStep 33 = .ok (.iaload, 1) := by decide +kernel
theorem dX5_answerStep_34 : decode cX5_answerStep 34 = .ok (.goto 4, 3) := by decide +kernel
theorem dX5_answerStep_37 : decode cX5_answerStep 37 = .ok (.iconst 0, 1) := by decide +kernel
theorem dX5_answerStep_38 : decode cX5_answerStep 38 = .ok (.iload 4, 2) := by decide +kernel
theorem dX5_answerStep_40 : decode cX5_answerStep 40 = .ok (.invokevirtual 295, 3) := by decide +kernel
theorem dX5_answerStep_43 : decode cX5_answerStep 43 = .ok (.goto 18, 3) := by decide +kernel
theorem dX5_answerStep_46 : decode cX5_answerStep 46 = .ok (.aload_n 0, 1) := by decide +kernel
theorem dX5_answerStep_47 : decode cX5_answerStep 47 = .ok (.iload_n 2, 1) := by decide +kernel
theorem dX5_answerStep_48 : decode cX5_answerStep 48 = .ok (.iconst 1, 1) := by decide +kernel
theorem dX5_answerStep_49 : decode cX5_answerStep 49 = .ok (.if_icmp .ne 7, 3) := by decide +kernel
theorem dX5_answerStep_52 : decode cX5_answerStep 52 = .ok (.iload_n 3, 1) := by decide +kernel
theorem dX5_answerStep_53 : decode cX5_answerStep 53 = .ok (.goto 4, 3) := by decide +kernel
theorem dX5_answerStep_56 : decode cX5_answerStep 56 = .ok (.iload_n 1, 1) := by decide +kernel
theorem dX5_answerStep_57 : decode cX5_answerStep 57 = .ok (.iconst 0, 1) := by decide +kernel
theorem dX5_answerStep_58 : decode cX5_answerStep 58 = .ok (.invokevirtual 295, 3) := by decide +kernel
theorem dX5_answerStep_61 : decode cX5_answerStep 61 = .ok (.return_, 1) := by decide +kernel
theorem dX5_makeStep_0 : decode cX5_makeStep 0 = .ok (.aload_n 0, 1) := by decide +kernel
theorem dX5_makeStep_1 : decode cX5_makeStep 1 = .ok (.getfield 51, 3) := by decide +kernel
theorem dX5_makeStep_4 : decode cX5_makeStep 4 = .ok (.invokevirtual 354, 3) := by decide +kernel
theorem dX5_makeStep_7 : decode cX5_makeStep 7 = .ok (.ifCond .eq 12, 3) := by decide +kernel
theorem dX5_makeStep_10 : decode cX5_makeStep 10 = .ok (.aload_n 0, 1) := by decide +kernel
theorem dX5_makeStep_11 : decode cX5_makeStep 11 = .ok (.bipush (-2), 2) := by decide +kernel
theorem dX5_makeStep_13 : decode cX5_makeStep 13 = .ok (.invokevirtual 323, 3) := by decide +kernel
theorem dX5_makeStep_16 : decode cX5_makeStep 16 = .ok (.goto 16, 3) := by decide +kernel
theorem dX5_makeStep_19 : decode cX5_makeStep 19 = .ok (.aload_n 0, 1) := by decide +kernel
theorem dX5_makeStep_20 : decode cX5_makeStep 20 = .ok (.getfield 16, 3) := by decide +kernel
theorem dX5_makeStep_23 : decode cX5_makeStep 23 = .ok (.iload_n 1, 1) := by decide +kernel
theorem dX5_makeStep_24 : decode cX5_makeStep 24 = .ok (.aload_n 0, 1) := by decide +kernel
theorem dX5_makeStep_25 : decode cX5_makeStep 25 = .ok (.getfield 51, 3) := by decide +kernel
theorem dX5_makeStep_28 : decode cX5_makeStep 28 = .ok (.invokevirtual 355, 3) := by decide +kernel
theorem dX5_makeStep_31 : decode cX5_makeStep 31 = .ok (.iastore, 1) := by decide +kernel
theorem dX5_makeStep_32 : decode cX5_makeStep 32 = .ok (.return_, 1) := by decide +kernel
theorem dX5_thenStep_0 : decode cX5_thenStep 0 = .ok (.aload_n 0, 1) := by decide +kernel
theorem dX5_thenStep_1 : decode cX5_thenStep 1 = .ok (.getfield 16, 3) := by decide +kernel
theorem dX5_thenStep_4 : decode cX5_thenStep 4 = .ok (.iload_n 1, 1) := by decide +kernel
theorem dX5_thenStep_5 : decode cX5_thenStep 5 = .ok (.iaload, 1) := by decide +kernel
theorem dX5_thenStep_6 : decode cX5_thenStep 6 = .ok (.iconst (-1), 1) := by decide +kernel
theorem dX5_thenStep_7 : decode cX5_thenStep 7 = .ok (.if_icmp .ne 4, 3) := by decide +kernel
theorem dX5_thenStep_10 : decode cX5_thenStep 10 = .ok (.return_, 1) := by decide +kernel
theorem dX5_thenStep_11 : decode cX5_thenStep 11 = .ok (.aload_n 0, 1) := by decide +kernel
theorem dX5_thenStep_12 : decode cX5_thenStep 12 = .ok (.getfield 51, 3) := by decide +kernel
theorem dX5_thenStep_15 : decode cX5_thenStep 15 = .ok (.invokevirtual 354, 3) := by decide +kernel
theorem dX5_thenStep_18 : decode cX5_thenStep 18 = .ok (.ifCond .eq 10, 3) := by decide +kernel
theorem dX5_thenStep_21 : decode cX5_thenStep 21 = .ok (.aload_n 0, 1) := by decide +kernel
theorem dX5_thenStep_22 : decode cX5_thenStep 22 = .ok (.bipush (-2), 2) := by decide +kernel
theorem dX5_thenStep_24 : decode cX5_thenStep 24 = .ok (.invokevirtual 323, 3) := by decide +kernel
theorem dX5_thenStep_27 : decode cX5_thenStep 27 = .ok (.return_, 1) := by decide +kernel
theorem dX5_thenStep_28 : decode cX5_thenStep 28 = .ok (.aload_n 0, 1) := by decide +kernel
theorem dX5_thenStep_29 : decode cX5_thenStep 29 = .ok (.getfield 51, 3) := by decide +kernel
theorem dX5_thenStep_32 : decode cX5_thenStep 32 = .ok (.invokevirtual 355, 3) := by decide +kernel
theorem dX5_thenStep_35 : decode cX5_thenStep 35 = .ok (.istore 4, 2) := by decide +kernel
theorem dX5_thenStep_37 : decode cX5_thenStep 37 = .ok (.aload_n 0, 1) := by decide +kernel
theorem dX5_thenStep_38 : decode cX5_thenStep 38 = .ok (.getfield 51, 3) := by decide +kernel
theorem dX5_thenStep_41 : decode cX5_thenStep 41 = .ok (.aload_n 0, 1) := by decide +kernel
theorem dX5_thenStep_42 : decode cX5_thenStep 42 = .ok (.getfield 16, 3) := by decide +kernel
theorem dX5_thenStep_45 : decode cX5_thenStep 45 = .ok (.iload_n 1, 1) := by decide +kernel
theorem dX5_thenStep_46 : decode cX5_thenStep 46 = .ok (.iaload, 1) := by decide +kernel
theorem dX5_thenStep_47 : decode cX5_thenStep 47 = .ok (.iload_n 2, 1) := by decide +kernel
theorem dX5_thenStep_48 : decode cX5_thenStep 48 = .ok (.iload_n 3, 1) := by decide +kernel
theorem dX5_thenStep_49 : decode cX5_thenStep 49 = .ok (.iload 4, 2) := by decide +kernel
theorem dX5_thenStep_51 : decode cX5_thenStep 51 = .ok (.invokevirtual 234, 3) := by decide +kernel
theorem dX5_thenStep_54 : decode cX5_thenStep 54 = .ok (.aload_n 0, 1) := by decide +kernel
theorem dX5_thenStep_55 : decode cX5_thenStep 55 = .ok (.getfield 16, 3) := by decide +kernel
theorem dX5_thenStep_58 : decode cX5_thenStep 58 = .ok (.iload_n 1, 1) := by decide +kernel
theorem dX5_thenStep_59 : decode cX5_thenStep 59 = .ok (.iload 4, 2) := by decide +kernel
theorem dX5_thenStep_61 : decode cX5_thenStep 61 = .ok (.iastore, 1) := by decide +kernel
theorem dX5_thenStep_62 : decode cX5_thenStep 62 = .ok (.return_, 1) := by decide +kernel
