theorem dX6_place_54 : decode cX6_place 54 = .ok (.aload_n 0, 1) := by decide +kernel
theorem dX6_place_55 : decode cX6_place 55 = .ok (.getfield 236, 3) := by decide +kernel
theorem dX6_place_58 : decode cX6_place 58 = .ok (.iadd, 1) := by decide +kernel
theorem dX6_place_59 : decode cX6_place 59 = .ok (.bipush 8, 2) := by decide +kernel
theorem dX6_place_61 : decode cX6_place 61 = .ok (.if_icmp .lt 7, 3) := by decide +kernel
theorem dX6_place_64 : decode cX6_place 64 = .ok (.iconst 1, 1) := by decide +kernel
theorem dX6_place_65 : decode cX6_place 65 = .ok (.goto 21, 3) := by decide +kernel
theorem dX6_place_68 : decode cX6_place 68 = .ok (.iconst 0, 1) := by decide +kernel
theorem dX6_place_69 : decode cX6_place 69 = .ok (.goto 17, 3) := by decide +kernel
theorem dX6_place_72 : decode cX6_place 72 = .ok (.aload_n 0, 1) := by decide +kernel
theorem dX6_place_73 : decode cX6_place 73 = .ok (.getfield 187, 3) := by decide +kernel
theorem dX6_place_76 : decode cX6_place 76 = .ok (.bipush 12, 2) := by decide +kernel
theorem dX6_place_78 : decode cX6_place 78 = .ok (.if_icmp .ne 7, 3) := by decide +kernel
theorem dX6_place_81 : decode cX6_place 81 = .ok (.iconst 1, 1) := by decide +kernel
theorem dX6_place_82 : decode cX6_place 82 = .ok (.goto 4, 3) := by decide +kernel
theorem dX6_place_85 : decode cX6_place 85 = .ok (.iconst 0, 1) := by decide +kernel
theorem dX6_place_86 : decode cX6_place 86 = .ok (.istore 5, 2) := by decide +kernel
theorem dX6_place_88 : decode cX6_place 88 = .ok (.iload 5, 2) := by decide +kernel
theorem dX6_place_90 : decode cX6_place 90 = .ok (.ifCond .eq 12, 3) := by decide +kernel
theorem dX6_place_93 : decode cX6_place 93 = .ok (.aload_n 0, 1) := by decide +kernel
theorem dX6_place_94 : decode cX6_place 94 = .ok (.bipush (-2), 2) := by decide +kernel
theorem dX6_place_96 : decode cX6_place 96 = .ok (.invokevirtual 219, 3) := by decide +kernel
theorem dX6_place_99 : decode cX6_place 99 = .ok (.goto 83, 3) := by decide +kernel
theorem dX6_place_102 : decode cX6_place 102 = .ok (.iload_n 1, 1) := by decide +kernel
theorem dX6_place_103 : decode cX6_place 103 = .ok (.iconst 1, 1) := by decide +kernel
theorem dX6_place_104 : decode cX6_place 104 = .ok (.if_icmp .ne 15, 3) := by decide +kernel
theorem dX6_place_107 : decode cX6_place 107 = .ok (.aload_n 0, 1) := by decide +kernel
theorem dX6_place_108 : decode cX6_place 108 = .ok (.iload_n 3, 1) := by decide +kernel
theorem dX6_place_109 : decode cX6_place 109 = .ok (.iload_n 2, 1) := by decide +kernel
theorem dX6_place_110 : decode cX6_place 110 = .ok (.iload 4, 2) := by decide +kernel
theorem dX6_place_112 : decode cX6_place 112 = .ok (.iconst 0, 1) := by decide +kernel
theorem dX6_place_113 : decode cX6_place 113 = .ok (.invokevirtual 160, 3) := by decide +kernel
theorem dX6_place_116 : decode cX6_place 116 = .ok (.goto 66, 3) := by decide +kernel
theorem dX6_place_119 : decode cX6_place 119 = .ok (.iload_n 1, 1) := by decide +kernel
theorem dX6_place_120 : decode cX6_place 120 = .ok (.iconst 2, 1) := by decide +kernel
theorem dX6_place_121 : decode cX6_place 121 = .ok (.if_icmp .ne 14, 3) := by decide +kernel
theorem dX6_place_124 : decode cX6_place 124 = .ok (.aload_n 0, 1) := by decide +kernel
theorem dX6_place_125 : decode cX6_place 125 = .ok (.iconst 0, 1) := by decide +kernel
theorem dX6_place_126 : decode cX6_place 126 = .ok (.iload_n 2, 1) := by decide +kernel
theorem dX6_place_127 : decode cX6_place 127 = .ok (.iload 4, 2) := by decide +kernel
theorem dX6_place_129 : decode cX6_place 129 = .ok (.invokevirtual 176, 3) := by decide +kernel
theorem dX6_place_132 : decode cX6_place 132 = .ok (.goto 50, 3) := by decide +kernel
theorem dX6_place_135 : decode cX6_place 135 = .ok (.iload_n 1, 1) := by decide +kernel
theorem dX6_place_136 : decode cX6_place 136 = .ok (.bipush 14, 2) := by decide +kernel
theorem dX6_place_138 : decode cX6_place 138 = .ok (.if_icmp .ne 26, 3) := by decide +kernel
theorem dX6_place_141 : decode cX6_place 141 = .ok (.aload_n 0, 1) := by decide +kernel
theorem dX6_place_142 : decode cX6_place 142 = .ok (.getfield 104, 3) := by decide +kernel
theorem dX6_place_145 : decode cX6_place 145 = .ok (.aload_n 0, 1) := by decide +kernel
theorem dX6_place_146 : decode cX6_place 146 = .ok (.getfield 233, 3) := by decide +kernel
theorem dX6_place_149 : decode cX6_place 149 = .ok (.iload_n 2, 1) := by decide +kernel
theorem dX6_place_150 : decode cX6_place 150 = .ok (.iastore, 1) := by decide +kernel
theorem dX6_place_151 : decode cX6_place 151 = .ok (.aload_n 0, 1) := by decide +kernel
theorem dX6_place_152 : decode cX6_place 152 = .ok (.dup, 1) := by decide +kernel
theorem dX6_place_153 : decode cX6_place 153 = .ok (.getfield 233, 3) := by decide +kernel
theorem dX6_place_156 : decode cX6_place 156 = .ok (.iconst 1, 1) := by decide +kernel
theorem dX6_place_157 : decode cX6_place 157 = .ok (.iadd, 1) := by decide +kernel
theorem dX6_place_158 : decode cX6_place 158 = .ok (.putfield 233, 3) := by decide +kernel
theorem dX6_place_161 : decode cX6_place 161 = .ok (.goto 21, 3) := by decide +kernel
theorem dX6_place_164 : decode cX6_place 164 = .ok (.aload_n 0, 1) := by decide +kernel
theorem dX6_place_165 : decode cX6_place 165 = .ok (.iload_n 2, 1) := by decide +kernel
theorem dX6_place_166 : decode cX6_place 166 = .ok (.iload 4, 2) := by decide +kernel
theorem dX6_place_168 : decode cX6_place 168 = .ok (.iload_n 3, 1) := by decide +kernel
theorem dX6_place_169 : decode cX6_place 169 = .ok (.iload_n 1, 1) := by decide +kernel
theorem dX6_place_170 : decode cX6_place 170 = .ok (.iconst 4, 1) := by decide +kernel
theorem dX6_place_171 : decode cX6_place 171 = .ok (.if_icmp .ne 7, 3) := by decide +kernel
theorem dX6_place_174 : decode cX6_place 174 = .ok (.iconst 1, 1) := by decide +kernel
theorem dX6_place_175 : decode cX6_place 175 = .ok (.goto 4, 3) := by decide +kernel
theorem dX6_place_178 : decode cX6_place 178 = .ok (.iconst 0, 1) := by decide +kernel
theorem dX6_place_179 : decode cX6_place 179 = .ok (.invokevirtual 239, 3) := by decide +kernel
theorem dX6_place_182 : decode cX6_place 182 = .ok (.return_, 1) := by decide +kernel
theorem dX6_promiseStep_0 : decode cX6_promiseStep 0 = .ok (.aload_n 0, 1) := by decide +kernel
theorem dX6_promiseStep_1 : decode cX6_promiseStep 1 = .ok (.getfield 22, 3) := by decide +kernel
theorem dX6_promiseStep_4 : decode cX6_promiseStep 4 = .ok (.iload_n 2, 1) := by decide +kernel
theorem dX6_promiseStep_5 : decode cX6_promiseStep 5 = .ok (.iaload, 1) := by decide +kernel
theorem dX6_promiseStep_6 : decode cX6_promiseStep 6 = .ok (.iconst 1, 1) := by decide +kernel
theorem dX6_promiseStep_7 : decode cX6_promiseStep 7 = .ok (.isub, 1) := by decide +kernel
theorem dX6_promiseStep_8 : decode cX6_promiseStep 8 = .ok (.istore 5, 2) := by decide +kernel
theorem dX6_promiseStep_10 : decode cX6_promiseStep 10 = .ok (.iload_n 1, 1) := by decide +kernel
theorem dX6_promiseStep_11 : decode cX6_promiseStep 11 = .ok (.tableswitch 141 10 13 #[29, 62, 100, 132], 29) := by decide +kernel
theorem dX6_promiseStep_40 : decode cX6_promiseStep 40 = .ok (.aload_n 0, 1) := by decide +kernel
theorem dX6_promiseStep_41 : decode cX6_promiseStep 41 = .ok (.getfield 167, 3) := by decide +kernel
theorem dX6_promiseStep_44 : decode cX6_promiseStep 44 = .ok (.bipush 40, 2) := by decide +kernel
theorem dX6_promiseStep_46 : decode cX6_promiseStep 46 = .ok (.if_icmp .ne 12, 3) := by decide +kernel
theorem dX6_promiseStep_49 : decode cX6_promiseStep 49 = .ok (.aload_n 0, 1) := by decide +kernel
theorem dX6_promiseStep_50 : decode cX6_promiseStep 50 = .ok (.bipush (-2), 2) := by decide +kernel
theorem dX6_promiseStep_52 : decode cX6_promiseStep 52 = .ok (.invokevirtual 219, 3) := by decide +kernel
theorem dX6_promiseStep_55 : decode cX6_promiseStep 55 = .ok (.goto 109, 3) := by decide +kernel
theorem dX6_promiseStep_58 : decode cX6_promiseStep 58 = .ok (.aload_n 0, 1) := by decide +kernel
theorem dX6_promiseStep_59 : decode cX6_promiseStep 59 = .ok (.getfield 22, 3) := by decide +kernel
theorem dX6_promiseStep_62 : decode cX6_promiseStep 62 = .ok (.iload_n 2, 1) := by decide +kernel
theorem dX6_promiseStep_63 : decode cX6_promiseStep 63 = .ok (.aload_n 0, 1) := by decide +kernel
theorem dX6_promiseStep_64 : decode cX6_promiseStep 64 = .ok (.invokevirtual 226, 3) := by decide +kernel
theorem dX6_promiseStep_67 : decode cX6_promiseStep 67 = .ok (.iconst 1, 1) := by decide +kernel
theorem dX6_promiseStep_68 : decode cX6_promiseStep 68 = .ok (.iadd, 1) := by decide +kernel
theorem dX6_promiseStep_69 : decode cX6_promiseStep 69 = .ok (.iastore, 1) := by decide +kernel
theorem dX6_promiseStep_70 : decode cX6_promiseStep 70 = .ok (.goto 94, 3) := by decide +kernel
theorem dX6_promiseStep_73 : decode cX6_promiseStep 73 = .ok (.iload 5, 2) := by decide +kernel
theorem dX6_promiseStep_75 : decode cX6_promiseStep 75 = .ok (.ifCond .lt 19, 3) := by decide +kernel
theorem dX6_promiseStep_78 : decode cX6_promiseStep 78 = .ok (.iload_n 3, 1) := by decide +kernel
theorem dX6_promiseStep_79 : decode cX6_promiseStep 79 = .ok (.iconst 1, 1) := by decide +kernel
theorem dX6_promiseStep_80 : decode cX6_promiseStep 80 = .ok (.if_icmp .ne 14, 3) := by decide +kernel
theorem dX6_promiseStep_83 : decode cX6_promiseStep 83 = .ok (.aload_n 0, 1) := by decide +kernel
theorem dX6_promiseStep_84 : decode cX6_promiseStep 84 = .ok (.iload 5, 2) := by decide +kernel
theorem dX6_promiseStep_86 : decode cX6_promiseStep 86 = .ok (.iload 4, 2) := by decide +kernel
theorem dX6_promiseStep_88 : decode cX6_promiseStep 88 = .ok (.invokevirtual 243, 3) := by decide +kernel
theorem dX6_promiseStep_91 : decode cX6_promiseStep 91 = .ok (.goto 73, 3) := by decide +kernel
theorem dX6_promiseStep_94 : decode cX6_promiseStep 94 = .ok (.iload 5, 2) := by decide +kernel
theorem dX6_promiseStep_96 : decode cX6_promiseStep 96 = .ok (.ifCond .lt 68, 3) := by decide +kernel
theorem dX6_promiseStep_99 : decode cX6_promiseStep 99 = .ok (.aload_n 0, 1) := by decide +kernel
theorem dX6_promiseStep_100 : decode cX6_promiseStep 100 = .ok (.iload 5, 2) := by decide +kernel
theorem dX6_promiseStep_102 : decode cX6_promiseStep 102 = .ok (.iconst 0, 1) := by decide +kernel
theorem dX6_promiseStep_103 : decode cX6_promiseStep 103 = .ok (.iload 4, 2) := by decide +kernel
theorem dX6_promiseStep_105 : decode cX6_promiseStep 105 = .ok (.invokevirtual 246, 3) := by decide +kernel
theorem dX6_promiseStep_108 : decode cX6_promiseStep 108 = .ok (.goto 56, 3) := by decide +kernel
theorem dX6_promiseStep_111 : decode cX6_promiseStep 111 = .ok (.iload 5, 2) := by decide +kernel
theorem dX6_promiseStep_113 : decode cX6_promiseStep 113 = .ok (.ifCond .lt 51, 3) := by decide +kernel
theorem dX6_promiseStep_116 : decode cX6_promiseStep 116 = .ok (.aload_n 0, 1) := by decide +kernel
theorem dX6_promiseStep_117 : decode cX6_promiseStep 117 = .ok (.getfield 22, 3) := by decide +kernel
theorem dX6_promiseStep_120 : decode cX6_promiseStep 120 = .ok (.iload_n 3, 1) := by decide +kernel
theorem dX6_promiseStep_121 : decode cX6_promiseStep 121 = .ok (.iaload, 1) := by decide +kernel
theorem dX6_promiseStep_122 : decode cX6_promiseStep 122 = .ok (.ifCond .le 42, 3) := by decide +kernel
theorem dX6_promiseStep_125 : decode cX6_promiseStep 125 = .ok (.aload_n 0, 1) := by decide +kernel
theorem dX6_promiseStep_126 : decode cX6_promiseStep 126 = .ok (.iload 5, 2) := by decide +kernel
theorem dX6_promiseStep_128 : decode cX6_promiseStep 128 = .ok (.iconst 1, 1) := by decide +kernel
theorem dX6_promiseStep_129 : decode cX6_promiseStep 129 = .ok (.aload_n 0, 1) := by decide +kernel
theorem dX6_promiseStep_130 : decode cX6_promiseStep 130 = .ok (.getfield 22, 3) := by decide +kernel
theorem dX6_promiseStep_133 : decode cX6_promiseStep 133 = .ok (.iload_n 3, 1) := by decide +kernel
theorem dX6_promiseStep_134 : decode cX6_promiseStep 134 = .ok (.iaload, 1) := by decide +kernel
theorem dX6_promiseStep_135 : decode cX6_promiseStep 135 = .ok (.iconst 1, 1) := by decide +kernel
theorem dX6_promiseStep_136 : decode cX6_promiseStep 136 = .ok (.isub, 1) := by decide +kernel
theorem dX6_promiseStep_137 : decode cX6_promiseStep 137 = .ok (.invokevirtual 246, 3) := by decide +kernel
theorem dX6_promiseStep_140 : decode cX6_promiseStep 140 = .ok (.goto 24, 3) := by decide +kernel
theorem dX6_promiseStep_143 : decode cX6_promiseStep 143 = .ok (.aload_n 0, 1) := by decide +kernel
theorem dX6_promiseStep_144 : decode cX6_promiseStep 144 = .ok (.iload_n 2, 1) := by decide +kernel
theorem dX6_promiseStep_145 : decode cX6_promiseStep 145 = .ok (.iload_n 3, 1) := by decide +kernel
theorem dX6_promiseStep_146 : decode cX6_promiseStep 146 = .ok (.invokevirtual 250, 3) := by decide +kernel
theorem dX6_promiseStep_149 : decode cX6_promiseStep 149 = .ok (.goto 15, 3) := by decide +kernel
theorem dX6_promiseStep_152 : decode cX6_promiseStep 152 = .ok (.aload_n 0, 1) := by decide +kernel
theorem dX6_promiseStep_153 : decode cX6_promiseStep 153 = .ok (.getfield 22, 3) := by decide +kernel
theorem dX6_promiseStep_156 : decode cX6_promiseStep 156 = .ok (.iload_n 2, 1) := by decide +kernel
theorem dX6_promiseStep_157 : decode cX6_promiseStep 157 = .ok (.aload_n 0, 1) := by decide +kernel
theorem dX6_promiseStep_158 : decode cX6_promiseStep 158 = .ok (.getfield 22, 3) := by decide +kernel
theorem dX6_promiseStep_161 : decode cX6_promiseStep 161 = .ok (.iload_n 3, 1) := by decide +kernel
theorem dX6_promiseStep_162 : decode cX6_promiseStep 162 = .ok (.iaload, 1) := by decide +kernel
theorem dX6_promiseStep_163 : decode cX6_promiseStep 163 = .ok (.iastore, 1) := by decide +kernel
theorem dX6_promiseStep_164 : decode cX6_promiseStep 164 = .ok (.return_, 1) := by decide +kernel
theorem dX6_doStep_0 : decode cX6_doStep 0 = .ok (.aload_n 0, 1) := by decide +kernel
theorem dX6_doStep_1 : decode cX6_doStep 1 = .ok (.getfield 13, 3) := by decide +kernel
theorem dX6_doStep_4 : decode cX6_doStep 4 = .ok (.iload_n 1, 1) := by decide +kernel
theorem dX6_doStep_5 : decode cX6_doStep 5 = .ok (.iaload, 1) := by decide +kernel
theorem dX6_doStep_6 : decode cX6_doStep 6 = .ok (.istore_n 2, 1) := by decide +kernel
theorem dX6_doStep_7 : decode cX6_doStep 7 = .ok (.aload_n 0, 1) := by decide +kernel
theorem dX6_doStep_8 : decode cX6_doStep 8 = .ok (.getfield 16, 3) := by decide +kernel
theorem dX6_doStep_11 : decode cX6_doStep 11 = .ok (.iload_n 1, 1) := by decide +kernel
theorem dX6_doStep_12 : decode cX6_doStep 12 = .ok (.iaload, 1) := by decide +kernel
theorem dX6_doStep_13 : decode cX6_doStep 13 = .ok (.istore_n 3, 1) := by decide +kernel
theorem dX6_doStep_14 : decode cX6_doStep 14 = .ok (.aload_n 0, 1) := by decide +kernel
theorem dX6_doStep_15 : decode cX6_doStep 15 = .ok (.getfield 19, 3) := by decide +kernel
theorem dX6_doStep_18 : decode cX6_doStep 18 = .ok (.iload_n 1, 1) := by decide +kernel
theorem dX6_doStep_19 : decode cX6_doStep 19 = .ok (.iaload, 1) := by decide +kernel
theorem dX6_doStep_20 : decode cX6_doStep 20 = .ok (.istore 4, 2) := by decide +kernel
theorem dX6_doStep_22 : decode cX6_doStep 22 = .ok (.aload_n 0, 1) := by decide +kernel
theorem dX6_doStep_23 : decode cX6_doStep 23 = .ok (.getfield 119, 3) := by decide +kernel
theorem dX6_doStep_26 : decode cX6_doStep 26 = .ok (.aload_n 0, 1) := by decide +kernel
theorem dX6_doStep_27 : decode cX6_doStep 27 = .ok (.getfield 213, 3) := by decide +kernel
theorem dX6_doStep_30 : decode cX6_doStep 30 = .ok (.iconst 1, 1) := by decide +kernel
theorem dX6_doStep_31 : decode cX6_doStep 31 = .ok (.isub, 1) := by decide +kernel
theorem dX6_doStep_32 : decode cX6_doStep 32 = .ok (.iaload, 1) := by decide +kernel
theorem dX6_doStep_33 : decode cX6_doStep 33 = .ok (.istore 5, 2) := by decide +kernel
theorem dX6_doStep_35 : decode cX6_doStep 35 = .ok (.iload_n 2, 1) := by decide +kernel
theorem dX6_doStep_36 : decode cX6_doStep 36 = .ok (.tableswitch 206 0 14 #[76, 193, 193, 193, 193, 120, 141, 160, 170, 181, 206, 206, 206, 206, 193], 76) := by decide +kernel
theorem dX6_doStep_112 : decode cX6_doStep 112 = .ok (.aload_n 0, 1) := by decide +kernel
theorem dX6_doStep_113 : decode cX6_doStep 113 = .ok (.getfield 253, 3) := by decide +kernel
theorem dX6_doStep_116 : decode cX6_doStep 116 = .ok (.sipush 200, 3) := by decide +kernel
theorem dX6_doStep_119 : decode cX6_doStep 119 = .ok (.if_icmp .ge 133, 3) := by decide +kernel
theorem dX6_doStep_122 : decode cX6_doStep 122 = .ok (.aload_n 0, 1) := by decide +kernel
theorem dX6_doStep_123 : decode cX6_doStep 123 = .ok (.getfield 110, 3) := by decide +kernel
theorem dX6_doStep_126 : decode cX6_doStep 126 = .ok (.aload_n 0, 1) := by decide +kernel
theorem dX6_doStep_127 : decode cX6_doStep 127 = .ok (.getfield 253, 3) := by decide +kernel
theorem dX6_doStep_130 : decode cX6_doStep 130 = .ok (.iload 4, 2) := by decide +kernel
theorem dX6_doStep_132 : decode cX6_doStep 132 = .ok (.iconst 1, 1) := by decide +kernel
theorem dX6_doStep_133 : decode cX6_doStep 133 = .ok (.if_icmp .ne 8, 3) := by decide +kernel
theorem dX6_doStep_136 : decode cX6_doStep 136 = .ok (.iload 5, 2) := by decide +kernel
theorem dX6_doStep_138 : decode cX6_doStep 138 = .ok (.goto 4, 3) := by decide +kernel
theorem dX6_doStep_141 : decode cX6_doStep 141 = .ok (.iload_n 3, 1) := by decide +kernel
theorem dX6_doStep_142 : decode cX6_doStep 142 = .ok (.iastore, 1) := by decide +kernel
theorem dX6_doStep_143 : decode cX6_doStep 143 = .ok (.aload_n 0, 1) := by decide +kernel
theorem dX6_doStep_144 : decode cX6_doStep 144 = .ok (.dup, 1) := by decide +kernel
theorem dX6_doStep_145 : decode cX6_doStep 145 = .ok (.getfield 253, 3) := by decide +kernel
theorem dX6_doStep_148 : decode cX6_doStep 148 = .ok (.iconst 1, 1) := by decide +kernel
theorem dX6_doStep_149 : decode cX6_doStep 149 = .ok (.iadd, 1) := by decide +kernel
theorem dX6_doStep_150 : decode cX6_doStep 150 = .ok (.putfield 253, 3) := by decide +kernel
theorem dX6_doStep_153 : decode cX6_doStep 153 = .ok (.goto 99, 3) := by decide +kernel
theorem dX6_doStep_156 : decode cX6_doStep 156 = .ok (.aload_n 0, 1) := by decide +kernel
theorem dX6_doStep_157 : decode cX6_doStep 157 = .ok (.iload_n 3, 1) := by decide +kernel
theorem dX6_doStep_158 : decode cX6_doStep 158 = .ok (.invokevirtual 256, 3) := by decide +kernel
theorem dX6_doStep_161 : decode cX6_doStep 161 = .ok (.istore 6, 2) := by decide +kernel
theorem dX6_doStep_163 : decode cX6_doStep 163 = .ok (.iload 6, 2) := by decide +kernel
theorem dX6_doStep_165 : decode cX6_doStep 165 = .ok (.ifCond .lt 87, 3) := by decide +kernel
theorem dX6_doStep_168 : decode cX6_doStep 168 = .ok (.aload_n 0, 1) := by decide +kernel
theorem dX6_doStep_169 : decode cX6_doStep 169 = .ok (.iload 6, 2) := by decide +kernel
theorem dX6_doStep_171 : decode cX6_doStep 171 = .ok (.invokevirtual 259, 3) := by decide +kernel
theorem dX6_doStep_174 : decode cX6_doStep 174 = .ok (.goto 78, 3) := by decide +kernel
theorem dX6_doStep_177 : decode cX6_doStep 177 = .ok (.aload_n 0, 1) := by decide +kernel
theorem dX6_doStep_178 : decode cX6_doStep 178 = .ok (.iload 4, 2) := by decide +kernel
theorem dX6_doStep_180 : decode cX6_doStep 180 = .ok (.iconst 1, 1) := by decide +kernel
theorem dX6_doStep_181 : decode cX6_doStep 181 = .ok (.if_icmp .ne 8, 3) := by decide +kernel
theorem dX6_doStep_184 : decode cX6_doStep 184 = .ok (.iload 5, 2) := by decide +kernel
theorem dX6_doStep_186 : decode cX6_doStep 186 = .ok (.goto 4, 3) := by decide +kernel
theorem dX6_doStep_189 : decode cX6_doStep 189 = .ok (.iload_n 3, 1) := by decide +kernel
theorem dX6_doStep_190 : decode cX6_doStep 190 = .ok (.invokevirtual 219, 3) := by decide +kernel
theorem dX6_doStep_193 : decode cX6_doStep 193 = .ok (.goto 59, 3) := by decide +kernel
theorem dX6_doStep_196 : decode cX6_doStep 196 = .ok (.aload_n 0, 1) := by decide +kernel
theorem dX6_doStep_197 : decode cX6_doStep 197 = .ok (.iload_n 3, 1) := by decide +kernel
theorem dX6_doStep_198 : decode cX6_doStep 198 = .ok (.iconst 1, 1) := by decide +kernel
theorem dX6_doStep_199 : decode cX6_doStep 199 = .ok (.iconst 0, 1) := by decide +kernel
theorem dX6_doStep_200 : decode cX6_doStep 200 = .ok (.invokevirtual 262, 3) := by decide +kernel
theorem dX6_doStep_203 : decode cX6_doStep 203 = .ok (.goto 49, 3) := by decide +kernel
theorem dX6_doStep_206 : decode cX6_doStep 206 = .ok (.aload_n 0, 1) := by decide +kernel
theorem dX6_doStep_207 : decode cX6_doStep 207 = .ok (.iload_n 3, 1) := by decide +kernel
theorem dX6_doStep_208 : decode cX6_doStep 208 = .ok (.iconst 2, 1) := by decide +kernel
theorem dX6_doStep_209 : decode cX6_doStep 209 = .ok (.iload 4, 2) := by decide +kernel
theorem dX6_doStep_211 : decode cX6_doStep 211 = .ok (.invokevirtual 262, 3) := by decide +kernel
theorem dX6_doStep_214 : decode cX6_doStep 214 = .ok (.goto 38, 3) := by decide +kernel
theorem dX6_doStep_217 : decode cX6_doStep 217 = .ok (.aload_n 0, 1) := by decide +kernel
theorem dX6_doStep_218 : decode cX6_doStep 218 = .ok (.iload_n 3, 1) := by decide +kernel
theorem dX6_doStep_219 : decode cX6_doStep 219 = .ok (.iload 4, 2) := by decide +kernel
theorem dX6_doStep_221 : decode cX6_doStep 221 = .ok (.iload 5, 2) := by decide +kernel
theorem dX6_doStep_223 : decode cX6_doStep 223 = .ok (.invokevirtual 265, 3) := by decide +kernel
theorem dX6_doStep_226 : decode cX6_doStep 226 = .ok (.goto 26, 3) := by decide +kernel
theorem dX6_doStep_229 : decode cX6_doStep 229 = .ok (.aload_n 0, 1) := by decide +kernel
theorem dX6_doStep_230 : decode cX6_doStep 230 = .ok (.iload_n 2, 1) := by decide +kernel
theorem dX6_doStep_231 : decode cX6_doStep 231 = .ok (.iload_n 3, 1) := by decide +kernel
theorem dX6_doStep_232 : decode cX6_doStep 232 = .ok (.iload 4, 2) := by decide +kernel
theorem dX6_doStep_234 : decode cX6_doStep 234 = .ok (.iload 5, 2) := by decide +kernel
theorem dX6_doStep_236 : decode cX6_doStep 236 = .ok (.invokevirtual 268, 3) := by decide +kernel
theorem dX6_doStep_239 : decode cX6_doStep 239 = .ok (.goto 13, 3) := by decide +kernel
theorem dX6_doStep_242 : decode cX6_doStep 242 = .ok (.aload_n 0, 1) := by decide +kernel
theorem dX6_doStep_243 : decode cX6_doStep 243 = .ok (.iload_n 2, 1) := by decide +kernel
theorem dX6_doStep_244 : decode cX6_doStep 244 = .ok (.iload_n 3, 1) := by decide +kernel
theorem dX6_doStep_245 : decode cX6_doStep 245 = .ok (.iload 4, 2) := by decide +kernel
theorem dX6_doStep_247 : decode cX6_doStep 247 = .ok (.iload 5, 2) := by decide +kernel
theorem dX6_doStep_249 : decode cX6_doStep 249 = .ok (.invokevirtual 271, 3) := by decide +kernel
theorem dX6_doStep_252 : decode cX6_doStep 252 = .ok (.return_, 1) := by decide +kernel
theorem dX6_takenUp_0 : decode cX6_takenUp 0 = .ok (.aload_n 0, 1) := by decide +kernel
theorem dX6_takenUp_1 : decode cX6_takenUp 1 = .ok (.getfield 213, 3) := by decide +kernel
theorem dX6_takenUp_4 : decode cX6_takenUp 4 = .ok (.ifCond .le 86, 3) := by decide +kernel
theorem dX6_takenUp_7 : decode cX6_takenUp 7 = .ok (.aload_n 0, 1) := by decide +kernel
theorem dX6_takenUp_8 : decode cX6_takenUp 8 = .ok (.dup, 1) := by decide +kernel
theorem dX6_takenUp_9 : decode cX6_takenUp 9 = .ok (.getfield 213, 3) := by decide +kernel
theorem dX6_takenUp_12 : decode cX6_takenUp 12 = .ok (.iconst 1, 1) := by decide +kernel
theorem dX6_takenUp_13 : decode cX6_takenUp 13 = .ok (.isub, 1) := by decide +kernel
theorem dX6_takenUp_14 : decode cX6_takenUp 14 = .ok (.putfield 213, 3) := by decide +kernel
theorem dX6_takenUp_17 : decode cX6_takenUp 17 = .ok (.aload_n 0, 1) := by decide +kernel
theorem dX6_takenUp_18 : decode cX6_takenUp 18 = .ok (.getfield 213, 3) := by decide +kernel
theorem dX6_takenUp_21 : decode cX6_takenUp 21 = .ok (.ifCond .le (-21), 3) := by decide +kernel
theorem dX6_takenUp_24 : decode cX6_takenUp 24 = .ok (.aload_n 0, 1) := by decide +kernel
theorem dX6_takenUp_25 : decode cX6_takenUp 25 = .ok (.getfield 131, 3) := by decide +kernel
theorem dX6_takenUp_28 : decode cX6_takenUp 28 = .ok (.aload_n 0, 1) := by decide +kernel
theorem dX6_takenUp_29 : decode cX6_takenUp 29 = .ok (.getfield 213, 3) := by decide +kernel
theorem dX6_takenUp_32 : decode cX6_takenUp 32 = .ok (.iaload, 1) := by decide +kernel
theorem dX6_takenUp_33 : decode cX6_takenUp 33 = .ok (.iconst 2, 1) := by decide +kernel
theorem dX6_takenUp_34 : decode cX6_takenUp 34 = .ok (.if_icmp .ne (-34), 3) := by decide +kernel
theorem dX6_takenUp_37 : decode cX6_takenUp 37 = .ok (.aload_n 0, 1) := by decide +kernel
theorem dX6_takenUp_38 : decode cX6_takenUp 38 = .ok (.getfield 216, 3) := by decide +kernel
theorem dX6_takenUp_41 : decode cX6_takenUp 41 = .ok (.bipush 30, 2) := by decide +kernel
theorem dX6_takenUp_43 : decode cX6_takenUp 43 = .ok (.if_icmp .ge 39, 3) := by decide +kernel
theorem dX6_takenUp_46 : decode cX6_takenUp 46 = .ok (.aload_n 0, 1) := by decide +kernel
theorem dX6_takenUp_47 : decode cX6_takenUp 47 = .ok (.dup, 1) := by decide +kernel
theorem dX6_takenUp_48 : decode cX6_takenUp 48 = .ok (.getfield 216, 3) := by decide +kernel
theorem dX6_takenUp_51 : decode cX6_takenUp 51 = .ok (.iconst 1, 1) := by decide +kernel
theorem dX6_takenUp_52 : decode cX6_takenUp 52 = .ok (.iadd, 1) := by decide +kernel
theorem dX6_takenUp_53 : decode cX6_takenUp 53 = .ok (.putfield 216, 3) := by decide +kernel
theorem dX6_takenUp_56 : decode cX6_takenUp 56 = .ok (.aload_n 0, 1) := by decide +kernel
theorem dX6_takenUp_57 : decode cX6_takenUp 57 = .ok (.iconst 0, 1) := by decide +kernel
theorem dX6_takenUp_58 : decode cX6_takenUp 58 = .ok (.putfield 207, 3) := by decide +kernel
theorem dX6_takenUp_61 : decode cX6_takenUp 61 = .ok (.aload_n 0, 1) := by decide +kernel
theorem dX6_takenUp_62 : decode cX6_takenUp 62 = .ok (.aload_n 0, 1) := by decide +kernel
theorem dX6_takenUp_63 : decode cX6_takenUp 63 = .ok (.getfield 134, 3) := by decide +kernel
theorem dX6_takenUp_66 : decode cX6_takenUp 66 = .ok (.aload_n 0, 1) := by decide +kernel
theorem dX6_takenUp_67 : decode cX6_takenUp 67 = .ok (.getfield 213, 3) := by decide +kernel
theorem dX6_takenUp_70 : decode cX6_takenUp 70 = .ok (.iaload, 1) := by decide +kernel
theorem dX6_takenUp_71 : decode cX6_takenUp 71 = .ok (.aload_n 0, 1) := by decide +kernel
theorem dX6_takenUp_72 : decode cX6_takenUp 72 = .ok (.getfield 210, 3) := by decide +kernel
theorem dX6_takenUp_75 : decode cX6_takenUp 75 = .ok (.iconst 3, 1) := by decide +kernel
theorem dX6_takenUp_76 : decode cX6_takenUp 76 = .ok (.iconst 0, 1) := by decide +kernel
theorem dX6_takenUp_77 : decode cX6_takenUp 77 = .ok (.invokevirtual 223, 3) := by decide +kernel
theorem dX6_takenUp_80 : decode cX6_takenUp 80 = .ok (.iconst 1, 1) := by decide +kernel
theorem dX6_takenUp_81 : decode cX6_takenUp 81 = .ok (.ireturn, 1) := by decide +kernel
theorem dX6_takenUp_82 : decode cX6_takenUp 82 = .ok (.aload_n 0, 1) := by decide +kernel
theorem dX6_takenUp_83 : decode cX6_takenUp 83 = .ok (.iconst (-1), 1) := by decide +kernel
theorem dX6_takenUp_84 : decode cX6_takenUp 84 = .ok (.putfield 210, 3) := by decide +kernel
theorem dX6_takenUp_87 : decode cX6_takenUp 87 = .ok (.goto (-87), 3) := by decide +kernel
theorem dX6_takenUp_90 : decode cX6_takenUp 90 = .ok (.iconst 0, 1) := by decide +kernel
theorem dX6_takenUp_91 : decode cX6_takenUp 91 = .ok (.ireturn, 1) := by decide +kernel
theorem dX6_run_0 : decode cX6_run 0 = .ok (.aload_n 0, 1) := by decide +kernel
theorem dX6_run_1 : decode cX6_run 1 = .ok (.dup, 1) := by decide +kernel
theorem dX6_run_2 : decode cX6_run 2 = .ok (.getfield 274, 3) := by decide +kernel
theorem dX6_run_5 : decode cX6_run 5 = .ok (.iconst 1, 1) := by decide +kernel
theorem dX6_run_6 : decode cX6_run 6 = .ok (.iadd, 1) := by decide +kernel
theorem dX6_run_7 : decode cX6_run 7 = .ok (.putfield 274, 3) := by decide +kernel
theorem dX6_run_10 : decode cX6_run 10 = .ok (.aload_n 0, 1) := by decide +kernel
theorem dX6_run_11 : decode cX6_run 11 = .ok (.iconst 0, 1) := by decide +kernel
theorem dX6_run_12 : decode cX6_run 12 = .ok (.putfield 216, 3) := by decide +kernel
theorem dX6_run_15 : decode cX6_run 15 = .ok (.aload_n 0, 1) := by decide +kernel
theorem dX6_run_16 : decode cX6_run 16 = .ok (.iconst 0, 1) := by decide +kernel
theorem dX6_run_17 : decode cX6_run 17 = .ok (.putfield 213, 3) := by decide +kernel
theorem dX6_run_20 : decode cX6_run 20 = .ok (.aload_n 0, 1) := by decide +kernel
theorem dX6_run_21 : decode cX6_run 21 = .ok (.iconst 0, 1) := by decide +kernel
theorem dX6_run_22 : decode cX6_run 22 = .ok (.putfield 207, 3) := by decide +kernel
theorem dX6_run_25 : decode cX6_run 25 = .ok (.aload_n 0, 1) := by decide +kernel
theorem dX6_run_26 : decode cX6_run 26 = .ok (.iload_n 1, 1) := by decide +kernel
theorem dX6_run_27 : decode cX6_run 27 = .ok (.iload_n 2, 1) := by decide +kernel
theorem dX6_run_28 : decode cX6_run 28 = .ok (.iconst 0, 1) := by decide +kernel
theorem dX6_run_29 : decode cX6_run 29 = .ok (.iconst 0, 1) := by decide +kernel
theorem dX6_run_30 : decode cX6_run 30 = .ok (.invokevirtual 223, 3) := by decide +kernel
theorem dX6_run_33 : decode cX6_run 33 = .ok (.aload_n 0, 1) := by decide +kernel
theorem dX6_run_34 : decode cX6_run 34 = .ok (.getfield 213, 3) := by decide +kernel
theorem dX6_run_37 : decode cX6_run 37 = .ok (.ifCond .le 151, 3) := by decide +kernel
theorem dX6_run_40 : decode cX6_run 40 = .ok (.aload_n 0, 1) := by decide +kernel
theorem dX6_run_41 : decode cX6_run 41 = .ok (.getfield 213, 3) := by decide +kernel
theorem dX6_run_44 : decode cX6_run 44 = .ok (.iconst 1, 1) := by decide +kernel
theorem dX6_run_45 : decode cX6_run 45 = .ok (.isub, 1) := by decide +kernel
theorem dX6_run_46 : decode cX6_run 46 = .ok (.istore_n 3, 1) := by decide +kernel
theorem dX6_run_47 : decode cX6_run 47 = .ok (.aload_n 0, 1) := by decide +kernel
theorem dX6_run_48 : decode cX6_run 48 = .ok (.getfield 122, 3) := by decide +kernel
theorem dX6_run_51 : decode cX6_run 51 = .ok (.iload_n 3, 1) := by decide +kernel
theorem dX6_run_52 : decode cX6_run 52 = .ok (.iaload, 1) := by decide +kernel
theorem dX6_run_53 : decode cX6_run 53 = .ok (.aload_n 0, 1) := by decide +kernel
theorem dX6_run_54 : decode cX6_run 54 = .ok (.getfield 7, 3) := by decide +kernel
theorem dX6_run_57 : decode cX6_run 57 = .ok (.aload_n 0, 1) := by decide +kernel
theorem dX6_run_58 : decode cX6_run 58 = .ok (.getfield 116, 3) := by decide +kernel
theorem dX6_run_61 : decode cX6_run 61 = .ok (.iload_n 3, 1) := by decide +kernel
theorem dX6_run_62 : decode cX6_run 62 = .ok (.iaload, 1) := by decide +kernel
theorem dX6_run_63 : decode cX6_run 63 = .ok (.iaload, 1) := by decide +kernel
theorem dX6_run_64 : decode cX6_run 64 = .ok (.if_icmp .ne 73, 3) := by decide +kernel
theorem dX6_run_67 : decode cX6_run 67 = .ok (.aload_n 0, 1) := by decide +kernel
theorem dX6_run_68 : decode cX6_run 68 = .ok (.aload_n 0, 1) := by decide +kernel
theorem dX6_run_69 : decode cX6_run 69 = .ok (.getfield 125, 3) := by decide +kernel
theorem dX6_run_72 : decode cX6_run 72 = .ok (.iload_n 3, 1) := by decide +kernel
theorem dX6_run_73 : decode cX6_run 73 = .ok (.baload, 1) := by decide +kernel
theorem dX6_run_74 : decode cX6_run 74 = .ok (.putfield 277, 3) := by decide +kernel
theorem dX6_run_77 : decode cX6_run 77 = .ok (.aload_n 0, 1) := by decide +kernel
theorem dX6_run_78 : decode cX6_run 78 = .ok (.aload_n 0, 1) := by decide +kernel
theorem dX6_run_79 : decode cX6_run 79 = .ok (.getfield 128, 3) := by decide +kernel
theorem dX6_run_82 : decode cX6_run 82 = .ok (.iload_n 3, 1) := by decide +kernel
theorem dX6_run_83 : decode cX6_run 83 = .ok (.iaload, 1) := by decide +kernel
theorem dX6_run_84 : decode cX6_run 84 = .ok (.putfield 280, 3) := by decide +kernel
theorem dX6_run_87 : decode cX6_run 87 = .ok (.aload_n 0, 1) := by decide +kernel
theorem dX6_run_88 : decode cX6_run 88 = .ok (.dup, 1) := by decide +kernel
theorem dX6_run_89 : decode cX6_run 89 = .ok (.getfield 213, 3) := by decide +kernel
theorem dX6_run_92 : decode cX6_run 92 = .ok (.iconst 1, 1) := by decide +kernel
theorem dX6_run_93 : decode cX6_run 93 = .ok (.isub, 1) := by decide +kernel
theorem dX6_run_94 : decode cX6_run 94 = .ok (.putfield 213, 3) := by decide +kernel
theorem dX6_run_97 : decode cX6_run 97 = .ok (.aload_n 0, 1) := by decide +kernel
theorem dX6_run_98 : decode cX6_run 98 = .ok (.getfield 213, 3) := by decide +kernel
theorem dX6_run_101 : decode cX6_run 101 = .ok (.ifCond .le 84, 3) := by decide +kernel
theorem dX6_run_104 : decode cX6_run 104 = .ok (.aload_n 0, 1) := by decide +kernel
theorem dX6_run_105 : decode cX6_run 105 = .ok (.getfield 125, 3) := by decide +kernel
theorem dX6_run_108 : decode cX6_run 108 = .ok (.aload_n 0, 1) := by decide +kernel
theorem dX6_run_109 : decode cX6_run 109 = .ok (.getfield 213, 3) := by decide +kernel
theorem dX6_run_112 : decode cX6_run 112 = .ok (.iconst 1, 1) := by decide +kernel
theorem dX6_run_113 : decode cX6_run 113 = .ok (.isub, 1) := by decide +kernel
theorem dX6_run_114 : decode cX6_run 114 = .ok (.aload_n 0, 1) := by decide +kernel
theorem dX6_run_115 : decode cX6_run 115 = .ok (.getfield 277, 3) := by decide +kernel
theorem dX6_run_118 : decode cX6_run 118 = .ok (.bastore, 1) := by decide +kernel
theorem dX6_run_119 : decode cX6_run 119 = .ok (.aload_n 0, 1) := by decide +kernel
theorem dX6_run_120 : decode cX6_run 120 = .ok (.getfield 128, 3) := by decide +kernel
theorem dX6_run_123 : decode cX6_run 123 = .ok (.aload_n 0, 1) := by decide +kernel
theorem dX6_run_124 : decode cX6_run 124 = .ok (.getfield 213, 3) := by decide +kernel
theorem dX6_run_127 : decode cX6_run 127 = .ok (.iconst 1, 1) := by decide +kernel
theorem dX6_run_128 : decode cX6_run 128 = .ok (.isub, 1) := by decide +kernel
theorem dX6_run_129 : decode cX6_run 129 = .ok (.aload_n 0, 1) := by decide +kernel
theorem dX6_run_130 : decode cX6_run 130 = .ok (.getfield 280, 3) := by decide +kernel
theorem dX6_run_133 : decode cX6_run 133 = .ok (.iastore, 1) := by decide +kernel
theorem dX6_run_134 : decode cX6_run 134 = .ok (.goto 51, 3) := by decide +kernel
theorem dX6_run_137 : decode cX6_run 137 = .ok (.aload_n 0, 1) := by decide +kernel
theorem dX6_run_138 : decode cX6_run 138 = .ok (.getfield 122, 3) := by decide +kernel
theorem dX6_run_141 : decode cX6_run 141 = .ok (.iload_n 3, 1) := by decide +kernel
theorem dX6_run_142 : decode cX6_run 142 = .ok (.dup2, 1) := by decide +kernel
theorem dX6_run_143 : decode cX6_run 143 = .ok (.iaload, 1) := by decide +kernel
theorem dX6_run_144 : decode cX6_run 144 = .ok (.iconst 1, 1) := by decide +kernel
theorem dX6_run_145 : decode cX6_run 145 = .ok (.iadd, 1) := by decide +kernel
theorem dX6_run_146 : decode cX6_run 146 = .ok (.iastore, 1) := by decide +kernel
theorem dX6_run_147 : decode cX6_run 147 = .ok (.aload_n 0, 1) := by decide +kernel
theorem dX6_run_148 : decode cX6_run 148 = .ok (.bipush 6, 2) := by decide +kernel
theorem dX6_run_150 : decode cX6_run 150 = .ok (.aload_n 0, 1) := by decide +kernel
theorem dX6_run_151 : decode cX6_run 151 = .ok (.getfield 116, 3) := by decide +kernel
theorem dX6_run_154 : decode cX6_run 154 = .ok (.iload_n 3, 1) := by decide +kernel
theorem dX6_run_155 : decode cX6_run 155 = .ok (.iaload, 1) := by decide +kernel
theorem dX6_run_156 : decode cX6_run 156 = .ok (.imul, 1) := by decide +kernel
theorem dX6_run_157 : decode cX6_run 157 = .ok (.aload_n 0, 1) := by decide +kernel
theorem dX6_run_158 : decode cX6_run 158 = .ok (.getfield 122, 3) := by decide +kernel
theorem dX6_run_161 : decode cX6_run 161 = .ok (.iload_n 3, 1) := by decide +kernel
theorem dX6_run_162 : decode cX6_run 162 = .ok (.iaload, 1) := by decide +kernel
theorem dX6_run_163 : decode cX6_run 163 = .ok (.iadd, 1) := by decide +kernel
theorem dX6_run_164 : decode cX6_run 164 = .ok (.iconst 1, 1) := by decide +kernel
theorem dX6_run_165 : decode cX6_run 165 = .ok (.isub, 1) := by decide +kernel
theorem dX6_run_166 : decode cX6_run 166 = .ok (.invokevirtual 283, 3) := by decide +kernel
theorem dX6_run_169 : decode cX6_run 169 = .ok (.aload_n 0, 1) := by decide +kernel
theorem dX6_run_170 : decode cX6_run 170 = .ok (.getfield 207, 3) := by decide +kernel
theorem dX6_run_173 : decode cX6_run 173 = .ok (.ifCond .eq 12, 3) := by decide +kernel
theorem dX6_run_176 : decode cX6_run 176 = .ok (.aload_n 0, 1) := by decide +kernel
theorem dX6_run_177 : decode cX6_run 177 = .ok (.invokevirtual 286, 3) := by decide +kernel
theorem dX6_run_180 : decode cX6_run 180 = .ok (.ifCond .ne 5, 3) := by decide +kernel
theorem dX6_run_183 : decode cX6_run 183 = .ok (.iconst 0, 1) := by decide +kernel
theorem dX6_run_184 : decode cX6_run 184 = .ok (.ireturn, 1) := by decide +kernel
theorem dX6_run_185 : decode cX6_run 185 = .ok (.goto (-152), 3) := by decide +kernel
theorem dX6_run_188 : decode cX6_run 188 = .ok (.iconst 1, 1) := by decide +kernel
theorem dX6_run_189 : decode cX6_run 189 = .ok (.ireturn, 1) := by decide +kernel
theorem dX6_runAndTell_0 : decode cX6_runAndTell 0 = .ok (.aload_n 0, 1) := by decide +kernel
theorem dX6_runAndTell_1 : decode cX6_runAndTell 1 = .ok (.iload_n 1, 1) := by decide +kernel
theorem dX6_runAndTell_2 : decode cX6_runAndTell 2 = .ok (.iload_n 2, 1) := by decide +kernel
theorem dX6_runAndTell_3 : decode cX6_runAndTell 3 = .ok (.invokevirtual 290, 3) := by decide +kernel
theorem dX6_runAndTell_6 : decode cX6_runAndTell 6 = .ok (.ifCond .ne 12, 3) := by decide +kernel
theorem dX6_runAndTell_9 : decode cX6_runAndTell 9 = .ok (.aload_n 0, 1) := by decide +kernel
theorem dX6_runAndTell_10 : decode cX6_runAndTell 10 = .ok (.iconst 1, 1) := by decide +kernel
theorem dX6_runAndTell_11 : decode cX6_runAndTell 11 = .ok (.aload_n 0, 1) := by decide +kernel
theorem dX6_runAndTell_12 : decode cX6_runAndTell 12 = .ok (.getfield 210, 3) := by decide +kernel
theorem dX6_runAndTell_15 : decode cX6_runAndTell 15 = .ok (.invokevirtual 183, 3) := by decide +kernel
theorem dX6_runAndTell_18 : decode cX6_runAndTell 18 = .ok (.return_, 1) := by decide +kernel
theorem dX6_functionOf_0 : decode cX6_functionOf 0 = .ok (.aload_n 0, 1) := by decide +kernel
theorem dX6_functionOf_1 : decode cX6_functionOf 1 = .ok (.getfield 47, 3) := by decide +kernel
theorem dX6_functionOf_4 : decode cX6_functionOf 4 = .ok (.iload_n 1, 1) := by decide +kernel
theorem dX6_functionOf_5 : decode cX6_functionOf 5 = .ok (.iaload, 1) := by decide +kernel
theorem dX6_functionOf_6 : decode cX6_functionOf 6 = .ok (.bipush (-2), 2) := by decide +kernel
theorem dX6_functionOf_8 : decode cX6_functionOf 8 = .ok (.if_icmp .ne 7, 3) := by decide +kernel
theorem dX6_functionOf_11 : decode cX6_functionOf 11 = .ok (.iconst (-1), 1) := by decide +kernel
theorem dX6_functionOf_12 : decode cX6_functionOf 12 = .ok (.goto 33, 3) := by decide +kernel
theorem dX6_functionOf_15 : decode cX6_functionOf 15 = .ok (.aload_n 0, 1) := by decide +kernel
theorem dX6_functionOf_16 : decode cX6_functionOf 16 = .ok (.getfield 25, 3) := by decide +kernel
theorem dX6_functionOf_19 : decode cX6_functionOf 19 = .ok (.aload_n 0, 1) := by decide +kernel
theorem dX6_functionOf_20 : decode cX6_functionOf 20 = .ok (.getfield 44, 3) := by decide +kernel
theorem dX6_functionOf_23 : decode cX6_functionOf 23 = .ok (.iload_n 1, 1) := by decide +kernel
theorem dX6_functionOf_24 : decode cX6_functionOf 24 = .ok (.iaload, 1) := by decide +kernel
theorem dX6_functionOf_25 : decode cX6_functionOf 25 = .ok (.iaload, 1) := by decide +kernel
theorem dX6_functionOf_26 : decode cX6_functionOf 26 = .ok (.iconst 1, 1) := by decide +kernel
theorem dX6_functionOf_27 : decode cX6_functionOf 27 = .ok (.if_icmp .ne 12, 3) := by decide +kernel
theorem dX6_functionOf_30 : decode cX6_functionOf 30 = .ok (.aload_n 0, 1) := by decide +kernel
theorem dX6_functionOf_31 : decode cX6_functionOf 31 = .ok (.getfield 47, 3) := by decide +kernel
theorem dX6_functionOf_34 : decode cX6_functionOf 34 = .ok (.iload_n 1, 1) := by decide +kernel
theorem dX6_functionOf_35 : decode cX6_functionOf 35 = .ok (.iaload, 1) := by decide +kernel
theorem dX6_functionOf_36 : decode cX6_functionOf 36 = .ok (.goto 9, 3) := by decide +kernel
theorem dX6_functionOf_39 : decode cX6_functionOf 39 = .ok (.aload_n 0, 1) := by decide +kernel
theorem dX6_functionOf_40 : decode cX6_functionOf 40 = .ok (.getfield 50, 3) := by decide +kernel
theorem dX6_functionOf_43 : decode cX6_functionOf 43 = .ok (.iload_n 1, 1) := by decide +kernel
theorem dX6_functionOf_44 : decode cX6_functionOf 44 = .ok (.iaload, 1) := by decide +kernel
theorem dX6_functionOf_45 : decode cX6_functionOf 45 = .ok (.ireturn, 1) := by decide +kernel
theorem dX6_doReaction_0 : decode cX6_doReaction 0 = .ok (.aload_n 0, 1) := by decide +kernel
theorem dX6_doReaction_1 : decode cX6_doReaction 1 = .ok (.getfield 44, 3) := by decide +kernel
theorem dX6_doReaction_4 : decode cX6_doReaction 4 = .ok (.iload_n 1, 1) := by decide +kernel
theorem dX6_doReaction_5 : decode cX6_doReaction 5 = .ok (.iaload, 1) := by decide +kernel
theorem dX6_doReaction_6 : decode cX6_doReaction 6 = .ok (.istore_n 2, 1) := by decide +kernel
theorem dX6_doReaction_7 : decode cX6_doReaction 7 = .ok (.aload_n 0, 1) := by decide +kernel
theorem dX6_doReaction_8 : decode cX6_doReaction 8 = .ok (.iload_n 1, 1) := by decide +kernel
theorem dX6_doReaction_9 : decode cX6_doReaction 9 = .ok (.invokevirtual 294, 3) := by decide +kernel
theorem dX6_doReaction_12 : decode cX6_doReaction 12 = .ok (.istore_n 3, 1) := by decide +kernel
theorem dX6_doReaction_13 : decode cX6_doReaction 13 = .ok (.aload_n 0, 1) := by decide +kernel
theorem dX6_doReaction_14 : decode cX6_doReaction 14 = .ok (.getfield 53, 3) := by decide +kernel
theorem dX6_doReaction_17 : decode cX6_doReaction 17 = .ok (.iload_n 1, 1) := by decide +kernel
theorem dX6_doReaction_18 : decode cX6_doReaction 18 = .ok (.iaload, 1) := by decide +kernel
theorem dX6_doReaction_19 : decode cX6_doReaction 19 = .ok (.istore 4, 2) := by decide +kernel
theorem dX6_doReaction_21 : decode cX6_doReaction 21 = .ok (.aload_n 0, 1) := by decide +kernel
theorem dX6_doReaction_22 : decode cX6_doReaction 22 = .ok (.getfield 47, 3) := by decide +kernel
theorem dX6_doReaction_25 : decode cX6_doReaction 25 = .ok (.iload_n 1, 1) := by decide +kernel
theorem dX6_doReaction_26 : decode cX6_doReaction 26 = .ok (.iaload, 1) := by decide +kernel
theorem dX6_doReaction_27 : decode cX6_doReaction 27 = .ok (.bipush (-2), 2) := by decide +kernel
theorem dX6_doReaction_29 : decode cX6_doReaction 29 = .ok (.if_icmp .ne 24, 3) := by decide +kernel
theorem dX6_doReaction_32 : decode cX6_doReaction 32 = .ok (.aload_n 0, 1) := by decide +kernel
theorem dX6_doReaction_33 : decode cX6_doReaction 33 = .ok (.iload 4, 2) := by decide +kernel
theorem dX6_doReaction_35 : decode cX6_doReaction 35 = .ok (.aload_n 0, 1) := by decide +kernel
theorem dX6_doReaction_36 : decode cX6_doReaction 36 = .ok (.getfield 25, 3) := by decide +kernel
theorem dX6_doReaction_39 : decode cX6_doReaction 39 = .ok (.iload_n 2, 1) := by decide +kernel
theorem dX6_doReaction_40 : decode cX6_doReaction 40 = .ok (.iaload, 1) := by decide +kernel
theorem dX6_doReaction_41 : decode cX6_doReaction 41 = .ok (.aload_n 0, 1) := by decide +kernel
theorem dX6_doReaction_42 : decode cX6_doReaction 42 = .ok (.getfield 28, 3) := by decide +kernel
theorem dX6_doReaction_45 : decode cX6_doReaction 45 = .ok (.iload_n 2, 1) := by decide +kernel
theorem dX6_doReaction_46 : decode cX6_doReaction 46 = .ok (.iaload, 1) := by decide +kernel
theorem dX6_doReaction_47 : decode cX6_doReaction 47 = .ok (.invokevirtual 180, 3) := by decide +kernel
theorem dX6_doReaction_50 : decode cX6_doReaction 50 = .ok (.goto 89, 3) := by decide +kernel
theorem dX6_doReaction_53 : decode cX6_doReaction 53 = .ok (.iload_n 3, 1) := by decide +kernel
theorem dX6_doReaction_54 : decode cX6_doReaction 54 = .ok (.ifCond .ge 44, 3) := by decide +kernel
theorem dX6_doReaction_57 : decode cX6_doReaction 57 = .ok (.aload_n 0, 1) := by decide +kernel
theorem dX6_doReaction_58 : decode cX6_doReaction 58 = .ok (.getfield 25, 3) := by decide +kernel
theorem dX6_doReaction_61 : decode cX6_doReaction 61 = .ok (.iload_n 2, 1) := by decide +kernel
theorem dX6_doReaction_62 : decode cX6_doReaction 62 = .ok (.iaload, 1) := by decide +kernel
theorem dX6_doReaction_63 : decode cX6_doReaction 63 = .ok (.iconst 1, 1) := by decide +kernel
theorem dX6_doReaction_64 : decode cX6_doReaction 64 = .ok (.if_icmp .ne 19, 3) := by decide +kernel
theorem dX6_doReaction_67 : decode cX6_doReaction 67 = .ok (.aload_n 0, 1) := by decide +kernel
theorem dX6_doReaction_68 : decode cX6_doReaction 68 = .ok (.iload 4, 2) := by decide +kernel
theorem dX6_doReaction_70 : decode cX6_doReaction 70 = .ok (.iconst 0, 1) := by decide +kernel
theorem dX6_doReaction_71 : decode cX6_doReaction 71 = .ok (.aload_n 0, 1) := by decide +kernel
theorem dX6_doReaction_72 : decode cX6_doReaction 72 = .ok (.getfield 28, 3) := by decide +kernel
theorem dX6_doReaction_75 : decode cX6_doReaction 75 = .ok (.iload_n 2, 1) := by decide +kernel
theorem dX6_doReaction_76 : decode cX6_doReaction 76 = .ok (.iaload, 1) := by decide +kernel
theorem dX6_doReaction_77 : decode cX6_doReaction 77 = .ok (.invokevirtual 246, 3) := by decide +kernel
theorem dX6_doReaction_80 : decode cX6_doReaction 80 = .ok (.goto 59, 3) := by decide +kernel
theorem dX6_doReaction_83 : decode cX6_doReaction 83 = .ok (.aload_n 0, 1) := by decide +kernel
theorem dX6_doReaction_84 : decode cX6_doReaction 84 = .ok (.iload 4, 2) := by decide +kernel
theorem dX6_doReaction_86 : decode cX6_doReaction 86 = .ok (.aload_n 0, 1) := by decide +kernel
theorem dX6_doReaction_87 : decode cX6_doReaction 87 = .ok (.getfield 28, 3) := by decide +kernel
theorem dX6_doReaction_90 : decode cX6_doReaction 90 = .ok (.iload_n 2, 1) := by decide +kernel
theorem dX6_doReaction_91 : decode cX6_doReaction 91 = .ok (.iaload, 1) := by decide +kernel
theorem dX6_doReaction_92 : decode cX6_doReaction 92 = .ok (.invokevirtual 243, 3) := by decide +kernel
theorem dX6_doReaction_95 : decode cX6_doReaction 95 = .ok (.goto 44, 3) := by decide +kernel
theorem dX6_doReaction_98 : decode cX6_doReaction 98 = .ok (.aload_n 0, 1) := by decide +kernel
theorem dX6_doReaction_99 : decode cX6_doReaction 99 = .ok (.iload_n 3, 1) := by decide +kernel
theorem dX6_doReaction_100 : decode cX6_doReaction 100 = .ok (.aload_n 0, 1) := by decide +kernel
theorem dX6_doReaction_101 : decode cX6_doReaction 101 = .ok (.getfield 28, 3) := by decide +kernel
theorem dX6_doReaction_104 : decode cX6_doReaction 104 = .ok (.iload_n 2, 1) := by decide +kernel
theorem dX6_doReaction_105 : decode cX6_doReaction 105 = .ok (.iaload, 1) := by decide +kernel
theorem dX6_doReaction_106 : decode cX6_doReaction 106 = .ok (.invokevirtual 290, 3) := by decide +kernel
theorem dX6_doReaction_109 : decode cX6_doReaction 109 = .ok (.ifCond .eq 20, 3) := by decide +kernel
theorem dX6_doReaction_112 : decode cX6_doReaction 112 = .ok (.aload_n 0, 1) := by decide +kernel
theorem dX6_doReaction_113 : decode cX6_doReaction 113 = .ok (.iload 4, 2) := by decide +kernel
theorem dX6_doReaction_115 : decode cX6_doReaction 115 = .ok (.aload_n 0, 1) := by decide +kernel
theorem dX6_doReaction_116 : decode cX6_doReaction 116 = .ok (.getfield 277, 3) := by decide +kernel
theorem dX6_doReaction_119 : decode cX6_doReaction 119 = .ok (.aload_n 0, 1) := by decide +kernel
theorem dX6_doReaction_120 : decode cX6_doReaction 120 = .ok (.getfield 280, 3) := by decide +kernel
theorem dX6_doReaction_123 : decode cX6_doReaction 123 = .ok (.invokevirtual 246, 3) := by decide +kernel
theorem dX6_doReaction_126 : decode cX6_doReaction 126 = .ok (.goto 13, 3) := by decide +kernel
theorem dX6_doReaction_129 : decode cX6_doReaction 129 = .ok (.aload_n 0, 1) := by decide +kernel
theorem dX6_doReaction_130 : decode cX6_doReaction 130 = .ok (.iload 4, 2) := by decide +kernel
theorem dX6_doReaction_132 : decode cX6_doReaction 132 = .ok (.aload_n 0, 1) := by decide +kernel
theorem dX6_doReaction_133 : decode cX6_doReaction 133 = .ok (.getfield 210, 3) := by decide +kernel
theorem dX6_doReaction_136 : decode cX6_doReaction 136 = .ok (.invokevirtual 243, 3) := by decide +kernel
theorem dX6_doReaction_139 : decode cX6_doReaction 139 = .ok (.return_, 1) := by decide +kernel
theorem dX6_checkpoint_0 : decode cX6_checkpoint 0 = .ok (.aload_n 0, 1) := by decide +kernel
theorem dX6_checkpoint_1 : decode cX6_checkpoint 1 = .ok (.getfield 154, 3) := by decide +kernel
theorem dX6_checkpoint_4 : decode cX6_checkpoint 4 = .ok (.ifCond .le 124, 3) := by decide +kernel
theorem dX6_checkpoint_7 : decode cX6_checkpoint 7 = .ok (.aload_n 0, 1) := by decide +kernel
theorem dX6_checkpoint_8 : decode cX6_checkpoint 8 = .ok (.getfield 59, 3) := by decide +kernel
theorem dX6_checkpoint_11 : decode cX6_checkpoint 11 = .ok (.aload_n 0, 1) := by decide +kernel
theorem dX6_checkpoint_12 : decode cX6_checkpoint 12 = .ok (.getfield 151, 3) := by decide +kernel
theorem dX6_checkpoint_15 : decode cX6_checkpoint 15 = .ok (.iaload, 1) := by decide +kernel
theorem dX6_checkpoint_16 : decode cX6_checkpoint 16 = .ok (.istore_n 1, 1) := by decide +kernel
theorem dX6_checkpoint_17 : decode cX6_checkpoint 17 = .ok (.aload_n 0, 1) := by decide +kernel
theorem dX6_checkpoint_18 : decode cX6_checkpoint 18 = .ok (.getfield 62, 3) := by decide +kernel
theorem dX6_checkpoint_21 : decode cX6_checkpoint 21 = .ok (.aload_n 0, 1) := by decide +kernel
theorem dX6_checkpoint_22 : decode cX6_checkpoint 22 = .ok (.getfield 151, 3) := by decide +kernel
theorem dX6_checkpoint_25 : decode cX6_checkpoint 25 = .ok (.iaload, 1) := by decide +kernel
theorem dX6_checkpoint_26 : decode cX6_checkpoint 26 = .ok (.istore_n 2, 1) := by decide +kernel
theorem dX6_checkpoint_27 : decode cX6_checkpoint 27 = .ok (.aload_n 0, 1) := by decide +kernel
theorem dX6_checkpoint_28 : decode cX6_checkpoint 28 = .ok (.getfield 65, 3) := by decide +kernel
theorem dX6_checkpoint_31 : decode cX6_checkpoint 31 = .ok (.aload_n 0, 1) := by decide +kernel
theorem dX6_checkpoint_32 : decode cX6_checkpoint 32 = .ok (.getfield 151, 3) := by decide +kernel
theorem dX6_checkpoint_35 : decode cX6_checkpoint 35 = .ok (.iaload, 1) := by decide +kernel
theorem dX6_checkpoint_36 : decode cX6_checkpoint 36 = .ok (.istore_n 3, 1) := by decide +kernel
theorem dX6_checkpoint_37 : decode cX6_checkpoint 37 = .ok (.aload_n 0, 1) := by decide +kernel
theorem dX6_checkpoint_38 : decode cX6_checkpoint 38 = .ok (.getfield 274, 3) := by decide +kernel
theorem dX6_checkpoint_41 : decode cX6_checkpoint 41 = .ok (.bipush 50, 2) := by decide +kernel
theorem dX6_checkpoint_43 : decode cX6_checkpoint 43 = .ok (.if_icmp .ne 22, 3) := by decide +kernel
theorem dX6_checkpoint_46 : decode cX6_checkpoint 46 = .ok (.iload_n 1, 1) := by decide +kernel
theorem dX6_checkpoint_47 : decode cX6_checkpoint 47 = .ok (.ifCond .eq 16, 3) := by decide +kernel
theorem dX6_checkpoint_50 : decode cX6_checkpoint 50 = .ok (.iload_n 1, 1) := by decide +kernel
theorem dX6_checkpoint_51 : decode cX6_checkpoint 51 = .ok (.iconst 1, 1) := by decide +kernel
theorem dX6_checkpoint_52 : decode cX6_checkpoint 52 = .ok (.if_icmp .ne 13, 3) := by decide +kernel
theorem dX6_checkpoint_55 : decode cX6_checkpoint 55 = .ok (.aload_n 0, 1) := by decide +kernel
theorem dX6_checkpoint_56 : decode cX6_checkpoint 56 = .ok (.iload_n 2, 1) := by decide +kernel
theorem dX6_checkpoint_57 : decode cX6_checkpoint 57 = .ok (.invokevirtual 294, 3) := by decide +kernel
theorem dX6_checkpoint_60 : decode cX6_checkpoint 60 = .ok (.ifCond .lt 5, 3) := by decide +kernel
theorem dX6_checkpoint_63 : decode cX6_checkpoint 63 = .ok (.iconst 0, 1) := by decide +kernel
theorem dX6_checkpoint_64 : decode cX6_checkpoint 64 = .ok (.ireturn, 1) := by decide +kernel
theorem dX6_checkpoint_65 : decode cX6_checkpoint 65 = .ok (.aload_n 0, 1) := by decide +kernel
theorem dX6_checkpoint_66 : decode cX6_checkpoint 66 = .ok (.aload_n 0, 1) := by decide +kernel
theorem dX6_checkpoint_67 : decode cX6_checkpoint 67 = .ok (.getfield 151, 3) := by decide +kernel
theorem dX6_checkpoint_70 : decode cX6_checkpoint 70 = .ok (.iconst 1, 1) := by decide +kernel
theorem dX6_checkpoint_71 : decode cX6_checkpoint 71 = .ok (.iadd, 1) := by decide +kernel
theorem dX6_checkpoint_72 : decode cX6_checkpoint 72 = .ok (.sipush 512, 3) := by decide +kernel
theorem dX6_checkpoint_75 : decode cX6_checkpoint 75 = .ok (.irem, 1) := by decide +kernel
theorem dX6_checkpoint_76 : decode cX6_checkpoint 76 = .ok (.putfield 151, 3) := by decide +kernel
theorem dX6_checkpoint_79 : decode cX6_checkpoint 79 = .ok (.aload_n 0, 1) := by decide +kernel
theorem dX6_checkpoint_80 : decode cX6_checkpoint 80 = .ok (.dup, 1) := by decide +kernel
theorem dX6_checkpoint_81 : decode cX6_checkpoint 81 = .ok (.getfield 154, 3) := by decide +kernel
theorem dX6_checkpoint_84 : decode cX6_checkpoint 84 = .ok (.iconst 1, 1) := by decide +kernel
theorem dX6_checkpoint_85 : decode cX6_checkpoint 85 = .ok (.isub, 1) := by decide +kernel
theorem dX6_checkpoint_86 : decode cX6_checkpoint 86 = .ok (.putfield 154, 3) := by decide +kernel
theorem dX6_checkpoint_89 : decode cX6_checkpoint 89 = .ok (.iload_n 1, 1) := by decide +kernel
theorem dX6_checkpoint_90 : decode cX6_checkpoint 90 = .ok (.ifCond .ne 12, 3) := by decide +kernel
theorem dX6_checkpoint_93 : decode cX6_checkpoint 93 = .ok (.aload_n 0, 1) := by decide +kernel
theorem dX6_checkpoint_94 : decode cX6_checkpoint 94 = .ok (.iload_n 2, 1) := by decide +kernel
theorem dX6_checkpoint_95 : decode cX6_checkpoint 95 = .ok (.iload_n 3, 1) := by decide +kernel
theorem dX6_checkpoint_96 : decode cX6_checkpoint 96 = .ok (.invokevirtual 297, 3) := by decide +kernel
theorem dX6_checkpoint_99 : decode cX6_checkpoint 99 = .ok (.goto 26, 3) := by decide +kernel
theorem dX6_checkpoint_102 : decode cX6_checkpoint 102 = .ok (.iload_n 1, 1) := by decide +kernel
theorem dX6_checkpoint_103 : decode cX6_checkpoint 103 = .ok (.iconst 1, 1) := by decide +kernel
theorem dX6_checkpoint_104 : decode cX6_checkpoint 104 = .ok (.if_icmp .ne 11, 3) := by decide +kernel
theorem dX6_checkpoint_107 : decode cX6_checkpoint 107 = .ok (.aload_n 0, 1) := by decide +kernel
theorem dX6_checkpoint_108 : decode cX6_checkpoint 108 = .ok (.iload_n 2, 1) := by decide +kernel
theorem dX6_checkpoint_109 : decode cX6_checkpoint 109 = .ok (.invokevirtual 300, 3) := by decide +kernel
theorem dX6_checkpoint_112 : decode cX6_checkpoint 112 = .ok (.goto 13, 3) := by decide +kernel
theorem dX6_checkpoint_115 : decode cX6_checkpoint 115 = .ok (.aload_n 0, 1) := by decide +kernel
theorem dX6_checkpoint_116 : decode cX6_checkpoint 116 = .ok (.iload_n 3, 1) := by decide +kernel
theorem dX6_checkpoint_117 : decode cX6_checkpoint 117 = .ok (.bipush (-2), 2) := by decide +kernel
theorem dX6_checkpoint_119 : decode cX6_checkpoint 119 = .ok (.bipush (-2), 2) := by decide +kernel
theorem dX6_checkpoint_121 : decode cX6_checkpoint 121 = .ok (.iload_n 2, 1) := by decide +kernel
theorem dX6_checkpoint_122 : decode cX6_checkpoint 122 = .ok (.invokevirtual 230, 3) := by decide +kernel
theorem dX6_checkpoint_125 : decode cX6_checkpoint 125 = .ok (.goto (-125), 3) := by decide +kernel
theorem dX6_checkpoint_128 : decode cX6_checkpoint 128 = .ok (.iconst 0, 1) := by decide +kernel
theorem dX6_checkpoint_129 : decode cX6_checkpoint 129 = .ok (.istore_n 1, 1) := by decide +kernel
theorem dX6_checkpoint_130 : decode cX6_checkpoint 130 = .ok (.iload_n 1, 1) := by decide +kernel
theorem dX6_checkpoint_131 : decode cX6_checkpoint 131 = .ok (.aload_n 0, 1) := by decide +kernel
theorem dX6_checkpoint_132 : decode cX6_checkpoint 132 = .ok (.getfield 170, 3) := by decide +kernel
theorem dX6_checkpoint_135 : decode cX6_checkpoint 135 = .ok (.if_icmp .ge 46, 3) := by decide +kernel
theorem dX6_checkpoint_138 : decode cX6_checkpoint 138 = .ok (.aload_n 0, 1) := by decide +kernel
theorem dX6_checkpoint_139 : decode cX6_checkpoint 139 = .ok (.getfield 35, 3) := by decide +kernel
theorem dX6_checkpoint_142 : decode cX6_checkpoint 142 = .ok (.aload_n 0, 1) := by decide +kernel
theorem dX6_checkpoint_143 : decode cX6_checkpoint 143 = .ok (.getfield 41, 3) := by decide +kernel
theorem dX6_checkpoint_146 : decode cX6_checkpoint 146 = .ok (.iload_n 1, 1) := by decide +kernel
theorem dX6_checkpoint_147 : decode cX6_checkpoint 147 = .ok (.iaload, 1) := by decide +kernel
theorem dX6_checkpoint_148 : decode cX6_checkpoint 148 = .ok (.baload, 1) := by decide +kernel
theorem dX6_checkpoint_149 : decode cX6_checkpoint 149 = .ok (.ifCond .ne 26, 3) := by decide +kernel
theorem dX6_checkpoint_152 : decode cX6_checkpoint 152 = .ok (.aload_n 0, 1) := by decide +kernel
theorem dX6_checkpoint_153 : decode cX6_checkpoint 153 = .ok (.getfield 38, 3) := by decide +kernel
theorem dX6_checkpoint_156 : decode cX6_checkpoint 156 = .ok (.aload_n 0, 1) := by decide +kernel
theorem dX6_checkpoint_157 : decode cX6_checkpoint 157 = .ok (.getfield 41, 3) := by decide +kernel
theorem dX6_checkpoint_160 : decode cX6_checkpoint 160 = .ok (.iload_n 1, 1) := by decide +kernel
theorem dX6_checkpoint_161 : decode cX6_checkpoint 161 = .ok (.iaload, 1) := by decide +kernel
theorem dX6_checkpoint_162 : decode cX6_checkpoint 162 = .ok (.iconst 1, 1) := by decide +kernel
theorem dX6_checkpoint_163 : decode cX6_checkpoint 163 = .ok (.bastore, 1) := by decide +kernel
theorem dX6_checkpoint_164 : decode cX6_checkpoint 164 = .ok (.aload_n 0, 1) := by decide +kernel
theorem dX6_checkpoint_165 : decode cX6_checkpoint 165 = .ok (.iconst 2, 1) := by decide +kernel
theorem dX6_checkpoint_166 : decode cX6_checkpoint 166 = .ok (.aload_n 0, 1) := by decide +kernel
theorem dX6_checkpoint_167 : decode cX6_checkpoint 167 = .ok (.getfield 41, 3) := by decide +kernel
theorem dX6_checkpoint_170 : decode cX6_checkpoint 170 = .ok (.iload_n 1, 1) := by decide +kernel
theorem dX6_checkpoint_171 : decode cX6_checkpoint 171 = .ok (.iaload, 1) := by decide +kernel
theorem dX6_checkpoint_172 : decode cX6_checkpoint 172 = .ok (.invokevirtual 183, 3) := by decide +kernel
theorem dX6_checkpoint_175 : decode cX6_checkpoint 175 = .ok (.iinc 1 1, 3) := by decide +kernel
theorem dX6_checkpoint_178 : decode cX6_checkpoint 178 = .ok (.goto (-48), 3) := by decide +kernel
theorem dX6_checkpoint_181 : decode cX6_checkpoint 181 = .ok (.aload_n 0, 1) := by decide +kernel
theorem dX6_checkpoint_182 : decode cX6_checkpoint 182 = .ok (.iconst 0, 1) := by decide +kernel
theorem dX6_checkpoint_183 : decode cX6_checkpoint 183 = .ok (.putfield 170, 3) := by decide +kernel
theorem dX6_checkpoint_186 : decode cX6_checkpoint 186 = .ok (.iconst 1, 1) := by decide +kernel
theorem dX6_checkpoint_187 : decode cX6_checkpoint 187 = .ok (.ireturn, 1) := by decide +kernel
theorem dX6_nextTask_0 : decode cX6_nextTask 0 = .ok (.iconst (-1), 1) := by decide +kernel
theorem dX6_nextTask_1 : decode cX6_nextTask 1 = .ok (.istore_n 1, 1) := by decide +kernel
theorem dX6_nextTask_2 : decode cX6_nextTask 2 = .ok (.aload_n 0, 1) := by decide +kernel
theorem dX6_nextTask_3 : decode cX6_nextTask 3 = .ok (.getfield 148, 3) := by decide +kernel
theorem dX6_nextTask_6 : decode cX6_nextTask 6 = .ok (.iconst 1, 1) := by decide +kernel
theorem dX6_nextTask_7 : decode cX6_nextTask 7 = .ok (.isub, 1) := by decide +kernel
theorem dX6_nextTask_8 : decode cX6_nextTask 8 = .ok (.istore_n 2, 1) := by decide +kernel
theorem dX6_nextTask_9 : decode cX6_nextTask 9 = .ok (.iload_n 2, 1) := by decide +kernel
theorem dX6_nextTask_10 : decode cX6_nextTask 10 = .ok (.ifCond .lt 69, 3) := by decide +kernel
theorem dX6_nextTask_13 : decode cX6_nextTask 13 = .ok (.aload_n 0, 1) := by decide +kernel
theorem dX6_nextTask_14 : decode cX6_nextTask 14 = .ok (.getfield 68, 3) := by decide +kernel
theorem dX6_nextTask_17 : decode cX6_nextTask 17 = .ok (.iload_n 2, 1) := by decide +kernel
theorem dX6_nextTask_18 : decode cX6_nextTask 18 = .ok (.iaload, 1) := by decide +kernel
theorem dX6_nextTask_19 : decode cX6_nextTask 19 = .ok (.istore_n 3, 1) := by decide +kernel
theorem dX6_nextTask_20 : decode cX6_nextTask 20 = .ok (.iload_n 1, 1) := by decide +kernel
theorem dX6_nextTask_21 : decode cX6_nextTask 21 = .ok (.ifCond .lt 34, 3) := by decide +kernel
theorem dX6_nextTask_24 : decode cX6_nextTask 24 = .ok (.iload_n 3, 1) := by decide +kernel
theorem dX6_nextTask_25 : decode cX6_nextTask 25 = .ok (.aload_n 0, 1) := by decide +kernel
theorem dX6_nextTask_26 : decode cX6_nextTask 26 = .ok (.getfield 164, 3) := by decide +kernel
theorem dX6_nextTask_29 : decode cX6_nextTask 29 = .ok (.if_icmp .eq 26, 3) := by decide +kernel
theorem dX6_nextTask_32 : decode cX6_nextTask 32 = .ok (.aload_n 0, 1) := by decide +kernel
theorem dX6_nextTask_33 : decode cX6_nextTask 33 = .ok (.getfield 68, 3) := by decide +kernel
theorem dX6_nextTask_36 : decode cX6_nextTask 36 = .ok (.iload_n 1, 1) := by decide +kernel
theorem dX6_nextTask_37 : decode cX6_nextTask 37 = .ok (.iaload, 1) := by decide +kernel
theorem dX6_nextTask_38 : decode cX6_nextTask 38 = .ok (.aload_n 0, 1) := by decide +kernel
theorem dX6_nextTask_39 : decode cX6_nextTask 39 = .ok (.getfield 164, 3) := by decide +kernel
theorem dX6_nextTask_42 : decode cX6_nextTask 42 = .ok (.if_icmp .eq 17, 3) := by decide +kernel
theorem dX6_nextTask_45 : decode cX6_nextTask 45 = .ok (.iload_n 3, 1) := by decide +kernel
theorem dX6_nextTask_46 : decode cX6_nextTask 46 = .ok (.aload_n 0, 1) := by decide +kernel
theorem dX6_nextTask_47 : decode cX6_nextTask 47 = .ok (.getfield 68, 3) := by decide +kernel
theorem dX6_nextTask_50 : decode cX6_nextTask 50 = .ok (.iload_n 1, 1) := by decide +kernel
theorem dX6_nextTask_51 : decode cX6_nextTask 51 = .ok (.iaload, 1) := by decide +kernel
theorem dX6_nextTask_52 : decode cX6_nextTask 52 = .ok (.if_icmp .gt 7, 3) := by decide +kernel
theorem dX6_nextTask_55 : decode cX6_nextTask 55 = .ok (.iconst 1, 1) := by decide +kernel
theorem dX6_nextTask_56 : decode cX6_nextTask 56 = .ok (.goto 4, 3) := by decide +kernel
theorem dX6_nextTask_59 : decode cX6_nextTask 59 = .ok (.iconst 0, 1) := by decide +kernel
theorem dX6_nextTask_60 : decode cX6_nextTask 60 = .ok (.istore 4, 2) := by decide +kernel
theorem dX6_nextTask_62 : decode cX6_nextTask 62 = .ok (.iload 4, 2) := by decide +kernel
theorem dX6_nextTask_64 : decode cX6_nextTask 64 = .ok (.ifCond .eq 7, 3) := by decide +kernel
theorem dX6_nextTask_67 : decode cX6_nextTask 67 = .ok (.iload_n 2, 1) := by decide +kernel
theorem dX6_nextTask_68 : decode cX6_nextTask 68 = .ok (.goto 4, 3) := by decide +kernel
theorem dX6_nextTask_71 : decode cX6_nextTask 71 = .ok (.iload_n 1, 1) := by decide +kernel
theorem dX6_nextTask_72 : decode cX6_nextTask 72 = .ok (.istore_n 1, 1) := by decide +kernel
theorem dX6_nextTask_73 : decode cX6_nextTask 73 = .ok (.iinc 2 (-1), 3) := by decide +kernel
theorem dX6_nextTask_76 : decode cX6_nextTask 76 = .ok (.goto (-67), 3) := by decide +kernel
theorem dX6_nextTask_79 : decode cX6_nextTask 79 = .ok (.iload_n 1, 1) := by decide +kernel
theorem dX6_nextTask_80 : decode cX6_nextTask 80 = .ok (.ireturn, 1) := by decide +kernel
theorem dX6_dropTask_0 : decode cX6_dropTask 0 = .ok (.aload_n 0, 1) := by decide +kernel
theorem dX6_dropTask_1 : decode cX6_dropTask 1 = .ok (.dup, 1) := by decide +kernel
theorem dX6_dropTask_2 : decode cX6_dropTask 2 = .ok (.getfield 148, 3) := by decide +kernel
theorem dX6_dropTask_5 : decode cX6_dropTask 5 = .ok (.iconst 1, 1) := by decide +kernel
theorem dX6_dropTask_6 : decode cX6_dropTask 6 = .ok (.isub, 1) := by decide +kernel
theorem dX6_dropTask_7 : decode cX6_dropTask 7 = .ok (.putfield 148, 3) := by decide +kernel
theorem dX6_dropTask_10 : decode cX6_dropTask 10 = .ok (.iload_n 1, 1) := by decide +kernel
theorem dX6_dropTask_11 : decode cX6_dropTask 11 = .ok (.istore_n 2, 1) := by decide +kernel
theorem dX6_dropTask_12 : decode cX6_dropTask 12 = .ok (.iload_n 2, 1) := by decide +kernel
theorem dX6_dropTask_13 : decode cX6_dropTask 13 = .ok (.aload_n 0, 1) := by decide +kernel
theorem dX6_dropTask_14 : decode cX6_dropTask 14 = .ok (.getfield 148, 3) := by decide +kernel
theorem dX6_dropTask_17 : decode cX6_dropTask 17 = .ok (.if_icmp .ge 65, 3) := by decide +kernel
theorem dX6_dropTask_20 : decode cX6_dropTask 20 = .ok (.aload_n 0, 1) := by decide +kernel
theorem dX6_dropTask_21 : decode cX6_dropTask 21 = .ok (.getfield 68, 3) := by decide +kernel
theorem dX6_dropTask_24 : decode cX6_dropTask 24 = .ok (.iload_n 2, 1) := by decide +kernel
theorem dX6_dropTask_25 : decode cX6_dropTask 25 = .ok (.aload_n 0, 1) := by decide +kernel
theorem dX6_dropTask_26 : decode cX6_dropTask 26 = .ok (.getfield 68, 3) := by decide +kernel
theorem dX6_dropTask_29 : decode cX6_dropTask 29 = .ok (.iload_n 2, 1) := by decide +kernel
theorem dX6_dropTask_30 : decode cX6_dropTask 30 = .ok (.iconst 1, 1) := by decide +kernel
theorem dX6_dropTask_31 : decode cX6_dropTask 31 = .ok (.iadd, 1) := by decide +kernel
theorem dX6_dropTask_32 : decode cX6_dropTask 32 = .ok (.iaload, 1) := by decide +kernel
theorem dX6_dropTask_33 : decode cX6_dropTask 33 = .ok (.iastore, 1) := by decide +kernel
theorem dX6_dropTask_34 : decode cX6_dropTask 34 = .ok (.aload_n 0, 1) := by decide +kernel
theorem dX6_dropTask_35 : decode cX6_dropTask 35 = .ok (.getfield 71, 3) := by decide +kernel
theorem dX6_dropTask_38 : decode cX6_dropTask 38 = .ok (.iload_n 2, 1) := by decide +kernel
theorem dX6_dropTask_39 : decode cX6_dropTask 39 = .ok (.aload_n 0, 1) := by decide +kernel
theorem dX6_dropTask_40 : decode cX6_dropTask 40 = .ok (.getfield 71, 3) := by decide +kernel
theorem dX6_dropTask_43 : decode cX6_dropTask 43 = .ok (.iload_n 2, 1) := by decide +kernel
theorem dX6_dropTask_44 : decode cX6_dropTask 44 = .ok (.iconst 1, 1) := by decide +kernel
theorem dX6_dropTask_45 : decode cX6_dropTask 45 = .ok (.iadd, 1) := by decide +kernel
theorem dX6_dropTask_46 : decode cX6_dropTask 46 = .ok (.iaload, 1) := by decide +kernel
theorem dX6_dropTask_47 : decode cX6_dropTask 47 = .ok (.iastore, 1) := by decide +kernel
theorem dX6_dropTask_48 : decode cX6_dropTask 48 = .ok (.aload_n 0, 1) := by decide +kernel
theorem dX6_dropTask_49 : decode cX6_dropTask 49 = .ok (.getfield 74, 3) := by decide +kernel
theorem dX6_dropTask_52 : decode cX6_dropTask 52 = .ok (.iload_n 2, 1) := by decide +kernel
theorem dX6_dropTask_53 : decode cX6_dropTask 53 = .ok (.aload_n 0, 1) := by decide +kernel
theorem dX6_dropTask_54 : decode cX6_dropTask 54 = .ok (.getfield 74, 3) := by decide +kernel
theorem dX6_dropTask_57 : decode cX6_dropTask 57 = .ok (.iload_n 2, 1) := by decide +kernel
theorem dX6_dropTask_58 : decode cX6_dropTask 58 = .ok (.iconst 1, 1) := by decide +kernel
theorem dX6_dropTask_59 : decode cX6_dropTask 59 = .ok (.iadd, 1) := by decide +kernel
theorem dX6_dropTask_60 : decode cX6_dropTask 60 = .ok (.iaload, 1) := by decide +kernel
theorem dX6_dropTask_61 : decode cX6_dropTask 61 = .ok (.iastore, 1) := by decide +kernel
theorem dX6_dropTask_62 : decode cX6_dropTask 62 = .ok (.aload_n 0, 1) := by decide +kernel
theorem dX6_dropTask_63 : decode cX6_dropTask 63 = .ok (.getfield 77, 3) := by decide +kernel
theorem dX6_dropTask_66 : decode cX6_dropTask 66 = .ok (.iload_n 2, 1) := by decide +kernel
theorem dX6_dropTask_67 : decode cX6_dropTask 67 = .ok (.aload_n 0, 1) := by decide +kernel
theorem dX6_dropTask_68 : decode cX6_dropTask 68 = .ok (.getfield 77, 3) := by decide +kernel
theorem dX6_dropTask_71 : decode cX6_dropTask 71 = .ok (.iload_n 2, 1) := by decide +kernel
theorem dX6_dropTask_72 : decode cX6_dropTask 72 = .ok (.iconst 1, 1) := by decide +kernel
theorem dX6_dropTask_73 : decode cX6_dropTask 73 = .ok (.iadd, 1) := by decide +kernel
theorem dX6_dropTask_74 : decode cX6_dropTask 74 = .ok (.iaload, 1) := by decide +kernel
theorem dX6_dropTask_75 : decode cX6_dropTask 75 = .ok (.iastore, 1) := by decide +kernel
theorem dX6_dropTask_76 : decode cX6_dropTask 76 = .ok (.iinc 2 1, 3) := by decide +kernel
theorem dX6_dropTask_79 : decode cX6_dropTask 79 = .ok (.goto (-67), 3) := by decide +kernel
theorem dX6_dropTask_82 : decode cX6_dropTask 82 = .ok (.return_, 1) := by decide +kernel
theorem dX6_doTimer_0 : decode cX6_doTimer 0 = .ok (.aload_n 0, 1) := by decide +kernel
theorem dX6_doTimer_1 : decode cX6_doTimer 1 = .ok (.iload_n 1, 1) := by decide +kernel
theorem dX6_doTimer_2 : decode cX6_doTimer 2 = .ok (.invokevirtual 256, 3) := by decide +kernel
theorem dX6_doTimer_5 : decode cX6_doTimer 5 = .ok (.istore_n 2, 1) := by decide +kernel
theorem dX6_doTimer_6 : decode cX6_doTimer 6 = .ok (.aload_n 0, 1) := by decide +kernel
theorem dX6_doTimer_7 : decode cX6_doTimer 7 = .ok (.getfield 83, 3) := by decide +kernel
theorem dX6_doTimer_10 : decode cX6_doTimer 10 = .ok (.iload_n 2, 1) := by decide +kernel
theorem dX6_doTimer_11 : decode cX6_doTimer 11 = .ok (.iaload, 1) := by decide +kernel
theorem dX6_doTimer_12 : decode cX6_doTimer 12 = .ok (.istore_n 3, 1) := by decide +kernel
theorem dX6_doTimer_13 : decode cX6_doTimer 13 = .ok (.aload_n 0, 1) := by decide +kernel
theorem dX6_doTimer_14 : decode cX6_doTimer 14 = .ok (.getfield 86, 3) := by decide +kernel
theorem dX6_doTimer_17 : decode cX6_doTimer 17 = .ok (.iload_n 2, 1) := by decide +kernel
theorem dX6_doTimer_18 : decode cX6_doTimer 18 = .ok (.iaload, 1) := by decide +kernel
theorem dX6_doTimer_19 : decode cX6_doTimer 19 = .ok (.istore 4, 2) := by decide +kernel
theorem dX6_doTimer_21 : decode cX6_doTimer 21 = .ok (.aload_n 0, 1) := by decide +kernel
theorem dX6_doTimer_22 : decode cX6_doTimer 22 = .ok (.aload_n 0, 1) := by decide +kernel
theorem dX6_doTimer_23 : decode cX6_doTimer 23 = .ok (.getfield 92, 3) := by decide +kernel
theorem dX6_doTimer_26 : decode cX6_doTimer 26 = .ok (.iload_n 2, 1) := by decide +kernel
theorem dX6_doTimer_27 : decode cX6_doTimer 27 = .ok (.iaload, 1) := by decide +kernel
theorem dX6_doTimer_28 : decode cX6_doTimer 28 = .ok (.iconst 1, 1) := by decide +kernel
theorem dX6_doTimer_29 : decode cX6_doTimer 29 = .ok (.iadd, 1) := by decide +kernel
theorem dX6_doTimer_30 : decode cX6_doTimer 30 = .ok (.putfield 196, 3) := by decide +kernel
theorem dX6_doTimer_33 : decode cX6_doTimer 33 = .ok (.aload_n 0, 1) := by decide +kernel
theorem dX6_doTimer_34 : decode cX6_doTimer 34 = .ok (.getfield 98, 3) := by decide +kernel
theorem dX6_doTimer_37 : decode cX6_doTimer 37 = .ok (.iload_n 2, 1) := by decide +kernel
theorem dX6_doTimer_38 : decode cX6_doTimer 38 = .ok (.baload, 1) := by decide +kernel
theorem dX6_doTimer_39 : decode cX6_doTimer 39 = .ok (.ifCond .ne 8, 3) := by decide +kernel
theorem dX6_doTimer_42 : decode cX6_doTimer 42 = .ok (.aload_n 0, 1) := by decide +kernel
theorem dX6_doTimer_43 : decode cX6_doTimer 43 = .ok (.iload_n 2, 1) := by decide +kernel
theorem dX6_doTimer_44 : decode cX6_doTimer 44 = .ok (.invokevirtual 259, 3) := by decide +kernel
theorem dX6_doTimer_47 : decode cX6_doTimer 47 = .ok (.aload_n 0, 1) := by decide +kernel
theorem dX6_doTimer_48 : decode cX6_doTimer 48 = .ok (.iload_n 3, 1) := by decide +kernel
theorem dX6_doTimer_49 : decode cX6_doTimer 49 = .ok (.iload 4, 2) := by decide +kernel
theorem dX6_doTimer_51 : decode cX6_doTimer 51 = .ok (.invokevirtual 297, 3) := by decide +kernel
theorem dX6_doTimer_54 : decode cX6_doTimer 54 = .ok (.aload_n 0, 1) := by decide +kernel
theorem dX6_doTimer_55 : decode cX6_doTimer 55 = .ok (.iconst 1, 1) := by decide +kernel
theorem dX6_doTimer_56 : decode cX6_doTimer 56 = .ok (.putfield 196, 3) := by decide +kernel
theorem dX6_doTimer_59 : decode cX6_doTimer 59 = .ok (.aload_n 0, 1) := by decide +kernel
theorem dX6_doTimer_60 : decode cX6_doTimer 60 = .ok (.iload_n 1, 1) := by decide +kernel
theorem dX6_doTimer_61 : decode cX6_doTimer 61 = .ok (.invokevirtual 256, 3) := by decide +kernel
theorem dX6_doTimer_64 : decode cX6_doTimer 64 = .ok (.istore_n 2, 1) := by decide +kernel
theorem dX6_doTimer_65 : decode cX6_doTimer 65 = .ok (.iload_n 2, 1) := by decide +kernel
theorem dX6_doTimer_66 : decode cX6_doTimer 66 = .ok (.ifCond .lt 31, 3) := by decide +kernel
theorem dX6_doTimer_69 : decode cX6_doTimer 69 = .ok (.aload_n 0, 1) := by decide +kernel
theorem dX6_doTimer_70 : decode cX6_doTimer 70 = .ok (.getfield 92, 3) := by decide +kernel
theorem dX6_doTimer_73 : decode cX6_doTimer 73 = .ok (.iload_n 2, 1) := by decide +kernel
theorem dX6_doTimer_74 : decode cX6_doTimer 74 = .ok (.dup2, 1) := by decide +kernel
theorem dX6_doTimer_75 : decode cX6_doTimer 75 = .ok (.iaload, 1) := by decide +kernel
theorem dX6_doTimer_76 : decode cX6_doTimer 76 = .ok (.iconst 1, 1) := by decide +kernel
theorem dX6_doTimer_77 : decode cX6_doTimer 77 = .ok (.iadd, 1) := by decide +kernel
theorem dX6_doTimer_78 : decode cX6_doTimer 78 = .ok (.iastore, 1) := by decide +kernel
theorem dX6_doTimer_79 : decode cX6_doTimer 79 = .ok (.aload_n 0, 1) := by decide +kernel
theorem dX6_doTimer_80 : decode cX6_doTimer 80 = .ok (.getfield 101, 3) := by decide +kernel
theorem dX6_doTimer_83 : decode cX6_doTimer 83 = .ok (.iload_n 2, 1) := by decide +kernel
theorem dX6_doTimer_84 : decode cX6_doTimer 84 = .ok (.iconst 0, 1) := by decide +kernel
theorem dX6_doTimer_85 : decode cX6_doTimer 85 = .ok (.bastore, 1) := by decide +kernel
theorem dX6_doTimer_86 : decode cX6_doTimer 86 = .ok (.aload_n 0, 1) := by decide +kernel
theorem dX6_doTimer_87 : decode cX6_doTimer 87 = .ok (.getfield 95, 3) := by decide +kernel
theorem dX6_doTimer_90 : decode cX6_doTimer 90 = .ok (.iload_n 2, 1) := by decide +kernel
theorem dX6_doTimer_91 : decode cX6_doTimer 91 = .ok (.aload_n 0, 1) := by decide +kernel
theorem dX6_doTimer_92 : decode cX6_doTimer 92 = .ok (.iload_n 2, 1) := by decide +kernel
theorem dX6_doTimer_93 : decode cX6_doTimer 93 = .ok (.invokevirtual 199, 3) := by decide +kernel
theorem dX6_doTimer_96 : decode cX6_doTimer 96 = .ok (.iastore, 1) := by decide +kernel
theorem dX6_doTimer_97 : decode cX6_doTimer 97 = .ok (.return_, 1) := by decide +kernel
theorem dX6_doTask_0 : decode cX6_doTask 0 = .ok (.aload_n 0, 1) := by decide +kernel
theorem dX6_doTask_1 : decode cX6_doTask 1 = .ok (.invokevirtual 303, 3) := by decide +kernel
theorem dX6_doTask_4 : decode cX6_doTask 4 = .ok (.istore_n 1, 1) := by decide +kernel
theorem dX6_doTask_5 : decode cX6_doTask 5 = .ok (.aload_n 0, 1) := by decide +kernel
theorem dX6_doTask_6 : decode cX6_doTask 6 = .ok (.getfield 77, 3) := by decide +kernel
theorem dX6_doTask_9 : decode cX6_doTask 9 = .ok (.iload_n 1, 1) := by decide +kernel
theorem dX6_doTask_10 : decode cX6_doTask 10 = .ok (.iaload, 1) := by decide +kernel
theorem dX6_doTask_11 : decode cX6_doTask 11 = .ok (.istore_n 2, 1) := by decide +kernel
theorem dX6_doTask_12 : decode cX6_doTask 12 = .ok (.iload_n 2, 1) := by decide +kernel
theorem dX6_doTask_13 : decode cX6_doTask 13 = .ok (.ifCond .le 15, 3) := by decide +kernel
theorem dX6_doTask_16 : decode cX6_doTask 16 = .ok (.aload_n 0, 1) := by decide +kernel
theorem dX6_doTask_17 : decode cX6_doTask 17 = .ok (.iload_n 2, 1) := by decide +kernel
theorem dX6_doTask_18 : decode cX6_doTask 18 = .ok (.invokevirtual 256, 3) := by decide +kernel
theorem dX6_doTask_21 : decode cX6_doTask 21 = .ok (.ifCond .ge 7, 3) := by decide +kernel
theorem dX6_doTask_24 : decode cX6_doTask 24 = .ok (.iconst 1, 1) := by decide +kernel
theorem dX6_doTask_25 : decode cX6_doTask 25 = .ok (.goto 4, 3) := by decide +kernel
theorem dX6_doTask_28 : decode cX6_doTask 28 = .ok (.iconst 0, 1) := by decide +kernel
theorem dX6_doTask_29 : decode cX6_doTask 29 = .ok (.istore_n 3, 1) := by decide +kernel
theorem dX6_doTask_30 : decode cX6_doTask 30 = .ok (.aload_n 0, 1) := by decide +kernel
theorem dX6_doTask_31 : decode cX6_doTask 31 = .ok (.getfield 274, 3) := by decide +kernel
theorem dX6_doTask_34 : decode cX6_doTask 34 = .ok (.bipush 50, 2) := by decide +kernel
theorem dX6_doTask_36 : decode cX6_doTask 36 = .ok (.if_icmp .ne 9, 3) := by decide +kernel
theorem dX6_doTask_39 : decode cX6_doTask 39 = .ok (.iload_n 3, 1) := by decide +kernel
theorem dX6_doTask_40 : decode cX6_doTask 40 = .ok (.ifCond .ne 5, 3) := by decide +kernel
theorem dX6_doTask_43 : decode cX6_doTask 43 = .ok (.iconst 0, 1) := by decide +kernel
theorem dX6_doTask_44 : decode cX6_doTask 44 = .ok (.ireturn, 1) := by decide +kernel
theorem dX6_doTask_45 : decode cX6_doTask 45 = .ok (.aload_n 0, 1) := by decide +kernel
theorem dX6_doTask_46 : decode cX6_doTask 46 = .ok (.getfield 71, 3) := by decide +kernel
theorem dX6_doTask_49 : decode cX6_doTask 49 = .ok (.iload_n 1, 1) := by decide +kernel
theorem dX6_doTask_50 : decode cX6_doTask 50 = .ok (.iaload, 1) := by decide +kernel
theorem dX6_doTask_51 : decode cX6_doTask 51 = .ok (.istore 4, 2) := by decide +kernel
theorem dX6_doTask_53 : decode cX6_doTask 53 = .ok (.aload_n 0, 1) := by decide +kernel
theorem dX6_doTask_54 : decode cX6_doTask 54 = .ok (.getfield 74, 3) := by decide +kernel
theorem dX6_doTask_57 : decode cX6_doTask 57 = .ok (.iload_n 1, 1) := by decide +kernel
theorem dX6_doTask_58 : decode cX6_doTask 58 = .ok (.iaload, 1) := by decide +kernel
theorem dX6_doTask_59 : decode cX6_doTask 59 = .ok (.istore 5, 2) := by decide +kernel
theorem dX6_doTask_61 : decode cX6_doTask 61 = .ok (.aload_n 0, 1) := by decide +kernel
theorem dX6_doTask_62 : decode cX6_doTask 62 = .ok (.iload_n 1, 1) := by decide +kernel
theorem dX6_doTask_63 : decode cX6_doTask 63 = .ok (.invokevirtual 306, 3) := by decide +kernel
theorem dX6_doTask_66 : decode cX6_doTask 66 = .ok (.iload_n 2, 1) := by decide +kernel
theorem dX6_doTask_67 : decode cX6_doTask 67 = .ok (.ifCond .ne 14, 3) := by decide +kernel
theorem dX6_doTask_70 : decode cX6_doTask 70 = .ok (.aload_n 0, 1) := by decide +kernel
theorem dX6_doTask_71 : decode cX6_doTask 71 = .ok (.iload 4, 2) := by decide +kernel
theorem dX6_doTask_73 : decode cX6_doTask 73 = .ok (.iload 5, 2) := by decide +kernel
theorem dX6_doTask_75 : decode cX6_doTask 75 = .ok (.invokevirtual 297, 3) := by decide +kernel
theorem dX6_doTask_78 : decode cX6_doTask 78 = .ok (.goto 12, 3) := by decide +kernel
theorem dX6_doTask_81 : decode cX6_doTask 81 = .ok (.iload_n 3, 1) := by decide +kernel
theorem dX6_doTask_82 : decode cX6_doTask 82 = .ok (.ifCond .ne 8, 3) := by decide +kernel
theorem dX6_doTask_85 : decode cX6_doTask 85 = .ok (.aload_n 0, 1) := by decide +kernel
theorem dX6_doTask_86 : decode cX6_doTask 86 = .ok (.iload_n 2, 1) := by decide +kernel
theorem dX6_doTask_87 : decode cX6_doTask 87 = .ok (.invokevirtual 309, 3) := by decide +kernel
theorem dX6_doTask_90 : decode cX6_doTask 90 = .ok (.aload_n 0, 1) := by decide +kernel
theorem dX6_doTask_91 : decode cX6_doTask 91 = .ok (.invokevirtual 312, 3) := by decide +kernel
theorem dX6_doTask_94 : decode cX6_doTask 94 = .ok (.ireturn, 1) := by decide +kernel
theorem dX6_giveBack_0 : decode cX6_giveBack 0 = .ok (.aload_n 0, 1) := by decide +kernel
theorem dX6_giveBack_1 : decode cX6_giveBack 1 = .ok (.getfield 315, 3) := by decide +kernel
theorem dX6_giveBack_4 : decode cX6_giveBack 4 = .ok (.iload_n 1, 1) := by decide +kernel
theorem dX6_giveBack_5 : decode cX6_giveBack 5 = .ok (.isub, 1) := by decide +kernel
theorem dX6_giveBack_6 : decode cX6_giveBack 6 = .ok (.istore_n 2, 1) := by decide +kernel
theorem dX6_giveBack_7 : decode cX6_giveBack 7 = .ok (.aload_n 0, 1) := by decide +kernel
theorem dX6_giveBack_8 : decode cX6_giveBack 8 = .ok (.getfield 233, 3) := by decide +kernel
theorem dX6_giveBack_11 : decode cX6_giveBack 11 = .ok (.iconst 1, 1) := by decide +kernel
theorem dX6_giveBack_12 : decode cX6_giveBack 12 = .ok (.isub, 1) := by decide +kernel
theorem dX6_giveBack_13 : decode cX6_giveBack 13 = .ok (.istore_n 3, 1) := by decide +kernel
theorem dX6_giveBack_14 : decode cX6_giveBack 14 = .ok (.iload_n 3, 1) := by decide +kernel
theorem dX6_giveBack_15 : decode cX6_giveBack 15 = .ok (.ifCond .lt 23, 3) := by decide +kernel
theorem dX6_giveBack_18 : decode cX6_giveBack 18 = .ok (.aload_n 0, 1) := by decide +kernel
theorem dX6_giveBack_19 : decode cX6_giveBack 19 = .ok (.getfield 104, 3) := by decide +kernel
theorem dX6_giveBack_22 : decode cX6_giveBack 22 = .ok (.iload_n 3, 1) := by decide +kernel
theorem dX6_giveBack_23 : decode cX6_giveBack 23 = .ok (.iload_n 2, 1) := by decide +kernel
theorem dX6_giveBack_24 : decode cX6_giveBack 24 = .ok (.iadd, 1) := by decide +kernel
theorem dX6_giveBack_25 : decode cX6_giveBack 25 = .ok (.aload_n 0, 1) := by decide +kernel
theorem dX6_giveBack_26 : decode cX6_giveBack 26 = .ok (.getfield 104, 3) := by decide +kernel
theorem dX6_giveBack_29 : decode cX6_giveBack 29 = .ok (.iload_n 3, 1) := by decide +kernel
theorem dX6_giveBack_30 : decode cX6_giveBack 30 = .ok (.iaload, 1) := by decide +kernel
theorem dX6_giveBack_31 : decode cX6_giveBack 31 = .ok (.iastore, 1) := by decide +kernel
theorem dX6_giveBack_32 : decode cX6_giveBack 32 = .ok (.iinc 3 (-1), 3) := by decide +kernel
theorem dX6_giveBack_35 : decode cX6_giveBack 35 = .ok (.goto (-21), 3) := by decide +kernel
theorem dX6_giveBack_38 : decode cX6_giveBack 38 = .ok (.iconst 0, 1) := by decide +kernel
theorem dX6_giveBack_39 : decode cX6_giveBack 39 = .ok (.istore_n 3, 1) := by decide +kernel
theorem dX6_giveBack_40 : decode cX6_giveBack 40 = .ok (.iload_n 3, 1) := by decide +kernel
theorem dX6_giveBack_41 : decode cX6_giveBack 41 = .ok (.iload_n 2, 1) := by decide +kernel
theorem dX6_giveBack_42 : decode cX6_giveBack 42 = .ok (.if_icmp .ge 23, 3) := by decide +kernel
theorem dX6_giveBack_45 : decode cX6_giveBack 45 = .ok (.aload_n 0, 1) := by decide +kernel
theorem dX6_giveBack_46 : decode cX6_giveBack 46 = .ok (.getfield 104, 3) := by decide +kernel
theorem dX6_giveBack_49 : decode cX6_giveBack 49 = .ok (.iload_n 3, 1) := by decide +kernel
theorem dX6_giveBack_50 : decode cX6_giveBack 50 = .ok (.aload_n 0, 1) := by decide +kernel
theorem dX6_giveBack_51 : decode cX6_giveBack 51 = .ok (.getfield 107, 3) := by decide +kernel
theorem dX6_giveBack_54 : decode cX6_giveBack 54 = .ok (.iload_n 1, 1) := by decide +kernel
theorem dX6_giveBack_55 : decode cX6_giveBack 55 = .ok (.iload_n 3, 1) := by decide +kernel
theorem dX6_giveBack_56 : decode cX6_giveBack 56 = .ok (.iadd, 1) := by decide +kernel
theorem dX6_giveBack_57 : decode cX6_giveBack 57 = .ok (.iaload, 1) := by decide +kernel
theorem dX6_giveBack_58 : decode cX6_giveBack 58 = .ok (.iastore, 1) := by decide +kernel
theorem dX6_giveBack_59 : decode cX6_giveBack 59 = .ok (.iinc 3 1, 3) := by decide +kernel
theorem dX6_giveBack_62 : decode cX6_giveBack 62 = .ok (.goto (-22), 3) := by decide +kernel
theorem dX6_giveBack_65 : decode cX6_giveBack 65 = .ok (.aload_n 0, 1) := by decide +kernel
theorem dX6_giveBack_66 : decode cX6_giveBack 66 = .ok (.aload_n 0, 1) := by decide +kernel
theorem dX6_giveBack_67 : decode cX6_giveBack 67 = .ok (.getfield 233, 3) := by decide +kernel
theorem dX6_giveBack_70 : decode cX6_giveBack 70 = .ok (.iload_n 2, 1) := by decide +kernel
theorem dX6_giveBack_71 : decode cX6_giveBack 71 = .ok (.iadd, 1) := by decide +kernel
theorem dX6_giveBack_72 : decode cX6_giveBack 72 = .ok (.putfield 233, 3) := by decide +kernel
theorem dX6_giveBack_75 : decode cX6_giveBack 75 = .ok (.aload_n 0, 1) := by decide +kernel
theorem dX6_giveBack_76 : decode cX6_giveBack 76 = .ok (.iconst 0, 1) := by decide +kernel
theorem dX6_giveBack_77 : decode cX6_giveBack 77 = .ok (.putfield 236, 3) := by decide +kernel
theorem dX6_giveBack_80 : decode cX6_giveBack 80 = .ok (.return_, 1) := by decide +kernel
theorem dX6_doFrames_0 : decode cX6_doFrames 0 = .ok (.aload_n 0, 1) := by decide +kernel
theorem dX6_doFrames_1 : decode cX6_doFrames 1 = .ok (.aload_n 0, 1) := by decide +kernel
theorem dX6_doFrames_2 : decode cX6_doFrames 2 = .ok (.getfield 233, 3) := by decide +kernel
theorem dX6_doFrames_5 : decode cX6_doFrames 5 = .ok (.putfield 315, 3) := by decide +kernel
theorem dX6_doFrames_8 : decode cX6_doFrames 8 = .ok (.iconst 0, 1) := by decide +kernel
theorem dX6_doFrames_9 : decode cX6_doFrames 9 = .ok (.istore_n 1, 1) := by decide +kernel
theorem dX6_doFrames_10 : decode cX6_doFrames 10 = .ok (.iload_n 1, 1) := by decide +kernel
theorem dX6_doFrames_11 : decode cX6_doFrames 11 = .ok (.aload_n 0, 1) := by decide +kernel
theorem dX6_doFrames_12 : decode cX6_doFrames 12 = .ok (.getfield 233, 3) := by decide +kernel
theorem dX6_doFrames_15 : decode cX6_doFrames 15 = .ok (.if_icmp .ge 21, 3) := by decide +kernel
theorem dX6_doFrames_18 : decode cX6_doFrames 18 = .ok (.aload_n 0, 1) := by decide +kernel
theorem dX6_doFrames_19 : decode cX6_doFrames 19 = .ok (.getfield 107, 3) := by decide +kernel
theorem dX6_doFrames_22 : decode cX6_doFrames 22 = .ok (.iload_n 1, 1) := by decide +kernel
theorem dX6_doFrames_23 : decode cX6_doFrames 23 = .ok (.aload_n 0, 1) := by decide +kernel
theorem dX6_doFrames_24 : decode cX6_doFrames 24 = .ok (.getfield 104, 3) := by decide +kernel
theorem dX6_doFrames_27 : decode cX6_doFrames 27 = .ok (.iload_n 1, 1) := by decide +kernel
theorem dX6_doFrames_28 : decode cX6_doFrames 28 = .ok (.iaload, 1) := by decide +kernel
theorem dX6_doFrames_29 : decode cX6_doFrames 29 = .ok (.iastore, 1) := by decide +kernel
theorem dX6_doFrames_30 : decode cX6_doFrames 30 = .ok (.iinc 1 1, 3) := by decide +kernel
theorem dX6_doFrames_33 : decode cX6_doFrames 33 = .ok (.goto (-23), 3) := by decide +kernel
theorem dX6_doFrames_36 : decode cX6_doFrames 36 = .ok (.aload_n 0, 1) := by decide +kernel
theorem dX6_doFrames_37 : decode cX6_doFrames 37 = .ok (.iconst 0, 1) := by decide +kernel
theorem dX6_doFrames_38 : decode cX6_doFrames 38 = .ok (.putfield 233, 3) := by decide +kernel
theorem dX6_doFrames_41 : decode cX6_doFrames 41 = .ok (.aload_n 0, 1) := by decide +kernel
theorem dX6_doFrames_42 : decode cX6_doFrames 42 = .ok (.aload_n 0, 1) := by decide +kernel
theorem dX6_doFrames_43 : decode cX6_doFrames 43 = .ok (.getfield 315, 3) := by decide +kernel
theorem dX6_doFrames_46 : decode cX6_doFrames 46 = .ok (.ifCond .le 7, 3) := by decide +kernel
theorem dX6_doFrames_49 : decode cX6_doFrames 49 = .ok (.iconst 1, 1) := by decide +kernel
theorem dX6_doFrames_50 : decode cX6_doFrames 50 = .ok (.goto 4, 3) := by decide +kernel
theorem dX6_doFrames_53 : decode cX6_doFrames 53 = .ok (.iconst 0, 1) := by decide +kernel
theorem dX6_doFrames_54 : decode cX6_doFrames 54 = .ok (.putfield 203, 3) := by decide +kernel
theorem dX6_doFrames_57 : decode cX6_doFrames 57 = .ok (.iconst 0, 1) := by decide +kernel
theorem dX6_doFrames_58 : decode cX6_doFrames 58 = .ok (.istore_n 1, 1) := by decide +kernel
theorem dX6_doFrames_59 : decode cX6_doFrames 59 = .ok (.iload_n 1, 1) := by decide +kernel
theorem dX6_doFrames_60 : decode cX6_doFrames 60 = .ok (.aload_n 0, 1) := by decide +kernel
theorem dX6_doFrames_61 : decode cX6_doFrames 61 = .ok (.getfield 315, 3) := by decide +kernel
theorem dX6_doFrames_64 : decode cX6_doFrames 64 = .ok (.if_icmp .ge 84, 3) := by decide +kernel
theorem dX6_doFrames_67 : decode cX6_doFrames 67 = .ok (.aload_n 0, 1) := by decide +kernel
theorem dX6_doFrames_68 : decode cX6_doFrames 68 = .ok (.getfield 274, 3) := by decide +kernel
theorem dX6_doFrames_71 : decode cX6_doFrames 71 = .ok (.bipush 50, 2) := by decide +kernel
theorem dX6_doFrames_73 : decode cX6_doFrames 73 = .ok (.if_icmp .ne 9, 3) := by decide +kernel
theorem dX6_doFrames_76 : decode cX6_doFrames 76 = .ok (.aload_n 0, 1) := by decide +kernel
theorem dX6_doFrames_77 : decode cX6_doFrames 77 = .ok (.iload_n 1, 1) := by decide +kernel
theorem dX6_doFrames_78 : decode cX6_doFrames 78 = .ok (.invokevirtual 318, 3) := by decide +kernel
theorem dX6_doFrames_81 : decode cX6_doFrames 81 = .ok (.return_, 1) := by decide +kernel
theorem dX6_doFrames_82 : decode cX6_doFrames 82 = .ok (.aload_n 0, 1) := by decide +kernel
theorem dX6_doFrames_83 : decode cX6_doFrames 83 = .ok (.aload_n 0, 1) := by decide +kernel
theorem dX6_doFrames_84 : decode cX6_doFrames 84 = .ok (.getfield 315, 3) := by decide +kernel
theorem dX6_doFrames_87 : decode cX6_doFrames 87 = .ok (.iload_n 1, 1) := by decide +kernel
theorem dX6_doFrames_88 : decode cX6_doFrames 88 = .ok (.isub, 1) := by decide +kernel
theorem dX6_doFrames_89 : decode cX6_doFrames 89 = .ok (.iconst 1, 1) := by decide +kernel
theorem dX6_doFrames_90 : decode cX6_doFrames 90 = .ok (.isub, 1) := by decide +kernel
theorem dX6_doFrames_91 : decode cX6_doFrames 91 = .ok (.putfield 236, 3) := by decide +kernel
theorem dX6_doFrames_94 : decode cX6_doFrames 94 = .ok (.aload_n 0, 1) := by decide +kernel
theorem dX6_doFrames_95 : decode cX6_doFrames 95 = .ok (.aload_n 0, 1) := by decide +kernel
theorem dX6_doFrames_96 : decode cX6_doFrames 96 = .ok (.getfield 107, 3) := by decide +kernel
theorem dX6_doFrames_99 : decode cX6_doFrames 99 = .ok (.iload_n 1, 1) := by decide +kernel
theorem dX6_doFrames_100 : decode cX6_doFrames 100 = .ok (.iaload, 1) := by decide +kernel
theorem dX6_doFrames_101 : decode cX6_doFrames 101 = .ok (.aload_n 0, 1) := by decide +kernel
theorem dX6_doFrames_102 : decode cX6_doFrames 102 = .ok (.getfield 190, 3) := by decide +kernel
theorem dX6_doFrames_105 : decode cX6_doFrames 105 = .ok (.invokevirtual 297, 3) := by decide +kernel
theorem dX6_doFrames_108 : decode cX6_doFrames 108 = .ok (.aload_n 0, 1) := by decide +kernel
theorem dX6_doFrames_109 : decode cX6_doFrames 109 = .ok (.iload_n 1, 1) := by decide +kernel
theorem dX6_doFrames_110 : decode cX6_doFrames 110 = .ok (.iconst 1, 1) := by decide +kernel
theorem dX6_doFrames_111 : decode cX6_doFrames 111 = .ok (.iadd, 1) := by decide +kernel
theorem dX6_doFrames_112 : decode cX6_doFrames 112 = .ok (.aload_n 0, 1) := by decide +kernel
theorem dX6_doFrames_113 : decode cX6_doFrames 113 = .ok (.getfield 315, 3) := by decide +kernel
theorem dX6_doFrames_116 : decode cX6_doFrames 116 = .ok (.if_icmp .ge 7, 3) := by decide +kernel
theorem dX6_doFrames_119 : decode cX6_doFrames 119 = .ok (.iconst 1, 1) := by decide +kernel
theorem dX6_doFrames_120 : decode cX6_doFrames 120 = .ok (.goto 4, 3) := by decide +kernel
theorem dX6_doFrames_123 : decode cX6_doFrames 123 = .ok (.iconst 0, 1) := by decide +kernel
theorem dX6_doFrames_124 : decode cX6_doFrames 124 = .ok (.putfield 203, 3) := by decide +kernel
theorem dX6_doFrames_127 : decode cX6_doFrames 127 = .ok (.aload_n 0, 1) := by decide +kernel
theorem dX6_doFrames_128 : decode cX6_doFrames 128 = .ok (.invokevirtual 312, 3) := by decide +kernel
theorem dX6_doFrames_131 : decode cX6_doFrames 131 = .ok (.ifCond .ne 11, 3) := by decide +kernel
theorem dX6_doFrames_134 : decode cX6_doFrames 134 = .ok (.aload_n 0, 1) := by decide +kernel
theorem dX6_doFrames_135 : decode cX6_doFrames 135 = .ok (.iload_n 1, 1) := by decide +kernel
theorem dX6_doFrames_136 : decode cX6_doFrames 136 = .ok (.iconst 1, 1) := by decide +kernel
theorem dX6_doFrames_137 : decode cX6_doFrames 137 = .ok (.iadd, 1) := by decide +kernel
theorem dX6_doFrames_138 : decode cX6_doFrames 138 = .ok (.invokevirtual 318, 3) := by decide +kernel
theorem dX6_doFrames_141 : decode cX6_doFrames 141 = .ok (.return_, 1) := by decide +kernel
theorem dX6_doFrames_142 : decode cX6_doFrames 142 = .ok (.iinc 1 1, 3) := by decide +kernel
theorem dX6_doFrames_145 : decode cX6_doFrames 145 = .ok (.goto (-86), 3) := by decide +kernel
theorem dX6_doFrames_148 : decode cX6_doFrames 148 = .ok (.return_, 1) := by decide +kernel
theorem dX6_turn_0 : decode cX6_turn 0 = .ok (.aload_n 0, 1) := by decide +kernel
theorem dX6_turn_1 : decode cX6_turn 1 = .ok (.iconst 0, 1) := by decide +kernel
theorem dX6_turn_2 : decode cX6_turn 2 = .ok (.putfield 137, 3) := by decide +kernel
theorem dX6_turn_5 : decode cX6_turn 5 = .ok (.aload_n 0, 1) := by decide +kernel
theorem dX6_turn_6 : decode cX6_turn 6 = .ok (.iconst 0, 1) := by decide +kernel
theorem dX6_turn_7 : decode cX6_turn 7 = .ok (.putfield 274, 3) := by decide +kernel
theorem dX6_turn_10 : decode cX6_turn 10 = .ok (.aload_n 0, 1) := by decide +kernel
theorem dX6_turn_11 : decode cX6_turn 11 = .ok (.iconst 1, 1) := by decide +kernel
theorem dX6_turn_12 : decode cX6_turn 12 = .ok (.putfield 196, 3) := by decide +kernel
theorem dX6_turn_15 : decode cX6_turn 15 = .ok (.aload_n 0, 1) := by decide +kernel
theorem dX6_turn_16 : decode cX6_turn 16 = .ok (.invokevirtual 312, 3) := by decide +kernel
theorem dX6_turn_19 : decode cX6_turn 19 = .ok (.istore_n 1, 1) := by decide +kernel
theorem dX6_turn_20 : decode cX6_turn 20 = .ok (.iload_n 1, 1) := by decide +kernel
theorem dX6_turn_21 : decode cX6_turn 21 = .ok (.ifCond .eq 15, 3) := by decide +kernel
theorem dX6_turn_24 : decode cX6_turn 24 = .ok (.aload_n 0, 1) := by decide +kernel
theorem dX6_turn_25 : decode cX6_turn 25 = .ok (.getfield 148, 3) := by decide +kernel
theorem dX6_turn_28 : decode cX6_turn 28 = .ok (.ifCond .le 8, 3) := by decide +kernel
theorem dX6_turn_31 : decode cX6_turn 31 = .ok (.aload_n 0, 1) := by decide +kernel
theorem dX6_turn_32 : decode cX6_turn 32 = .ok (.invokevirtual 321, 3) := by decide +kernel
theorem dX6_turn_35 : decode cX6_turn 35 = .ok (.istore_n 1, 1) := by decide +kernel
theorem dX6_turn_36 : decode cX6_turn 36 = .ok (.iload_n 1, 1) := by decide +kernel
theorem dX6_turn_37 : decode cX6_turn 37 = .ok (.ifCond .eq 14, 3) := by decide +kernel
theorem dX6_turn_40 : decode cX6_turn 40 = .ok (.aload_n 0, 1) := by decide +kernel
theorem dX6_turn_41 : decode cX6_turn 41 = .ok (.getfield 203, 3) := by decide +kernel
theorem dX6_turn_44 : decode cX6_turn 44 = .ok (.ifCond .eq 7, 3) := by decide +kernel
theorem dX6_turn_47 : decode cX6_turn 47 = .ok (.aload_n 0, 1) := by decide +kernel
theorem dX6_turn_48 : decode cX6_turn 48 = .ok (.invokevirtual 324, 3) := by decide +kernel
theorem dX6_turn_51 : decode cX6_turn 51 = .ok (.aload_n 0, 1) := by decide +kernel
theorem dX6_turn_52 : decode cX6_turn 52 = .ok (.getfield 274, 3) := by decide +kernel
theorem dX6_turn_55 : decode cX6_turn 55 = .ok (.ireturn, 1) := by decide +kernel
theorem dX6_register_0 : decode cX6_register 0 = .ok (.aload_n 0, 1) := by decide +kernel
theorem dX6_register_1 : decode cX6_register 1 = .ok (.aload_n 0, 1) := by decide +kernel
theorem dX6_register_2 : decode cX6_register 2 = .ok (.iload_n 1, 1) := by decide +kernel
theorem dX6_register_3 : decode cX6_register 3 = .ok (.iconst 0, 1) := by decide +kernel
theorem dX6_register_4 : decode cX6_register 4 = .ok (.bipush 7, 2) := by decide +kernel
theorem dX6_register_6 : decode cX6_register 6 = .ok (.invokevirtual 141, 3) := by decide +kernel
theorem dX6_register_9 : decode cX6_register 9 = .ok (.ifCond .eq 7, 3) := by decide +kernel
theorem dX6_register_12 : decode cX6_register 12 = .ok (.iconst 1, 1) := by decide +kernel
theorem dX6_register_13 : decode cX6_register 13 = .ok (.goto 4, 3) := by decide +kernel
theorem dX6_register_16 : decode cX6_register 16 = .ok (.iconst 0, 1) := by decide +kernel
theorem dX6_register_17 : decode cX6_register 17 = .ok (.putfield 137, 3) := by decide +kernel
theorem dX6_register_20 : decode cX6_register 20 = .ok (.aload_n 0, 1) := by decide +kernel
theorem dX6_register_21 : decode cX6_register 21 = .ok (.getfield 137, 3) := by decide +kernel
theorem dX6_register_24 : decode cX6_register 24 = .ok (.ifCond .ne 14, 3) := by decide +kernel
theorem dX6_register_27 : decode cX6_register 27 = .ok (.aload_n 0, 1) := by decide +kernel
theorem dX6_register_28 : decode cX6_register 28 = .ok (.getfield 22, 3) := by decide +kernel
theorem dX6_register_31 : decode cX6_register 31 = .ok (.iload_n 1, 1) := by decide +kernel
theorem dX6_register_32 : decode cX6_register 32 = .ok (.iaload, 1) := by decide +kernel
theorem dX6_register_33 : decode cX6_register 33 = .ok (.iconst 1, 1) := by decide +kernel
theorem dX6_register_34 : decode cX6_register 34 = .ok (.isub, 1) := by decide +kernel
theorem dX6_register_35 : decode cX6_register 35 = .ok (.goto 4, 3) := by decide +kernel
theorem dX6_register_38 : decode cX6_register 38 = .ok (.iconst 0, 1) := by decide +kernel
theorem dX6_register_39 : decode cX6_register 39 = .ok (.ireturn, 1) := by decide +kernel
theorem dX6_state_0 : decode cX6_state 0 = .ok (.aload_n 0, 1) := by decide +kernel
theorem dX6_state_1 : decode cX6_state 1 = .ok (.iload_n 1, 1) := by decide +kernel
theorem dX6_state_2 : decode cX6_state 2 = .ok (.ifCond .lt 11, 3) := by decide +kernel
theorem dX6_state_5 : decode cX6_state 5 = .ok (.iload_n 1, 1) := by decide +kernel
theorem dX6_state_6 : decode cX6_state 6 = .ok (.aload_n 0, 1) := by decide +kernel
theorem dX6_state_7 : decode cX6_state 7 = .ok (.getfield 167, 3) := by decide +kernel
theorem dX6_state_10 : decode cX6_state 10 = .ok (.if_icmp .lt 7, 3) := by decide +kernel
theorem dX6_state_13 : decode cX6_state 13 = .ok (.iconst 1, 1) := by decide +kernel
theorem dX6_state_14 : decode cX6_state 14 = .ok (.goto 4, 3) := by decide +kernel
theorem dX6_state_17 : decode cX6_state 17 = .ok (.iconst 0, 1) := by decide +kernel
theorem dX6_state_18 : decode cX6_state 18 = .ok (.putfield 137, 3) := by decide +kernel
theorem dX6_state_21 : decode cX6_state 21 = .ok (.aload_n 0, 1) := by decide +kernel
theorem dX6_state_22 : decode cX6_state 22 = .ok (.getfield 137, 3) := by decide +kernel
theorem dX6_state_25 : decode cX6_state 25 = .ok (.ifCond .ne 43, 3) := by decide +kernel
theorem dX6_state_28 : decode cX6_state 28 = .ok (.aload_n 0, 1) := by decide +kernel
theorem dX6_state_29 : decode cX6_state 29 = .ok (.getfield 25, 3) := by decide +kernel
theorem dX6_state_32 : decode cX6_state 32 = .ok (.iload_n 1, 1) := by decide +kernel
theorem dX6_state_33 : decode cX6_state 33 = .ok (.iaload, 1) := by decide +kernel
theorem dX6_state_34 : decode cX6_state 34 = .ok (.aload_n 0, 1) := by decide +kernel
theorem dX6_state_35 : decode cX6_state 35 = .ok (.getfield 31, 3) := by decide +kernel
theorem dX6_state_38 : decode cX6_state 38 = .ok (.iload_n 1, 1) := by decide +kernel
theorem dX6_state_39 : decode cX6_state 39 = .ok (.baload, 1) := by decide +kernel
theorem dX6_state_40 : decode cX6_state 40 = .ok (.ifCond .eq 7, 3) := by decide +kernel
theorem dX6_state_43 : decode cX6_state 43 = .ok (.iconst 4, 1) := by decide +kernel
theorem dX6_state_44 : decode cX6_state 44 = .ok (.goto 4, 3) := by decide +kernel
theorem dX6_state_47 : decode cX6_state 47 = .ok (.iconst 0, 1) := by decide +kernel
theorem dX6_state_48 : decode cX6_state 48 = .ok (.iadd, 1) := by decide +kernel
theorem dX6_state_49 : decode cX6_state 49 = .ok (.aload_n 0, 1) := by decide +kernel
theorem dX6_state_50 : decode cX6_state 50 = .ok (.getfield 35, 3) := by decide +kernel
theorem dX6_state_53 : decode cX6_state 53 = .ok (.iload_n 1, 1) := by decide +kernel
theorem dX6_state_54 : decode cX6_state 54 = .ok (.baload, 1) := by decide +kernel
theorem dX6_state_55 : decode cX6_state 55 = .ok (.ifCond .eq 8, 3) := by decide +kernel
theorem dX6_state_58 : decode cX6_state 58 = .ok (.bipush 8, 2) := by decide +kernel
theorem dX6_state_60 : decode cX6_state 60 = .ok (.goto 4, 3) := by decide +kernel
theorem dX6_state_63 : decode cX6_state 63 = .ok (.iconst 0, 1) := by decide +kernel
theorem dX6_state_64 : decode cX6_state 64 = .ok (.iadd, 1) := by decide +kernel
theorem dX6_state_65 : decode cX6_state 65 = .ok (.goto 4, 3) := by decide +kernel
theorem dX6_state_68 : decode cX6_state 68 = .ok (.iconst 0, 1) := by decide +kernel
theorem dX6_state_69 : decode cX6_state 69 = .ok (.ireturn, 1) := by decide +kernel
theorem dX6_value_0 : decode cX6_value 0 = .ok (.aload_n 0, 1) := by decide +kernel
theorem dX6_value_1 : decode cX6_value 1 = .ok (.iload_n 1, 1) := by decide +kernel
theorem dX6_value_2 : decode cX6_value 2 = .ok (.ifCond .lt 11, 3) := by decide +kernel
theorem dX6_value_5 : decode cX6_value 5 = .ok (.iload_n 1, 1) := by decide +kernel
theorem dX6_value_6 : decode cX6_value 6 = .ok (.aload_n 0, 1) := by decide +kernel
theorem dX6_value_7 : decode cX6_value 7 = .ok (.getfield 167, 3) := by decide +kernel
theorem dX6_value_10 : decode cX6_value 10 = .ok (.if_icmp .lt 7, 3) := by decide +kernel
theorem dX6_value_13 : decode cX6_value 13 = .ok (.iconst 1, 1) := by decide +kernel
theorem dX6_value_14 : decode cX6_value 14 = .ok (.goto 4, 3) := by decide +kernel
theorem dX6_value_17 : decode cX6_value 17 = .ok (.iconst 0, 1) := by decide +kernel
theorem dX6_value_18 : decode cX6_value 18 = .ok (.putfield 137, 3) := by decide +kernel
theorem dX6_value_21 : decode cX6_value 21 = .ok (.aload_n 0, 1) := by decide +kernel
theorem dX6_value_22 : decode cX6_value 22 = .ok (.getfield 137, 3) := by decide +kernel
theorem dX6_value_25 : decode cX6_value 25 = .ok (.ifCond .eq 5, 3) := by decide +kernel
theorem dX6_value_28 : decode cX6_value 28 = .ok (.iconst 0, 1) := by decide +kernel
theorem dX6_value_29 : decode cX6_value 29 = .ok (.ireturn, 1) := by decide +kernel
theorem dX6_value_30 : decode cX6_value 30 = .ok (.aload_n 0, 1) := by decide +kernel
theorem dX6_value_31 : decode cX6_value 31 = .ok (.aload_n 0, 1) := by decide +kernel
theorem dX6_value_32 : decode cX6_value 32 = .ok (.getfield 25, 3) := by decide +kernel
theorem dX6_value_35 : decode cX6_value 35 = .ok (.iload_n 1, 1) := by decide +kernel
theorem dX6_value_36 : decode cX6_value 36 = .ok (.iaload, 1) := by decide +kernel
theorem dX6_value_37 : decode cX6_value 37 = .ok (.ifCond .ne 7, 3) := by decide +kernel
theorem dX6_value_40 : decode cX6_value 40 = .ok (.iconst 2, 1) := by decide +kernel
theorem dX6_value_41 : decode cX6_value 41 = .ok (.goto 4, 3) := by decide +kernel
theorem dX6_value_44 : decode cX6_value 44 = .ok (.iconst 0, 1) := by decide +kernel
theorem dX6_value_45 : decode cX6_value 45 = .ok (.putfield 137, 3) := by decide +kernel
theorem dX6_value_48 : decode cX6_value 48 = .ok (.aload_n 0, 1) := by decide +kernel
theorem dX6_value_49 : decode cX6_value 49 = .ok (.getfield 137, 3) := by decide +kernel
theorem dX6_value_52 : decode cX6_value 52 = .ok (.ifCond .ne 12, 3) := by decide +kernel
theorem dX6_value_55 : decode cX6_value 55 = .ok (.aload_n 0, 1) := by decide +kernel
theorem dX6_value_56 : decode cX6_value 56 = .ok (.getfield 28, 3) := by decide +kernel
theorem dX6_value_59 : decode cX6_value 59 = .ok (.iload_n 1, 1) := by decide +kernel
theorem dX6_value_60 : decode cX6_value 60 = .ok (.iaload, 1) := by decide +kernel
theorem dX6_value_61 : decode cX6_value 61 = .ok (.goto 4, 3) := by decide +kernel
theorem dX6_value_64 : decode cX6_value 64 = .ok (.iconst 0, 1) := by decide +kernel
theorem dX6_value_65 : decode cX6_value 65 = .ok (.ireturn, 1) := by decide +kernel
theorem dX6_count_0 : decode cX6_count 0 = .ok (.aload_n 0, 1) := by decide +kernel
theorem dX6_count_1 : decode cX6_count 1 = .ok (.aload_n 0, 1) := by decide +kernel
theorem dX6_count_2 : decode cX6_count 2 = .ok (.iload_n 1, 1) := by decide +kernel
theorem dX6_count_3 : decode cX6_count 3 = .ok (.iconst 0, 1) := by decide +kernel
theorem dX6_count_4 : decode cX6_count 4 = .ok (.bipush 6, 2) := by decide +kernel
theorem dX6_count_6 : decode cX6_count 6 = .ok (.invokevirtual 141, 3) := by decide +kernel
theorem dX6_count_9 : decode cX6_count 9 = .ok (.ifCond .eq 7, 3) := by decide +kernel
theorem dX6_count_12 : decode cX6_count 12 = .ok (.iconst 1, 1) := by decide +kernel
theorem dX6_count_13 : decode cX6_count 13 = .ok (.goto 4, 3) := by decide +kernel
theorem dX6_count_16 : decode cX6_count 16 = .ok (.iconst 0, 1) := by decide +kernel
theorem dX6_count_17 : decode cX6_count 17 = .ok (.putfield 137, 3) := by decide +kernel
theorem dX6_count_20 : decode cX6_count 20 = .ok (.iload_n 1, 1) := by decide +kernel
theorem dX6_count_21 : decode cX6_count 21 = .ok (.tableswitch 78 0 6 #[43, 48, 53, 58, 63, 68, 73], 43) := by decide +kernel
theorem dX6_count_64 : decode cX6_count 64 = .ok (.aload_n 0, 1) := by decide +kernel
theorem dX6_count_65 : decode cX6_count 65 = .ok (.getfield 167, 3) := by decide +kernel
theorem dX6_count_68 : decode cX6_count 68 = .ok (.ireturn, 1) := by decide +kernel
theorem dX6_count_69 : decode cX6_count 69 = .ok (.aload_n 0, 1) := by decide +kernel
theorem dX6_count_70 : decode cX6_count 70 = .ok (.getfield 148, 3) := by decide +kernel
theorem dX6_count_73 : decode cX6_count 73 = .ok (.ireturn, 1) := by decide +kernel
theorem dX6_count_74 : decode cX6_count 74 = .ok (.aload_n 0, 1) := by decide +kernel
theorem dX6_count_75 : decode cX6_count 75 = .ok (.getfield 154, 3) := by decide +kernel
theorem dX6_count_78 : decode cX6_count 78 = .ok (.ireturn, 1) := by decide +kernel
theorem dX6_count_79 : decode cX6_count 79 = .ok (.aload_n 0, 1) := by decide +kernel
theorem dX6_count_80 : decode cX6_count 80 = .ok (.getfield 187, 3) := by decide +kernel
theorem dX6_count_83 : decode cX6_count 83 = .ok (.ireturn, 1) := by decide +kernel
theorem dX6_count_84 : decode cX6_count 84 = .ok (.aload_n 0, 1) := by decide +kernel
theorem dX6_count_85 : decode cX6_count 85 = .ok (.getfield 233, 3) := by decide +kernel
theorem dX6_count_88 : decode cX6_count 88 = .ok (.ireturn, 1) := by decide +kernel
theorem dX6_count_89 : decode cX6_count 89 = .ok (.aload_n 0, 1) := by decide +kernel
theorem dX6_count_90 : decode cX6_count 90 = .ok (.getfield 253, 3) := by decide +kernel
theorem dX6_count_93 : decode cX6_count 93 = .ok (.ireturn, 1) := by decide +kernel
theorem dX6_count_94 : decode cX6_count 94 = .ok (.aload_n 0, 1) := by decide +kernel
theorem dX6_count_95 : decode cX6_count 95 = .ok (.getfield 157, 3) := by decide +kernel
theorem dX6_count_98 : decode cX6_count 98 = .ok (.ireturn, 1) := by decide +kernel
theorem dX6_count_99 : decode cX6_count 99 = .ok (.iconst 0, 1) := by decide +kernel
theorem dX6_count_100 : decode cX6_count 100 = .ok (.ireturn, 1) := by decide +kernel
theorem dX6_logged_0 : decode cX6_logged 0 = .ok (.aload_n 0, 1) := by decide +kernel
theorem dX6_logged_1 : decode cX6_logged 1 = .ok (.iload_n 1, 1) := by decide +kernel
theorem dX6_logged_2 : decode cX6_logged 2 = .ok (.ifCond .lt 11, 3) := by decide +kernel
theorem dX6_logged_5 : decode cX6_logged 5 = .ok (.iload_n 1, 1) := by decide +kernel
theorem dX6_logged_6 : decode cX6_logged 6 = .ok (.aload_n 0, 1) := by decide +kernel
theorem dX6_logged_7 : decode cX6_logged 7 = .ok (.getfield 253, 3) := by decide +kernel
theorem dX6_logged_10 : decode cX6_logged 10 = .ok (.if_icmp .lt 7, 3) := by decide +kernel
theorem dX6_logged_13 : decode cX6_logged 13 = .ok (.iconst 1, 1) := by decide +kernel
theorem dX6_logged_14 : decode cX6_logged 14 = .ok (.goto 4, 3) := by decide +kernel
theorem dX6_logged_17 : decode cX6_logged 17 = .ok (.iconst 0, 1) := by decide +kernel
theorem dX6_logged_18 : decode cX6_logged 18 = .ok (.putfield 137, 3) := by decide +kernel
theorem dX6_logged_21 : decode cX6_logged 21 = .ok (.aload_n 0, 1) := by decide +kernel
theorem dX6_logged_22 : decode cX6_logged 22 = .ok (.getfield 137, 3) := by decide +kernel
theorem dX6_logged_25 : decode cX6_logged 25 = .ok (.ifCond .ne 12, 3) := by decide +kernel
theorem dX6_logged_28 : decode cX6_logged 28 = .ok (.aload_n 0, 1) := by decide +kernel
theorem dX6_logged_29 : decode cX6_logged 29 = .ok (.getfield 110, 3) := by decide +kernel
theorem dX6_logged_32 : decode cX6_logged 32 = .ok (.iload_n 1, 1) := by decide +kernel
theorem dX6_logged_33 : decode cX6_logged 33 = .ok (.iaload, 1) := by decide +kernel
theorem dX6_logged_34 : decode cX6_logged 34 = .ok (.goto 4, 3) := by decide +kernel
theorem dX6_logged_37 : decode cX6_logged 37 = .ok (.iconst 0, 1) := by decide +kernel
theorem dX6_logged_38 : decode cX6_logged 38 = .ok (.ireturn, 1) := by decide +kernel
theorem dX6_reported_0 : decode cX6_reported 0 = .ok (.aload_n 0, 1) := by decide +kernel
theorem dX6_reported_1 : decode cX6_reported 1 = .ok (.iload_n 1, 1) := by decide +kernel
theorem dX6_reported_2 : decode cX6_reported 2 = .ok (.ifCond .lt 11, 3) := by decide +kernel
theorem dX6_reported_5 : decode cX6_reported 5 = .ok (.iload_n 1, 1) := by decide +kernel
theorem dX6_reported_6 : decode cX6_reported 6 = .ok (.aload_n 0, 1) := by decide +kernel
theorem dX6_reported_7 : decode cX6_reported 7 = .ok (.getfield 157, 3) := by decide +kernel
theorem dX6_reported_10 : decode cX6_reported 10 = .ok (.if_icmp .lt 7, 3) := by decide +kernel
theorem dX6_reported_13 : decode cX6_reported 13 = .ok (.iconst 1, 1) := by decide +kernel
theorem dX6_reported_14 : decode cX6_reported 14 = .ok (.goto 4, 3) := by decide +kernel
theorem dX6_reported_17 : decode cX6_reported 17 = .ok (.iconst 0, 1) := by decide +kernel
theorem dX6_reported_18 : decode cX6_reported 18 = .ok (.putfield 137, 3) := by decide +kernel
theorem dX6_reported_21 : decode cX6_reported 21 = .ok (.aload_n 0, 1) := by decide +kernel
theorem dX6_reported_22 : decode cX6_reported 22 = .ok (.getfield 137, 3) := by decide +kernel
theorem dX6_reported_25 : decode cX6_reported 25 = .ok (.ifCond .ne 12, 3) := by decide +kernel
theorem dX6_reported_28 : decode cX6_reported 28 = .ok (.aload_n 0, 1) := by decide +kernel
theorem dX6_reported_29 : decode cX6_reported 29 = .ok (.getfield 113, 3) := by decide +kernel
theorem dX6_reported_32 : decode cX6_reported 32 = .ok (.iload_n 1, 1) := by decide +kernel
theorem dX6_reported_33 : decode cX6_reported 33 = .ok (.iaload, 1) := by decide +kernel
theorem dX6_reported_34 : decode cX6_reported 34 = .ok (.goto 4, 3) := by decide +kernel
theorem dX6_reported_37 : decode cX6_reported 37 = .ok (.iconst 0, 1) := by decide +kernel
theorem dX6_reported_38 : decode cX6_reported 38 = .ok (.ireturn, 1) := by decide +kernel
theorem dX6_due_0 : decode cX6_due 0 = .ok (.aload_n 0, 1) := by decide +kernel
theorem dX6_due_1 : decode cX6_due 1 = .ok (.iconst 0, 1) := by decide +kernel
theorem dX6_due_2 : decode cX6_due 2 = .ok (.putfield 137, 3) := by decide +kernel
theorem dX6_due_5 : decode cX6_due 5 = .ok (.aload_n 0, 1) := by decide +kernel
theorem dX6_due_6 : decode cX6_due 6 = .ok (.iload_n 1, 1) := by decide +kernel
theorem dX6_due_7 : decode cX6_due 7 = .ok (.invokevirtual 256, 3) := by decide +kernel
theorem dX6_due_10 : decode cX6_due 10 = .ok (.istore_n 2, 1) := by decide +kernel
theorem dX6_due_11 : decode cX6_due 11 = .ok (.iload_n 2, 1) := by decide +kernel
theorem dX6_due_12 : decode cX6_due 12 = .ok (.ifCond .ge 7, 3) := by decide +kernel
theorem dX6_due_15 : decode cX6_due 15 = .ok (.iconst (-1), 1) := by decide +kernel
theorem dX6_due_16 : decode cX6_due 16 = .ok (.goto 23, 3) := by decide +kernel
theorem dX6_due_19 : decode cX6_due 19 = .ok (.aload_n 0, 1) := by decide +kernel
theorem dX6_due_20 : decode cX6_due 20 = .ok (.getfield 101, 3) := by decide +kernel
theorem dX6_due_23 : decode cX6_due 23 = .ok (.iload_n 2, 1) := by decide +kernel
theorem dX6_due_24 : decode cX6_due 24 = .ok (.baload, 1) := by decide +kernel
theorem dX6_due_25 : decode cX6_due 25 = .ok (.ifCond .eq 8, 3) := by decide +kernel
theorem dX6_due_28 : decode cX6_due 28 = .ok (.bipush (-2), 2) := by decide +kernel
theorem dX6_due_30 : decode cX6_due 30 = .ok (.goto 9, 3) := by decide +kernel
theorem dX6_due_33 : decode cX6_due 33 = .ok (.aload_n 0, 1) := by decide +kernel
theorem dX6_due_34 : decode cX6_due 34 = .ok (.getfield 95, 3) := by decide +kernel
theorem dX6_due_37 : decode cX6_due 37 = .ok (.iload_n 2, 1) := by decide +kernel
theorem dX6_due_38 : decode cX6_due 38 = .ok (.iaload, 1) := by decide +kernel
theorem dX6_due_39 : decode cX6_due 39 = .ok (.ireturn, 1) := by decide +kernel
theorem dX6_time_0 : decode cX6_time 0 = .ok (.aload_n 0, 1) := by decide +kernel
theorem dX6_time_1 : decode cX6_time 1 = .ok (.iconst 0, 1) := by decide +kernel
theorem dX6_time_2 : decode cX6_time 2 = .ok (.putfield 137, 3) := by decide +kernel
theorem dX6_time_5 : decode cX6_time 5 = .ok (.aload_n 0, 1) := by decide +kernel
theorem dX6_time_6 : decode cX6_time 6 = .ok (.getfield 190, 3) := by decide +kernel
theorem dX6_time_9 : decode cX6_time 9 = .ok (.ireturn, 1) := by decide +kernel
