theorem dX9_init_22 : decode cX9_init 22 = .ok (.bipush 7, 2) := by decide +kernel
theorem dX9_init_24 : decode cX9_init 24 = .ok (.newarray .int, 2) := by decide +kernel
theorem dX9_init_26 : decode cX9_init 26 = .ok (.putfield 16, 3) := by decide +kernel
theorem dX9_init_29 : decode cX9_init 29 = .ok (.aload_n 0, 1) := by decide +kernel
theorem dX9_init_30 : decode cX9_init 30 = .ok (.bipush 7, 2) := by decide +kernel
theorem dX9_init_32 : decode cX9_init 32 = .ok (.newarray .int, 2) := by decide +kernel
theorem dX9_init_34 : decode cX9_init 34 = .ok (.putfield 19, 3) := by decide +kernel
theorem dX9_init_37 : decode cX9_init 37 = .ok (.aload_n 0, 1) := by decide +kernel
theorem dX9_init_38 : decode cX9_init 38 = .ok (.bipush 7, 2) := by decide +kernel
theorem dX9_init_40 : decode cX9_init 40 = .ok (.newarray .int, 2) := by decide +kernel
theorem dX9_init_42 : decode cX9_init 42 = .ok (.putfield 22, 3) := by decide +kernel
theorem dX9_init_45 : decode cX9_init 45 = .ok (.aload_n 0, 1) := by decide +kernel
theorem dX9_init_46 : decode cX9_init 46 = .ok (.bipush 7, 2) := by decide +kernel
theorem dX9_init_48 : decode cX9_init 48 = .ok (.newarray .int, 2) := by decide +kernel
theorem dX9_init_50 : decode cX9_init 50 = .ok (.putfield 25, 3) := by decide +kernel
theorem dX9_init_53 : decode cX9_init 53 = .ok (.aload_n 0, 1) := by decide +kernel
theorem dX9_init_54 : decode cX9_init 54 = .ok (.bipush 7, 2) := by decide +kernel
theorem dX9_init_56 : decode cX9_init 56 = .ok (.newarray .int, 2) := by decide +kernel
theorem dX9_init_58 : decode cX9_init 58 = .ok (.putfield 28, 3) := by decide +kernel
theorem dX9_init_61 : decode cX9_init 61 = .ok (.aload_n 0, 1) := by decide +kernel
theorem dX9_init_62 : decode cX9_init 62 = .ok (.sipush 200, 3) := by decide +kernel
theorem dX9_init_65 : decode cX9_init 65 = .ok (.newarray .int, 2) := by decide +kernel
theorem dX9_init_67 : decode cX9_init 67 = .ok (.putfield 31, 3) := by decide +kernel
theorem dX9_init_70 : decode cX9_init 70 = .ok (.aload_n 0, 1) := by decide +kernel
theorem dX9_init_71 : decode cX9_init 71 = .ok (.bipush 35, 2) := by decide +kernel
theorem dX9_init_73 : decode cX9_init 73 = .ok (.newarray .int, 2) := by decide +kernel
theorem dX9_init_75 : decode cX9_init 75 = .ok (.putfield 34, 3) := by decide +kernel
theorem dX9_init_78 : decode cX9_init 78 = .ok (.aload_n 0, 1) := by decide +kernel
theorem dX9_init_79 : decode cX9_init 79 = .ok (.bipush 7, 2) := by decide +kernel
theorem dX9_init_81 : decode cX9_init 81 = .ok (.newarray .int, 2) := by decide +kernel
theorem dX9_init_83 : decode cX9_init 83 = .ok (.putfield 37, 3) := by decide +kernel
theorem dX9_init_86 : decode cX9_init 86 = .ok (.aload_n 0, 1) := by decide +kernel
theorem dX9_init_87 : decode cX9_init 87 = .ok (.bipush 7, 2) := by decide +kernel
theorem dX9_init_89 : decode cX9_init 89 = .ok (.newarray .int, 2) := by decide +kernel
theorem dX9_init_91 : decode cX9_init 91 = .ok (.putfield 40, 3) := by decide +kernel
theorem dX9_init_94 : decode cX9_init 94 = .ok (.aload_n 0, 1) := by decide +kernel
theorem dX9_init_95 : decode cX9_init 95 = .ok (.bipush 8, 2) := by decide +kernel
theorem dX9_init_97 : decode cX9_init 97 = .ok (.newarray .int, 2) := by decide +kernel
theorem dX9_init_99 : decode cX9_init 99 = .ok (.putfield 43, 3) := by decide +kernel
theorem dX9_init_102 : decode cX9_init 102 = .ok (.aload_n 0, 1) := by decide +kernel
theorem dX9_init_103 : decode cX9_init 103 = .ok (.bipush 7, 2) := by decide +kernel
theorem dX9_init_105 : decode cX9_init 105 = .ok (.newarray .int, 2) := by decide +kernel
theorem dX9_init_107 : decode cX9_init 107 = .ok (.putfield 46, 3) := by decide +kernel
theorem dX9_init_110 : decode cX9_init 110 = .ok (.aload_n 0, 1) := by decide +kernel
theorem dX9_init_111 : decode cX9_init 111 = .ok (.bipush 8, 2) := by decide +kernel
theorem dX9_init_113 : decode cX9_init 113 = .ok (.newarray .int, 2) := by decide +kernel
theorem dX9_init_115 : decode cX9_init 115 = .ok (.putfield 49, 3) := by decide +kernel
theorem dX9_init_118 : decode cX9_init 118 = .ok (.aload_n 0, 1) := by decide +kernel
theorem dX9_init_119 : decode cX9_init 119 = .ok (.bipush 7, 2) := by decide +kernel
theorem dX9_init_121 : decode cX9_init 121 = .ok (.newarray .int, 2) := by decide +kernel
theorem dX9_init_123 : decode cX9_init 123 = .ok (.putfield 52, 3) := by decide +kernel
theorem dX9_init_126 : decode cX9_init 126 = .ok (.aload_n 0, 1) := by decide +kernel
theorem dX9_init_127 : decode cX9_init 127 = .ok (.invokevirtual 55, 3) := by decide +kernel
theorem dX9_init_130 : decode cX9_init 130 = .ok (.aload_n 0, 1) := by decide +kernel
theorem dX9_init_131 : decode cX9_init 131 = .ok (.iconst 0, 1) := by decide +kernel
theorem dX9_init_132 : decode cX9_init 132 = .ok (.iconst 2, 1) := by decide +kernel
theorem dX9_init_133 : decode cX9_init 133 = .ok (.bipush 10, 2) := by decide +kernel
theorem dX9_init_135 : decode cX9_init 135 = .ok (.iconst 4, 1) := by decide +kernel
theorem dX9_init_136 : decode cX9_init 136 = .ok (.iconst 3, 1) := by decide +kernel
theorem dX9_init_137 : decode cX9_init 137 = .ok (.invokevirtual 58, 3) := by decide +kernel
theorem dX9_init_140 : decode cX9_init 140 = .ok (.aload_n 0, 1) := by decide +kernel
theorem dX9_init_141 : decode cX9_init 141 = .ok (.iconst 1, 1) := by decide +kernel
theorem dX9_init_142 : decode cX9_init 142 = .ok (.iconst 4, 1) := by decide +kernel
theorem dX9_init_143 : decode cX9_init 143 = .ok (.bipush 8, 2) := by decide +kernel
theorem dX9_init_145 : decode cX9_init 145 = .ok (.bipush 9, 2) := by decide +kernel
theorem dX9_init_147 : decode cX9_init 147 = .ok (.iconst 2, 1) := by decide +kernel
theorem dX9_init_148 : decode cX9_init 148 = .ok (.invokevirtual 58, 3) := by decide +kernel
theorem dX9_init_151 : decode cX9_init 151 = .ok (.aload_n 0, 1) := by decide +kernel
theorem dX9_init_152 : decode cX9_init 152 = .ok (.iconst 2, 1) := by decide +kernel
theorem dX9_init_153 : decode cX9_init 153 = .ok (.iconst 5, 1) := by decide +kernel
theorem dX9_init_154 : decode cX9_init 154 = .ok (.bipush 6, 2) := by decide +kernel
theorem dX9_init_156 : decode cX9_init 156 = .ok (.iconst 0, 1) := by decide +kernel
theorem dX9_init_157 : decode cX9_init 157 = .ok (.iconst 1, 1) := by decide +kernel
theorem dX9_init_158 : decode cX9_init 158 = .ok (.invokevirtual 58, 3) := by decide +kernel
theorem dX9_init_161 : decode cX9_init 161 = .ok (.aload_n 0, 1) := by decide +kernel
theorem dX9_init_162 : decode cX9_init 162 = .ok (.iconst 0, 1) := by decide +kernel
theorem dX9_init_163 : decode cX9_init 163 = .ok (.bipush 7, 2) := by decide +kernel
theorem dX9_init_165 : decode cX9_init 165 = .ok (.bipush 12, 2) := by decide +kernel
theorem dX9_init_167 : decode cX9_init 167 = .ok (.iconst 5, 1) := by decide +kernel
theorem dX9_init_168 : decode cX9_init 168 = .ok (.iconst 4, 1) := by decide +kernel
theorem dX9_init_169 : decode cX9_init 169 = .ok (.invokevirtual 58, 3) := by decide +kernel
theorem dX9_init_172 : decode cX9_init 172 = .ok (.aload_n 0, 1) := by decide +kernel
theorem dX9_init_173 : decode cX9_init 173 = .ok (.iconst 3, 1) := by decide +kernel
theorem dX9_init_174 : decode cX9_init 174 = .ok (.bipush 7, 2) := by decide +kernel
theorem dX9_init_176 : decode cX9_init 176 = .ok (.bipush 9, 2) := by decide +kernel
theorem dX9_init_178 : decode cX9_init 178 = .ok (.iconst 2, 1) := by decide +kernel
theorem dX9_init_179 : decode cX9_init 179 = .ok (.iconst 2, 1) := by decide +kernel
theorem dX9_init_180 : decode cX9_init 180 = .ok (.invokevirtual 58, 3) := by decide +kernel
theorem dX9_init_183 : decode cX9_init 183 = .ok (.aload_n 0, 1) := by decide +kernel
theorem dX9_init_184 : decode cX9_init 184 = .ok (.iconst 0, 1) := by decide +kernel
theorem dX9_init_185 : decode cX9_init 185 = .ok (.bipush 15, 2) := by decide +kernel
theorem dX9_init_187 : decode cX9_init 187 = .ok (.iconst 5, 1) := by decide +kernel
theorem dX9_init_188 : decode cX9_init 188 = .ok (.bipush 6, 2) := by decide +kernel
theorem dX9_init_190 : decode cX9_init 190 = .ok (.iconst 3, 1) := by decide +kernel
theorem dX9_init_191 : decode cX9_init 191 = .ok (.invokevirtual 58, 3) := by decide +kernel
theorem dX9_init_194 : decode cX9_init 194 = .ok (.aload_n 0, 1) := by decide +kernel
theorem dX9_init_195 : decode cX9_init 195 = .ok (.iconst 2, 1) := by decide +kernel
theorem dX9_init_196 : decode cX9_init 196 = .ok (.invokevirtual 62, 3) := by decide +kernel
theorem dX9_init_199 : decode cX9_init 199 = .ok (.aload_n 0, 1) := by decide +kernel
theorem dX9_init_200 : decode cX9_init 200 = .ok (.iconst 5, 1) := by decide +kernel
theorem dX9_init_201 : decode cX9_init 201 = .ok (.invokevirtual 62, 3) := by decide +kernel
theorem dX9_init_204 : decode cX9_init 204 = .ok (.aload_n 0, 1) := by decide +kernel
theorem dX9_init_205 : decode cX9_init 205 = .ok (.iconst 1, 1) := by decide +kernel
theorem dX9_init_206 : decode cX9_init 206 = .ok (.invokevirtual 62, 3) := by decide +kernel
theorem dX9_init_209 : decode cX9_init 209 = .ok (.aload_n 0, 1) := by decide +kernel
theorem dX9_init_210 : decode cX9_init 210 = .ok (.iconst 4, 1) := by decide +kernel
theorem dX9_init_211 : decode cX9_init 211 = .ok (.invokevirtual 62, 3) := by decide +kernel
theorem dX9_init_214 : decode cX9_init 214 = .ok (.aload_n 0, 1) := by decide +kernel
theorem dX9_init_215 : decode cX9_init 215 = .ok (.iconst 0, 1) := by decide +kernel
theorem dX9_init_216 : decode cX9_init 216 = .ok (.invokevirtual 62, 3) := by decide +kernel
theorem dX9_init_219 : decode cX9_init 219 = .ok (.aload_n 0, 1) := by decide +kernel
theorem dX9_init_220 : decode cX9_init 220 = .ok (.iconst 3, 1) := by decide +kernel
theorem dX9_init_221 : decode cX9_init 221 = .ok (.invokevirtual 62, 3) := by decide +kernel
theorem dX9_init_224 : decode cX9_init 224 = .ok (.aload_n 0, 1) := by decide +kernel
theorem dX9_init_225 : decode cX9_init 225 = .ok (.invokevirtual 66, 3) := by decide +kernel
theorem dX9_init_228 : decode cX9_init 228 = .ok (.return_, 1) := by decide +kernel
theorem dX9_in_0 : decode cX9_in 0 = .ok (.lload_n 0, 1) := by decide +kernel
theorem dX9_in_1 : decode cX9_in 1 = .ok (.lload_n 2, 1) := by decide +kernel
theorem dX9_in_2 : decode cX9_in 2 = .ok (.lcmp, 1) := by decide +kernel
theorem dX9_in_3 : decode cX9_in 3 = .ok (.ifCond .lt 14, 3) := by decide +kernel
theorem dX9_in_6 : decode cX9_in 6 = .ok (.lload_n 0, 1) := by decide +kernel
theorem dX9_in_7 : decode cX9_in 7 = .ok (.lload 4, 2) := by decide +kernel
theorem dX9_in_9 : decode cX9_in 9 = .ok (.lcmp, 1) := by decide +kernel
theorem dX9_in_10 : decode cX9_in 10 = .ok (.ifCond .gt 7, 3) := by decide +kernel
theorem dX9_in_13 : decode cX9_in 13 = .ok (.iconst 1, 1) := by decide +kernel
theorem dX9_in_14 : decode cX9_in 14 = .ok (.goto 4, 3) := by decide +kernel
theorem dX9_in_17 : decode cX9_in 17 = .ok (.iconst 0, 1) := by decide +kernel
theorem dX9_in_18 : decode cX9_in 18 = .ok (.ireturn, 1) := by decide +kernel
theorem dX9_has_0 : decode cX9_has 0 = .ok (.iload_n 0, 1) := by decide +kernel
theorem dX9_has_1 : decode cX9_has 1 = .ok (.iload_n 1, 1) := by decide +kernel
theorem dX9_has_2 : decode cX9_has 2 = .ok (.ishr, 1) := by decide +kernel
theorem dX9_has_3 : decode cX9_has 3 = .ok (.iconst 1, 1) := by decide +kernel
theorem dX9_has_4 : decode cX9_has 4 = .ok (.iand, 1) := by decide +kernel
theorem dX9_has_5 : decode cX9_has 5 = .ok (.iconst 1, 1) := by decide +kernel
theorem dX9_has_6 : decode cX9_has 6 = .ok (.if_icmp .ne 7, 3) := by decide +kernel
theorem dX9_has_9 : decode cX9_has 9 = .ok (.iconst 1, 1) := by decide +kernel
theorem dX9_has_10 : decode cX9_has 10 = .ok (.goto 4, 3) := by decide +kernel
theorem dX9_has_13 : decode cX9_has 13 = .ok (.iconst 0, 1) := by decide +kernel
theorem dX9_has_14 : decode cX9_has 14 = .ok (.ireturn, 1) := by decide +kernel
theorem dX9_copy_0 : decode cX9_copy 0 = .ok (.iconst 0, 1) := by decide +kernel
theorem dX9_copy_1 : decode cX9_copy 1 = .ok (.istore_n 3, 1) := by decide +kernel
theorem dX9_copy_2 : decode cX9_copy 2 = .ok (.iload_n 3, 1) := by decide +kernel
theorem dX9_copy_3 : decode cX9_copy 3 = .ok (.bipush 51, 2) := by decide +kernel
theorem dX9_copy_5 : decode cX9_copy 5 = .ok (.if_icmp .ge 25, 3) := by decide +kernel
theorem dX9_copy_8 : decode cX9_copy 8 = .ok (.aload_n 0, 1) := by decide +kernel
theorem dX9_copy_9 : decode cX9_copy 9 = .ok (.getfield 7, 3) := by decide +kernel
theorem dX9_copy_12 : decode cX9_copy 12 = .ok (.iload_n 2, 1) := by decide +kernel
theorem dX9_copy_13 : decode cX9_copy 13 = .ok (.iload_n 3, 1) := by decide +kernel
theorem dX9_copy_14 : decode cX9_copy 14 = .ok (.iadd, 1) := by decide +kernel
theorem dX9_copy_15 : decode cX9_copy 15 = .ok (.aload_n 0, 1) := by decide +kernel
theorem dX9_copy_16 : decode cX9_copy 16 = .ok (.getfield 7, 3) := by decide +kernel
theorem dX9_copy_19 : decode cX9_copy 19 = .ok (.iload_n 1, 1) := by decide +kernel
theorem dX9_copy_20 : decode cX9_copy 20 = .ok (.iload_n 3, 1) := by decide +kernel
theorem dX9_copy_21 : decode cX9_copy 21 = .ok (.iadd, 1) := by decide +kernel
theorem dX9_copy_22 : decode cX9_copy 22 = .ok (.iaload, 1) := by decide +kernel
theorem dX9_copy_23 : decode cX9_copy 23 = .ok (.iastore, 1) := by decide +kernel
theorem dX9_copy_24 : decode cX9_copy 24 = .ok (.iinc 3 1, 3) := by decide +kernel
theorem dX9_copy_27 : decode cX9_copy 27 = .ok (.goto (-25), 3) := by decide +kernel
theorem dX9_copy_30 : decode cX9_copy 30 = .ok (.return_, 1) := by decide +kernel
theorem dX9_isGuest_0 : decode cX9_isGuest 0 = .ok (.iload_n 1, 1) := by decide +kernel
theorem dX9_isGuest_1 : decode cX9_isGuest 1 = .ok (.i2l, 1) := by decide +kernel
theorem dX9_isGuest_2 : decode cX9_isGuest 2 = .ok (.lconst 0, 1) := by decide +kernel
theorem dX9_isGuest_3 : decode cX9_isGuest 3 = .ok (.aload_n 0, 1) := by decide +kernel
theorem dX9_isGuest_4 : decode cX9_isGuest 4 = .ok (.getfield 69, 3) := by decide +kernel
theorem dX9_isGuest_7 : decode cX9_isGuest 7 = .ok (.iconst 1, 1) := by decide +kernel
theorem dX9_isGuest_8 : decode cX9_isGuest 8 = .ok (.isub, 1) := by decide +kernel
theorem dX9_isGuest_9 : decode cX9_isGuest 9 = .ok (.i2l, 1) := by decide +kernel
theorem dX9_isGuest_10 : decode cX9_isGuest 10 = .ok (.invokestatic 73, 3) := by decide +kernel
theorem dX9_isGuest_13 : decode cX9_isGuest 13 = .ok (.ireturn, 1) := by decide +kernel
theorem dX9_starts_0 : decode cX9_starts 0 = .ok (.aload_n 0, 1) := by decide +kernel
theorem dX9_starts_1 : decode cX9_starts 1 = .ok (.iconst 0, 1) := by decide +kernel
theorem dX9_starts_2 : decode cX9_starts 2 = .ok (.putfield 77, 3) := by decide +kernel
theorem dX9_starts_5 : decode cX9_starts 5 = .ok (.aload_n 0, 1) := by decide +kernel
theorem dX9_starts_6 : decode cX9_starts 6 = .ok (.iconst 0, 1) := by decide +kernel
theorem dX9_starts_7 : decode cX9_starts 7 = .ok (.putfield 80, 3) := by decide +kernel
theorem dX9_starts_10 : decode cX9_starts 10 = .ok (.iconst 0, 1) := by decide +kernel
theorem dX9_starts_11 : decode cX9_starts 11 = .ok (.istore_n 1, 1) := by decide +kernel
theorem dX9_starts_12 : decode cX9_starts 12 = .ok (.iload_n 1, 1) := by decide +kernel
theorem dX9_starts_13 : decode cX9_starts 13 = .ok (.bipush 7, 2) := by decide +kernel
theorem dX9_starts_15 : decode cX9_starts 15 = .ok (.if_icmp .ge 16, 3) := by decide +kernel
theorem dX9_starts_18 : decode cX9_starts 18 = .ok (.aload_n 0, 1) := by decide +kernel
theorem dX9_starts_19 : decode cX9_starts 19 = .ok (.getfield 37, 3) := by decide +kernel
theorem dX9_starts_22 : decode cX9_starts 22 = .ok (.iload_n 1, 1) := by decide +kernel
theorem dX9_starts_23 : decode cX9_starts 23 = .ok (.iconst 0, 1) := by decide +kernel
theorem dX9_starts_24 : decode cX9_starts 24 = .ok (.iastore, 1) := by decide +kernel
theorem dX9_starts_25 : decode cX9_starts 25 = .ok (.iinc 1 1, 3) := by decide +kernel
theorem dX9_starts_28 : decode cX9_starts 28 = .ok (.goto (-16), 3) := by decide +kernel
theorem dX9_starts_31 : decode cX9_starts 31 = .ok (.return_, 1) := by decide +kernel
theorem dX9_addsGuest_0 : decode cX9_addsGuest 0 = .ok (.iconst 5, 1) := by decide +kernel
theorem dX9_addsGuest_1 : decode cX9_addsGuest 1 = .ok (.aload_n 0, 1) := by decide +kernel
theorem dX9_addsGuest_2 : decode cX9_addsGuest 2 = .ok (.getfield 77, 3) := by decide +kernel
theorem dX9_addsGuest_5 : decode cX9_addsGuest 5 = .ok (.imul, 1) := by decide +kernel
theorem dX9_addsGuest_6 : decode cX9_addsGuest 6 = .ok (.istore 6, 2) := by decide +kernel
theorem dX9_addsGuest_8 : decode cX9_addsGuest 8 = .ok (.aload_n 0, 1) := by decide +kernel
theorem dX9_addsGuest_9 : decode cX9_addsGuest 9 = .ok (.getfield 34, 3) := by decide +kernel
theorem dX9_addsGuest_12 : decode cX9_addsGuest 12 = .ok (.iload 6, 2) := by decide +kernel
theorem dX9_addsGuest_14 : decode cX9_addsGuest 14 = .ok (.iload_n 1, 1) := by decide +kernel
theorem dX9_addsGuest_15 : decode cX9_addsGuest 15 = .ok (.iastore, 1) := by decide +kernel
theorem dX9_addsGuest_16 : decode cX9_addsGuest 16 = .ok (.aload_n 0, 1) := by decide +kernel
theorem dX9_addsGuest_17 : decode cX9_addsGuest 17 = .ok (.getfield 34, 3) := by decide +kernel
theorem dX9_addsGuest_20 : decode cX9_addsGuest 20 = .ok (.iload 6, 2) := by decide +kernel
theorem dX9_addsGuest_22 : decode cX9_addsGuest 22 = .ok (.iconst 1, 1) := by decide +kernel
theorem dX9_addsGuest_23 : decode cX9_addsGuest 23 = .ok (.iadd, 1) := by decide +kernel
theorem dX9_addsGuest_24 : decode cX9_addsGuest 24 = .ok (.iload_n 2, 1) := by decide +kernel
theorem dX9_addsGuest_25 : decode cX9_addsGuest 25 = .ok (.iastore, 1) := by decide +kernel
theorem dX9_addsGuest_26 : decode cX9_addsGuest 26 = .ok (.aload_n 0, 1) := by decide +kernel
theorem dX9_addsGuest_27 : decode cX9_addsGuest 27 = .ok (.getfield 34, 3) := by decide +kernel
theorem dX9_addsGuest_30 : decode cX9_addsGuest 30 = .ok (.iload 6, 2) := by decide +kernel
theorem dX9_addsGuest_32 : decode cX9_addsGuest 32 = .ok (.iconst 2, 1) := by decide +kernel
theorem dX9_addsGuest_33 : decode cX9_addsGuest 33 = .ok (.iadd, 1) := by decide +kernel
theorem dX9_addsGuest_34 : decode cX9_addsGuest 34 = .ok (.iload_n 3, 1) := by decide +kernel
theorem dX9_addsGuest_35 : decode cX9_addsGuest 35 = .ok (.iastore, 1) := by decide +kernel
theorem dX9_addsGuest_36 : decode cX9_addsGuest 36 = .ok (.aload_n 0, 1) := by decide +kernel
theorem dX9_addsGuest_37 : decode cX9_addsGuest 37 = .ok (.getfield 34, 3) := by decide +kernel
theorem dX9_addsGuest_40 : decode cX9_addsGuest 40 = .ok (.iload 6, 2) := by decide +kernel
theorem dX9_addsGuest_42 : decode cX9_addsGuest 42 = .ok (.iconst 3, 1) := by decide +kernel
theorem dX9_addsGuest_43 : decode cX9_addsGuest 43 = .ok (.iadd, 1) := by decide +kernel
theorem dX9_addsGuest_44 : decode cX9_addsGuest 44 = .ok (.iload 4, 2) := by decide +kernel
theorem dX9_addsGuest_46 : decode cX9_addsGuest 46 = .ok (.iastore, 1) := by decide +kernel
theorem dX9_addsGuest_47 : decode cX9_addsGuest 47 = .ok (.aload_n 0, 1) := by decide +kernel
theorem dX9_addsGuest_48 : decode cX9_addsGuest 48 = .ok (.getfield 34, 3) := by decide +kernel
theorem dX9_addsGuest_51 : decode cX9_addsGuest 51 = .ok (.iload 6, 2) := by decide +kernel
theorem dX9_addsGuest_53 : decode cX9_addsGuest 53 = .ok (.iconst 4, 1) := by decide +kernel
theorem dX9_addsGuest_54 : decode cX9_addsGuest 54 = .ok (.iadd, 1) := by decide +kernel
theorem dX9_addsGuest_55 : decode cX9_addsGuest 55 = .ok (.iload 5, 2) := by decide +kernel
theorem dX9_addsGuest_57 : decode cX9_addsGuest 57 = .ok (.iastore, 1) := by decide +kernel
theorem dX9_addsGuest_58 : decode cX9_addsGuest 58 = .ok (.aload_n 0, 1) := by decide +kernel
theorem dX9_addsGuest_59 : decode cX9_addsGuest 59 = .ok (.dup, 1) := by decide +kernel
theorem dX9_addsGuest_60 : decode cX9_addsGuest 60 = .ok (.getfield 77, 3) := by decide +kernel
theorem dX9_addsGuest_63 : decode cX9_addsGuest 63 = .ok (.iconst 1, 1) := by decide +kernel
theorem dX9_addsGuest_64 : decode cX9_addsGuest 64 = .ok (.iadd, 1) := by decide +kernel
theorem dX9_addsGuest_65 : decode cX9_addsGuest 65 = .ok (.putfield 77, 3) := by decide +kernel
theorem dX9_addsGuest_68 : decode cX9_addsGuest 68 = .ok (.return_, 1) := by decide +kernel
theorem dX9_addsRoom_0 : decode cX9_addsRoom 0 = .ok (.aload_n 0, 1) := by decide +kernel
theorem dX9_addsRoom_1 : decode cX9_addsRoom 1 = .ok (.getfield 37, 3) := by decide +kernel
theorem dX9_addsRoom_4 : decode cX9_addsRoom 4 = .ok (.aload_n 0, 1) := by decide +kernel
theorem dX9_addsRoom_5 : decode cX9_addsRoom 5 = .ok (.getfield 80, 3) := by decide +kernel
theorem dX9_addsRoom_8 : decode cX9_addsRoom 8 = .ok (.iload_n 1, 1) := by decide +kernel
theorem dX9_addsRoom_9 : decode cX9_addsRoom 9 = .ok (.iastore, 1) := by decide +kernel
theorem dX9_addsRoom_10 : decode cX9_addsRoom 10 = .ok (.aload_n 0, 1) := by decide +kernel
theorem dX9_addsRoom_11 : decode cX9_addsRoom 11 = .ok (.dup, 1) := by decide +kernel
theorem dX9_addsRoom_12 : decode cX9_addsRoom 12 = .ok (.getfield 80, 3) := by decide +kernel
theorem dX9_addsRoom_15 : decode cX9_addsRoom 15 = .ok (.iconst 1, 1) := by decide +kernel
theorem dX9_addsRoom_16 : decode cX9_addsRoom 16 = .ok (.iadd, 1) := by decide +kernel
theorem dX9_addsRoom_17 : decode cX9_addsRoom 17 = .ok (.putfield 80, 3) := by decide +kernel
theorem dX9_addsRoom_20 : decode cX9_addsRoom 20 = .ok (.return_, 1) := by decide +kernel
theorem dX9_begins_0 : decode cX9_begins 0 = .ok (.aload_n 0, 1) := by decide +kernel
theorem dX9_begins_1 : decode cX9_begins 1 = .ok (.aload_n 0, 1) := by decide +kernel
theorem dX9_begins_2 : decode cX9_begins 2 = .ok (.getfield 77, 3) := by decide +kernel
theorem dX9_begins_5 : decode cX9_begins 5 = .ok (.putfield 69, 3) := by decide +kernel
theorem dX9_begins_8 : decode cX9_begins 8 = .ok (.iconst 0, 1) := by decide +kernel
theorem dX9_begins_9 : decode cX9_begins 9 = .ok (.istore_n 1, 1) := by decide +kernel
theorem dX9_begins_10 : decode cX9_begins 10 = .ok (.iload_n 1, 1) := by decide +kernel
theorem dX9_begins_11 : decode cX9_begins 11 = .ok (.bipush 51, 2) := by decide +kernel
theorem dX9_begins_13 : decode cX9_begins 13 = .ok (.if_icmp .ge 16, 3) := by decide +kernel
theorem dX9_begins_16 : decode cX9_begins 16 = .ok (.aload_n 0, 1) := by decide +kernel
theorem dX9_begins_17 : decode cX9_begins 17 = .ok (.getfield 7, 3) := by decide +kernel
theorem dX9_begins_20 : decode cX9_begins 20 = .ok (.iload_n 1, 1) := by decide +kernel
theorem dX9_begins_21 : decode cX9_begins 21 = .ok (.iconst 0, 1) := by decide +kernel
theorem dX9_begins_22 : decode cX9_begins 22 = .ok (.iastore, 1) := by decide +kernel
theorem dX9_begins_23 : decode cX9_begins 23 = .ok (.iinc 1 1, 3) := by decide +kernel
theorem dX9_begins_26 : decode cX9_begins 26 = .ok (.goto (-16), 3) := by decide +kernel
theorem dX9_begins_29 : decode cX9_begins 29 = .ok (.aload_n 0, 1) := by decide +kernel
theorem dX9_begins_30 : decode cX9_begins 30 = .ok (.getfield 7, 3) := by decide +kernel
theorem dX9_begins_33 : decode cX9_begins 33 = .ok (.iconst 1, 1) := by decide +kernel
theorem dX9_begins_34 : decode cX9_begins 34 = .ok (.bipush (-4), 2) := by decide +kernel
theorem dX9_begins_36 : decode cX9_begins 36 = .ok (.iastore, 1) := by decide +kernel
theorem dX9_begins_37 : decode cX9_begins 37 = .ok (.iconst 0, 1) := by decide +kernel
theorem dX9_begins_38 : decode cX9_begins 38 = .ok (.istore_n 1, 1) := by decide +kernel
theorem dX9_begins_39 : decode cX9_begins 39 = .ok (.iload_n 1, 1) := by decide +kernel
theorem dX9_begins_40 : decode cX9_begins 40 = .ok (.bipush 7, 2) := by decide +kernel
theorem dX9_begins_42 : decode cX9_begins 42 = .ok (.if_icmp .ge 20, 3) := by decide +kernel
theorem dX9_begins_45 : decode cX9_begins 45 = .ok (.aload_n 0, 1) := by decide +kernel
theorem dX9_begins_46 : decode cX9_begins 46 = .ok (.getfield 7, 3) := by decide +kernel
theorem dX9_begins_49 : decode cX9_begins 49 = .ok (.bipush 30, 2) := by decide +kernel
theorem dX9_begins_51 : decode cX9_begins 51 = .ok (.iload_n 1, 1) := by decide +kernel
theorem dX9_begins_52 : decode cX9_begins 52 = .ok (.iadd, 1) := by decide +kernel
theorem dX9_begins_53 : decode cX9_begins 53 = .ok (.bipush (-4), 2) := by decide +kernel
theorem dX9_begins_55 : decode cX9_begins 55 = .ok (.iastore, 1) := by decide +kernel
theorem dX9_begins_56 : decode cX9_begins 56 = .ok (.iinc 1 1, 3) := by decide +kernel
theorem dX9_begins_59 : decode cX9_begins 59 = .ok (.goto (-20), 3) := by decide +kernel
theorem dX9_begins_62 : decode cX9_begins 62 = .ok (.iconst 0, 1) := by decide +kernel
theorem dX9_begins_63 : decode cX9_begins 63 = .ok (.istore_n 1, 1) := by decide +kernel
theorem dX9_begins_64 : decode cX9_begins 64 = .ok (.iload_n 1, 1) := by decide +kernel
theorem dX9_begins_65 : decode cX9_begins 65 = .ok (.aload_n 0, 1) := by decide +kernel
theorem dX9_begins_66 : decode cX9_begins 66 = .ok (.getfield 69, 3) := by decide +kernel
theorem dX9_begins_69 : decode cX9_begins 69 = .ok (.if_icmp .ge 105, 3) := by decide +kernel
theorem dX9_begins_72 : decode cX9_begins 72 = .ok (.aload_n 0, 1) := by decide +kernel
theorem dX9_begins_73 : decode cX9_begins 73 = .ok (.getfield 13, 3) := by decide +kernel
theorem dX9_begins_76 : decode cX9_begins 76 = .ok (.iload_n 1, 1) := by decide +kernel
theorem dX9_begins_77 : decode cX9_begins 77 = .ok (.aload_n 0, 1) := by decide +kernel
theorem dX9_begins_78 : decode cX9_begins 78 = .ok (.getfield 34, 3) := by decide +kernel
theorem dX9_begins_81 : decode cX9_begins 81 = .ok (.iconst 5, 1) := by decide +kernel
theorem dX9_begins_82 : decode cX9_begins 82 = .ok (.iload_n 1, 1) := by decide +kernel
theorem dX9_begins_83 : decode cX9_begins 83 = .ok (.imul, 1) := by decide +kernel
theorem dX9_begins_84 : decode cX9_begins 84 = .ok (.iaload, 1) := by decide +kernel
theorem dX9_begins_85 : decode cX9_begins 85 = .ok (.iastore, 1) := by decide +kernel
theorem dX9_begins_86 : decode cX9_begins 86 = .ok (.aload_n 0, 1) := by decide +kernel
theorem dX9_begins_87 : decode cX9_begins 87 = .ok (.getfield 7, 3) := by decide +kernel
theorem dX9_begins_90 : decode cX9_begins 90 = .ok (.bipush 9, 2) := by decide +kernel
theorem dX9_begins_92 : decode cX9_begins 92 = .ok (.iload_n 1, 1) := by decide +kernel
theorem dX9_begins_93 : decode cX9_begins 93 = .ok (.iadd, 1) := by decide +kernel
theorem dX9_begins_94 : decode cX9_begins 94 = .ok (.aload_n 0, 1) := by decide +kernel
theorem dX9_begins_95 : decode cX9_begins 95 = .ok (.getfield 34, 3) := by decide +kernel
theorem dX9_begins_98 : decode cX9_begins 98 = .ok (.iconst 5, 1) := by decide +kernel
theorem dX9_begins_99 : decode cX9_begins 99 = .ok (.iload_n 1, 1) := by decide +kernel
theorem dX9_begins_100 : decode cX9_begins 100 = .ok (.imul, 1) := by decide +kernel
theorem dX9_begins_101 : decode cX9_begins 101 = .ok (.iconst 1, 1) := by decide +kernel
theorem dX9_begins_102 : decode cX9_begins 102 = .ok (.iadd, 1) := by decide +kernel
theorem dX9_begins_103 : decode cX9_begins 103 = .ok (.iaload, 1) := by decide +kernel
theorem dX9_begins_104 : decode cX9_begins 104 = .ok (.iastore, 1) := by decide +kernel
theorem dX9_begins_105 : decode cX9_begins 105 = .ok (.aload_n 0, 1) := by decide +kernel
theorem dX9_begins_106 : decode cX9_begins 106 = .ok (.getfield 16, 3) := by decide +kernel
theorem dX9_begins_109 : decode cX9_begins 109 = .ok (.iload_n 1, 1) := by decide +kernel
theorem dX9_begins_110 : decode cX9_begins 110 = .ok (.aload_n 0, 1) := by decide +kernel
theorem dX9_begins_111 : decode cX9_begins 111 = .ok (.getfield 34, 3) := by decide +kernel
theorem dX9_begins_114 : decode cX9_begins 114 = .ok (.iconst 5, 1) := by decide +kernel
theorem dX9_begins_115 : decode cX9_begins 115 = .ok (.iload_n 1, 1) := by decide +kernel
theorem dX9_begins_116 : decode cX9_begins 116 = .ok (.imul, 1) := by decide +kernel
theorem dX9_begins_117 : decode cX9_begins 117 = .ok (.iconst 2, 1) := by decide +kernel
theorem dX9_begins_118 : decode cX9_begins 118 = .ok (.iadd, 1) := by decide +kernel
theorem dX9_begins_119 : decode cX9_begins 119 = .ok (.iaload, 1) := by decide +kernel
theorem dX9_begins_120 : decode cX9_begins 120 = .ok (.iastore, 1) := by decide +kernel
theorem dX9_begins_121 : decode cX9_begins 121 = .ok (.aload_n 0, 1) := by decide +kernel
theorem dX9_begins_122 : decode cX9_begins 122 = .ok (.getfield 19, 3) := by decide +kernel
theorem dX9_begins_125 : decode cX9_begins 125 = .ok (.iload_n 1, 1) := by decide +kernel
theorem dX9_begins_126 : decode cX9_begins 126 = .ok (.aload_n 0, 1) := by decide +kernel
theorem dX9_begins_127 : decode cX9_begins 127 = .ok (.getfield 34, 3) := by decide +kernel
theorem dX9_begins_130 : decode cX9_begins 130 = .ok (.iconst 5, 1) := by decide +kernel
theorem dX9_begins_131 : decode cX9_begins 131 = .ok (.iload_n 1, 1) := by decide +kernel
theorem dX9_begins_132 : decode cX9_begins 132 = .ok (.imul, 1) := by decide +kernel
theorem dX9_begins_133 : decode cX9_begins 133 = .ok (.iconst 3, 1) := by decide +kernel
theorem dX9_begins_134 : decode cX9_begins 134 = .ok (.iadd, 1) := by decide +kernel
theorem dX9_begins_135 : decode cX9_begins 135 = .ok (.iaload, 1) := by decide +kernel
theorem dX9_begins_136 : decode cX9_begins 136 = .ok (.iastore, 1) := by decide +kernel
theorem dX9_begins_137 : decode cX9_begins 137 = .ok (.aload_n 0, 1) := by decide +kernel
theorem dX9_begins_138 : decode cX9_begins 138 = .ok (.getfield 22, 3) := by decide +kernel
theorem dX9_begins_141 : decode cX9_begins 141 = .ok (.iload_n 1, 1) := by decide +kernel
theorem dX9_begins_142 : decode cX9_begins 142 = .ok (.aload_n 0, 1) := by decide +kernel
theorem dX9_begins_143 : decode cX9_begins 143 = .ok (.getfield 34, 3) := by decide +kernel
theorem dX9_begins_146 : decode cX9_begins 146 = .ok (.iconst 5, 1) := by decide +kernel
theorem dX9_begins_147 : decode cX9_begins 147 = .ok (.iload_n 1, 1) := by decide +kernel
theorem dX9_begins_148 : decode cX9_begins 148 = .ok (.imul, 1) := by decide +kernel
theorem dX9_begins_149 : decode cX9_begins 149 = .ok (.iconst 4, 1) := by decide +kernel
theorem dX9_begins_150 : decode cX9_begins 150 = .ok (.iadd, 1) := by decide +kernel
theorem dX9_begins_151 : decode cX9_begins 151 = .ok (.iaload, 1) := by decide +kernel
theorem dX9_begins_152 : decode cX9_begins 152 = .ok (.iastore, 1) := by decide +kernel
theorem dX9_begins_153 : decode cX9_begins 153 = .ok (.aload_n 0, 1) := by decide +kernel
theorem dX9_begins_154 : decode cX9_begins 154 = .ok (.getfield 7, 3) := by decide +kernel
theorem dX9_begins_157 : decode cX9_begins 157 = .ok (.bipush 16, 2) := by decide +kernel
theorem dX9_begins_159 : decode cX9_begins 159 = .ok (.iload_n 1, 1) := by decide +kernel
theorem dX9_begins_160 : decode cX9_begins 160 = .ok (.iadd, 1) := by decide +kernel
theorem dX9_begins_161 : decode cX9_begins 161 = .ok (.aload_n 0, 1) := by decide +kernel
theorem dX9_begins_162 : decode cX9_begins 162 = .ok (.getfield 37, 3) := by decide +kernel
theorem dX9_begins_165 : decode cX9_begins 165 = .ok (.iload_n 1, 1) := by decide +kernel
theorem dX9_begins_166 : decode cX9_begins 166 = .ok (.iaload, 1) := by decide +kernel
theorem dX9_begins_167 : decode cX9_begins 167 = .ok (.iastore, 1) := by decide +kernel
theorem dX9_begins_168 : decode cX9_begins 168 = .ok (.iinc 1 1, 3) := by decide +kernel
theorem dX9_begins_171 : decode cX9_begins 171 = .ok (.goto (-107), 3) := by decide +kernel
theorem dX9_begins_174 : decode cX9_begins 174 = .ok (.aload_n 0, 1) := by decide +kernel
theorem dX9_begins_175 : decode cX9_begins 175 = .ok (.iconst 0, 1) := by decide +kernel
theorem dX9_begins_176 : decode cX9_begins 176 = .ok (.putfield 83, 3) := by decide +kernel
theorem dX9_begins_179 : decode cX9_begins 179 = .ok (.aload_n 0, 1) := by decide +kernel
theorem dX9_begins_180 : decode cX9_begins 180 = .ok (.iconst 0, 1) := by decide +kernel
theorem dX9_begins_181 : decode cX9_begins 181 = .ok (.putfield 86, 3) := by decide +kernel
theorem dX9_begins_184 : decode cX9_begins 184 = .ok (.aload_n 0, 1) := by decide +kernel
theorem dX9_begins_185 : decode cX9_begins 185 = .ok (.iconst 0, 1) := by decide +kernel
theorem dX9_begins_186 : decode cX9_begins 186 = .ok (.putfield 89, 3) := by decide +kernel
theorem dX9_begins_189 : decode cX9_begins 189 = .ok (.return_, 1) := by decide +kernel
theorem dX9_write_0 : decode cX9_write 0 = .ok (.iload_n 1, 1) := by decide +kernel
theorem dX9_write_1 : decode cX9_write 1 = .ok (.i2l, 1) := by decide +kernel
theorem dX9_write_2 : decode cX9_write 2 = .ok (.ldc2_w 92, 3) := by decide +kernel
theorem dX9_write_5 : decode cX9_write 5 = .ok (.ldc2_w 94, 3) := by decide +kernel
theorem dX9_write_8 : decode cX9_write 8 = .ok (.invokestatic 73, 3) := by decide +kernel
theorem dX9_write_11 : decode cX9_write 11 = .ok (.ifCond .ne 5, 3) := by decide +kernel
theorem dX9_write_14 : decode cX9_write 14 = .ok (.iconst (-1), 1) := by decide +kernel
theorem dX9_write_15 : decode cX9_write 15 = .ok (.ireturn, 1) := by decide +kernel
theorem dX9_write_16 : decode cX9_write 16 = .ok (.aload_n 0, 1) := by decide +kernel
theorem dX9_write_17 : decode cX9_write 17 = .ok (.getfield 96, 3) := by decide +kernel
theorem dX9_write_20 : decode cX9_write 20 = .ok (.sipush 200, 3) := by decide +kernel
theorem dX9_write_23 : decode cX9_write 23 = .ok (.if_icmp .ne 6, 3) := by decide +kernel
theorem dX9_write_26 : decode cX9_write 26 = .ok (.bipush (-3), 2) := by decide +kernel
theorem dX9_write_28 : decode cX9_write 28 = .ok (.ireturn, 1) := by decide +kernel
theorem dX9_write_29 : decode cX9_write 29 = .ok (.aload_n 0, 1) := by decide +kernel
theorem dX9_write_30 : decode cX9_write 30 = .ok (.getfield 31, 3) := by decide +kernel
theorem dX9_write_33 : decode cX9_write 33 = .ok (.aload_n 0, 1) := by decide +kernel
theorem dX9_write_34 : decode cX9_write 34 = .ok (.getfield 96, 3) := by decide +kernel
theorem dX9_write_37 : decode cX9_write 37 = .ok (.iload_n 1, 1) := by decide +kernel
theorem dX9_write_38 : decode cX9_write 38 = .ok (.iastore, 1) := by decide +kernel
theorem dX9_write_39 : decode cX9_write 39 = .ok (.aload_n 0, 1) := by decide +kernel
theorem dX9_write_40 : decode cX9_write 40 = .ok (.dup, 1) := by decide +kernel
theorem dX9_write_41 : decode cX9_write 41 = .ok (.getfield 96, 3) := by decide +kernel
theorem dX9_write_44 : decode cX9_write 44 = .ok (.iconst 1, 1) := by decide +kernel
theorem dX9_write_45 : decode cX9_write 45 = .ok (.iadd, 1) := by decide +kernel
theorem dX9_write_46 : decode cX9_write 46 = .ok (.putfield 96, 3) := by decide +kernel
theorem dX9_write_49 : decode cX9_write 49 = .ok (.aload_n 0, 1) := by decide +kernel
theorem dX9_write_50 : decode cX9_write 50 = .ok (.getfield 96, 3) := by decide +kernel
theorem dX9_write_53 : decode cX9_write 53 = .ok (.ireturn, 1) := by decide +kernel
theorem dX9_wipe_0 : decode cX9_wipe 0 = .ok (.aload_n 0, 1) := by decide +kernel
theorem dX9_wipe_1 : decode cX9_wipe 1 = .ok (.getfield 96, 3) := by decide +kernel
theorem dX9_wipe_4 : decode cX9_wipe 4 = .ok (.istore_n 1, 1) := by decide +kernel
theorem dX9_wipe_5 : decode cX9_wipe 5 = .ok (.aload_n 0, 1) := by decide +kernel
theorem dX9_wipe_6 : decode cX9_wipe 6 = .ok (.iconst 0, 1) := by decide +kernel
theorem dX9_wipe_7 : decode cX9_wipe 7 = .ok (.putfield 96, 3) := by decide +kernel
theorem dX9_wipe_10 : decode cX9_wipe 10 = .ok (.iload_n 1, 1) := by decide +kernel
theorem dX9_wipe_11 : decode cX9_wipe 11 = .ok (.ireturn, 1) := by decide +kernel
theorem dX9_letterAt_0 : decode cX9_letterAt 0 = .ok (.iload_n 1, 1) := by decide +kernel
theorem dX9_letterAt_1 : decode cX9_letterAt 1 = .ok (.aload_n 0, 1) := by decide +kernel
theorem dX9_letterAt_2 : decode cX9_letterAt 2 = .ok (.getfield 96, 3) := by decide +kernel
theorem dX9_letterAt_5 : decode cX9_letterAt 5 = .ok (.if_icmp .ge 12, 3) := by decide +kernel
theorem dX9_letterAt_8 : decode cX9_letterAt 8 = .ok (.aload_n 0, 1) := by decide +kernel
theorem dX9_letterAt_9 : decode cX9_letterAt 9 = .ok (.getfield 31, 3) := by decide +kernel
theorem dX9_letterAt_12 : decode cX9_letterAt 12 = .ok (.iload_n 1, 1) := by decide +kernel
theorem dX9_letterAt_13 : decode cX9_letterAt 13 = .ok (.iaload, 1) := by decide +kernel
theorem dX9_letterAt_14 : decode cX9_letterAt 14 = .ok (.goto 4, 3) := by decide +kernel
theorem dX9_letterAt_17 : decode cX9_letterAt 17 = .ok (.iconst (-1), 1) := by decide +kernel
theorem dX9_letterAt_18 : decode cX9_letterAt 18 = .ok (.ireturn, 1) := by decide +kernel
theorem dX9_takesNumber_0 : decode cX9_takesNumber 0 = .ok (.aload_n 0, 1) := by decide +kernel
theorem dX9_takesNumber_1 : decode cX9_takesNumber 1 = .ok (.getfield 99, 3) := by decide +kernel
theorem dX9_takesNumber_4 : decode cX9_takesNumber 4 = .ok (.istore 4, 2) := by decide +kernel
theorem dX9_takesNumber_6 : decode cX9_takesNumber 6 = .ok (.aload_n 0, 1) := by decide +kernel
theorem dX9_takesNumber_7 : decode cX9_takesNumber 7 = .ok (.iconst 0, 1) := by decide +kernel
theorem dX9_takesNumber_8 : decode cX9_takesNumber 8 = .ok (.putfield 102, 3) := by decide +kernel
theorem dX9_takesNumber_11 : decode cX9_takesNumber 11 = .ok (.aload_n 0, 1) := by decide +kernel
theorem dX9_takesNumber_12 : decode cX9_takesNumber 12 = .ok (.getfield 99, 3) := by decide +kernel
theorem dX9_takesNumber_15 : decode cX9_takesNumber 15 = .ok (.iload 4, 2) := by decide +kernel
theorem dX9_takesNumber_17 : decode cX9_takesNumber 17 = .ok (.isub, 1) := by decide +kernel
theorem dX9_takesNumber_18 : decode cX9_takesNumber 18 = .ok (.iconst 2, 1) := by decide +kernel
theorem dX9_takesNumber_19 : decode cX9_takesNumber 19 = .ok (.if_icmp .ge 60, 3) := by decide +kernel
theorem dX9_takesNumber_22 : decode cX9_takesNumber 22 = .ok (.aload_n 0, 1) := by decide +kernel
theorem dX9_takesNumber_23 : decode cX9_takesNumber 23 = .ok (.aload_n 0, 1) := by decide +kernel
theorem dX9_takesNumber_24 : decode cX9_takesNumber 24 = .ok (.getfield 99, 3) := by decide +kernel
theorem dX9_takesNumber_27 : decode cX9_takesNumber 27 = .ok (.invokevirtual 105, 3) := by decide +kernel
theorem dX9_takesNumber_30 : decode cX9_takesNumber 30 = .ok (.i2l, 1) := by decide +kernel
theorem dX9_takesNumber_31 : decode cX9_takesNumber 31 = .ok (.ldc2_w 109, 3) := by decide +kernel
theorem dX9_takesNumber_34 : decode cX9_takesNumber 34 = .ok (.ldc2_w 111, 3) := by decide +kernel
theorem dX9_takesNumber_37 : decode cX9_takesNumber 37 = .ok (.invokestatic 73, 3) := by decide +kernel
theorem dX9_takesNumber_40 : decode cX9_takesNumber 40 = .ok (.ifCond .eq 39, 3) := by decide +kernel
theorem dX9_takesNumber_43 : decode cX9_takesNumber 43 = .ok (.aload_n 0, 1) := by decide +kernel
theorem dX9_takesNumber_44 : decode cX9_takesNumber 44 = .ok (.bipush 10, 2) := by decide +kernel
theorem dX9_takesNumber_46 : decode cX9_takesNumber 46 = .ok (.aload_n 0, 1) := by decide +kernel
theorem dX9_takesNumber_47 : decode cX9_takesNumber 47 = .ok (.getfield 102, 3) := by decide +kernel
theorem dX9_takesNumber_50 : decode cX9_takesNumber 50 = .ok (.imul, 1) := by decide +kernel
theorem dX9_takesNumber_51 : decode cX9_takesNumber 51 = .ok (.aload_n 0, 1) := by decide +kernel
theorem dX9_takesNumber_52 : decode cX9_takesNumber 52 = .ok (.aload_n 0, 1) := by decide +kernel
theorem dX9_takesNumber_53 : decode cX9_takesNumber 53 = .ok (.getfield 99, 3) := by decide +kernel
theorem dX9_takesNumber_56 : decode cX9_takesNumber 56 = .ok (.invokevirtual 105, 3) := by decide +kernel
theorem dX9_takesNumber_59 : decode cX9_takesNumber 59 = .ok (.iadd, 1) := by decide +kernel
theorem dX9_takesNumber_60 : decode cX9_takesNumber 60 = .ok (.bipush 48, 2) := by decide +kernel
theorem dX9_takesNumber_62 : decode cX9_takesNumber 62 = .ok (.isub, 1) := by decide +kernel
theorem dX9_takesNumber_63 : decode cX9_takesNumber 63 = .ok (.putfield 102, 3) := by decide +kernel
theorem dX9_takesNumber_66 : decode cX9_takesNumber 66 = .ok (.aload_n 0, 1) := by decide +kernel
theorem dX9_takesNumber_67 : decode cX9_takesNumber 67 = .ok (.dup, 1) := by decide +kernel
theorem dX9_takesNumber_68 : decode cX9_takesNumber 68 = .ok (.getfield 99, 3) := by decide +kernel
theorem dX9_takesNumber_71 : decode cX9_takesNumber 71 = .ok (.iconst 1, 1) := by decide +kernel
theorem dX9_takesNumber_72 : decode cX9_takesNumber 72 = .ok (.iadd, 1) := by decide +kernel
theorem dX9_takesNumber_73 : decode cX9_takesNumber 73 = .ok (.putfield 99, 3) := by decide +kernel
theorem dX9_takesNumber_76 : decode cX9_takesNumber 76 = .ok (.goto (-65), 3) := by decide +kernel
theorem dX9_takesNumber_79 : decode cX9_takesNumber 79 = .ok (.aload_n 0, 1) := by decide +kernel
theorem dX9_takesNumber_80 : decode cX9_takesNumber 80 = .ok (.getfield 99, 3) := by decide +kernel
theorem dX9_takesNumber_83 : decode cX9_takesNumber 83 = .ok (.iload 4, 2) := by decide +kernel
theorem dX9_takesNumber_85 : decode cX9_takesNumber 85 = .ok (.if_icmp .eq 30, 3) := by decide +kernel
theorem dX9_takesNumber_88 : decode cX9_takesNumber 88 = .ok (.aload_n 0, 1) := by decide +kernel
theorem dX9_takesNumber_89 : decode cX9_takesNumber 89 = .ok (.getfield 102, 3) := by decide +kernel
theorem dX9_takesNumber_92 : decode cX9_takesNumber 92 = .ok (.i2l, 1) := by decide +kernel
theorem dX9_takesNumber_93 : decode cX9_takesNumber 93 = .ok (.iload_n 1, 1) := by decide +kernel
theorem dX9_takesNumber_94 : decode cX9_takesNumber 94 = .ok (.i2l, 1) := by decide +kernel
theorem dX9_takesNumber_95 : decode cX9_takesNumber 95 = .ok (.iload_n 2, 1) := by decide +kernel
theorem dX9_takesNumber_96 : decode cX9_takesNumber 96 = .ok (.i2l, 1) := by decide +kernel
theorem dX9_takesNumber_97 : decode cX9_takesNumber 97 = .ok (.invokestatic 73, 3) := by decide +kernel
theorem dX9_takesNumber_100 : decode cX9_takesNumber 100 = .ok (.ifCond .eq 15, 3) := by decide +kernel
theorem dX9_takesNumber_103 : decode cX9_takesNumber 103 = .ok (.aload_n 0, 1) := by decide +kernel
theorem dX9_takesNumber_104 : decode cX9_takesNumber 104 = .ok (.aload_n 0, 1) := by decide +kernel
theorem dX9_takesNumber_105 : decode cX9_takesNumber 105 = .ok (.getfield 99, 3) := by decide +kernel
theorem dX9_takesNumber_108 : decode cX9_takesNumber 108 = .ok (.invokevirtual 105, 3) := by decide +kernel
theorem dX9_takesNumber_111 : decode cX9_takesNumber 111 = .ok (.iload_n 3, 1) := by decide +kernel
theorem dX9_takesNumber_112 : decode cX9_takesNumber 112 = .ok (.if_icmp .eq 5, 3) := by decide +kernel
theorem dX9_takesNumber_115 : decode cX9_takesNumber 115 = .ok (.iconst 0, 1) := by decide +kernel
theorem dX9_takesNumber_116 : decode cX9_takesNumber 116 = .ok (.ireturn, 1) := by decide +kernel
theorem dX9_takesNumber_117 : decode cX9_takesNumber 117 = .ok (.aload_n 0, 1) := by decide +kernel
theorem dX9_takesNumber_118 : decode cX9_takesNumber 118 = .ok (.dup, 1) := by decide +kernel
theorem dX9_takesNumber_119 : decode cX9_takesNumber 119 = .ok (.getfield 99, 3) := by decide +kernel
theorem dX9_takesNumber_122 : decode cX9_takesNumber 122 = .ok (.iconst 1, 1) := by decide +kernel
theorem dX9_takesNumber_123 : decode cX9_takesNumber 123 = .ok (.iadd, 1) := by decide +kernel
theorem dX9_takesNumber_124 : decode cX9_takesNumber 124 = .ok (.putfield 99, 3) := by decide +kernel
theorem dX9_takesNumber_127 : decode cX9_takesNumber 127 = .ok (.iconst 1, 1) := by decide +kernel
theorem dX9_takesNumber_128 : decode cX9_takesNumber 128 = .ok (.ireturn, 1) := by decide +kernel
theorem dX9_takesGuest_0 : decode cX9_takesGuest 0 = .ok (.aload_n 0, 1) := by decide +kernel
theorem dX9_takesGuest_1 : decode cX9_takesGuest 1 = .ok (.getfield 77, 3) := by decide +kernel
theorem dX9_takesGuest_4 : decode cX9_takesGuest 4 = .ok (.bipush 7, 2) := by decide +kernel
theorem dX9_takesGuest_6 : decode cX9_takesGuest 6 = .ok (.if_icmp .ne 5, 3) := by decide +kernel
theorem dX9_takesGuest_9 : decode cX9_takesGuest 9 = .ok (.iconst 0, 1) := by decide +kernel
theorem dX9_takesGuest_10 : decode cX9_takesGuest 10 = .ok (.ireturn, 1) := by decide +kernel
theorem dX9_takesGuest_11 : decode cX9_takesGuest 11 = .ok (.iconst 5, 1) := by decide +kernel
theorem dX9_takesGuest_12 : decode cX9_takesGuest 12 = .ok (.aload_n 0, 1) := by decide +kernel
theorem dX9_takesGuest_13 : decode cX9_takesGuest 13 = .ok (.getfield 77, 3) := by decide +kernel
theorem dX9_takesGuest_16 : decode cX9_takesGuest 16 = .ok (.imul, 1) := by decide +kernel
theorem dX9_takesGuest_17 : decode cX9_takesGuest 17 = .ok (.istore_n 1, 1) := by decide +kernel
theorem dX9_takesGuest_18 : decode cX9_takesGuest 18 = .ok (.iconst 0, 1) := by decide +kernel
theorem dX9_takesGuest_19 : decode cX9_takesGuest 19 = .ok (.istore_n 2, 1) := by decide +kernel
theorem dX9_takesGuest_20 : decode cX9_takesGuest 20 = .ok (.iload_n 2, 1) := by decide +kernel
theorem dX9_takesGuest_21 : decode cX9_takesGuest 21 = .ok (.iconst 5, 1) := by decide +kernel
theorem dX9_takesGuest_22 : decode cX9_takesGuest 22 = .ok (.if_icmp .ge 103, 3) := by decide +kernel
theorem dX9_takesGuest_25 : decode cX9_takesGuest 25 = .ok (.iload_n 2, 1) := by decide +kernel
theorem dX9_takesGuest_26 : decode cX9_takesGuest 26 = .ok (.iconst 2, 1) := by decide +kernel
theorem dX9_takesGuest_27 : decode cX9_takesGuest 27 = .ok (.if_icmp .eq 8, 3) := by decide +kernel
theorem dX9_takesGuest_30 : decode cX9_takesGuest 30 = .ok (.iload_n 2, 1) := by decide +kernel
theorem dX9_takesGuest_31 : decode cX9_takesGuest 31 = .ok (.iconst 4, 1) := by decide +kernel
theorem dX9_takesGuest_32 : decode cX9_takesGuest 32 = .ok (.if_icmp .ne 7, 3) := by decide +kernel
theorem dX9_takesGuest_35 : decode cX9_takesGuest 35 = .ok (.iconst 1, 1) := by decide +kernel
theorem dX9_takesGuest_36 : decode cX9_takesGuest 36 = .ok (.goto 4, 3) := by decide +kernel
theorem dX9_takesGuest_39 : decode cX9_takesGuest 39 = .ok (.iconst 0, 1) := by decide +kernel
theorem dX9_takesGuest_40 : decode cX9_takesGuest 40 = .ok (.istore_n 3, 1) := by decide +kernel
theorem dX9_takesGuest_41 : decode cX9_takesGuest 41 = .ok (.iload_n 2, 1) := by decide +kernel
theorem dX9_takesGuest_42 : decode cX9_takesGuest 42 = .ok (.ifCond .ne 7, 3) := by decide +kernel
theorem dX9_takesGuest_45 : decode cX9_takesGuest 45 = .ok (.iconst 3, 1) := by decide +kernel
theorem dX9_takesGuest_46 : decode cX9_takesGuest 46 = .ok (.goto 35, 3) := by decide +kernel
theorem dX9_takesGuest_49 : decode cX9_takesGuest 49 = .ok (.iload_n 2, 1) := by decide +kernel
theorem dX9_takesGuest_50 : decode cX9_takesGuest 50 = .ok (.iconst 1, 1) := by decide +kernel
theorem dX9_takesGuest_51 : decode cX9_takesGuest 51 = .ok (.if_icmp .ne 8, 3) := by decide +kernel
theorem dX9_takesGuest_54 : decode cX9_takesGuest 54 = .ok (.bipush 40, 2) := by decide +kernel
theorem dX9_takesGuest_56 : decode cX9_takesGuest 56 = .ok (.goto 25, 3) := by decide +kernel
theorem dX9_takesGuest_59 : decode cX9_takesGuest 59 = .ok (.iload_n 2, 1) := by decide +kernel
theorem dX9_takesGuest_60 : decode cX9_takesGuest 60 = .ok (.iconst 2, 1) := by decide +kernel
theorem dX9_takesGuest_61 : decode cX9_takesGuest 61 = .ok (.if_icmp .ne 8, 3) := by decide +kernel
theorem dX9_takesGuest_64 : decode cX9_takesGuest 64 = .ok (.bipush 30, 2) := by decide +kernel
theorem dX9_takesGuest_66 : decode cX9_takesGuest 66 = .ok (.goto 15, 3) := by decide +kernel
theorem dX9_takesGuest_69 : decode cX9_takesGuest 69 = .ok (.iload_n 2, 1) := by decide +kernel
theorem dX9_takesGuest_70 : decode cX9_takesGuest 70 = .ok (.iconst 3, 1) := by decide +kernel
theorem dX9_takesGuest_71 : decode cX9_takesGuest 71 = .ok (.if_icmp .ne 8, 3) := by decide +kernel
theorem dX9_takesGuest_74 : decode cX9_takesGuest 74 = .ok (.bipush 20, 2) := by decide +kernel
theorem dX9_takesGuest_76 : decode cX9_takesGuest 76 = .ok (.goto 5, 3) := by decide +kernel
theorem dX9_takesGuest_79 : decode cX9_takesGuest 79 = .ok (.bipush 9, 2) := by decide +kernel
theorem dX9_takesGuest_81 : decode cX9_takesGuest 81 = .ok (.istore 4, 2) := by decide +kernel
theorem dX9_takesGuest_83 : decode cX9_takesGuest 83 = .ok (.aload_n 0, 1) := by decide +kernel
theorem dX9_takesGuest_84 : decode cX9_takesGuest 84 = .ok (.iload_n 3, 1) := by decide +kernel
theorem dX9_takesGuest_85 : decode cX9_takesGuest 85 = .ok (.iload 4, 2) := by decide +kernel
theorem dX9_takesGuest_87 : decode cX9_takesGuest 87 = .ok (.iload_n 2, 1) := by decide +kernel
theorem dX9_takesGuest_88 : decode cX9_takesGuest 88 = .ok (.iconst 4, 1) := by decide +kernel
theorem dX9_takesGuest_89 : decode cX9_takesGuest 89 = .ok (.if_icmp .ne 8, 3) := by decide +kernel
theorem dX9_takesGuest_92 : decode cX9_takesGuest 92 = .ok (.bipush 59, 2) := by decide +kernel
theorem dX9_takesGuest_94 : decode cX9_takesGuest 94 = .ok (.goto 5, 3) := by decide +kernel
theorem dX9_takesGuest_97 : decode cX9_takesGuest 97 = .ok (.bipush 44, 2) := by decide +kernel
theorem dX9_takesGuest_99 : decode cX9_takesGuest 99 = .ok (.invokevirtual 113, 3) := by decide +kernel
theorem dX9_takesGuest_102 : decode cX9_takesGuest 102 = .ok (.ifCond .ne 5, 3) := by decide +kernel
theorem dX9_takesGuest_105 : decode cX9_takesGuest 105 = .ok (.iconst 0, 1) := by decide +kernel
theorem dX9_takesGuest_106 : decode cX9_takesGuest 106 = .ok (.ireturn, 1) := by decide +kernel
theorem dX9_takesGuest_107 : decode cX9_takesGuest 107 = .ok (.aload_n 0, 1) := by decide +kernel
theorem dX9_takesGuest_108 : decode cX9_takesGuest 108 = .ok (.getfield 34, 3) := by decide +kernel
theorem dX9_takesGuest_111 : decode cX9_takesGuest 111 = .ok (.iload_n 1, 1) := by decide +kernel
theorem dX9_takesGuest_112 : decode cX9_takesGuest 112 = .ok (.iload_n 2, 1) := by decide +kernel
theorem dX9_takesGuest_113 : decode cX9_takesGuest 113 = .ok (.iadd, 1) := by decide +kernel
theorem dX9_takesGuest_114 : decode cX9_takesGuest 114 = .ok (.aload_n 0, 1) := by decide +kernel
theorem dX9_takesGuest_115 : decode cX9_takesGuest 115 = .ok (.getfield 102, 3) := by decide +kernel
theorem dX9_takesGuest_118 : decode cX9_takesGuest 118 = .ok (.iastore, 1) := by decide +kernel
theorem dX9_takesGuest_119 : decode cX9_takesGuest 119 = .ok (.iinc 2 1, 3) := by decide +kernel
theorem dX9_takesGuest_122 : decode cX9_takesGuest 122 = .ok (.goto (-102), 3) := by decide +kernel
theorem dX9_takesGuest_125 : decode cX9_takesGuest 125 = .ok (.aload_n 0, 1) := by decide +kernel
theorem dX9_takesGuest_126 : decode cX9_takesGuest 126 = .ok (.dup, 1) := by decide +kernel
theorem dX9_takesGuest_127 : decode cX9_takesGuest 127 = .ok (.getfield 77, 3) := by decide +kernel
theorem dX9_takesGuest_130 : decode cX9_takesGuest 130 = .ok (.iconst 1, 1) := by decide +kernel
theorem dX9_takesGuest_131 : decode cX9_takesGuest 131 = .ok (.iadd, 1) := by decide +kernel
theorem dX9_takesGuest_132 : decode cX9_takesGuest 132 = .ok (.putfield 77, 3) := by decide +kernel
theorem dX9_takesGuest_135 : decode cX9_takesGuest 135 = .ok (.iconst 1, 1) := by decide +kernel
theorem dX9_takesGuest_136 : decode cX9_takesGuest 136 = .ok (.ireturn, 1) := by decide +kernel
theorem dX9_takesRoom_0 : decode cX9_takesRoom 0 = .ok (.aload_n 0, 1) := by decide +kernel
theorem dX9_takesRoom_1 : decode cX9_takesRoom 1 = .ok (.getfield 80, 3) := by decide +kernel
theorem dX9_takesRoom_4 : decode cX9_takesRoom 4 = .ok (.bipush 7, 2) := by decide +kernel
theorem dX9_takesRoom_6 : decode cX9_takesRoom 6 = .ok (.if_icmp .eq 15, 3) := by decide +kernel
theorem dX9_takesRoom_9 : decode cX9_takesRoom 9 = .ok (.aload_n 0, 1) := by decide +kernel
theorem dX9_takesRoom_10 : decode cX9_takesRoom 10 = .ok (.iconst 0, 1) := by decide +kernel
theorem dX9_takesRoom_11 : decode cX9_takesRoom 11 = .ok (.bipush 9, 2) := by decide +kernel
theorem dX9_takesRoom_13 : decode cX9_takesRoom 13 = .ok (.bipush 59, 2) := by decide +kernel
theorem dX9_takesRoom_15 : decode cX9_takesRoom 15 = .ok (.invokevirtual 113, 3) := by decide +kernel
theorem dX9_takesRoom_18 : decode cX9_takesRoom 18 = .ok (.ifCond .ne 5, 3) := by decide +kernel
theorem dX9_takesRoom_21 : decode cX9_takesRoom 21 = .ok (.iconst 0, 1) := by decide +kernel
theorem dX9_takesRoom_22 : decode cX9_takesRoom 22 = .ok (.ireturn, 1) := by decide +kernel
theorem dX9_takesRoom_23 : decode cX9_takesRoom 23 = .ok (.aload_n 0, 1) := by decide +kernel
theorem dX9_takesRoom_24 : decode cX9_takesRoom 24 = .ok (.aload_n 0, 1) := by decide +kernel
theorem dX9_takesRoom_25 : decode cX9_takesRoom 25 = .ok (.getfield 102, 3) := by decide +kernel
theorem dX9_takesRoom_28 : decode cX9_takesRoom 28 = .ok (.invokevirtual 62, 3) := by decide +kernel
theorem dX9_takesRoom_31 : decode cX9_takesRoom 31 = .ok (.iconst 1, 1) := by decide +kernel
theorem dX9_takesRoom_32 : decode cX9_takesRoom 32 = .ok (.ireturn, 1) := by decide +kernel
theorem dX9_takesItem_0 : decode cX9_takesItem 0 = .ok (.aload_n 0, 1) := by decide +kernel
theorem dX9_takesItem_1 : decode cX9_takesItem 1 = .ok (.aload_n 0, 1) := by decide +kernel
theorem dX9_takesItem_2 : decode cX9_takesItem 2 = .ok (.getfield 99, 3) := by decide +kernel
theorem dX9_takesItem_5 : decode cX9_takesItem 5 = .ok (.invokevirtual 105, 3) := by decide +kernel
theorem dX9_takesItem_8 : decode cX9_takesItem 8 = .ok (.istore_n 1, 1) := by decide +kernel
theorem dX9_takesItem_9 : decode cX9_takesItem 9 = .ok (.aload_n 0, 1) := by decide +kernel
theorem dX9_takesItem_10 : decode cX9_takesItem 10 = .ok (.dup, 1) := by decide +kernel
theorem dX9_takesItem_11 : decode cX9_takesItem 11 = .ok (.getfield 99, 3) := by decide +kernel
theorem dX9_takesItem_14 : decode cX9_takesItem 14 = .ok (.iconst 1, 1) := by decide +kernel
theorem dX9_takesItem_15 : decode cX9_takesItem 15 = .ok (.iadd, 1) := by decide +kernel
theorem dX9_takesItem_16 : decode cX9_takesItem 16 = .ok (.putfield 99, 3) := by decide +kernel
theorem dX9_takesItem_19 : decode cX9_takesItem 19 = .ok (.iload_n 1, 1) := by decide +kernel
theorem dX9_takesItem_20 : decode cX9_takesItem 20 = .ok (.bipush 103, 2) := by decide +kernel
theorem dX9_takesItem_22 : decode cX9_takesItem 22 = .ok (.if_icmp .ne 10, 3) := by decide +kernel
theorem dX9_takesItem_25 : decode cX9_takesItem 25 = .ok (.aload_n 0, 1) := by decide +kernel
theorem dX9_takesItem_26 : decode cX9_takesItem 26 = .ok (.invokevirtual 117, 3) := by decide +kernel
theorem dX9_takesItem_29 : decode cX9_takesItem 29 = .ok (.goto 21, 3) := by decide +kernel
theorem dX9_takesItem_32 : decode cX9_takesItem 32 = .ok (.iload_n 1, 1) := by decide +kernel
theorem dX9_takesItem_33 : decode cX9_takesItem 33 = .ok (.bipush 114, 2) := by decide +kernel
theorem dX9_takesItem_35 : decode cX9_takesItem 35 = .ok (.if_icmp .ne 14, 3) := by decide +kernel
theorem dX9_takesItem_38 : decode cX9_takesItem 38 = .ok (.aload_n 0, 1) := by decide +kernel
theorem dX9_takesItem_39 : decode cX9_takesItem 39 = .ok (.invokevirtual 121, 3) := by decide +kernel
theorem dX9_takesItem_42 : decode cX9_takesItem 42 = .ok (.ifCond .eq 7, 3) := by decide +kernel
theorem dX9_takesItem_45 : decode cX9_takesItem 45 = .ok (.iconst 1, 1) := by decide +kernel
theorem dX9_takesItem_46 : decode cX9_takesItem 46 = .ok (.goto 4, 3) := by decide +kernel
theorem dX9_takesItem_49 : decode cX9_takesItem 49 = .ok (.iconst 0, 1) := by decide +kernel
theorem dX9_takesItem_50 : decode cX9_takesItem 50 = .ok (.ireturn, 1) := by decide +kernel
theorem dX9_faultOf_0 : decode cX9_faultOf 0 = .ok (.aload_n 0, 1) := by decide +kernel
theorem dX9_faultOf_1 : decode cX9_faultOf 1 = .ok (.invokevirtual 55, 3) := by decide +kernel
theorem dX9_faultOf_4 : decode cX9_faultOf 4 = .ok (.aload_n 0, 1) := by decide +kernel
theorem dX9_faultOf_5 : decode cX9_faultOf 5 = .ok (.iconst 0, 1) := by decide +kernel
theorem dX9_faultOf_6 : decode cX9_faultOf 6 = .ok (.putfield 99, 3) := by decide +kernel
theorem dX9_faultOf_9 : decode cX9_faultOf 9 = .ok (.aload_n 0, 1) := by decide +kernel
theorem dX9_faultOf_10 : decode cX9_faultOf 10 = .ok (.getfield 99, 3) := by decide +kernel
theorem dX9_faultOf_13 : decode cX9_faultOf 13 = .ok (.aload_n 0, 1) := by decide +kernel
theorem dX9_faultOf_14 : decode cX9_faultOf 14 = .ok (.getfield 96, 3) := by decide +kernel
theorem dX9_faultOf_17 : decode cX9_faultOf 17 = .ok (.if_icmp .ge 20, 3) := by decide +kernel
theorem dX9_faultOf_20 : decode cX9_faultOf 20 = .ok (.aload_n 0, 1) := by decide +kernel
theorem dX9_faultOf_21 : decode cX9_faultOf 21 = .ok (.getfield 99, 3) := by decide +kernel
theorem dX9_faultOf_24 : decode cX9_faultOf 24 = .ok (.istore_n 1, 1) := by decide +kernel
theorem dX9_faultOf_25 : decode cX9_faultOf 25 = .ok (.aload_n 0, 1) := by decide +kernel
theorem dX9_faultOf_26 : decode cX9_faultOf 26 = .ok (.invokevirtual 124, 3) := by decide +kernel
theorem dX9_faultOf_29 : decode cX9_faultOf 29 = .ok (.ifCond .ne 5, 3) := by decide +kernel
theorem dX9_faultOf_32 : decode cX9_faultOf 32 = .ok (.iload_n 1, 1) := by decide +kernel
theorem dX9_faultOf_33 : decode cX9_faultOf 33 = .ok (.ireturn, 1) := by decide +kernel
theorem dX9_faultOf_34 : decode cX9_faultOf 34 = .ok (.goto (-25), 3) := by decide +kernel
theorem dX9_faultOf_37 : decode cX9_faultOf 37 = .ok (.bipush (-4), 2) := by decide +kernel
theorem dX9_faultOf_39 : decode cX9_faultOf 39 = .ok (.ireturn, 1) := by decide +kernel
theorem dX9_fault_0 : decode cX9_fault 0 = .ok (.aload_n 0, 1) := by decide +kernel
theorem dX9_fault_1 : decode cX9_fault 1 = .ok (.invokevirtual 127, 3) := by decide +kernel
theorem dX9_fault_4 : decode cX9_fault 4 = .ok (.ireturn, 1) := by decide +kernel
theorem dX9_lay_0 : decode cX9_lay 0 = .ok (.aload_n 0, 1) := by decide +kernel
theorem dX9_lay_1 : decode cX9_lay 1 = .ok (.invokevirtual 127, 3) := by decide +kernel
theorem dX9_lay_4 : decode cX9_lay 4 = .ok (.bipush (-4), 2) := by decide +kernel
theorem dX9_lay_6 : decode cX9_lay 6 = .ok (.if_icmp .ne 10, 3) := by decide +kernel
theorem dX9_lay_9 : decode cX9_lay 9 = .ok (.aload_n 0, 1) := by decide +kernel
theorem dX9_lay_10 : decode cX9_lay 10 = .ok (.getfield 77, 3) := by decide +kernel
theorem dX9_lay_13 : decode cX9_lay 13 = .ok (.ifCond .ne 6, 3) := by decide +kernel
theorem dX9_lay_16 : decode cX9_lay 16 = .ok (.bipush (-2), 2) := by decide +kernel
theorem dX9_lay_18 : decode cX9_lay 18 = .ok (.ireturn, 1) := by decide +kernel
theorem dX9_lay_19 : decode cX9_lay 19 = .ok (.aload_n 0, 1) := by decide +kernel
theorem dX9_lay_20 : decode cX9_lay 20 = .ok (.invokevirtual 66, 3) := by decide +kernel
theorem dX9_lay_23 : decode cX9_lay 23 = .ok (.aload_n 0, 1) := by decide +kernel
theorem dX9_lay_24 : decode cX9_lay 24 = .ok (.getfield 69, 3) := by decide +kernel
theorem dX9_lay_27 : decode cX9_lay 27 = .ok (.ireturn, 1) := by decide +kernel
theorem dX9_guest_0 : decode cX9_guest 0 = .ok (.aload_n 0, 1) := by decide +kernel
theorem dX9_guest_1 : decode cX9_guest 1 = .ok (.iload_n 1, 1) := by decide +kernel
theorem dX9_guest_2 : decode cX9_guest 2 = .ok (.invokevirtual 131, 3) := by decide +kernel
theorem dX9_guest_5 : decode cX9_guest 5 = .ok (.ifCond .ne 5, 3) := by decide +kernel
theorem dX9_guest_8 : decode cX9_guest 8 = .ok (.iconst (-1), 1) := by decide +kernel
theorem dX9_guest_9 : decode cX9_guest 9 = .ok (.ireturn, 1) := by decide +kernel
theorem dX9_guest_10 : decode cX9_guest 10 = .ok (.iload_n 2, 1) := by decide +kernel
theorem dX9_guest_11 : decode cX9_guest 11 = .ok (.ifCond .ne 12, 3) := by decide +kernel
theorem dX9_guest_14 : decode cX9_guest 14 = .ok (.aload_n 0, 1) := by decide +kernel
theorem dX9_guest_15 : decode cX9_guest 15 = .ok (.getfield 13, 3) := by decide +kernel
theorem dX9_guest_18 : decode cX9_guest 18 = .ok (.iload_n 1, 1) := by decide +kernel
theorem dX9_guest_19 : decode cX9_guest 19 = .ok (.iaload, 1) := by decide +kernel
theorem dX9_guest_20 : decode cX9_guest 20 = .ok (.goto 46, 3) := by decide +kernel
theorem dX9_guest_23 : decode cX9_guest 23 = .ok (.iload_n 2, 1) := by decide +kernel
theorem dX9_guest_24 : decode cX9_guest 24 = .ok (.iconst 1, 1) := by decide +kernel
theorem dX9_guest_25 : decode cX9_guest 25 = .ok (.if_icmp .ne 12, 3) := by decide +kernel
theorem dX9_guest_28 : decode cX9_guest 28 = .ok (.aload_n 0, 1) := by decide +kernel
theorem dX9_guest_29 : decode cX9_guest 29 = .ok (.getfield 16, 3) := by decide +kernel
theorem dX9_guest_32 : decode cX9_guest 32 = .ok (.iload_n 1, 1) := by decide +kernel
theorem dX9_guest_33 : decode cX9_guest 33 = .ok (.iaload, 1) := by decide +kernel
theorem dX9_guest_34 : decode cX9_guest 34 = .ok (.goto 32, 3) := by decide +kernel
theorem dX9_guest_37 : decode cX9_guest 37 = .ok (.iload_n 2, 1) := by decide +kernel
theorem dX9_guest_38 : decode cX9_guest 38 = .ok (.iconst 2, 1) := by decide +kernel
theorem dX9_guest_39 : decode cX9_guest 39 = .ok (.if_icmp .ne 12, 3) := by decide +kernel
theorem dX9_guest_42 : decode cX9_guest 42 = .ok (.aload_n 0, 1) := by decide +kernel
theorem dX9_guest_43 : decode cX9_guest 43 = .ok (.getfield 19, 3) := by decide +kernel
theorem dX9_guest_46 : decode cX9_guest 46 = .ok (.iload_n 1, 1) := by decide +kernel
theorem dX9_guest_47 : decode cX9_guest 47 = .ok (.iaload, 1) := by decide +kernel
theorem dX9_guest_48 : decode cX9_guest 48 = .ok (.goto 18, 3) := by decide +kernel
theorem dX9_guest_51 : decode cX9_guest 51 = .ok (.iload_n 2, 1) := by decide +kernel
theorem dX9_guest_52 : decode cX9_guest 52 = .ok (.iconst 3, 1) := by decide +kernel
theorem dX9_guest_53 : decode cX9_guest 53 = .ok (.if_icmp .ne 12, 3) := by decide +kernel
theorem dX9_guest_56 : decode cX9_guest 56 = .ok (.aload_n 0, 1) := by decide +kernel
theorem dX9_guest_57 : decode cX9_guest 57 = .ok (.getfield 22, 3) := by decide +kernel
theorem dX9_guest_60 : decode cX9_guest 60 = .ok (.iload_n 1, 1) := by decide +kernel
theorem dX9_guest_61 : decode cX9_guest 61 = .ok (.iaload, 1) := by decide +kernel
theorem dX9_guest_62 : decode cX9_guest 62 = .ok (.goto 4, 3) := by decide +kernel
theorem dX9_guest_65 : decode cX9_guest 65 = .ok (.iconst (-1), 1) := by decide +kernel
theorem dX9_guest_66 : decode cX9_guest 66 = .ok (.ireturn, 1) := by decide +kernel
theorem dX9_state_0 : decode cX9_state 0 = .ok (.aload_n 0, 1) := by decide +kernel
theorem dX9_state_1 : decode cX9_state 1 = .ok (.iload_n 1, 1) := by decide +kernel
theorem dX9_state_2 : decode cX9_state 2 = .ok (.invokevirtual 131, 3) := by decide +kernel
theorem dX9_state_5 : decode cX9_state 5 = .ok (.ifCond .eq 31, 3) := by decide +kernel
theorem dX9_state_8 : decode cX9_state 8 = .ok (.iload_n 2, 1) := by decide +kernel
theorem dX9_state_9 : decode cX9_state 9 = .ok (.i2l, 1) := by decide +kernel
theorem dX9_state_10 : decode cX9_state 10 = .ok (.lconst 0, 1) := by decide +kernel
theorem dX9_state_11 : decode cX9_state 11 = .ok (.ldc2_w 135, 3) := by decide +kernel
theorem dX9_state_14 : decode cX9_state 14 = .ok (.invokestatic 73, 3) := by decide +kernel
theorem dX9_state_17 : decode cX9_state 17 = .ok (.ifCond .eq 19, 3) := by decide +kernel
theorem dX9_state_20 : decode cX9_state 20 = .ok (.aload_n 0, 1) := by decide +kernel
theorem dX9_state_21 : decode cX9_state 21 = .ok (.getfield 7, 3) := by decide +kernel
theorem dX9_state_24 : decode cX9_state 24 = .ok (.iconst 2, 1) := by decide +kernel
theorem dX9_state_25 : decode cX9_state 25 = .ok (.bipush 7, 2) := by decide +kernel
theorem dX9_state_27 : decode cX9_state 27 = .ok (.iload_n 2, 1) := by decide +kernel
theorem dX9_state_28 : decode cX9_state 28 = .ok (.imul, 1) := by decide +kernel
theorem dX9_state_29 : decode cX9_state 29 = .ok (.iadd, 1) := by decide +kernel
theorem dX9_state_30 : decode cX9_state 30 = .ok (.iload_n 1, 1) := by decide +kernel
theorem dX9_state_31 : decode cX9_state 31 = .ok (.iadd, 1) := by decide +kernel
theorem dX9_state_32 : decode cX9_state 32 = .ok (.iaload, 1) := by decide +kernel
theorem dX9_state_33 : decode cX9_state 33 = .ok (.goto 4, 3) := by decide +kernel
theorem dX9_state_36 : decode cX9_state 36 = .ok (.iconst (-1), 1) := by decide +kernel
theorem dX9_state_37 : decode cX9_state 37 = .ok (.ireturn, 1) := by decide +kernel
theorem dX9_bringsIn_0 : decode cX9_bringsIn 0 = .ok (.aload_n 0, 1) := by decide +kernel
theorem dX9_bringsIn_1 : decode cX9_bringsIn 1 = .ok (.getfield 13, 3) := by decide +kernel
theorem dX9_bringsIn_4 : decode cX9_bringsIn 4 = .ok (.iload_n 2, 1) := by decide +kernel
theorem dX9_bringsIn_5 : decode cX9_bringsIn 5 = .ok (.iaload, 1) := by decide +kernel
theorem dX9_bringsIn_6 : decode cX9_bringsIn 6 = .ok (.iconst 1, 1) := by decide +kernel
theorem dX9_bringsIn_7 : decode cX9_bringsIn 7 = .ok (.if_icmp .ne 14, 3) := by decide +kernel
theorem dX9_bringsIn_10 : decode cX9_bringsIn 10 = .ok (.iconst 2, 1) := by decide +kernel
theorem dX9_bringsIn_11 : decode cX9_bringsIn 11 = .ok (.aload_n 0, 1) := by decide +kernel
theorem dX9_bringsIn_12 : decode cX9_bringsIn 12 = .ok (.getfield 16, 3) := by decide +kernel
theorem dX9_bringsIn_15 : decode cX9_bringsIn 15 = .ok (.iload_n 2, 1) := by decide +kernel
theorem dX9_bringsIn_16 : decode cX9_bringsIn 16 = .ok (.iaload, 1) := by decide +kernel
theorem dX9_bringsIn_17 : decode cX9_bringsIn 17 = .ok (.imul, 1) := by decide +kernel
theorem dX9_bringsIn_18 : decode cX9_bringsIn 18 = .ok (.goto 30, 3) := by decide +kernel
theorem dX9_bringsIn_21 : decode cX9_bringsIn 21 = .ok (.aload_n 0, 1) := by decide +kernel
theorem dX9_bringsIn_22 : decode cX9_bringsIn 22 = .ok (.getfield 13, 3) := by decide +kernel
theorem dX9_bringsIn_25 : decode cX9_bringsIn 25 = .ok (.iload_n 2, 1) := by decide +kernel
theorem dX9_bringsIn_26 : decode cX9_bringsIn 26 = .ok (.iaload, 1) := by decide +kernel
theorem dX9_bringsIn_27 : decode cX9_bringsIn 27 = .ok (.iconst 3, 1) := by decide +kernel
theorem dX9_bringsIn_28 : decode cX9_bringsIn 28 = .ok (.if_icmp .ne 14, 3) := by decide +kernel
theorem dX9_bringsIn_31 : decode cX9_bringsIn 31 = .ok (.aload_n 0, 1) := by decide +kernel
theorem dX9_bringsIn_32 : decode cX9_bringsIn 32 = .ok (.getfield 16, 3) := by decide +kernel
theorem dX9_bringsIn_35 : decode cX9_bringsIn 35 = .ok (.iload_n 2, 1) := by decide +kernel
theorem dX9_bringsIn_36 : decode cX9_bringsIn 36 = .ok (.iaload, 1) := by decide +kernel
theorem dX9_bringsIn_37 : decode cX9_bringsIn 37 = .ok (.iconst 2, 1) := by decide +kernel
theorem dX9_bringsIn_38 : decode cX9_bringsIn 38 = .ok (.idiv, 1) := by decide +kernel
theorem dX9_bringsIn_39 : decode cX9_bringsIn 39 = .ok (.goto 9, 3) := by decide +kernel
theorem dX9_bringsIn_42 : decode cX9_bringsIn 42 = .ok (.aload_n 0, 1) := by decide +kernel
theorem dX9_bringsIn_43 : decode cX9_bringsIn 43 = .ok (.getfield 16, 3) := by decide +kernel
theorem dX9_bringsIn_46 : decode cX9_bringsIn 46 = .ok (.iload_n 2, 1) := by decide +kernel
theorem dX9_bringsIn_47 : decode cX9_bringsIn 47 = .ok (.iaload, 1) := by decide +kernel
theorem dX9_bringsIn_48 : decode cX9_bringsIn 48 = .ok (.istore_n 3, 1) := by decide +kernel
theorem dX9_bringsIn_49 : decode cX9_bringsIn 49 = .ok (.iload_n 3, 1) := by decide +kernel
theorem dX9_bringsIn_50 : decode cX9_bringsIn 50 = .ok (.aload_n 0, 1) := by decide +kernel
theorem dX9_bringsIn_51 : decode cX9_bringsIn 51 = .ok (.getfield 7, 3) := by decide +kernel
theorem dX9_bringsIn_54 : decode cX9_bringsIn 54 = .ok (.iload_n 1, 1) := by decide +kernel
theorem dX9_bringsIn_55 : decode cX9_bringsIn 55 = .ok (.bipush 16, 2) := by decide +kernel
theorem dX9_bringsIn_57 : decode cX9_bringsIn 57 = .ok (.iadd, 1) := by decide +kernel
theorem dX9_bringsIn_58 : decode cX9_bringsIn 58 = .ok (.iload_n 2, 1) := by decide +kernel
theorem dX9_bringsIn_59 : decode cX9_bringsIn 59 = .ok (.iadd, 1) := by decide +kernel
theorem dX9_bringsIn_60 : decode cX9_bringsIn 60 = .ok (.iaload, 1) := by decide +kernel
theorem dX9_bringsIn_61 : decode cX9_bringsIn 61 = .ok (.iadd, 1) := by decide +kernel
theorem dX9_bringsIn_62 : decode cX9_bringsIn 62 = .ok (.ireturn, 1) := by decide +kernel
theorem dX9_comes_0 : decode cX9_comes 0 = .ok (.aload_n 0, 1) := by decide +kernel
theorem dX9_comes_1 : decode cX9_comes 1 = .ok (.getfield 7, 3) := by decide +kernel
theorem dX9_comes_4 : decode cX9_comes 4 = .ok (.iload_n 1, 1) := by decide +kernel
theorem dX9_comes_5 : decode cX9_comes 5 = .ok (.iconst 1, 1) := by decide +kernel
theorem dX9_comes_6 : decode cX9_comes 6 = .ok (.iadd, 1) := by decide +kernel
theorem dX9_comes_7 : decode cX9_comes 7 = .ok (.iaload, 1) := by decide +kernel
theorem dX9_comes_8 : decode cX9_comes 8 = .ok (.istore_n 3, 1) := by decide +kernel
theorem dX9_comes_9 : decode cX9_comes 9 = .ok (.iload_n 3, 1) := by decide +kernel
theorem dX9_comes_10 : decode cX9_comes 10 = .ok (.bipush (-4), 2) := by decide +kernel
theorem dX9_comes_12 : decode cX9_comes 12 = .ok (.if_icmp .eq 52, 3) := by decide +kernel
theorem dX9_comes_15 : decode cX9_comes 15 = .ok (.aload_n 0, 1) := by decide +kernel
theorem dX9_comes_16 : decode cX9_comes 16 = .ok (.getfield 7, 3) := by decide +kernel
theorem dX9_comes_19 : decode cX9_comes 19 = .ok (.iload_n 1, 1) := by decide +kernel
theorem dX9_comes_20 : decode cX9_comes 20 = .ok (.bipush 23, 2) := by decide +kernel
theorem dX9_comes_22 : decode cX9_comes 22 = .ok (.iadd, 1) := by decide +kernel
theorem dX9_comes_23 : decode cX9_comes 23 = .ok (.iload_n 3, 1) := by decide +kernel
theorem dX9_comes_24 : decode cX9_comes 24 = .ok (.iadd, 1) := by decide +kernel
theorem dX9_comes_25 : decode cX9_comes 25 = .ok (.dup2, 1) := by decide +kernel
theorem dX9_comes_26 : decode cX9_comes 26 = .ok (.iaload, 1) := by decide +kernel
theorem dX9_comes_27 : decode cX9_comes 27 = .ok (.aload_n 0, 1) := by decide +kernel
theorem dX9_comes_28 : decode cX9_comes 28 = .ok (.iload_n 1, 1) := by decide +kernel
theorem dX9_comes_29 : decode cX9_comes 29 = .ok (.iload_n 2, 1) := by decide +kernel
theorem dX9_comes_30 : decode cX9_comes 30 = .ok (.invokevirtual 137, 3) := by decide +kernel
theorem dX9_comes_33 : decode cX9_comes 33 = .ok (.iadd, 1) := by decide +kernel
theorem dX9_comes_34 : decode cX9_comes 34 = .ok (.iastore, 1) := by decide +kernel
theorem dX9_comes_35 : decode cX9_comes 35 = .ok (.aload_n 0, 1) := by decide +kernel
theorem dX9_comes_36 : decode cX9_comes 36 = .ok (.getfield 7, 3) := by decide +kernel
theorem dX9_comes_39 : decode cX9_comes 39 = .ok (.iload_n 1, 1) := by decide +kernel
theorem dX9_comes_40 : decode cX9_comes 40 = .ok (.bipush 37, 2) := by decide +kernel
theorem dX9_comes_42 : decode cX9_comes 42 = .ok (.iadd, 1) := by decide +kernel
theorem dX9_comes_43 : decode cX9_comes 43 = .ok (.iload_n 3, 1) := by decide +kernel
theorem dX9_comes_44 : decode cX9_comes 44 = .ok (.iadd, 1) := by decide +kernel
theorem dX9_comes_45 : decode cX9_comes 45 = .ok (.dup2, 1) := by decide +kernel
theorem dX9_comes_46 : decode cX9_comes 46 = .ok (.iaload, 1) := by decide +kernel
theorem dX9_comes_47 : decode cX9_comes 47 = .ok (.iconst 1, 1) := by decide +kernel
theorem dX9_comes_48 : decode cX9_comes 48 = .ok (.iload_n 2, 1) := by decide +kernel
theorem dX9_comes_49 : decode cX9_comes 49 = .ok (.ishl, 1) := by decide +kernel
theorem dX9_comes_50 : decode cX9_comes 50 = .ok (.ior, 1) := by decide +kernel
theorem dX9_comes_51 : decode cX9_comes 51 = .ok (.iastore, 1) := by decide +kernel
theorem dX9_comes_52 : decode cX9_comes 52 = .ok (.aload_n 0, 1) := by decide +kernel
theorem dX9_comes_53 : decode cX9_comes 53 = .ok (.getfield 7, 3) := by decide +kernel
theorem dX9_comes_56 : decode cX9_comes 56 = .ok (.iload_n 1, 1) := by decide +kernel
theorem dX9_comes_57 : decode cX9_comes 57 = .ok (.bipush 30, 2) := by decide +kernel
theorem dX9_comes_59 : decode cX9_comes 59 = .ok (.iadd, 1) := by decide +kernel
theorem dX9_comes_60 : decode cX9_comes 60 = .ok (.iload_n 2, 1) := by decide +kernel
theorem dX9_comes_61 : decode cX9_comes 61 = .ok (.iadd, 1) := by decide +kernel
theorem dX9_comes_62 : decode cX9_comes 62 = .ok (.iload_n 3, 1) := by decide +kernel
theorem dX9_comes_63 : decode cX9_comes 63 = .ok (.iastore, 1) := by decide +kernel
theorem dX9_comes_64 : decode cX9_comes 64 = .ok (.aload_n 0, 1) := by decide +kernel
theorem dX9_comes_65 : decode cX9_comes 65 = .ok (.getfield 13, 3) := by decide +kernel
theorem dX9_comes_68 : decode cX9_comes 68 = .ok (.iload_n 2, 1) := by decide +kernel
theorem dX9_comes_69 : decode cX9_comes 69 = .ok (.iaload, 1) := by decide +kernel
theorem dX9_comes_70 : decode cX9_comes 70 = .ok (.iconst 2, 1) := by decide +kernel
theorem dX9_comes_71 : decode cX9_comes 71 = .ok (.if_icmp .ne 17, 3) := by decide +kernel
theorem dX9_comes_74 : decode cX9_comes 74 = .ok (.aload_n 0, 1) := by decide +kernel
theorem dX9_comes_75 : decode cX9_comes 75 = .ok (.getfield 7, 3) := by decide +kernel
theorem dX9_comes_78 : decode cX9_comes 78 = .ok (.iload_n 1, 1) := by decide +kernel
theorem dX9_comes_79 : decode cX9_comes 79 = .ok (.iconst 2, 1) := by decide +kernel
theorem dX9_comes_80 : decode cX9_comes 80 = .ok (.iadd, 1) := by decide +kernel
theorem dX9_comes_81 : decode cX9_comes 81 = .ok (.iload_n 2, 1) := by decide +kernel
theorem dX9_comes_82 : decode cX9_comes 82 = .ok (.iadd, 1) := by decide +kernel
theorem dX9_comes_83 : decode cX9_comes 83 = .ok (.iconst 2, 1) := by decide +kernel
theorem dX9_comes_84 : decode cX9_comes 84 = .ok (.iastore, 1) := by decide +kernel
theorem dX9_comes_85 : decode cX9_comes 85 = .ok (.goto 23, 3) := by decide +kernel
theorem dX9_comes_88 : decode cX9_comes 88 = .ok (.aload_n 0, 1) := by decide +kernel
theorem dX9_comes_89 : decode cX9_comes 89 = .ok (.getfield 7, 3) := by decide +kernel
theorem dX9_comes_92 : decode cX9_comes 92 = .ok (.iload_n 1, 1) := by decide +kernel
theorem dX9_comes_93 : decode cX9_comes 93 = .ok (.iconst 2, 1) := by decide +kernel
theorem dX9_comes_94 : decode cX9_comes 94 = .ok (.iadd, 1) := by decide +kernel
theorem dX9_comes_95 : decode cX9_comes 95 = .ok (.iload_n 2, 1) := by decide +kernel
theorem dX9_comes_96 : decode cX9_comes 96 = .ok (.iadd, 1) := by decide +kernel
theorem dX9_comes_97 : decode cX9_comes 97 = .ok (.iconst 1, 1) := by decide +kernel
theorem dX9_comes_98 : decode cX9_comes 98 = .ok (.iastore, 1) := by decide +kernel
theorem dX9_comes_99 : decode cX9_comes 99 = .ok (.aload_n 0, 1) := by decide +kernel
theorem dX9_comes_100 : decode cX9_comes 100 = .ok (.getfield 7, 3) := by decide +kernel
theorem dX9_comes_103 : decode cX9_comes 103 = .ok (.iload_n 1, 1) := by decide +kernel
theorem dX9_comes_104 : decode cX9_comes 104 = .ok (.iconst 1, 1) := by decide +kernel
theorem dX9_comes_105 : decode cX9_comes 105 = .ok (.iadd, 1) := by decide +kernel
theorem dX9_comes_106 : decode cX9_comes 106 = .ok (.iload_n 2, 1) := by decide +kernel
theorem dX9_comes_107 : decode cX9_comes 107 = .ok (.iastore, 1) := by decide +kernel
theorem dX9_comes_108 : decode cX9_comes 108 = .ok (.return_, 1) := by decide +kernel
theorem dX9_goesFree_0 : decode cX9_goesFree 0 = .ok (.aload_n 0, 1) := by decide +kernel
theorem dX9_goesFree_1 : decode cX9_goesFree 1 = .ok (.getfield 7, 3) := by decide +kernel
theorem dX9_goesFree_4 : decode cX9_goesFree 4 = .ok (.iload_n 1, 1) := by decide +kernel
theorem dX9_goesFree_5 : decode cX9_goesFree 5 = .ok (.iconst 2, 1) := by decide +kernel
theorem dX9_goesFree_6 : decode cX9_goesFree 6 = .ok (.iadd, 1) := by decide +kernel
theorem dX9_goesFree_7 : decode cX9_goesFree 7 = .ok (.iload_n 2, 1) := by decide +kernel
theorem dX9_goesFree_8 : decode cX9_goesFree 8 = .ok (.iadd, 1) := by decide +kernel
theorem dX9_goesFree_9 : decode cX9_goesFree 9 = .ok (.iconst 2, 1) := by decide +kernel
theorem dX9_goesFree_10 : decode cX9_goesFree 10 = .ok (.iastore, 1) := by decide +kernel
theorem dX9_goesFree_11 : decode cX9_goesFree 11 = .ok (.iconst 0, 1) := by decide +kernel
theorem dX9_goesFree_12 : decode cX9_goesFree 12 = .ok (.istore_n 3, 1) := by decide +kernel
theorem dX9_goesFree_13 : decode cX9_goesFree 13 = .ok (.iload_n 3, 1) := by decide +kernel
theorem dX9_goesFree_14 : decode cX9_goesFree 14 = .ok (.aload_n 0, 1) := by decide +kernel
theorem dX9_goesFree_15 : decode cX9_goesFree 15 = .ok (.getfield 69, 3) := by decide +kernel
theorem dX9_goesFree_18 : decode cX9_goesFree 18 = .ok (.if_icmp .ge 51, 3) := by decide +kernel
theorem dX9_goesFree_21 : decode cX9_goesFree 21 = .ok (.aload_n 0, 1) := by decide +kernel
theorem dX9_goesFree_22 : decode cX9_goesFree 22 = .ok (.getfield 7, 3) := by decide +kernel
theorem dX9_goesFree_25 : decode cX9_goesFree 25 = .ok (.iload_n 1, 1) := by decide +kernel
theorem dX9_goesFree_26 : decode cX9_goesFree 26 = .ok (.bipush 44, 2) := by decide +kernel
theorem dX9_goesFree_28 : decode cX9_goesFree 28 = .ok (.iadd, 1) := by decide +kernel
theorem dX9_goesFree_29 : decode cX9_goesFree 29 = .ok (.iload_n 2, 1) := by decide +kernel
theorem dX9_goesFree_30 : decode cX9_goesFree 30 = .ok (.iadd, 1) := by decide +kernel
theorem dX9_goesFree_31 : decode cX9_goesFree 31 = .ok (.dup2, 1) := by decide +kernel
theorem dX9_goesFree_32 : decode cX9_goesFree 32 = .ok (.iaload, 1) := by decide +kernel
theorem dX9_goesFree_33 : decode cX9_goesFree 33 = .ok (.aload_n 0, 1) := by decide +kernel
theorem dX9_goesFree_34 : decode cX9_goesFree 34 = .ok (.getfield 7, 3) := by decide +kernel
theorem dX9_goesFree_37 : decode cX9_goesFree 37 = .ok (.iload_n 1, 1) := by decide +kernel
theorem dX9_goesFree_38 : decode cX9_goesFree 38 = .ok (.bipush 37, 2) := by decide +kernel
theorem dX9_goesFree_40 : decode cX9_goesFree 40 = .ok (.iadd, 1) := by decide +kernel
theorem dX9_goesFree_41 : decode cX9_goesFree 41 = .ok (.iload_n 2, 1) := by decide +kernel
theorem dX9_goesFree_42 : decode cX9_goesFree 42 = .ok (.iadd, 1) := by decide +kernel
theorem dX9_goesFree_43 : decode cX9_goesFree 43 = .ok (.iaload, 1) := by decide +kernel
theorem dX9_goesFree_44 : decode cX9_goesFree 44 = .ok (.iload_n 3, 1) := by decide +kernel
theorem dX9_goesFree_45 : decode cX9_goesFree 45 = .ok (.invokestatic 141, 3) := by decide +kernel
theorem dX9_goesFree_48 : decode cX9_goesFree 48 = .ok (.ifCond .eq 12, 3) := by decide +kernel
theorem dX9_goesFree_51 : decode cX9_goesFree 51 = .ok (.aload_n 0, 1) := by decide +kernel
theorem dX9_goesFree_52 : decode cX9_goesFree 52 = .ok (.getfield 19, 3) := by decide +kernel
theorem dX9_goesFree_55 : decode cX9_goesFree 55 = .ok (.iload_n 3, 1) := by decide +kernel
theorem dX9_goesFree_56 : decode cX9_goesFree 56 = .ok (.iaload, 1) := by decide +kernel
theorem dX9_goesFree_57 : decode cX9_goesFree 57 = .ok (.goto 4, 3) := by decide +kernel
theorem dX9_goesFree_60 : decode cX9_goesFree 60 = .ok (.iconst 0, 1) := by decide +kernel
theorem dX9_goesFree_61 : decode cX9_goesFree 61 = .ok (.iadd, 1) := by decide +kernel
theorem dX9_goesFree_62 : decode cX9_goesFree 62 = .ok (.iastore, 1) := by decide +kernel
theorem dX9_goesFree_63 : decode cX9_goesFree 63 = .ok (.iinc 3 1, 3) := by decide +kernel
theorem dX9_goesFree_66 : decode cX9_goesFree 66 = .ok (.goto (-53), 3) := by decide +kernel
theorem dX9_goesFree_69 : decode cX9_goesFree 69 = .ok (.aload_n 0, 1) := by decide +kernel
theorem dX9_goesFree_70 : decode cX9_goesFree 70 = .ok (.getfield 7, 3) := by decide +kernel
theorem dX9_goesFree_73 : decode cX9_goesFree 73 = .ok (.iload_n 1, 1) := by decide +kernel
theorem dX9_goesFree_74 : decode cX9_goesFree 74 = .ok (.bipush 30, 2) := by decide +kernel
theorem dX9_goesFree_76 : decode cX9_goesFree 76 = .ok (.iadd, 1) := by decide +kernel
theorem dX9_goesFree_77 : decode cX9_goesFree 77 = .ok (.iload_n 2, 1) := by decide +kernel
theorem dX9_goesFree_78 : decode cX9_goesFree 78 = .ok (.iadd, 1) := by decide +kernel
theorem dX9_goesFree_79 : decode cX9_goesFree 79 = .ok (.iaload, 1) := by decide +kernel
theorem dX9_goesFree_80 : decode cX9_goesFree 80 = .ok (.istore_n 3, 1) := by decide +kernel
theorem dX9_goesFree_81 : decode cX9_goesFree 81 = .ok (.iload_n 3, 1) := by decide +kernel
theorem dX9_goesFree_82 : decode cX9_goesFree 82 = .ok (.bipush (-4), 2) := by decide +kernel
theorem dX9_goesFree_84 : decode cX9_goesFree 84 = .ok (.if_icmp .eq 50, 3) := by decide +kernel
theorem dX9_goesFree_87 : decode cX9_goesFree 87 = .ok (.aload_n 0, 1) := by decide +kernel
theorem dX9_goesFree_88 : decode cX9_goesFree 88 = .ok (.getfield 7, 3) := by decide +kernel
theorem dX9_goesFree_91 : decode cX9_goesFree 91 = .ok (.iload_n 1, 1) := by decide +kernel
theorem dX9_goesFree_92 : decode cX9_goesFree 92 = .ok (.bipush 44, 2) := by decide +kernel
theorem dX9_goesFree_94 : decode cX9_goesFree 94 = .ok (.iadd, 1) := by decide +kernel
theorem dX9_goesFree_95 : decode cX9_goesFree 95 = .ok (.iload_n 2, 1) := by decide +kernel
theorem dX9_goesFree_96 : decode cX9_goesFree 96 = .ok (.iadd, 1) := by decide +kernel
theorem dX9_goesFree_97 : decode cX9_goesFree 97 = .ok (.iaload, 1) := by decide +kernel
theorem dX9_goesFree_98 : decode cX9_goesFree 98 = .ok (.iconst 2, 1) := by decide +kernel
theorem dX9_goesFree_99 : decode cX9_goesFree 99 = .ok (.idiv, 1) := by decide +kernel
theorem dX9_goesFree_100 : decode cX9_goesFree 100 = .ok (.istore 4, 2) := by decide +kernel
theorem dX9_goesFree_102 : decode cX9_goesFree 102 = .ok (.aload_n 0, 1) := by decide +kernel
theorem dX9_goesFree_103 : decode cX9_goesFree 103 = .ok (.getfield 7, 3) := by decide +kernel
theorem dX9_goesFree_106 : decode cX9_goesFree 106 = .ok (.iload_n 1, 1) := by decide +kernel
theorem dX9_goesFree_107 : decode cX9_goesFree 107 = .ok (.bipush 44, 2) := by decide +kernel
theorem dX9_goesFree_109 : decode cX9_goesFree 109 = .ok (.iadd, 1) := by decide +kernel
theorem dX9_goesFree_110 : decode cX9_goesFree 110 = .ok (.iload_n 2, 1) := by decide +kernel
theorem dX9_goesFree_111 : decode cX9_goesFree 111 = .ok (.iadd, 1) := by decide +kernel
theorem dX9_goesFree_112 : decode cX9_goesFree 112 = .ok (.dup2, 1) := by decide +kernel
theorem dX9_goesFree_113 : decode cX9_goesFree 113 = .ok (.iaload, 1) := by decide +kernel
theorem dX9_goesFree_114 : decode cX9_goesFree 114 = .ok (.iload 4, 2) := by decide +kernel
theorem dX9_goesFree_116 : decode cX9_goesFree 116 = .ok (.isub, 1) := by decide +kernel
theorem dX9_goesFree_117 : decode cX9_goesFree 117 = .ok (.iastore, 1) := by decide +kernel
theorem dX9_goesFree_118 : decode cX9_goesFree 118 = .ok (.aload_n 0, 1) := by decide +kernel
theorem dX9_goesFree_119 : decode cX9_goesFree 119 = .ok (.getfield 7, 3) := by decide +kernel
theorem dX9_goesFree_122 : decode cX9_goesFree 122 = .ok (.iload_n 1, 1) := by decide +kernel
theorem dX9_goesFree_123 : decode cX9_goesFree 123 = .ok (.bipush 44, 2) := by decide +kernel
theorem dX9_goesFree_125 : decode cX9_goesFree 125 = .ok (.iadd, 1) := by decide +kernel
theorem dX9_goesFree_126 : decode cX9_goesFree 126 = .ok (.iload_n 3, 1) := by decide +kernel
theorem dX9_goesFree_127 : decode cX9_goesFree 127 = .ok (.iadd, 1) := by decide +kernel
theorem dX9_goesFree_128 : decode cX9_goesFree 128 = .ok (.dup2, 1) := by decide +kernel
theorem dX9_goesFree_129 : decode cX9_goesFree 129 = .ok (.iaload, 1) := by decide +kernel
theorem dX9_goesFree_130 : decode cX9_goesFree 130 = .ok (.iload 4, 2) := by decide +kernel
theorem dX9_goesFree_132 : decode cX9_goesFree 132 = .ok (.iadd, 1) := by decide +kernel
theorem dX9_goesFree_133 : decode cX9_goesFree 133 = .ok (.iastore, 1) := by decide +kernel
theorem dX9_goesFree_134 : decode cX9_goesFree 134 = .ok (.return_, 1) := by decide +kernel
theorem dX9_freesThose_0 : decode cX9_freesThose 0 = .ok (.iconst 0, 1) := by decide +kernel
theorem dX9_freesThose_1 : decode cX9_freesThose 1 = .ok (.istore_n 2, 1) := by decide +kernel
theorem dX9_freesThose_2 : decode cX9_freesThose 2 = .ok (.iload_n 2, 1) := by decide +kernel
theorem dX9_freesThose_3 : decode cX9_freesThose 3 = .ok (.aload_n 0, 1) := by decide +kernel
theorem dX9_freesThose_4 : decode cX9_freesThose 4 = .ok (.getfield 69, 3) := by decide +kernel
theorem dX9_freesThose_7 : decode cX9_freesThose 7 = .ok (.if_icmp .ge 55, 3) := by decide +kernel
theorem dX9_freesThose_10 : decode cX9_freesThose 10 = .ok (.aload_n 0, 1) := by decide +kernel
theorem dX9_freesThose_11 : decode cX9_freesThose 11 = .ok (.getfield 7, 3) := by decide +kernel
theorem dX9_freesThose_14 : decode cX9_freesThose 14 = .ok (.iload_n 1, 1) := by decide +kernel
theorem dX9_freesThose_15 : decode cX9_freesThose 15 = .ok (.iconst 2, 1) := by decide +kernel
theorem dX9_freesThose_16 : decode cX9_freesThose 16 = .ok (.iadd, 1) := by decide +kernel
theorem dX9_freesThose_17 : decode cX9_freesThose 17 = .ok (.iload_n 2, 1) := by decide +kernel
theorem dX9_freesThose_18 : decode cX9_freesThose 18 = .ok (.iadd, 1) := by decide +kernel
theorem dX9_freesThose_19 : decode cX9_freesThose 19 = .ok (.iaload, 1) := by decide +kernel
theorem dX9_freesThose_20 : decode cX9_freesThose 20 = .ok (.iconst 1, 1) := by decide +kernel
theorem dX9_freesThose_21 : decode cX9_freesThose 21 = .ok (.if_icmp .ne 35, 3) := by decide +kernel
theorem dX9_freesThose_24 : decode cX9_freesThose 24 = .ok (.aload_n 0, 1) := by decide +kernel
theorem dX9_freesThose_25 : decode cX9_freesThose 25 = .ok (.getfield 7, 3) := by decide +kernel
theorem dX9_freesThose_28 : decode cX9_freesThose 28 = .ok (.iload_n 1, 1) := by decide +kernel
theorem dX9_freesThose_29 : decode cX9_freesThose 29 = .ok (.iconst 1, 1) := by decide +kernel
theorem dX9_freesThose_30 : decode cX9_freesThose 30 = .ok (.iadd, 1) := by decide +kernel
theorem dX9_freesThose_31 : decode cX9_freesThose 31 = .ok (.iaload, 1) := by decide +kernel
theorem dX9_freesThose_32 : decode cX9_freesThose 32 = .ok (.iload_n 2, 1) := by decide +kernel
theorem dX9_freesThose_33 : decode cX9_freesThose 33 = .ok (.if_icmp .eq 23, 3) := by decide +kernel
theorem dX9_freesThose_36 : decode cX9_freesThose 36 = .ok (.aload_n 0, 1) := by decide +kernel
theorem dX9_freesThose_37 : decode cX9_freesThose 37 = .ok (.getfield 7, 3) := by decide +kernel
theorem dX9_freesThose_40 : decode cX9_freesThose 40 = .ok (.iload_n 1, 1) := by decide +kernel
theorem dX9_freesThose_41 : decode cX9_freesThose 41 = .ok (.bipush 23, 2) := by decide +kernel
theorem dX9_freesThose_43 : decode cX9_freesThose 43 = .ok (.iadd, 1) := by decide +kernel
theorem dX9_freesThose_44 : decode cX9_freesThose 44 = .ok (.iload_n 2, 1) := by decide +kernel
theorem dX9_freesThose_45 : decode cX9_freesThose 45 = .ok (.iadd, 1) := by decide +kernel
theorem dX9_freesThose_46 : decode cX9_freesThose 46 = .ok (.iaload, 1) := by decide +kernel
theorem dX9_freesThose_47 : decode cX9_freesThose 47 = .ok (.ifCond .ne 9, 3) := by decide +kernel
theorem dX9_freesThose_50 : decode cX9_freesThose 50 = .ok (.aload_n 0, 1) := by decide +kernel
theorem dX9_freesThose_51 : decode cX9_freesThose 51 = .ok (.iload_n 1, 1) := by decide +kernel
theorem dX9_freesThose_52 : decode cX9_freesThose 52 = .ok (.iload_n 2, 1) := by decide +kernel
theorem dX9_freesThose_53 : decode cX9_freesThose 53 = .ok (.invokevirtual 145, 3) := by decide +kernel
theorem dX9_freesThose_56 : decode cX9_freesThose 56 = .ok (.iinc 2 1, 3) := by decide +kernel
theorem dX9_freesThose_59 : decode cX9_freesThose 59 = .ok (.goto (-57), 3) := by decide +kernel
theorem dX9_freesThose_62 : decode cX9_freesThose 62 = .ok (.return_, 1) := by decide +kernel
theorem dX9_passes_0 : decode cX9_passes 0 = .ok (.iconst 0, 1) := by decide +kernel
theorem dX9_passes_1 : decode cX9_passes 1 = .ok (.istore_n 2, 1) := by decide +kernel
theorem dX9_passes_2 : decode cX9_passes 2 = .ok (.iload_n 2, 1) := by decide +kernel
theorem dX9_passes_3 : decode cX9_passes 3 = .ok (.aload_n 0, 1) := by decide +kernel
theorem dX9_passes_4 : decode cX9_passes 4 = .ok (.getfield 69, 3) := by decide +kernel
theorem dX9_passes_7 : decode cX9_passes 7 = .ok (.if_icmp .ge 50, 3) := by decide +kernel
theorem dX9_passes_10 : decode cX9_passes 10 = .ok (.aload_n 0, 1) := by decide +kernel
theorem dX9_passes_11 : decode cX9_passes 11 = .ok (.getfield 7, 3) := by decide +kernel
theorem dX9_passes_14 : decode cX9_passes 14 = .ok (.iload_n 1, 1) := by decide +kernel
theorem dX9_passes_15 : decode cX9_passes 15 = .ok (.iconst 2, 1) := by decide +kernel
theorem dX9_passes_16 : decode cX9_passes 16 = .ok (.iadd, 1) := by decide +kernel
theorem dX9_passes_17 : decode cX9_passes 17 = .ok (.iload_n 2, 1) := by decide +kernel
theorem dX9_passes_18 : decode cX9_passes 18 = .ok (.iadd, 1) := by decide +kernel
theorem dX9_passes_19 : decode cX9_passes 19 = .ok (.iaload, 1) := by decide +kernel
theorem dX9_passes_20 : decode cX9_passes 20 = .ok (.ifCond .ne 31, 3) := by decide +kernel
theorem dX9_passes_23 : decode cX9_passes 23 = .ok (.aload_n 0, 1) := by decide +kernel
theorem dX9_passes_24 : decode cX9_passes 24 = .ok (.getfield 7, 3) := by decide +kernel
theorem dX9_passes_27 : decode cX9_passes 27 = .ok (.iload_n 1, 1) := by decide +kernel
theorem dX9_passes_28 : decode cX9_passes 28 = .ok (.bipush 9, 2) := by decide +kernel
theorem dX9_passes_30 : decode cX9_passes 30 = .ok (.iadd, 1) := by decide +kernel
theorem dX9_passes_31 : decode cX9_passes 31 = .ok (.iload_n 2, 1) := by decide +kernel
theorem dX9_passes_32 : decode cX9_passes 32 = .ok (.iadd, 1) := by decide +kernel
theorem dX9_passes_33 : decode cX9_passes 33 = .ok (.iaload, 1) := by decide +kernel
theorem dX9_passes_34 : decode cX9_passes 34 = .ok (.aload_n 0, 1) := by decide +kernel
theorem dX9_passes_35 : decode cX9_passes 35 = .ok (.getfield 7, 3) := by decide +kernel
theorem dX9_passes_38 : decode cX9_passes 38 = .ok (.iload_n 1, 1) := by decide +kernel
theorem dX9_passes_39 : decode cX9_passes 39 = .ok (.iconst 0, 1) := by decide +kernel
theorem dX9_passes_40 : decode cX9_passes 40 = .ok (.iadd, 1) := by decide +kernel
theorem dX9_passes_41 : decode cX9_passes 41 = .ok (.iaload, 1) := by decide +kernel
theorem dX9_passes_42 : decode cX9_passes 42 = .ok (.if_icmp .ne 9, 3) := by decide +kernel
theorem dX9_passes_45 : decode cX9_passes 45 = .ok (.aload_n 0, 1) := by decide +kernel
theorem dX9_passes_46 : decode cX9_passes 46 = .ok (.iload_n 1, 1) := by decide +kernel
theorem dX9_passes_47 : decode cX9_passes 47 = .ok (.iload_n 2, 1) := by decide +kernel
theorem dX9_passes_48 : decode cX9_passes 48 = .ok (.invokevirtual 149, 3) := by decide +kernel
theorem dX9_passes_51 : decode cX9_passes 51 = .ok (.iinc 2 1, 3) := by decide +kernel
theorem dX9_passes_54 : decode cX9_passes 54 = .ok (.goto (-52), 3) := by decide +kernel
theorem dX9_passes_57 : decode cX9_passes 57 = .ok (.iconst 0, 1) := by decide +kernel
theorem dX9_passes_58 : decode cX9_passes 58 = .ok (.istore_n 2, 1) := by decide +kernel
theorem dX9_passes_59 : decode cX9_passes 59 = .ok (.iload_n 2, 1) := by decide +kernel
theorem dX9_passes_60 : decode cX9_passes 60 = .ok (.aload_n 0, 1) := by decide +kernel
theorem dX9_passes_61 : decode cX9_passes 61 = .ok (.getfield 69, 3) := by decide +kernel
theorem dX9_passes_64 : decode cX9_passes 64 = .ok (.if_icmp .ge 76, 3) := by decide +kernel
theorem dX9_passes_67 : decode cX9_passes 67 = .ok (.aload_n 0, 1) := by decide +kernel
theorem dX9_passes_68 : decode cX9_passes 68 = .ok (.getfield 7, 3) := by decide +kernel
theorem dX9_passes_71 : decode cX9_passes 71 = .ok (.iload_n 1, 1) := by decide +kernel
theorem dX9_passes_72 : decode cX9_passes 72 = .ok (.iconst 2, 1) := by decide +kernel
theorem dX9_passes_73 : decode cX9_passes 73 = .ok (.iadd, 1) := by decide +kernel
theorem dX9_passes_74 : decode cX9_passes 74 = .ok (.iload_n 2, 1) := by decide +kernel
theorem dX9_passes_75 : decode cX9_passes 75 = .ok (.iadd, 1) := by decide +kernel
theorem dX9_passes_76 : decode cX9_passes 76 = .ok (.iaload, 1) := by decide +kernel
theorem dX9_passes_77 : decode cX9_passes 77 = .ok (.iconst 1, 1) := by decide +kernel
theorem dX9_passes_78 : decode cX9_passes 78 = .ok (.if_icmp .ne 56, 3) := by decide +kernel
theorem dX9_passes_81 : decode cX9_passes 81 = .ok (.aload_n 0, 1) := by decide +kernel
theorem dX9_passes_82 : decode cX9_passes 82 = .ok (.getfield 7, 3) := by decide +kernel
theorem dX9_passes_85 : decode cX9_passes 85 = .ok (.iload_n 1, 1) := by decide +kernel
theorem dX9_passes_86 : decode cX9_passes 86 = .ok (.bipush 23, 2) := by decide +kernel
theorem dX9_passes_88 : decode cX9_passes 88 = .ok (.iadd, 1) := by decide +kernel
theorem dX9_passes_89 : decode cX9_passes 89 = .ok (.iload_n 2, 1) := by decide +kernel
theorem dX9_passes_90 : decode cX9_passes 90 = .ok (.iadd, 1) := by decide +kernel
theorem dX9_passes_91 : decode cX9_passes 91 = .ok (.aload_n 0, 1) := by decide +kernel
theorem dX9_passes_92 : decode cX9_passes 92 = .ok (.getfield 7, 3) := by decide +kernel
theorem dX9_passes_95 : decode cX9_passes 95 = .ok (.iload_n 1, 1) := by decide +kernel
theorem dX9_passes_96 : decode cX9_passes 96 = .ok (.bipush 23, 2) := by decide +kernel
theorem dX9_passes_98 : decode cX9_passes 98 = .ok (.iadd, 1) := by decide +kernel
theorem dX9_passes_99 : decode cX9_passes 99 = .ok (.iload_n 2, 1) := by decide +kernel
theorem dX9_passes_100 : decode cX9_passes 100 = .ok (.iadd, 1) := by decide +kernel
theorem dX9_passes_101 : decode cX9_passes 101 = .ok (.iaload, 1) := by decide +kernel
theorem dX9_passes_102 : decode cX9_passes 102 = .ok (.aload_n 0, 1) := by decide +kernel
theorem dX9_passes_103 : decode cX9_passes 103 = .ok (.getfield 22, 3) := by decide +kernel
theorem dX9_passes_106 : decode cX9_passes 106 = .ok (.iload_n 2, 1) := by decide +kernel
theorem dX9_passes_107 : decode cX9_passes 107 = .ok (.iaload, 1) := by decide +kernel
theorem dX9_passes_108 : decode cX9_passes 108 = .ok (.if_icmp .le 24, 3) := by decide +kernel
theorem dX9_passes_111 : decode cX9_passes 111 = .ok (.aload_n 0, 1) := by decide +kernel
theorem dX9_passes_112 : decode cX9_passes 112 = .ok (.getfield 7, 3) := by decide +kernel
theorem dX9_passes_115 : decode cX9_passes 115 = .ok (.iload_n 1, 1) := by decide +kernel
theorem dX9_passes_116 : decode cX9_passes 116 = .ok (.bipush 23, 2) := by decide +kernel
theorem dX9_passes_118 : decode cX9_passes 118 = .ok (.iadd, 1) := by decide +kernel
theorem dX9_passes_119 : decode cX9_passes 119 = .ok (.iload_n 2, 1) := by decide +kernel
theorem dX9_passes_120 : decode cX9_passes 120 = .ok (.iadd, 1) := by decide +kernel
theorem dX9_passes_121 : decode cX9_passes 121 = .ok (.iaload, 1) := by decide +kernel
theorem dX9_passes_122 : decode cX9_passes 122 = .ok (.aload_n 0, 1) := by decide +kernel
theorem dX9_passes_123 : decode cX9_passes 123 = .ok (.getfield 22, 3) := by decide +kernel
theorem dX9_passes_126 : decode cX9_passes 126 = .ok (.iload_n 2, 1) := by decide +kernel
theorem dX9_passes_127 : decode cX9_passes 127 = .ok (.iaload, 1) := by decide +kernel
theorem dX9_passes_128 : decode cX9_passes 128 = .ok (.isub, 1) := by decide +kernel
theorem dX9_passes_129 : decode cX9_passes 129 = .ok (.goto 4, 3) := by decide +kernel
theorem dX9_passes_132 : decode cX9_passes 132 = .ok (.iconst 0, 1) := by decide +kernel
theorem dX9_passes_133 : decode cX9_passes 133 = .ok (.iastore, 1) := by decide +kernel
theorem dX9_passes_134 : decode cX9_passes 134 = .ok (.iinc 2 1, 3) := by decide +kernel
theorem dX9_passes_137 : decode cX9_passes 137 = .ok (.goto (-78), 3) := by decide +kernel
theorem dX9_passes_140 : decode cX9_passes 140 = .ok (.aload_n 0, 1) := by decide +kernel
theorem dX9_passes_141 : decode cX9_passes 141 = .ok (.iload_n 1, 1) := by decide +kernel
theorem dX9_passes_142 : decode cX9_passes 142 = .ok (.invokevirtual 152, 3) := by decide +kernel
theorem dX9_passes_145 : decode cX9_passes 145 = .ok (.aload_n 0, 1) := by decide +kernel
theorem dX9_passes_146 : decode cX9_passes 146 = .ok (.getfield 7, 3) := by decide +kernel
theorem dX9_passes_149 : decode cX9_passes 149 = .ok (.iload_n 1, 1) := by decide +kernel
theorem dX9_passes_150 : decode cX9_passes 150 = .ok (.iconst 0, 1) := by decide +kernel
theorem dX9_passes_151 : decode cX9_passes 151 = .ok (.iadd, 1) := by decide +kernel
theorem dX9_passes_152 : decode cX9_passes 152 = .ok (.dup2, 1) := by decide +kernel
theorem dX9_passes_153 : decode cX9_passes 153 = .ok (.iaload, 1) := by decide +kernel
theorem dX9_passes_154 : decode cX9_passes 154 = .ok (.iconst 1, 1) := by decide +kernel
theorem dX9_passes_155 : decode cX9_passes 155 = .ok (.iadd, 1) := by decide +kernel
theorem dX9_passes_156 : decode cX9_passes 156 = .ok (.iastore, 1) := by decide +kernel
theorem dX9_passes_157 : decode cX9_passes 157 = .ok (.return_, 1) := by decide +kernel
theorem dX9_canBook_0 : decode cX9_canBook 0 = .ok (.aload_n 0, 1) := by decide +kernel
theorem dX9_canBook_1 : decode cX9_canBook 1 = .ok (.getfield 7, 3) := by decide +kernel
theorem dX9_canBook_4 : decode cX9_canBook 4 = .ok (.iload_n 1, 1) := by decide +kernel
theorem dX9_canBook_5 : decode cX9_canBook 5 = .ok (.iconst 2, 1) := by decide +kernel
theorem dX9_canBook_6 : decode cX9_canBook 6 = .ok (.iadd, 1) := by decide +kernel
theorem dX9_canBook_7 : decode cX9_canBook 7 = .ok (.iload_n 2, 1) := by decide +kernel
theorem dX9_canBook_8 : decode cX9_canBook 8 = .ok (.iadd, 1) := by decide +kernel
theorem dX9_canBook_9 : decode cX9_canBook 9 = .ok (.iaload, 1) := by decide +kernel
theorem dX9_canBook_10 : decode cX9_canBook 10 = .ok (.ifCond .ne 19, 3) := by decide +kernel
theorem dX9_canBook_13 : decode cX9_canBook 13 = .ok (.iload_n 3, 1) := by decide +kernel
theorem dX9_canBook_14 : decode cX9_canBook 14 = .ok (.aload_n 0, 1) := by decide +kernel
theorem dX9_canBook_15 : decode cX9_canBook 15 = .ok (.getfield 7, 3) := by decide +kernel
theorem dX9_canBook_18 : decode cX9_canBook 18 = .ok (.iload_n 1, 1) := by decide +kernel
theorem dX9_canBook_19 : decode cX9_canBook 19 = .ok (.iconst 0, 1) := by decide +kernel
theorem dX9_canBook_20 : decode cX9_canBook 20 = .ok (.iadd, 1) := by decide +kernel
theorem dX9_canBook_21 : decode cX9_canBook 21 = .ok (.iaload, 1) := by decide +kernel
theorem dX9_canBook_22 : decode cX9_canBook 22 = .ok (.if_icmp .lt 7, 3) := by decide +kernel
theorem dX9_canBook_25 : decode cX9_canBook 25 = .ok (.iconst 1, 1) := by decide +kernel
theorem dX9_canBook_26 : decode cX9_canBook 26 = .ok (.goto 4, 3) := by decide +kernel
theorem dX9_canBook_29 : decode cX9_canBook 29 = .ok (.iconst 0, 1) := by decide +kernel
theorem dX9_canBook_30 : decode cX9_canBook 30 = .ok (.ireturn, 1) := by decide +kernel
theorem dX9_canChange_0 : decode cX9_canChange 0 = .ok (.aload_n 0, 1) := by decide +kernel
theorem dX9_canChange_1 : decode cX9_canChange 1 = .ok (.getfield 7, 3) := by decide +kernel
theorem dX9_canChange_4 : decode cX9_canChange 4 = .ok (.iload_n 1, 1) := by decide +kernel
theorem dX9_canChange_5 : decode cX9_canChange 5 = .ok (.iconst 2, 1) := by decide +kernel
theorem dX9_canChange_6 : decode cX9_canChange 6 = .ok (.iadd, 1) := by decide +kernel
theorem dX9_canChange_7 : decode cX9_canChange 7 = .ok (.iload_n 2, 1) := by decide +kernel
theorem dX9_canChange_8 : decode cX9_canChange 8 = .ok (.iadd, 1) := by decide +kernel
theorem dX9_canChange_9 : decode cX9_canChange 9 = .ok (.iaload, 1) := by decide +kernel
theorem dX9_canChange_10 : decode cX9_canChange 10 = .ok (.ifCond .ne 25, 3) := by decide +kernel
theorem dX9_canChange_13 : decode cX9_canChange 13 = .ok (.aload_n 0, 1) := by decide +kernel
theorem dX9_canChange_14 : decode cX9_canChange 14 = .ok (.getfield 7, 3) := by decide +kernel
theorem dX9_canChange_17 : decode cX9_canChange 17 = .ok (.iload_n 1, 1) := by decide +kernel
theorem dX9_canChange_18 : decode cX9_canChange 18 = .ok (.iconst 2, 1) := by decide +kernel
theorem dX9_canChange_19 : decode cX9_canChange 19 = .ok (.iadd, 1) := by decide +kernel
theorem dX9_canChange_20 : decode cX9_canChange 20 = .ok (.iload_n 3, 1) := by decide +kernel
theorem dX9_canChange_21 : decode cX9_canChange 21 = .ok (.iadd, 1) := by decide +kernel
theorem dX9_canChange_22 : decode cX9_canChange 22 = .ok (.iaload, 1) := by decide +kernel
theorem dX9_canChange_23 : decode cX9_canChange 23 = .ok (.ifCond .ne 12, 3) := by decide +kernel
theorem dX9_canChange_26 : decode cX9_canChange 26 = .ok (.iload_n 2, 1) := by decide +kernel
theorem dX9_canChange_27 : decode cX9_canChange 27 = .ok (.iload_n 3, 1) := by decide +kernel
theorem dX9_canChange_28 : decode cX9_canChange 28 = .ok (.if_icmp .eq 7, 3) := by decide +kernel
theorem dX9_canChange_31 : decode cX9_canChange 31 = .ok (.iconst 1, 1) := by decide +kernel
theorem dX9_canChange_32 : decode cX9_canChange 32 = .ok (.goto 4, 3) := by decide +kernel
theorem dX9_canChange_35 : decode cX9_canChange 35 = .ok (.iconst 0, 1) := by decide +kernel
theorem dX9_canChange_36 : decode cX9_canChange 36 = .ok (.ireturn, 1) := by decide +kernel
theorem dX9_changes_0 : decode cX9_changes 0 = .ok (.aload_n 0, 1) := by decide +kernel
theorem dX9_changes_1 : decode cX9_changes 1 = .ok (.getfield 7, 3) := by decide +kernel
theorem dX9_changes_4 : decode cX9_changes 4 = .ok (.iload_n 1, 1) := by decide +kernel
theorem dX9_changes_5 : decode cX9_changes 5 = .ok (.bipush 16, 2) := by decide +kernel
theorem dX9_changes_7 : decode cX9_changes 7 = .ok (.iadd, 1) := by decide +kernel
theorem dX9_changes_8 : decode cX9_changes 8 = .ok (.iload_n 2, 1) := by decide +kernel
theorem dX9_changes_9 : decode cX9_changes 9 = .ok (.iadd, 1) := by decide +kernel
theorem dX9_changes_10 : decode cX9_changes 10 = .ok (.iaload, 1) := by decide +kernel
theorem dX9_changes_11 : decode cX9_changes 11 = .ok (.istore 4, 2) := by decide +kernel
theorem dX9_changes_13 : decode cX9_changes 13 = .ok (.aload_n 0, 1) := by decide +kernel
theorem dX9_changes_14 : decode cX9_changes 14 = .ok (.getfield 7, 3) := by decide +kernel
theorem dX9_changes_17 : decode cX9_changes 17 = .ok (.iload_n 1, 1) := by decide +kernel
theorem dX9_changes_18 : decode cX9_changes 18 = .ok (.bipush 16, 2) := by decide +kernel
theorem dX9_changes_20 : decode cX9_changes 20 = .ok (.iadd, 1) := by decide +kernel
theorem dX9_changes_21 : decode cX9_changes 21 = .ok (.iload_n 2, 1) := by decide +kernel
theorem dX9_changes_22 : decode cX9_changes 22 = .ok (.iadd, 1) := by decide +kernel
theorem dX9_changes_23 : decode cX9_changes 23 = .ok (.aload_n 0, 1) := by decide +kernel
theorem dX9_changes_24 : decode cX9_changes 24 = .ok (.getfield 7, 3) := by decide +kernel
theorem dX9_changes_27 : decode cX9_changes 27 = .ok (.iload_n 1, 1) := by decide +kernel
theorem dX9_changes_28 : decode cX9_changes 28 = .ok (.bipush 16, 2) := by decide +kernel
theorem dX9_changes_30 : decode cX9_changes 30 = .ok (.iadd, 1) := by decide +kernel
theorem dX9_changes_31 : decode cX9_changes 31 = .ok (.iload_n 3, 1) := by decide +kernel
theorem dX9_changes_32 : decode cX9_changes 32 = .ok (.iadd, 1) := by decide +kernel
theorem dX9_changes_33 : decode cX9_changes 33 = .ok (.iaload, 1) := by decide +kernel
theorem dX9_changes_34 : decode cX9_changes 34 = .ok (.iastore, 1) := by decide +kernel
theorem dX9_changes_35 : decode cX9_changes 35 = .ok (.aload_n 0, 1) := by decide +kernel
theorem dX9_changes_36 : decode cX9_changes 36 = .ok (.getfield 7, 3) := by decide +kernel
theorem dX9_changes_39 : decode cX9_changes 39 = .ok (.iload_n 1, 1) := by decide +kernel
theorem dX9_changes_40 : decode cX9_changes 40 = .ok (.bipush 16, 2) := by decide +kernel
theorem dX9_changes_42 : decode cX9_changes 42 = .ok (.iadd, 1) := by decide +kernel
theorem dX9_changes_43 : decode cX9_changes 43 = .ok (.iload_n 3, 1) := by decide +kernel
theorem dX9_changes_44 : decode cX9_changes 44 = .ok (.iadd, 1) := by decide +kernel
theorem dX9_changes_45 : decode cX9_changes 45 = .ok (.iload 4, 2) := by decide +kernel
theorem dX9_changes_47 : decode cX9_changes 47 = .ok (.iastore, 1) := by decide +kernel
theorem dX9_changes_48 : decode cX9_changes 48 = .ok (.return_, 1) := by decide +kernel
theorem dX9_minds_0 : decode cX9_minds 0 = .ok (.aload_n 0, 1) := by decide +kernel
theorem dX9_minds_1 : decode cX9_minds 1 = .ok (.getfield 83, 3) := by decide +kernel
theorem dX9_minds_4 : decode cX9_minds 4 = .ok (.bipush 8, 2) := by decide +kernel
theorem dX9_minds_6 : decode cX9_minds 6 = .ok (.if_icmp .ne 51, 3) := by decide +kernel
theorem dX9_minds_9 : decode cX9_minds 9 = .ok (.iconst 0, 1) := by decide +kernel
theorem dX9_minds_10 : decode cX9_minds 10 = .ok (.istore_n 1, 1) := by decide +kernel
theorem dX9_minds_11 : decode cX9_minds 11 = .ok (.iload_n 1, 1) := by decide +kernel
theorem dX9_minds_12 : decode cX9_minds 12 = .ok (.sipush 357, 3) := by decide +kernel
theorem dX9_minds_15 : decode cX9_minds 15 = .ok (.if_icmp .ge 32, 3) := by decide +kernel
theorem dX9_minds_18 : decode cX9_minds 18 = .ok (.aload_n 0, 1) := by decide +kernel
theorem dX9_minds_19 : decode cX9_minds 19 = .ok (.getfield 7, 3) := by decide +kernel
theorem dX9_minds_22 : decode cX9_minds 22 = .ok (.sipush 204, 3) := by decide +kernel
theorem dX9_minds_25 : decode cX9_minds 25 = .ok (.iload_n 1, 1) := by decide +kernel
theorem dX9_minds_26 : decode cX9_minds 26 = .ok (.iadd, 1) := by decide +kernel
theorem dX9_minds_27 : decode cX9_minds 27 = .ok (.aload_n 0, 1) := by decide +kernel
theorem dX9_minds_28 : decode cX9_minds 28 = .ok (.getfield 7, 3) := by decide +kernel
theorem dX9_minds_31 : decode cX9_minds 31 = .ok (.sipush 204, 3) := by decide +kernel
theorem dX9_minds_34 : decode cX9_minds 34 = .ok (.iload_n 1, 1) := by decide +kernel
theorem dX9_minds_35 : decode cX9_minds 35 = .ok (.iadd, 1) := by decide +kernel
theorem dX9_minds_36 : decode cX9_minds 36 = .ok (.bipush 51, 2) := by decide +kernel
theorem dX9_minds_38 : decode cX9_minds 38 = .ok (.iadd, 1) := by decide +kernel
theorem dX9_minds_39 : decode cX9_minds 39 = .ok (.iaload, 1) := by decide +kernel
theorem dX9_minds_40 : decode cX9_minds 40 = .ok (.iastore, 1) := by decide +kernel
theorem dX9_minds_41 : decode cX9_minds 41 = .ok (.iinc 1 1, 3) := by decide +kernel
theorem dX9_minds_44 : decode cX9_minds 44 = .ok (.goto (-33), 3) := by decide +kernel
theorem dX9_minds_47 : decode cX9_minds 47 = .ok (.aload_n 0, 1) := by decide +kernel
theorem dX9_minds_48 : decode cX9_minds 48 = .ok (.dup, 1) := by decide +kernel
theorem dX9_minds_49 : decode cX9_minds 49 = .ok (.getfield 83, 3) := by decide +kernel
theorem dX9_minds_52 : decode cX9_minds 52 = .ok (.iconst 1, 1) := by decide +kernel
theorem dX9_minds_53 : decode cX9_minds 53 = .ok (.isub, 1) := by decide +kernel
theorem dX9_minds_54 : decode cX9_minds 54 = .ok (.putfield 83, 3) := by decide +kernel
theorem dX9_minds_57 : decode cX9_minds 57 = .ok (.aload_n 0, 1) := by decide +kernel
theorem dX9_minds_58 : decode cX9_minds 58 = .ok (.iconst 0, 1) := by decide +kernel
theorem dX9_minds_59 : decode cX9_minds 59 = .ok (.sipush 204, 3) := by decide +kernel
theorem dX9_minds_62 : decode cX9_minds 62 = .ok (.bipush 51, 2) := by decide +kernel
theorem dX9_minds_64 : decode cX9_minds 64 = .ok (.aload_n 0, 1) := by decide +kernel
theorem dX9_minds_65 : decode cX9_minds 65 = .ok (.getfield 83, 3) := by decide +kernel
theorem dX9_minds_68 : decode cX9_minds 68 = .ok (.imul, 1) := by decide +kernel
theorem dX9_minds_69 : decode cX9_minds 69 = .ok (.iadd, 1) := by decide +kernel
theorem dX9_minds_70 : decode cX9_minds 70 = .ok (.invokevirtual 155, 3) := by decide +kernel
theorem dX9_minds_73 : decode cX9_minds 73 = .ok (.aload_n 0, 1) := by decide +kernel
theorem dX9_minds_74 : decode cX9_minds 74 = .ok (.dup, 1) := by decide +kernel
theorem dX9_minds_75 : decode cX9_minds 75 = .ok (.getfield 83, 3) := by decide +kernel
theorem dX9_minds_78 : decode cX9_minds 78 = .ok (.iconst 1, 1) := by decide +kernel
theorem dX9_minds_79 : decode cX9_minds 79 = .ok (.iadd, 1) := by decide +kernel
theorem dX9_minds_80 : decode cX9_minds 80 = .ok (.putfield 83, 3) := by decide +kernel
theorem dX9_minds_83 : decode cX9_minds 83 = .ok (.return_, 1) := by decide +kernel
theorem dX9_pass_0 : decode cX9_pass 0 = .ok (.iload_n 1, 1) := by decide +kernel
theorem dX9_pass_1 : decode cX9_pass 1 = .ok (.i2l, 1) := by decide +kernel
theorem dX9_pass_2 : decode cX9_pass 2 = .ok (.lconst 1, 1) := by decide +kernel
theorem dX9_pass_3 : decode cX9_pass 3 = .ok (.ldc2_w 158, 3) := by decide +kernel
theorem dX9_pass_6 : decode cX9_pass 6 = .ok (.invokestatic 73, 3) := by decide +kernel
theorem dX9_pass_9 : decode cX9_pass 9 = .ok (.ifCond .ne 5, 3) := by decide +kernel
theorem dX9_pass_12 : decode cX9_pass 12 = .ok (.iconst (-1), 1) := by decide +kernel
theorem dX9_pass_13 : decode cX9_pass 13 = .ok (.ireturn, 1) := by decide +kernel
theorem dX9_pass_14 : decode cX9_pass 14 = .ok (.aload_n 0, 1) := by decide +kernel
theorem dX9_pass_15 : decode cX9_pass 15 = .ok (.invokevirtual 160, 3) := by decide +kernel
theorem dX9_pass_18 : decode cX9_pass 18 = .ok (.iconst 0, 1) := by decide +kernel
theorem dX9_pass_19 : decode cX9_pass 19 = .ok (.istore_n 2, 1) := by decide +kernel
theorem dX9_pass_20 : decode cX9_pass 20 = .ok (.iload_n 2, 1) := by decide +kernel
theorem dX9_pass_21 : decode cX9_pass 21 = .ok (.iload_n 1, 1) := by decide +kernel
theorem dX9_pass_22 : decode cX9_pass 22 = .ok (.if_icmp .ge 14, 3) := by decide +kernel
theorem dX9_pass_25 : decode cX9_pass 25 = .ok (.aload_n 0, 1) := by decide +kernel
theorem dX9_pass_26 : decode cX9_pass 26 = .ok (.iconst 0, 1) := by decide +kernel
theorem dX9_pass_27 : decode cX9_pass 27 = .ok (.invokevirtual 163, 3) := by decide +kernel
theorem dX9_pass_30 : decode cX9_pass 30 = .ok (.iinc 2 1, 3) := by decide +kernel
theorem dX9_pass_33 : decode cX9_pass 33 = .ok (.goto (-13), 3) := by decide +kernel
theorem dX9_pass_36 : decode cX9_pass 36 = .ok (.aload_n 0, 1) := by decide +kernel
theorem dX9_pass_37 : decode cX9_pass 37 = .ok (.getfield 7, 3) := by decide +kernel
theorem dX9_pass_40 : decode cX9_pass 40 = .ok (.iconst 0, 1) := by decide +kernel
theorem dX9_pass_41 : decode cX9_pass 41 = .ok (.iaload, 1) := by decide +kernel
theorem dX9_pass_42 : decode cX9_pass 42 = .ok (.ireturn, 1) := by decide +kernel
theorem dX9_book_0 : decode cX9_book 0 = .ok (.aload_n 0, 1) := by decide +kernel
theorem dX9_book_1 : decode cX9_book 1 = .ok (.iload_n 1, 1) := by decide +kernel
theorem dX9_book_2 : decode cX9_book 2 = .ok (.invokevirtual 131, 3) := by decide +kernel
theorem dX9_book_5 : decode cX9_book 5 = .ok (.ifCond .eq 15, 3) := by decide +kernel
theorem dX9_book_8 : decode cX9_book 8 = .ok (.iload_n 2, 1) := by decide +kernel
theorem dX9_book_9 : decode cX9_book 9 = .ok (.i2l, 1) := by decide +kernel
theorem dX9_book_10 : decode cX9_book 10 = .ok (.lconst 0, 1) := by decide +kernel
theorem dX9_book_11 : decode cX9_book 11 = .ok (.ldc2_w 166, 3) := by decide +kernel
theorem dX9_book_14 : decode cX9_book 14 = .ok (.invokestatic 73, 3) := by decide +kernel
theorem dX9_book_17 : decode cX9_book 17 = .ok (.ifCond .ne 5, 3) := by decide +kernel
theorem dX9_book_20 : decode cX9_book 20 = .ok (.iconst (-1), 1) := by decide +kernel
theorem dX9_book_21 : decode cX9_book 21 = .ok (.ireturn, 1) := by decide +kernel
theorem dX9_book_22 : decode cX9_book 22 = .ok (.aload_n 0, 1) := by decide +kernel
theorem dX9_book_23 : decode cX9_book 23 = .ok (.iconst 0, 1) := by decide +kernel
theorem dX9_book_24 : decode cX9_book 24 = .ok (.iload_n 1, 1) := by decide +kernel
theorem dX9_book_25 : decode cX9_book 25 = .ok (.iload_n 2, 1) := by decide +kernel
theorem dX9_book_26 : decode cX9_book 26 = .ok (.invokevirtual 168, 3) := by decide +kernel
theorem dX9_book_29 : decode cX9_book 29 = .ok (.ifCond .ne 6, 3) := by decide +kernel
theorem dX9_book_32 : decode cX9_book 32 = .ok (.bipush (-2), 2) := by decide +kernel
theorem dX9_book_34 : decode cX9_book 34 = .ok (.ireturn, 1) := by decide +kernel
theorem dX9_book_35 : decode cX9_book 35 = .ok (.aload_n 0, 1) := by decide +kernel
theorem dX9_book_36 : decode cX9_book 36 = .ok (.invokevirtual 160, 3) := by decide +kernel
theorem dX9_book_39 : decode cX9_book 39 = .ok (.aload_n 0, 1) := by decide +kernel
theorem dX9_book_40 : decode cX9_book 40 = .ok (.getfield 7, 3) := by decide +kernel
theorem dX9_book_43 : decode cX9_book 43 = .ok (.bipush 9, 2) := by decide +kernel
theorem dX9_book_45 : decode cX9_book 45 = .ok (.iload_n 1, 1) := by decide +kernel
theorem dX9_book_46 : decode cX9_book 46 = .ok (.iadd, 1) := by decide +kernel
theorem dX9_book_47 : decode cX9_book 47 = .ok (.iaload, 1) := by decide +kernel
theorem dX9_book_48 : decode cX9_book 48 = .ok (.istore_n 3, 1) := by decide +kernel
theorem dX9_book_49 : decode cX9_book 49 = .ok (.aload_n 0, 1) := by decide +kernel
theorem dX9_book_50 : decode cX9_book 50 = .ok (.getfield 7, 3) := by decide +kernel
theorem dX9_book_53 : decode cX9_book 53 = .ok (.bipush 9, 2) := by decide +kernel
theorem dX9_book_55 : decode cX9_book 55 = .ok (.iload_n 1, 1) := by decide +kernel
theorem dX9_book_56 : decode cX9_book 56 = .ok (.iadd, 1) := by decide +kernel
theorem dX9_book_57 : decode cX9_book 57 = .ok (.iload_n 2, 1) := by decide +kernel
theorem dX9_book_58 : decode cX9_book 58 = .ok (.iastore, 1) := by decide +kernel
theorem dX9_book_59 : decode cX9_book 59 = .ok (.iload_n 3, 1) := by decide +kernel
theorem dX9_book_60 : decode cX9_book 60 = .ok (.ireturn, 1) := by decide +kernel
theorem dX9_manyHow_0 : decode cX9_manyHow 0 = .ok (.iconst 0, 1) := by decide +kernel
theorem dX9_manyHow_1 : decode cX9_manyHow 1 = .ok (.istore_n 3, 1) := by decide +kernel
theorem dX9_manyHow_2 : decode cX9_manyHow 2 = .ok (.iconst 0, 1) := by decide +kernel
theorem dX9_manyHow_3 : decode cX9_manyHow 3 = .ok (.istore 4, 2) := by decide +kernel
theorem dX9_manyHow_5 : decode cX9_manyHow 5 = .ok (.iload 4, 2) := by decide +kernel
theorem dX9_manyHow_7 : decode cX9_manyHow 7 = .ok (.aload_n 0, 1) := by decide +kernel
theorem dX9_manyHow_8 : decode cX9_manyHow 8 = .ok (.getfield 69, 3) := by decide +kernel
theorem dX9_manyHow_11 : decode cX9_manyHow 11 = .ok (.if_icmp .ge 32, 3) := by decide +kernel
theorem dX9_manyHow_14 : decode cX9_manyHow 14 = .ok (.iload_n 3, 1) := by decide +kernel
theorem dX9_manyHow_15 : decode cX9_manyHow 15 = .ok (.aload_n 0, 1) := by decide +kernel
theorem dX9_manyHow_16 : decode cX9_manyHow 16 = .ok (.getfield 7, 3) := by decide +kernel
theorem dX9_manyHow_19 : decode cX9_manyHow 19 = .ok (.iload_n 1, 1) := by decide +kernel
theorem dX9_manyHow_20 : decode cX9_manyHow 20 = .ok (.iconst 2, 1) := by decide +kernel
theorem dX9_manyHow_21 : decode cX9_manyHow 21 = .ok (.iadd, 1) := by decide +kernel
theorem dX9_manyHow_22 : decode cX9_manyHow 22 = .ok (.iload 4, 2) := by decide +kernel
theorem dX9_manyHow_24 : decode cX9_manyHow 24 = .ok (.iadd, 1) := by decide +kernel
theorem dX9_manyHow_25 : decode cX9_manyHow 25 = .ok (.iaload, 1) := by decide +kernel
theorem dX9_manyHow_26 : decode cX9_manyHow 26 = .ok (.iload_n 2, 1) := by decide +kernel
theorem dX9_manyHow_27 : decode cX9_manyHow 27 = .ok (.if_icmp .ne 7, 3) := by decide +kernel
theorem dX9_manyHow_30 : decode cX9_manyHow 30 = .ok (.iconst 1, 1) := by decide +kernel
theorem dX9_manyHow_31 : decode cX9_manyHow 31 = .ok (.goto 4, 3) := by decide +kernel
theorem dX9_manyHow_34 : decode cX9_manyHow 34 = .ok (.iconst 0, 1) := by decide +kernel
theorem dX9_manyHow_35 : decode cX9_manyHow 35 = .ok (.iadd, 1) := by decide +kernel
theorem dX9_manyHow_36 : decode cX9_manyHow 36 = .ok (.istore_n 3, 1) := by decide +kernel
theorem dX9_manyHow_37 : decode cX9_manyHow 37 = .ok (.iinc 4 1, 3) := by decide +kernel
theorem dX9_manyHow_40 : decode cX9_manyHow 40 = .ok (.goto (-35), 3) := by decide +kernel
theorem dX9_manyHow_43 : decode cX9_manyHow 43 = .ok (.iload_n 3, 1) := by decide +kernel
theorem dX9_manyHow_44 : decode cX9_manyHow 44 = .ok (.ireturn, 1) := by decide +kernel
theorem dX9_call_0 : decode cX9_call 0 = .ok (.aload_n 0, 1) := by decide +kernel
theorem dX9_call_1 : decode cX9_call 1 = .ok (.iload_n 1, 1) := by decide +kernel
theorem dX9_call_2 : decode cX9_call 2 = .ok (.invokevirtual 131, 3) := by decide +kernel
theorem dX9_call_5 : decode cX9_call 5 = .ok (.ifCond .ne 5, 3) := by decide +kernel
theorem dX9_call_8 : decode cX9_call 8 = .ok (.iconst (-1), 1) := by decide +kernel
theorem dX9_call_9 : decode cX9_call 9 = .ok (.ireturn, 1) := by decide +kernel
theorem dX9_call_10 : decode cX9_call 10 = .ok (.aload_n 0, 1) := by decide +kernel
theorem dX9_call_11 : decode cX9_call 11 = .ok (.getfield 7, 3) := by decide +kernel
theorem dX9_call_14 : decode cX9_call 14 = .ok (.iconst 2, 1) := by decide +kernel
theorem dX9_call_15 : decode cX9_call 15 = .ok (.iload_n 1, 1) := by decide +kernel
theorem dX9_call_16 : decode cX9_call 16 = .ok (.iadd, 1) := by decide +kernel
theorem dX9_call_17 : decode cX9_call 17 = .ok (.iaload, 1) := by decide +kernel
theorem dX9_call_18 : decode cX9_call 18 = .ok (.ifCond .eq 6, 3) := by decide +kernel
theorem dX9_call_21 : decode cX9_call 21 = .ok (.bipush (-2), 2) := by decide +kernel
theorem dX9_call_23 : decode cX9_call 23 = .ok (.ireturn, 1) := by decide +kernel
theorem dX9_call_24 : decode cX9_call 24 = .ok (.aload_n 0, 1) := by decide +kernel
theorem dX9_call_25 : decode cX9_call 25 = .ok (.invokevirtual 160, 3) := by decide +kernel
theorem dX9_call_28 : decode cX9_call 28 = .ok (.aload_n 0, 1) := by decide +kernel
theorem dX9_call_29 : decode cX9_call 29 = .ok (.getfield 7, 3) := by decide +kernel
theorem dX9_call_32 : decode cX9_call 32 = .ok (.iconst 2, 1) := by decide +kernel
theorem dX9_call_33 : decode cX9_call 33 = .ok (.iload_n 1, 1) := by decide +kernel
theorem dX9_call_34 : decode cX9_call 34 = .ok (.iadd, 1) := by decide +kernel
theorem dX9_call_35 : decode cX9_call 35 = .ok (.iconst 3, 1) := by decide +kernel
theorem dX9_call_36 : decode cX9_call 36 = .ok (.iastore, 1) := by decide +kernel
theorem dX9_call_37 : decode cX9_call 37 = .ok (.aload_n 0, 1) := by decide +kernel
theorem dX9_call_38 : decode cX9_call 38 = .ok (.iconst 0, 1) := by decide +kernel
theorem dX9_call_39 : decode cX9_call 39 = .ok (.iconst 0, 1) := by decide +kernel
theorem dX9_call_40 : decode cX9_call 40 = .ok (.invokevirtual 171, 3) := by decide +kernel
theorem dX9_call_43 : decode cX9_call 43 = .ok (.ireturn, 1) := by decide +kernel
theorem dX9_change_0 : decode cX9_change 0 = .ok (.aload_n 0, 1) := by decide +kernel
theorem dX9_change_1 : decode cX9_change 1 = .ok (.iload_n 1, 1) := by decide +kernel
theorem dX9_change_2 : decode cX9_change 2 = .ok (.invokevirtual 131, 3) := by decide +kernel
theorem dX9_change_5 : decode cX9_change 5 = .ok (.ifCond .eq 16, 3) := by decide +kernel
theorem dX9_change_8 : decode cX9_change 8 = .ok (.aload_n 0, 1) := by decide +kernel
theorem dX9_change_9 : decode cX9_change 9 = .ok (.iload_n 2, 1) := by decide +kernel
theorem dX9_change_10 : decode cX9_change 10 = .ok (.invokevirtual 131, 3) := by decide +kernel
theorem dX9_change_13 : decode cX9_change 13 = .ok (.ifCond .eq 8, 3) := by decide +kernel
theorem dX9_change_16 : decode cX9_change 16 = .ok (.iload_n 1, 1) := by decide +kernel
theorem dX9_change_17 : decode cX9_change 17 = .ok (.iload_n 2, 1) := by decide +kernel
theorem dX9_change_18 : decode cX9_change 18 = .ok (.if_icmp .ne 5, 3) := by decide +kernel
theorem dX9_change_21 : decode cX9_change 21 = .ok (.iconst (-1), 1) := by decide +kernel
theorem dX9_change_22 : decode cX9_change 22 = .ok (.ireturn, 1) := by decide +kernel
theorem dX9_change_23 : decode cX9_change 23 = .ok (.aload_n 0, 1) := by decide +kernel
theorem dX9_change_24 : decode cX9_change 24 = .ok (.iconst 0, 1) := by decide +kernel
theorem dX9_change_25 : decode cX9_change 25 = .ok (.iload_n 1, 1) := by decide +kernel
theorem dX9_change_26 : decode cX9_change 26 = .ok (.iload_n 2, 1) := by decide +kernel
theorem dX9_change_27 : decode cX9_change 27 = .ok (.invokevirtual 174, 3) := by decide +kernel
theorem dX9_change_30 : decode cX9_change 30 = .ok (.ifCond .ne 6, 3) := by decide +kernel
theorem dX9_change_33 : decode cX9_change 33 = .ok (.bipush (-2), 2) := by decide +kernel
theorem dX9_change_35 : decode cX9_change 35 = .ok (.ireturn, 1) := by decide +kernel
theorem dX9_change_36 : decode cX9_change 36 = .ok (.aload_n 0, 1) := by decide +kernel
theorem dX9_change_37 : decode cX9_change 37 = .ok (.invokevirtual 160, 3) := by decide +kernel
theorem dX9_change_40 : decode cX9_change 40 = .ok (.aload_n 0, 1) := by decide +kernel
theorem dX9_change_41 : decode cX9_change 41 = .ok (.iconst 0, 1) := by decide +kernel
theorem dX9_change_42 : decode cX9_change 42 = .ok (.iload_n 1, 1) := by decide +kernel
theorem dX9_change_43 : decode cX9_change 43 = .ok (.iload_n 2, 1) := by decide +kernel
theorem dX9_change_44 : decode cX9_change 44 = .ok (.invokevirtual 177, 3) := by decide +kernel
theorem dX9_change_47 : decode cX9_change 47 = .ok (.aload_n 0, 1) := by decide +kernel
theorem dX9_change_48 : decode cX9_change 48 = .ok (.getfield 7, 3) := by decide +kernel
theorem dX9_change_51 : decode cX9_change 51 = .ok (.bipush 16, 2) := by decide +kernel
theorem dX9_change_53 : decode cX9_change 53 = .ok (.iload_n 1, 1) := by decide +kernel
theorem dX9_change_54 : decode cX9_change 54 = .ok (.iadd, 1) := by decide +kernel
theorem dX9_change_55 : decode cX9_change 55 = .ok (.iaload, 1) := by decide +kernel
theorem dX9_change_56 : decode cX9_change 56 = .ok (.ireturn, 1) := by decide +kernel
theorem dX9_undo_0 : decode cX9_undo 0 = .ok (.aload_n 0, 1) := by decide +kernel
theorem dX9_undo_1 : decode cX9_undo 1 = .ok (.getfield 83, 3) := by decide +kernel
theorem dX9_undo_4 : decode cX9_undo 4 = .ok (.ifCond .ne 6, 3) := by decide +kernel
theorem dX9_undo_7 : decode cX9_undo 7 = .ok (.bipush (-2), 2) := by decide +kernel
theorem dX9_undo_9 : decode cX9_undo 9 = .ok (.ireturn, 1) := by decide +kernel
theorem dX9_undo_10 : decode cX9_undo 10 = .ok (.aload_n 0, 1) := by decide +kernel
theorem dX9_undo_11 : decode cX9_undo 11 = .ok (.dup, 1) := by decide +kernel
theorem dX9_undo_12 : decode cX9_undo 12 = .ok (.getfield 83, 3) := by decide +kernel
theorem dX9_undo_15 : decode cX9_undo 15 = .ok (.iconst 1, 1) := by decide +kernel
theorem dX9_undo_16 : decode cX9_undo 16 = .ok (.isub, 1) := by decide +kernel
theorem dX9_undo_17 : decode cX9_undo 17 = .ok (.putfield 83, 3) := by decide +kernel
theorem dX9_undo_20 : decode cX9_undo 20 = .ok (.aload_n 0, 1) := by decide +kernel
theorem dX9_undo_21 : decode cX9_undo 21 = .ok (.sipush 204, 3) := by decide +kernel
theorem dX9_undo_24 : decode cX9_undo 24 = .ok (.bipush 51, 2) := by decide +kernel
theorem dX9_undo_26 : decode cX9_undo 26 = .ok (.aload_n 0, 1) := by decide +kernel
theorem dX9_undo_27 : decode cX9_undo 27 = .ok (.getfield 83, 3) := by decide +kernel
theorem dX9_undo_30 : decode cX9_undo 30 = .ok (.imul, 1) := by decide +kernel
theorem dX9_undo_31 : decode cX9_undo 31 = .ok (.iadd, 1) := by decide +kernel
theorem dX9_undo_32 : decode cX9_undo 32 = .ok (.iconst 0, 1) := by decide +kernel
theorem dX9_undo_33 : decode cX9_undo 33 = .ok (.invokevirtual 155, 3) := by decide +kernel
theorem dX9_undo_36 : decode cX9_undo 36 = .ok (.aload_n 0, 1) := by decide +kernel
theorem dX9_undo_37 : decode cX9_undo 37 = .ok (.getfield 83, 3) := by decide +kernel
theorem dX9_undo_40 : decode cX9_undo 40 = .ok (.ireturn, 1) := by decide +kernel
theorem dX9_tries_0 : decode cX9_tries 0 = .ok (.aload_n 0, 1) := by decide +kernel
theorem dX9_tries_1 : decode cX9_tries 1 = .ok (.iconst 0, 1) := by decide +kernel
theorem dX9_tries_2 : decode cX9_tries 2 = .ok (.bipush 51, 2) := by decide +kernel
theorem dX9_tries_4 : decode cX9_tries 4 = .ok (.invokevirtual 155, 3) := by decide +kernel
theorem dX9_tries_7 : decode cX9_tries 7 = .ok (.return_, 1) := by decide +kernel
theorem dX9_freed_0 : decode cX9_freed 0 = .ok (.aload_n 0, 1) := by decide +kernel
theorem dX9_freed_1 : decode cX9_freed 1 = .ok (.iload_n 1, 1) := by decide +kernel
theorem dX9_freed_2 : decode cX9_freed 2 = .ok (.invokevirtual 131, 3) := by decide +kernel
theorem dX9_freed_5 : decode cX9_freed 5 = .ok (.ifCond .ne 5, 3) := by decide +kernel
theorem dX9_freed_8 : decode cX9_freed 8 = .ok (.iconst (-1), 1) := by decide +kernel
theorem dX9_freed_9 : decode cX9_freed 9 = .ok (.ireturn, 1) := by decide +kernel
theorem dX9_freed_10 : decode cX9_freed 10 = .ok (.aload_n 0, 1) := by decide +kernel
theorem dX9_freed_11 : decode cX9_freed 11 = .ok (.invokevirtual 181, 3) := by decide +kernel
theorem dX9_freed_14 : decode cX9_freed 14 = .ok (.iconst 0, 1) := by decide +kernel
theorem dX9_freed_15 : decode cX9_freed 15 = .ok (.istore_n 2, 1) := by decide +kernel
theorem dX9_freed_16 : decode cX9_freed 16 = .ok (.iload_n 2, 1) := by decide +kernel
theorem dX9_freed_17 : decode cX9_freed 17 = .ok (.bipush 99, 2) := by decide +kernel
theorem dX9_freed_19 : decode cX9_freed 19 = .ok (.if_icmp .gt 30, 3) := by decide +kernel
theorem dX9_freed_22 : decode cX9_freed 22 = .ok (.aload_n 0, 1) := by decide +kernel
theorem dX9_freed_23 : decode cX9_freed 23 = .ok (.getfield 7, 3) := by decide +kernel
theorem dX9_freed_26 : decode cX9_freed 26 = .ok (.bipush 53, 2) := by decide +kernel
theorem dX9_freed_28 : decode cX9_freed 28 = .ok (.iload_n 1, 1) := by decide +kernel
theorem dX9_freed_29 : decode cX9_freed 29 = .ok (.iadd, 1) := by decide +kernel
theorem dX9_freed_30 : decode cX9_freed 30 = .ok (.iaload, 1) := by decide +kernel
theorem dX9_freed_31 : decode cX9_freed 31 = .ok (.iconst 2, 1) := by decide +kernel
theorem dX9_freed_32 : decode cX9_freed 32 = .ok (.if_icmp .ne 5, 3) := by decide +kernel
theorem dX9_freed_35 : decode cX9_freed 35 = .ok (.iload_n 2, 1) := by decide +kernel
theorem dX9_freed_36 : decode cX9_freed 36 = .ok (.ireturn, 1) := by decide +kernel
theorem dX9_freed_37 : decode cX9_freed 37 = .ok (.aload_n 0, 1) := by decide +kernel
theorem dX9_freed_38 : decode cX9_freed 38 = .ok (.bipush 51, 2) := by decide +kernel
theorem dX9_freed_40 : decode cX9_freed 40 = .ok (.invokevirtual 163, 3) := by decide +kernel
theorem dX9_freed_43 : decode cX9_freed 43 = .ok (.iinc 2 1, 3) := by decide +kernel
theorem dX9_freed_46 : decode cX9_freed 46 = .ok (.goto (-30), 3) := by decide +kernel
theorem dX9_freed_49 : decode cX9_freed 49 = .ok (.bipush (-4), 2) := by decide +kernel
theorem dX9_freed_51 : decode cX9_freed 51 = .ok (.ireturn, 1) := by decide +kernel
theorem dX9_taskOf_0 : decode cX9_taskOf 0 = .ok (.aload_n 0, 1) := by decide +kernel
theorem dX9_taskOf_1 : decode cX9_taskOf 1 = .ok (.getfield 7, 3) := by decide +kernel
theorem dX9_taskOf_4 : decode cX9_taskOf 4 = .ok (.bipush 51, 2) := by decide +kernel
theorem dX9_taskOf_6 : decode cX9_taskOf 6 = .ok (.iaload, 1) := by decide +kernel
theorem dX9_taskOf_7 : decode cX9_taskOf 7 = .ok (.bipush 40, 2) := by decide +kernel
theorem dX9_taskOf_9 : decode cX9_taskOf 9 = .ok (.if_icmp .gt 12, 3) := by decide +kernel
theorem dX9_taskOf_12 : decode cX9_taskOf 12 = .ok (.aload_n 0, 1) := by decide +kernel
theorem dX9_taskOf_13 : decode cX9_taskOf 13 = .ok (.bipush 51, 2) := by decide +kernel
theorem dX9_taskOf_15 : decode cX9_taskOf 15 = .ok (.invokevirtual 163, 3) := by decide +kernel
theorem dX9_taskOf_18 : decode cX9_taskOf 18 = .ok (.goto (-18), 3) := by decide +kernel
theorem dX9_taskOf_21 : decode cX9_taskOf 21 = .ok (.iconst 0, 1) := by decide +kernel
theorem dX9_taskOf_22 : decode cX9_taskOf 22 = .ok (.istore_n 2, 1) := by decide +kernel
theorem dX9_taskOf_23 : decode cX9_taskOf 23 = .ok (.iconst 0, 1) := by decide +kernel
theorem dX9_taskOf_24 : decode cX9_taskOf 24 = .ok (.istore_n 3, 1) := by decide +kernel
theorem dX9_taskOf_25 : decode cX9_taskOf 25 = .ok (.iload_n 3, 1) := by decide +kernel
theorem dX9_taskOf_26 : decode cX9_taskOf 26 = .ok (.aload_n 0, 1) := by decide +kernel
theorem dX9_taskOf_27 : decode cX9_taskOf 27 = .ok (.getfield 69, 3) := by decide +kernel
theorem dX9_taskOf_30 : decode cX9_taskOf 30 = .ok (.if_icmp .ge 39, 3) := by decide +kernel
theorem dX9_taskOf_33 : decode cX9_taskOf 33 = .ok (.iload_n 2, 1) := by decide +kernel
theorem dX9_taskOf_34 : decode cX9_taskOf 34 = .ok (.aload_n 0, 1) := by decide +kernel
theorem dX9_taskOf_35 : decode cX9_taskOf 35 = .ok (.getfield 7, 3) := by decide +kernel
theorem dX9_taskOf_38 : decode cX9_taskOf 38 = .ok (.bipush 88, 2) := by decide +kernel
theorem dX9_taskOf_40 : decode cX9_taskOf 40 = .ok (.iload_n 1, 1) := by decide +kernel
theorem dX9_taskOf_41 : decode cX9_taskOf 41 = .ok (.iadd, 1) := by decide +kernel
theorem dX9_taskOf_42 : decode cX9_taskOf 42 = .ok (.iaload, 1) := by decide +kernel
theorem dX9_taskOf_43 : decode cX9_taskOf 43 = .ok (.iload_n 3, 1) := by decide +kernel
theorem dX9_taskOf_44 : decode cX9_taskOf 44 = .ok (.invokestatic 141, 3) := by decide +kernel
theorem dX9_taskOf_47 : decode cX9_taskOf 47 = .ok (.ifCond .eq 13, 3) := by decide +kernel
theorem dX9_taskOf_50 : decode cX9_taskOf 50 = .ok (.aload_n 0, 1) := by decide +kernel
theorem dX9_taskOf_51 : decode cX9_taskOf 51 = .ok (.bipush 51, 2) := by decide +kernel
theorem dX9_taskOf_53 : decode cX9_taskOf 53 = .ok (.iload_n 3, 1) := by decide +kernel
theorem dX9_taskOf_54 : decode cX9_taskOf 54 = .ok (.invokevirtual 137, 3) := by decide +kernel
theorem dX9_taskOf_57 : decode cX9_taskOf 57 = .ok (.goto 4, 3) := by decide +kernel
theorem dX9_taskOf_60 : decode cX9_taskOf 60 = .ok (.iconst 0, 1) := by decide +kernel
theorem dX9_taskOf_61 : decode cX9_taskOf 61 = .ok (.iadd, 1) := by decide +kernel
theorem dX9_taskOf_62 : decode cX9_taskOf 62 = .ok (.istore_n 2, 1) := by decide +kernel
theorem dX9_taskOf_63 : decode cX9_taskOf 63 = .ok (.iinc 3 1, 3) := by decide +kernel
theorem dX9_taskOf_66 : decode cX9_taskOf 66 = .ok (.goto (-41), 3) := by decide +kernel
theorem dX9_taskOf_69 : decode cX9_taskOf 69 = .ok (.iload_n 2, 1) := by decide +kernel
theorem dX9_taskOf_70 : decode cX9_taskOf 70 = .ok (.ireturn, 1) := by decide +kernel
theorem dX9_task_0 : decode cX9_task 0 = .ok (.aload_n 0, 1) := by decide +kernel
theorem dX9_task_1 : decode cX9_task 1 = .ok (.iload_n 1, 1) := by decide +kernel
theorem dX9_task_2 : decode cX9_task 2 = .ok (.invokevirtual 131, 3) := by decide +kernel
theorem dX9_task_5 : decode cX9_task 5 = .ok (.ifCond .ne 5, 3) := by decide +kernel
theorem dX9_task_8 : decode cX9_task 8 = .ok (.iconst (-1), 1) := by decide +kernel
theorem dX9_task_9 : decode cX9_task 9 = .ok (.ireturn, 1) := by decide +kernel
theorem dX9_task_10 : decode cX9_task 10 = .ok (.aload_n 0, 1) := by decide +kernel
theorem dX9_task_11 : decode cX9_task 11 = .ok (.invokevirtual 181, 3) := by decide +kernel
theorem dX9_task_14 : decode cX9_task 14 = .ok (.aload_n 0, 1) := by decide +kernel
theorem dX9_task_15 : decode cX9_task 15 = .ok (.iload_n 1, 1) := by decide +kernel
theorem dX9_task_16 : decode cX9_task 16 = .ok (.invokevirtual 184, 3) := by decide +kernel
theorem dX9_task_19 : decode cX9_task 19 = .ok (.ireturn, 1) := by decide +kernel
theorem dX9_early_0 : decode cX9_early 0 = .ok (.aload_n 0, 1) := by decide +kernel
theorem dX9_early_1 : decode cX9_early 1 = .ok (.iload_n 1, 1) := by decide +kernel
theorem dX9_early_2 : decode cX9_early 2 = .ok (.invokevirtual 131, 3) := by decide +kernel
theorem dX9_early_5 : decode cX9_early 5 = .ok (.ifCond .eq 13, 3) := by decide +kernel
theorem dX9_early_8 : decode cX9_early 8 = .ok (.iload_n 2, 1) := by decide +kernel
theorem dX9_early_9 : decode cX9_early 9 = .ok (.i2l, 1) := by decide +kernel
theorem dX9_early_10 : decode cX9_early 10 = .ok (.lconst 0, 1) := by decide +kernel
theorem dX9_early_11 : decode cX9_early 11 = .ok (.lconst 1, 1) := by decide +kernel
theorem dX9_early_12 : decode cX9_early 12 = .ok (.invokestatic 73, 3) := by decide +kernel
theorem dX9_early_15 : decode cX9_early 15 = .ok (.ifCond .ne 5, 3) := by decide +kernel
theorem dX9_early_18 : decode cX9_early 18 = .ok (.iconst (-1), 1) := by decide +kernel
theorem dX9_early_19 : decode cX9_early 19 = .ok (.ireturn, 1) := by decide +kernel
theorem dX9_early_20 : decode cX9_early 20 = .ok (.aload_n 0, 1) := by decide +kernel
theorem dX9_early_21 : decode cX9_early 21 = .ok (.getfield 7, 3) := by decide +kernel
theorem dX9_early_24 : decode cX9_early 24 = .ok (.iconst 2, 1) := by decide +kernel
theorem dX9_early_25 : decode cX9_early 25 = .ok (.iload_n 1, 1) := by decide +kernel
theorem dX9_early_26 : decode cX9_early 26 = .ok (.iadd, 1) := by decide +kernel
theorem dX9_early_27 : decode cX9_early 27 = .ok (.iaload, 1) := by decide +kernel
theorem dX9_early_28 : decode cX9_early 28 = .ok (.ifCond .eq 6, 3) := by decide +kernel
theorem dX9_early_31 : decode cX9_early 31 = .ok (.bipush (-2), 2) := by decide +kernel
theorem dX9_early_33 : decode cX9_early 33 = .ok (.ireturn, 1) := by decide +kernel
theorem dX9_early_34 : decode cX9_early 34 = .ok (.bipush (-4), 2) := by decide +kernel
theorem dX9_early_36 : decode cX9_early 36 = .ok (.istore_n 3, 1) := by decide +kernel
theorem dX9_early_37 : decode cX9_early 37 = .ok (.ldc 187, 2) := by decide +kernel
theorem dX9_early_39 : decode cX9_early 39 = .ok (.istore 4, 2) := by decide +kernel
theorem dX9_early_41 : decode cX9_early 41 = .ok (.aload_n 0, 1) := by decide +kernel
theorem dX9_early_42 : decode cX9_early 42 = .ok (.getfield 7, 3) := by decide +kernel
theorem dX9_early_45 : decode cX9_early 45 = .ok (.iconst 0, 1) := by decide +kernel
theorem dX9_early_46 : decode cX9_early 46 = .ok (.iaload, 1) := by decide +kernel
theorem dX9_early_47 : decode cX9_early 47 = .ok (.istore 5, 2) := by decide +kernel
theorem dX9_early_49 : decode cX9_early 49 = .ok (.iload 5, 2) := by decide +kernel
theorem dX9_early_51 : decode cX9_early 51 = .ok (.bipush 40, 2) := by decide +kernel
theorem dX9_early_53 : decode cX9_early 53 = .ok (.if_icmp .gt 61, 3) := by decide +kernel
theorem dX9_early_56 : decode cX9_early 56 = .ok (.aload_n 0, 1) := by decide +kernel
theorem dX9_early_57 : decode cX9_early 57 = .ok (.invokevirtual 181, 3) := by decide +kernel
theorem dX9_early_60 : decode cX9_early 60 = .ok (.aload_n 0, 1) := by decide +kernel
theorem dX9_early_61 : decode cX9_early 61 = .ok (.getfield 7, 3) := by decide +kernel
theorem dX9_early_64 : decode cX9_early 64 = .ok (.bipush 60, 2) := by decide +kernel
theorem dX9_early_66 : decode cX9_early 66 = .ok (.iload_n 1, 1) := by decide +kernel
theorem dX9_early_67 : decode cX9_early 67 = .ok (.iadd, 1) := by decide +kernel
theorem dX9_early_68 : decode cX9_early 68 = .ok (.iload 5, 2) := by decide +kernel
theorem dX9_early_70 : decode cX9_early 70 = .ok (.iastore, 1) := by decide +kernel
theorem dX9_early_71 : decode cX9_early 71 = .ok (.aload_n 0, 1) := by decide +kernel
theorem dX9_early_72 : decode cX9_early 72 = .ok (.iload_n 1, 1) := by decide +kernel
theorem dX9_early_73 : decode cX9_early 73 = .ok (.invokevirtual 184, 3) := by decide +kernel
theorem dX9_early_76 : decode cX9_early 76 = .ok (.istore 6, 2) := by decide +kernel
theorem dX9_early_78 : decode cX9_early 78 = .ok (.iload 6, 2) := by decide +kernel
theorem dX9_early_80 : decode cX9_early 80 = .ok (.iload 4, 2) := by decide +kernel
theorem dX9_early_82 : decode cX9_early 82 = .ok (.if_icmp .ge 8, 3) := by decide +kernel
theorem dX9_early_85 : decode cX9_early 85 = .ok (.iload 5, 2) := by decide +kernel
theorem dX9_early_87 : decode cX9_early 87 = .ok (.goto 4, 3) := by decide +kernel
theorem dX9_early_90 : decode cX9_early 90 = .ok (.iload_n 3, 1) := by decide +kernel
theorem dX9_early_91 : decode cX9_early 91 = .ok (.istore_n 3, 1) := by decide +kernel
theorem dX9_early_92 : decode cX9_early 92 = .ok (.iload 6, 2) := by decide +kernel
theorem dX9_early_94 : decode cX9_early 94 = .ok (.iload 4, 2) := by decide +kernel
theorem dX9_early_96 : decode cX9_early 96 = .ok (.if_icmp .ge 8, 3) := by decide +kernel
theorem dX9_early_99 : decode cX9_early 99 = .ok (.iload 6, 2) := by decide +kernel
theorem dX9_early_101 : decode cX9_early 101 = .ok (.goto 5, 3) := by decide +kernel
theorem dX9_early_104 : decode cX9_early 104 = .ok (.iload 4, 2) := by decide +kernel
theorem dX9_early_106 : decode cX9_early 106 = .ok (.istore 4, 2) := by decide +kernel
theorem dX9_early_108 : decode cX9_early 108 = .ok (.iinc 5 1, 3) := by decide +kernel
theorem dX9_early_111 : decode cX9_early 111 = .ok (.goto (-62), 3) := by decide +kernel
theorem dX9_early_114 : decode cX9_early 114 = .ok (.iload_n 3, 1) := by decide +kernel
theorem dX9_early_115 : decode cX9_early 115 = .ok (.bipush (-4), 2) := by decide +kernel
theorem dX9_early_117 : decode cX9_early 117 = .ok (.if_icmp .ne 8, 3) := by decide +kernel
theorem dX9_early_120 : decode cX9_early 120 = .ok (.bipush (-4), 2) := by decide +kernel
theorem dX9_early_122 : decode cX9_early 122 = .ok (.goto 13, 3) := by decide +kernel
theorem dX9_early_125 : decode cX9_early 125 = .ok (.iload_n 2, 1) := by decide +kernel
theorem dX9_early_126 : decode cX9_early 126 = .ok (.ifCond .ne 7, 3) := by decide +kernel
theorem dX9_early_129 : decode cX9_early 129 = .ok (.iload_n 3, 1) := by decide +kernel
theorem dX9_early_130 : decode cX9_early 130 = .ok (.goto 5, 3) := by decide +kernel
theorem dX9_early_133 : decode cX9_early 133 = .ok (.iload 4, 2) := by decide +kernel
theorem dX9_early_135 : decode cX9_early 135 = .ok (.ireturn, 1) := by decide +kernel
theorem dX9_isDone_0 : decode cX9_isDone 0 = .ok (.iconst 1, 1) := by decide +kernel
theorem dX9_isDone_1 : decode cX9_isDone 1 = .ok (.istore_n 2, 1) := by decide +kernel
theorem dX9_isDone_2 : decode cX9_isDone 2 = .ok (.iconst 0, 1) := by decide +kernel
theorem dX9_isDone_3 : decode cX9_isDone 3 = .ok (.istore_n 3, 1) := by decide +kernel
theorem dX9_isDone_4 : decode cX9_isDone 4 = .ok (.iload_n 3, 1) := by decide +kernel
theorem dX9_isDone_5 : decode cX9_isDone 5 = .ok (.aload_n 0, 1) := by decide +kernel
theorem dX9_isDone_6 : decode cX9_isDone 6 = .ok (.getfield 69, 3) := by decide +kernel
theorem dX9_isDone_9 : decode cX9_isDone 9 = .ok (.if_icmp .ge 58, 3) := by decide +kernel
theorem dX9_isDone_12 : decode cX9_isDone 12 = .ok (.iload_n 2, 1) := by decide +kernel
theorem dX9_isDone_13 : decode cX9_isDone 13 = .ok (.ifCond .eq 46, 3) := by decide +kernel
theorem dX9_isDone_16 : decode cX9_isDone 16 = .ok (.aload_n 0, 1) := by decide +kernel
theorem dX9_isDone_17 : decode cX9_isDone 17 = .ok (.getfield 7, 3) := by decide +kernel
theorem dX9_isDone_20 : decode cX9_isDone 20 = .ok (.iload_n 1, 1) := by decide +kernel
theorem dX9_isDone_21 : decode cX9_isDone 21 = .ok (.iconst 2, 1) := by decide +kernel
theorem dX9_isDone_22 : decode cX9_isDone 22 = .ok (.iadd, 1) := by decide +kernel
theorem dX9_isDone_23 : decode cX9_isDone 23 = .ok (.iload_n 3, 1) := by decide +kernel
theorem dX9_isDone_24 : decode cX9_isDone 24 = .ok (.iadd, 1) := by decide +kernel
theorem dX9_isDone_25 : decode cX9_isDone 25 = .ok (.iaload, 1) := by decide +kernel
theorem dX9_isDone_26 : decode cX9_isDone 26 = .ok (.ifCond .eq 33, 3) := by decide +kernel
theorem dX9_isDone_29 : decode cX9_isDone 29 = .ok (.aload_n 0, 1) := by decide +kernel
theorem dX9_isDone_30 : decode cX9_isDone 30 = .ok (.getfield 7, 3) := by decide +kernel
theorem dX9_isDone_33 : decode cX9_isDone 33 = .ok (.iload_n 1, 1) := by decide +kernel
theorem dX9_isDone_34 : decode cX9_isDone 34 = .ok (.iconst 2, 1) := by decide +kernel
theorem dX9_isDone_35 : decode cX9_isDone 35 = .ok (.iadd, 1) := by decide +kernel
theorem dX9_isDone_36 : decode cX9_isDone 36 = .ok (.iload_n 3, 1) := by decide +kernel
theorem dX9_isDone_37 : decode cX9_isDone 37 = .ok (.iadd, 1) := by decide +kernel
theorem dX9_isDone_38 : decode cX9_isDone 38 = .ok (.iaload, 1) := by decide +kernel
theorem dX9_isDone_39 : decode cX9_isDone 39 = .ok (.iconst 1, 1) := by decide +kernel
theorem dX9_isDone_40 : decode cX9_isDone 40 = .ok (.if_icmp .ne 15, 3) := by decide +kernel
theorem dX9_isDone_43 : decode cX9_isDone 43 = .ok (.aload_n 0, 1) := by decide +kernel
theorem dX9_isDone_44 : decode cX9_isDone 44 = .ok (.getfield 7, 3) := by decide +kernel
theorem dX9_isDone_47 : decode cX9_isDone 47 = .ok (.iload_n 1, 1) := by decide +kernel
theorem dX9_isDone_48 : decode cX9_isDone 48 = .ok (.iconst 1, 1) := by decide +kernel
theorem dX9_isDone_49 : decode cX9_isDone 49 = .ok (.iadd, 1) := by decide +kernel
theorem dX9_isDone_50 : decode cX9_isDone 50 = .ok (.iaload, 1) := by decide +kernel
theorem dX9_isDone_51 : decode cX9_isDone 51 = .ok (.iload_n 3, 1) := by decide +kernel
theorem dX9_isDone_52 : decode cX9_isDone 52 = .ok (.if_icmp .ne 7, 3) := by decide +kernel
theorem dX9_isDone_55 : decode cX9_isDone 55 = .ok (.iconst 1, 1) := by decide +kernel
theorem dX9_isDone_56 : decode cX9_isDone 56 = .ok (.goto 4, 3) := by decide +kernel
theorem dX9_isDone_59 : decode cX9_isDone 59 = .ok (.iconst 0, 1) := by decide +kernel
theorem dX9_isDone_60 : decode cX9_isDone 60 = .ok (.istore_n 2, 1) := by decide +kernel
theorem dX9_isDone_61 : decode cX9_isDone 61 = .ok (.iinc 3 1, 3) := by decide +kernel
theorem dX9_isDone_64 : decode cX9_isDone 64 = .ok (.goto (-60), 3) := by decide +kernel
theorem dX9_isDone_67 : decode cX9_isDone 67 = .ok (.iload_n 2, 1) := by decide +kernel
theorem dX9_isDone_68 : decode cX9_isDone 68 = .ok (.ireturn, 1) := by decide +kernel
theorem dX9_doneBy_0 : decode cX9_doneBy 0 = .ok (.iconst 0, 1) := by decide +kernel
theorem dX9_doneBy_1 : decode cX9_doneBy 1 = .ok (.istore_n 1, 1) := by decide +kernel
theorem dX9_doneBy_2 : decode cX9_doneBy 2 = .ok (.iload_n 1, 1) := by decide +kernel
theorem dX9_doneBy_3 : decode cX9_doneBy 3 = .ok (.bipush 99, 2) := by decide +kernel
theorem dX9_doneBy_5 : decode cX9_doneBy 5 = .ok (.if_icmp .gt 26, 3) := by decide +kernel
theorem dX9_doneBy_8 : decode cX9_doneBy 8 = .ok (.aload_n 0, 1) := by decide +kernel
theorem dX9_doneBy_9 : decode cX9_doneBy 9 = .ok (.bipush 51, 2) := by decide +kernel
theorem dX9_doneBy_11 : decode cX9_doneBy 11 = .ok (.invokevirtual 188, 3) := by decide +kernel
theorem dX9_doneBy_14 : decode cX9_doneBy 14 = .ok (.ifCond .eq 5, 3) := by decide +kernel
theorem dX9_doneBy_17 : decode cX9_doneBy 17 = .ok (.iload_n 1, 1) := by decide +kernel
theorem dX9_doneBy_18 : decode cX9_doneBy 18 = .ok (.ireturn, 1) := by decide +kernel
theorem dX9_doneBy_19 : decode cX9_doneBy 19 = .ok (.aload_n 0, 1) := by decide +kernel
theorem dX9_doneBy_20 : decode cX9_doneBy 20 = .ok (.bipush 51, 2) := by decide +kernel
theorem dX9_doneBy_22 : decode cX9_doneBy 22 = .ok (.invokevirtual 163, 3) := by decide +kernel
theorem dX9_doneBy_25 : decode cX9_doneBy 25 = .ok (.iinc 1 1, 3) := by decide +kernel
theorem dX9_doneBy_28 : decode cX9_doneBy 28 = .ok (.goto (-26), 3) := by decide +kernel
theorem dX9_doneBy_31 : decode cX9_doneBy 31 = .ok (.ldc 187, 2) := by decide +kernel
theorem dX9_doneBy_33 : decode cX9_doneBy 33 = .ok (.ireturn, 1) := by decide +kernel
theorem dX9_done_0 : decode cX9_done 0 = .ok (.aload_n 0, 1) := by decide +kernel
theorem dX9_done_1 : decode cX9_done 1 = .ok (.invokevirtual 181, 3) := by decide +kernel
theorem dX9_done_4 : decode cX9_done 4 = .ok (.aload_n 0, 1) := by decide +kernel
theorem dX9_done_5 : decode cX9_done 5 = .ok (.invokevirtual 191, 3) := by decide +kernel
theorem dX9_done_8 : decode cX9_done 8 = .ok (.istore_n 1, 1) := by decide +kernel
theorem dX9_done_9 : decode cX9_done 9 = .ok (.iload_n 1, 1) := by decide +kernel
theorem dX9_done_10 : decode cX9_done 10 = .ok (.ldc 187, 2) := by decide +kernel
theorem dX9_done_12 : decode cX9_done 12 = .ok (.if_icmp .ne 8, 3) := by decide +kernel
theorem dX9_done_15 : decode cX9_done 15 = .ok (.bipush (-4), 2) := by decide +kernel
theorem dX9_done_17 : decode cX9_done 17 = .ok (.goto 4, 3) := by decide +kernel
theorem dX9_done_20 : decode cX9_done 20 = .ok (.iload_n 1, 1) := by decide +kernel
theorem dX9_done_21 : decode cX9_done 21 = .ok (.ireturn, 1) := by decide +kernel
theorem dX9_bestDeal_0 : decode cX9_bestDeal 0 = .ok (.iconst 0, 1) := by decide +kernel
theorem dX9_bestDeal_1 : decode cX9_bestDeal 1 = .ok (.istore_n 1, 1) := by decide +kernel
theorem dX9_bestDeal_2 : decode cX9_bestDeal 2 = .ok (.iconst 0, 1) := by decide +kernel
theorem dX9_bestDeal_3 : decode cX9_bestDeal 3 = .ok (.istore_n 2, 1) := by decide +kernel
theorem dX9_bestDeal_4 : decode cX9_bestDeal 4 = .ok (.iload_n 2, 1) := by decide +kernel
theorem dX9_bestDeal_5 : decode cX9_bestDeal 5 = .ok (.aload_n 0, 1) := by decide +kernel
theorem dX9_bestDeal_6 : decode cX9_bestDeal 6 = .ok (.getfield 69, 3) := by decide +kernel
theorem dX9_bestDeal_9 : decode cX9_bestDeal 9 = .ok (.if_icmp .ge 30, 3) := by decide +kernel
theorem dX9_bestDeal_12 : decode cX9_bestDeal 12 = .ok (.aload_n 0, 1) := by decide +kernel
theorem dX9_bestDeal_13 : decode cX9_bestDeal 13 = .ok (.getfield 7, 3) := by decide +kernel
theorem dX9_bestDeal_16 : decode cX9_bestDeal 16 = .ok (.iconst 2, 1) := by decide +kernel
theorem dX9_bestDeal_17 : decode cX9_bestDeal 17 = .ok (.iload_n 2, 1) := by decide +kernel
theorem dX9_bestDeal_18 : decode cX9_bestDeal 18 = .ok (.iadd, 1) := by decide +kernel
theorem dX9_bestDeal_19 : decode cX9_bestDeal 19 = .ok (.iaload, 1) := by decide +kernel
theorem dX9_bestDeal_20 : decode cX9_bestDeal 20 = .ok (.ifCond .ne 13, 3) := by decide +kernel
theorem dX9_bestDeal_23 : decode cX9_bestDeal 23 = .ok (.aload_n 0, 1) := by decide +kernel
theorem dX9_bestDeal_24 : decode cX9_bestDeal 24 = .ok (.getfield 40, 3) := by decide +kernel
theorem dX9_bestDeal_27 : decode cX9_bestDeal 27 = .ok (.iload_n 1, 1) := by decide +kernel
theorem dX9_bestDeal_28 : decode cX9_bestDeal 28 = .ok (.iload_n 2, 1) := by decide +kernel
theorem dX9_bestDeal_29 : decode cX9_bestDeal 29 = .ok (.iastore, 1) := by decide +kernel
theorem dX9_bestDeal_30 : decode cX9_bestDeal 30 = .ok (.iinc 1 1, 3) := by decide +kernel
theorem dX9_bestDeal_33 : decode cX9_bestDeal 33 = .ok (.iinc 2 1, 3) := by decide +kernel
theorem dX9_bestDeal_36 : decode cX9_bestDeal 36 = .ok (.goto (-32), 3) := by decide +kernel
theorem dX9_bestDeal_39 : decode cX9_bestDeal 39 = .ok (.ldc 187, 2) := by decide +kernel
theorem dX9_bestDeal_41 : decode cX9_bestDeal 41 = .ok (.istore_n 2, 1) := by decide +kernel
theorem dX9_bestDeal_42 : decode cX9_bestDeal 42 = .ok (.iconst 0, 1) := by decide +kernel
theorem dX9_bestDeal_43 : decode cX9_bestDeal 43 = .ok (.istore_n 3, 1) := by decide +kernel
theorem dX9_bestDeal_44 : decode cX9_bestDeal 44 = .ok (.aload_n 0, 1) := by decide +kernel
theorem dX9_bestDeal_45 : decode cX9_bestDeal 45 = .ok (.getfield 43, 3) := by decide +kernel
theorem dX9_bestDeal_48 : decode cX9_bestDeal 48 = .ok (.iconst 0, 1) := by decide +kernel
theorem dX9_bestDeal_49 : decode cX9_bestDeal 49 = .ok (.iconst (-1), 1) := by decide +kernel
theorem dX9_bestDeal_50 : decode cX9_bestDeal 50 = .ok (.iastore, 1) := by decide +kernel
theorem dX9_bestDeal_51 : decode cX9_bestDeal 51 = .ok (.iload_n 3, 1) := by decide +kernel
theorem dX9_bestDeal_52 : decode cX9_bestDeal 52 = .ok (.ifCond .lt 219, 3) := by decide +kernel
theorem dX9_bestDeal_55 : decode cX9_bestDeal 55 = .ok (.iconst 0, 1) := by decide +kernel
theorem dX9_bestDeal_56 : decode cX9_bestDeal 56 = .ok (.istore 4, 2) := by decide +kernel
theorem dX9_bestDeal_58 : decode cX9_bestDeal 58 = .ok (.iconst 0, 1) := by decide +kernel
theorem dX9_bestDeal_59 : decode cX9_bestDeal 59 = .ok (.istore 5, 2) := by decide +kernel
theorem dX9_bestDeal_61 : decode cX9_bestDeal 61 = .ok (.iload 5, 2) := by decide +kernel
theorem dX9_bestDeal_63 : decode cX9_bestDeal 63 = .ok (.iload_n 3, 1) := by decide +kernel
theorem dX9_bestDeal_64 : decode cX9_bestDeal 64 = .ok (.if_icmp .ge 23, 3) := by decide +kernel
theorem dX9_bestDeal_67 : decode cX9_bestDeal 67 = .ok (.iload 4, 2) := by decide +kernel
theorem dX9_bestDeal_69 : decode cX9_bestDeal 69 = .ok (.iconst 1, 1) := by decide +kernel
theorem dX9_bestDeal_70 : decode cX9_bestDeal 70 = .ok (.aload_n 0, 1) := by decide +kernel
theorem dX9_bestDeal_71 : decode cX9_bestDeal 71 = .ok (.getfield 43, 3) := by decide +kernel
theorem dX9_bestDeal_74 : decode cX9_bestDeal 74 = .ok (.iload 5, 2) := by decide +kernel
theorem dX9_bestDeal_76 : decode cX9_bestDeal 76 = .ok (.iaload, 1) := by decide +kernel
theorem dX9_bestDeal_77 : decode cX9_bestDeal 77 = .ok (.ishl, 1) := by decide +kernel
theorem dX9_bestDeal_78 : decode cX9_bestDeal 78 = .ok (.ior, 1) := by decide +kernel
theorem dX9_bestDeal_79 : decode cX9_bestDeal 79 = .ok (.istore 4, 2) := by decide +kernel
theorem dX9_bestDeal_81 : decode cX9_bestDeal 81 = .ok (.iinc 5 1, 3) := by decide +kernel
theorem dX9_bestDeal_84 : decode cX9_bestDeal 84 = .ok (.goto (-23), 3) := by decide +kernel
theorem dX9_bestDeal_87 : decode cX9_bestDeal 87 = .ok (.iload_n 3, 1) := by decide +kernel
theorem dX9_bestDeal_88 : decode cX9_bestDeal 88 = .ok (.iload_n 1, 1) := by decide +kernel
theorem dX9_bestDeal_89 : decode cX9_bestDeal 89 = .ok (.if_icmp .ne 117, 3) := by decide +kernel
theorem dX9_bestDeal_92 : decode cX9_bestDeal 92 = .ok (.aload_n 0, 1) := by decide +kernel
theorem dX9_bestDeal_93 : decode cX9_bestDeal 93 = .ok (.invokevirtual 181, 3) := by decide +kernel
theorem dX9_bestDeal_96 : decode cX9_bestDeal 96 = .ok (.iconst 0, 1) := by decide +kernel
theorem dX9_bestDeal_97 : decode cX9_bestDeal 97 = .ok (.istore 5, 2) := by decide +kernel
theorem dX9_bestDeal_99 : decode cX9_bestDeal 99 = .ok (.iload 5, 2) := by decide +kernel
theorem dX9_bestDeal_101 : decode cX9_bestDeal 101 = .ok (.iload_n 1, 1) := by decide +kernel
theorem dX9_bestDeal_102 : decode cX9_bestDeal 102 = .ok (.if_icmp .ge 44, 3) := by decide +kernel
theorem dX9_bestDeal_105 : decode cX9_bestDeal 105 = .ok (.aload_n 0, 1) := by decide +kernel
theorem dX9_bestDeal_106 : decode cX9_bestDeal 106 = .ok (.getfield 7, 3) := by decide +kernel
theorem dX9_bestDeal_109 : decode cX9_bestDeal 109 = .ok (.bipush 67, 2) := by decide +kernel
theorem dX9_bestDeal_111 : decode cX9_bestDeal 111 = .ok (.aload_n 0, 1) := by decide +kernel
theorem dX9_bestDeal_112 : decode cX9_bestDeal 112 = .ok (.getfield 40, 3) := by decide +kernel
theorem dX9_bestDeal_115 : decode cX9_bestDeal 115 = .ok (.iload 5, 2) := by decide +kernel
theorem dX9_bestDeal_117 : decode cX9_bestDeal 117 = .ok (.iaload, 1) := by decide +kernel
theorem dX9_bestDeal_118 : decode cX9_bestDeal 118 = .ok (.iadd, 1) := by decide +kernel
theorem dX9_bestDeal_119 : decode cX9_bestDeal 119 = .ok (.aload_n 0, 1) := by decide +kernel
theorem dX9_bestDeal_120 : decode cX9_bestDeal 120 = .ok (.getfield 7, 3) := by decide +kernel
theorem dX9_bestDeal_123 : decode cX9_bestDeal 123 = .ok (.bipush 16, 2) := by decide +kernel
theorem dX9_bestDeal_125 : decode cX9_bestDeal 125 = .ok (.aload_n 0, 1) := by decide +kernel
theorem dX9_bestDeal_126 : decode cX9_bestDeal 126 = .ok (.getfield 40, 3) := by decide +kernel
theorem dX9_bestDeal_129 : decode cX9_bestDeal 129 = .ok (.aload_n 0, 1) := by decide +kernel
theorem dX9_bestDeal_130 : decode cX9_bestDeal 130 = .ok (.getfield 43, 3) := by decide +kernel
theorem dX9_bestDeal_133 : decode cX9_bestDeal 133 = .ok (.iload 5, 2) := by decide +kernel
theorem dX9_bestDeal_135 : decode cX9_bestDeal 135 = .ok (.iaload, 1) := by decide +kernel
theorem dX9_bestDeal_136 : decode cX9_bestDeal 136 = .ok (.iaload, 1) := by decide +kernel
theorem dX9_bestDeal_137 : decode cX9_bestDeal 137 = .ok (.iadd, 1) := by decide +kernel
theorem dX9_bestDeal_138 : decode cX9_bestDeal 138 = .ok (.iaload, 1) := by decide +kernel
theorem dX9_bestDeal_139 : decode cX9_bestDeal 139 = .ok (.iastore, 1) := by decide +kernel
theorem dX9_bestDeal_140 : decode cX9_bestDeal 140 = .ok (.iinc 5 1, 3) := by decide +kernel
theorem dX9_bestDeal_143 : decode cX9_bestDeal 143 = .ok (.goto (-44), 3) := by decide +kernel
theorem dX9_bestDeal_146 : decode cX9_bestDeal 146 = .ok (.aload_n 0, 1) := by decide +kernel
theorem dX9_bestDeal_147 : decode cX9_bestDeal 147 = .ok (.invokevirtual 191, 3) := by decide +kernel
theorem dX9_bestDeal_150 : decode cX9_bestDeal 150 = .ok (.istore 5, 2) := by decide +kernel
theorem dX9_bestDeal_152 : decode cX9_bestDeal 152 = .ok (.iload 5, 2) := by decide +kernel
theorem dX9_bestDeal_154 : decode cX9_bestDeal 154 = .ok (.iload_n 2, 1) := by decide +kernel
theorem dX9_bestDeal_155 : decode cX9_bestDeal 155 = .ok (.if_icmp .ge 45, 3) := by decide +kernel
theorem dX9_bestDeal_158 : decode cX9_bestDeal 158 = .ok (.iload 5, 2) := by decide +kernel
theorem dX9_bestDeal_160 : decode cX9_bestDeal 160 = .ok (.istore_n 2, 1) := by decide +kernel
theorem dX9_bestDeal_161 : decode cX9_bestDeal 161 = .ok (.iconst 0, 1) := by decide +kernel
theorem dX9_bestDeal_162 : decode cX9_bestDeal 162 = .ok (.istore 6, 2) := by decide +kernel
theorem dX9_bestDeal_164 : decode cX9_bestDeal 164 = .ok (.iload 6, 2) := by decide +kernel
theorem dX9_bestDeal_166 : decode cX9_bestDeal 166 = .ok (.iload_n 1, 1) := by decide +kernel
theorem dX9_bestDeal_167 : decode cX9_bestDeal 167 = .ok (.if_icmp .ge 33, 3) := by decide +kernel
theorem dX9_bestDeal_170 : decode cX9_bestDeal 170 = .ok (.aload_n 0, 1) := by decide +kernel
theorem dX9_bestDeal_171 : decode cX9_bestDeal 171 = .ok (.getfield 46, 3) := by decide +kernel
theorem dX9_bestDeal_174 : decode cX9_bestDeal 174 = .ok (.aload_n 0, 1) := by decide +kernel
theorem dX9_bestDeal_175 : decode cX9_bestDeal 175 = .ok (.getfield 40, 3) := by decide +kernel
theorem dX9_bestDeal_178 : decode cX9_bestDeal 178 = .ok (.iload 6, 2) := by decide +kernel
theorem dX9_bestDeal_180 : decode cX9_bestDeal 180 = .ok (.iaload, 1) := by decide +kernel
theorem dX9_bestDeal_181 : decode cX9_bestDeal 181 = .ok (.aload_n 0, 1) := by decide +kernel
theorem dX9_bestDeal_182 : decode cX9_bestDeal 182 = .ok (.getfield 40, 3) := by decide +kernel
theorem dX9_bestDeal_185 : decode cX9_bestDeal 185 = .ok (.aload_n 0, 1) := by decide +kernel
theorem dX9_bestDeal_186 : decode cX9_bestDeal 186 = .ok (.getfield 43, 3) := by decide +kernel
theorem dX9_bestDeal_189 : decode cX9_bestDeal 189 = .ok (.iload 6, 2) := by decide +kernel
theorem dX9_bestDeal_191 : decode cX9_bestDeal 191 = .ok (.iaload, 1) := by decide +kernel
theorem dX9_bestDeal_192 : decode cX9_bestDeal 192 = .ok (.iaload, 1) := by decide +kernel
theorem dX9_bestDeal_193 : decode cX9_bestDeal 193 = .ok (.iastore, 1) := by decide +kernel
theorem dX9_bestDeal_194 : decode cX9_bestDeal 194 = .ok (.iinc 6 1, 3) := by decide +kernel
theorem dX9_bestDeal_197 : decode cX9_bestDeal 197 = .ok (.goto (-33), 3) := by decide +kernel
theorem dX9_bestDeal_200 : decode cX9_bestDeal 200 = .ok (.iinc 3 (-1), 3) := by decide +kernel
theorem dX9_bestDeal_203 : decode cX9_bestDeal 203 = .ok (.goto 65, 3) := by decide +kernel
theorem dX9_bestDeal_206 : decode cX9_bestDeal 206 = .ok (.aload_n 0, 1) := by decide +kernel
theorem dX9_bestDeal_207 : decode cX9_bestDeal 207 = .ok (.getfield 43, 3) := by decide +kernel
theorem dX9_bestDeal_210 : decode cX9_bestDeal 210 = .ok (.iload_n 3, 1) := by decide +kernel
theorem dX9_bestDeal_211 : decode cX9_bestDeal 211 = .ok (.iaload, 1) := by decide +kernel
theorem dX9_bestDeal_212 : decode cX9_bestDeal 212 = .ok (.iconst 1, 1) := by decide +kernel
theorem dX9_bestDeal_213 : decode cX9_bestDeal 213 = .ok (.iadd, 1) := by decide +kernel
theorem dX9_bestDeal_214 : decode cX9_bestDeal 214 = .ok (.istore 5, 2) := by decide +kernel
theorem dX9_bestDeal_216 : decode cX9_bestDeal 216 = .ok (.iload 5, 2) := by decide +kernel
theorem dX9_bestDeal_218 : decode cX9_bestDeal 218 = .ok (.iload_n 1, 1) := by decide +kernel
theorem dX9_bestDeal_219 : decode cX9_bestDeal 219 = .ok (.if_icmp .ge 19, 3) := by decide +kernel
theorem dX9_bestDeal_222 : decode cX9_bestDeal 222 = .ok (.iload 4, 2) := by decide +kernel
theorem dX9_bestDeal_224 : decode cX9_bestDeal 224 = .ok (.iload 5, 2) := by decide +kernel
theorem dX9_bestDeal_226 : decode cX9_bestDeal 226 = .ok (.invokestatic 141, 3) := by decide +kernel
theorem dX9_bestDeal_229 : decode cX9_bestDeal 229 = .ok (.ifCond .eq 9, 3) := by decide +kernel
theorem dX9_bestDeal_232 : decode cX9_bestDeal 232 = .ok (.iinc 5 1, 3) := by decide +kernel
theorem dX9_bestDeal_235 : decode cX9_bestDeal 235 = .ok (.goto (-19), 3) := by decide +kernel
theorem dX9_bestDeal_238 : decode cX9_bestDeal 238 = .ok (.aload_n 0, 1) := by decide +kernel
theorem dX9_bestDeal_239 : decode cX9_bestDeal 239 = .ok (.getfield 43, 3) := by decide +kernel
theorem dX9_bestDeal_242 : decode cX9_bestDeal 242 = .ok (.iload_n 3, 1) := by decide +kernel
theorem dX9_bestDeal_243 : decode cX9_bestDeal 243 = .ok (.iload 5, 2) := by decide +kernel
theorem dX9_bestDeal_245 : decode cX9_bestDeal 245 = .ok (.iastore, 1) := by decide +kernel
theorem dX9_bestDeal_246 : decode cX9_bestDeal 246 = .ok (.iload 5, 2) := by decide +kernel
theorem dX9_bestDeal_248 : decode cX9_bestDeal 248 = .ok (.iload_n 1, 1) := by decide +kernel
theorem dX9_bestDeal_249 : decode cX9_bestDeal 249 = .ok (.if_icmp .ne 9, 3) := by decide +kernel
theorem dX9_bestDeal_252 : decode cX9_bestDeal 252 = .ok (.iinc 3 (-1), 3) := by decide +kernel
theorem dX9_bestDeal_255 : decode cX9_bestDeal 255 = .ok (.goto 13, 3) := by decide +kernel
theorem dX9_bestDeal_258 : decode cX9_bestDeal 258 = .ok (.iinc 3 1, 3) := by decide +kernel
theorem dX9_bestDeal_261 : decode cX9_bestDeal 261 = .ok (.aload_n 0, 1) := by decide +kernel
theorem dX9_bestDeal_262 : decode cX9_bestDeal 262 = .ok (.getfield 43, 3) := by decide +kernel
theorem dX9_bestDeal_265 : decode cX9_bestDeal 265 = .ok (.iload_n 3, 1) := by decide +kernel
theorem dX9_bestDeal_266 : decode cX9_bestDeal 266 = .ok (.iconst (-1), 1) := by decide +kernel
theorem dX9_bestDeal_267 : decode cX9_bestDeal 267 = .ok (.iastore, 1) := by decide +kernel
theorem dX9_bestDeal_268 : decode cX9_bestDeal 268 = .ok (.goto (-217), 3) := by decide +kernel
theorem dX9_bestDeal_271 : decode cX9_bestDeal 271 = .ok (.iload_n 2, 1) := by decide +kernel
theorem dX9_bestDeal_272 : decode cX9_bestDeal 272 = .ok (.ireturn, 1) := by decide +kernel
theorem dX9_deal_0 : decode cX9_deal 0 = .ok (.iload_n 1, 1) := by decide +kernel
theorem dX9_deal_1 : decode cX9_deal 1 = .ok (.iconst (-1), 1) := by decide +kernel
theorem dX9_deal_2 : decode cX9_deal 2 = .ok (.if_icmp .eq 13, 3) := by decide +kernel
theorem dX9_deal_5 : decode cX9_deal 5 = .ok (.aload_n 0, 1) := by decide +kernel
theorem dX9_deal_6 : decode cX9_deal 6 = .ok (.iload_n 1, 1) := by decide +kernel
theorem dX9_deal_7 : decode cX9_deal 7 = .ok (.invokevirtual 131, 3) := by decide +kernel
theorem dX9_deal_10 : decode cX9_deal 10 = .ok (.ifCond .ne 5, 3) := by decide +kernel
theorem dX9_deal_13 : decode cX9_deal 13 = .ok (.iconst (-1), 1) := by decide +kernel
theorem dX9_deal_14 : decode cX9_deal 14 = .ok (.ireturn, 1) := by decide +kernel
theorem dX9_deal_15 : decode cX9_deal 15 = .ok (.aload_n 0, 1) := by decide +kernel
theorem dX9_deal_16 : decode cX9_deal 16 = .ok (.invokevirtual 194, 3) := by decide +kernel
theorem dX9_deal_19 : decode cX9_deal 19 = .ok (.istore_n 2, 1) := by decide +kernel
theorem dX9_deal_20 : decode cX9_deal 20 = .ok (.iload_n 2, 1) := by decide +kernel
theorem dX9_deal_21 : decode cX9_deal 21 = .ok (.ldc 187, 2) := by decide +kernel
theorem dX9_deal_23 : decode cX9_deal 23 = .ok (.if_icmp .ne 6, 3) := by decide +kernel
theorem dX9_deal_26 : decode cX9_deal 26 = .ok (.bipush (-4), 2) := by decide +kernel
theorem dX9_deal_28 : decode cX9_deal 28 = .ok (.ireturn, 1) := by decide +kernel
theorem dX9_deal_29 : decode cX9_deal 29 = .ok (.iload_n 1, 1) := by decide +kernel
theorem dX9_deal_30 : decode cX9_deal 30 = .ok (.iconst (-1), 1) := by decide +kernel
theorem dX9_deal_31 : decode cX9_deal 31 = .ok (.if_icmp .ne 7, 3) := by decide +kernel
theorem dX9_deal_34 : decode cX9_deal 34 = .ok (.iload_n 2, 1) := by decide +kernel
theorem dX9_deal_35 : decode cX9_deal 35 = .ok (.goto 25, 3) := by decide +kernel
theorem dX9_deal_38 : decode cX9_deal 38 = .ok (.aload_n 0, 1) := by decide +kernel
theorem dX9_deal_39 : decode cX9_deal 39 = .ok (.getfield 7, 3) := by decide +kernel
theorem dX9_deal_42 : decode cX9_deal 42 = .ok (.iconst 2, 1) := by decide +kernel
theorem dX9_deal_43 : decode cX9_deal 43 = .ok (.iload_n 1, 1) := by decide +kernel
theorem dX9_deal_44 : decode cX9_deal 44 = .ok (.iadd, 1) := by decide +kernel
theorem dX9_deal_45 : decode cX9_deal 45 = .ok (.iaload, 1) := by decide +kernel
theorem dX9_deal_46 : decode cX9_deal 46 = .ok (.ifCond .ne 12, 3) := by decide +kernel
theorem dX9_deal_49 : decode cX9_deal 49 = .ok (.aload_n 0, 1) := by decide +kernel
theorem dX9_deal_50 : decode cX9_deal 50 = .ok (.getfield 46, 3) := by decide +kernel
theorem dX9_deal_53 : decode cX9_deal 53 = .ok (.iload_n 1, 1) := by decide +kernel
theorem dX9_deal_54 : decode cX9_deal 54 = .ok (.iaload, 1) := by decide +kernel
theorem dX9_deal_55 : decode cX9_deal 55 = .ok (.goto 5, 3) := by decide +kernel
theorem dX9_deal_58 : decode cX9_deal 58 = .ok (.bipush (-4), 2) := by decide +kernel
theorem dX9_deal_60 : decode cX9_deal 60 = .ok (.ireturn, 1) := by decide +kernel
theorem dX9_off_0 : decode cX9_off 0 = .ok (.iload_n 1, 1) := by decide +kernel
theorem dX9_off_1 : decode cX9_off 1 = .ok (.i2l, 1) := by decide +kernel
