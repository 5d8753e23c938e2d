theorem d_M_poke_0 : decode M_M_poke.2.1 0 = .ok (.aload_n 0, 1) := by decide +kernel
theorem d_M_poke_1 : decode M_M_poke.2.1 1 = .ok (.getfield 66, 3) := by decide +kernel
theorem d_M_poke_4 : decode M_M_poke.2.1 4 = .ok (.bipush (6), 2) := by decide +kernel
theorem d_M_poke_6 : decode M_M_poke.2.1 6 = .ok (.if_icmp .gt (26), 3) := by decide +kernel
theorem d_M_poke_9 : decode M_M_poke.2.1 9 = .ok (.iload_n 1, 1) := by decide +kernel
theorem d_M_poke_10 : decode M_M_poke.2.1 10 = .ok (.iload_n 3, 1) := by decide +kernel
theorem d_M_poke_11 : decode M_M_poke.2.1 11 = .ok (.if_icmp .eq (21), 3) := by decide +kernel
theorem d_M_poke_14 : decode M_M_poke.2.1 14 = .ok (.aload_n 0, 1) := by decide +kernel
theorem d_M_poke_15 : decode M_M_poke.2.1 15 = .ok (.iload_n 1, 1) := by decide +kernel
theorem d_M_poke_16 : decode M_M_poke.2.1 16 = .ok (.iconst (1), 1) := by decide +kernel
theorem d_M_poke_17 : decode M_M_poke.2.1 17 = .ok (.invokevirtual 154, 3) := by decide +kernel
theorem d_M_poke_20 : decode M_M_poke.2.1 20 = .ok (.ifCond .lt (12), 3) := by decide +kernel
theorem d_M_poke_23 : decode M_M_poke.2.1 23 = .ok (.aload_n 0, 1) := by decide +kernel
theorem d_M_poke_24 : decode M_M_poke.2.1 24 = .ok (.iload_n 3, 1) := by decide +kernel
theorem d_M_poke_25 : decode M_M_poke.2.1 25 = .ok (.iconst (1), 1) := by decide +kernel
theorem d_M_poke_26 : decode M_M_poke.2.1 26 = .ok (.invokevirtual 154, 3) := by decide +kernel
theorem d_M_poke_29 : decode M_M_poke.2.1 29 = .ok (.ifCond .ge (5), 3) := by decide +kernel
theorem d_M_poke_32 : decode M_M_poke.2.1 32 = .ok (.iconst (0), 1) := by decide +kernel
theorem d_M_poke_33 : decode M_M_poke.2.1 33 = .ok (.ireturn, 1) := by decide +kernel
theorem d_M_poke_34 : decode M_M_poke.2.1 34 = .ok (.aload_n 0, 1) := by decide +kernel
theorem d_M_poke_35 : decode M_M_poke.2.1 35 = .ok (.iconst (0), 1) := by decide +kernel
theorem d_M_poke_36 : decode M_M_poke.2.1 36 = .ok (.invokevirtual 92, 3) := by decide +kernel
theorem d_M_poke_39 : decode M_M_poke.2.1 39 = .ok (.aload_n 0, 1) := by decide +kernel
theorem d_M_poke_40 : decode M_M_poke.2.1 40 = .ok (.aload_n 0, 1) := by decide +kernel
theorem d_M_poke_41 : decode M_M_poke.2.1 41 = .ok (.iload_n 1, 1) := by decide +kernel
theorem d_M_poke_42 : decode M_M_poke.2.1 42 = .ok (.iload_n 2, 1) := by decide +kernel
theorem d_M_poke_43 : decode M_M_poke.2.1 43 = .ok (.invokevirtual 154, 3) := by decide +kernel
theorem d_M_poke_46 : decode M_M_poke.2.1 46 = .ok (.invokevirtual 82, 3) := by decide +kernel
theorem d_M_poke_49 : decode M_M_poke.2.1 49 = .ok (.aload_n 0, 1) := by decide +kernel
theorem d_M_poke_50 : decode M_M_poke.2.1 50 = .ok (.aload_n 0, 1) := by decide +kernel
theorem d_M_poke_51 : decode M_M_poke.2.1 51 = .ok (.iload_n 3, 1) := by decide +kernel
theorem d_M_poke_52 : decode M_M_poke.2.1 52 = .ok (.iload 4, 2) := by decide +kernel
theorem d_M_poke_54 : decode M_M_poke.2.1 54 = .ok (.invokevirtual 154, 3) := by decide +kernel
theorem d_M_poke_57 : decode M_M_poke.2.1 57 = .ok (.invokevirtual 82, 3) := by decide +kernel
theorem d_M_poke_60 : decode M_M_poke.2.1 60 = .ok (.if_icmp .eq (5), 3) := by decide +kernel
theorem d_M_poke_63 : decode M_M_poke.2.1 63 = .ok (.iconst (0), 1) := by decide +kernel
theorem d_M_poke_64 : decode M_M_poke.2.1 64 = .ok (.ireturn, 1) := by decide +kernel
theorem d_M_poke_65 : decode M_M_poke.2.1 65 = .ok (.aload_n 0, 1) := by decide +kernel
theorem d_M_poke_66 : decode M_M_poke.2.1 66 = .ok (.iconst (0), 1) := by decide +kernel
theorem d_M_poke_67 : decode M_M_poke.2.1 67 = .ok (.invokevirtual 161, 3) := by decide +kernel
theorem d_M_poke_70 : decode M_M_poke.2.1 70 = .ok (.istore 5, 2) := by decide +kernel
theorem d_M_poke_72 : decode M_M_poke.2.1 72 = .ok (.aload_n 0, 1) := by decide +kernel
theorem d_M_poke_73 : decode M_M_poke.2.1 73 = .ok (.iconst (1), 1) := by decide +kernel
theorem d_M_poke_74 : decode M_M_poke.2.1 74 = .ok (.invokevirtual 161, 3) := by decide +kernel
theorem d_M_poke_77 : decode M_M_poke.2.1 77 = .ok (.istore 6, 2) := by decide +kernel
theorem d_M_poke_79 : decode M_M_poke.2.1 79 = .ok (.aload_n 0, 1) := by decide +kernel
theorem d_M_poke_80 : decode M_M_poke.2.1 80 = .ok (.iconst (2), 1) := by decide +kernel
theorem d_M_poke_81 : decode M_M_poke.2.1 81 = .ok (.invokevirtual 161, 3) := by decide +kernel
theorem d_M_poke_84 : decode M_M_poke.2.1 84 = .ok (.istore 7, 2) := by decide +kernel
theorem d_M_poke_86 : decode M_M_poke.2.1 86 = .ok (.aload_n 0, 1) := by decide +kernel
theorem d_M_poke_87 : decode M_M_poke.2.1 87 = .ok (.iconst (3), 1) := by decide +kernel
theorem d_M_poke_88 : decode M_M_poke.2.1 88 = .ok (.invokevirtual 161, 3) := by decide +kernel
theorem d_M_poke_91 : decode M_M_poke.2.1 91 = .ok (.istore 8, 2) := by decide +kernel
theorem d_M_poke_93 : decode M_M_poke.2.1 93 = .ok (.aload_n 0, 1) := by decide +kernel
theorem d_M_poke_94 : decode M_M_poke.2.1 94 = .ok (.iload 6, 2) := by decide +kernel
theorem d_M_poke_96 : decode M_M_poke.2.1 96 = .ok (.iload_n 1, 1) := by decide +kernel
theorem d_M_poke_97 : decode M_M_poke.2.1 97 = .ok (.invokevirtual 158, 3) := by decide +kernel
theorem d_M_poke_100 : decode M_M_poke.2.1 100 = .ok (.aload_n 0, 1) := by decide +kernel
theorem d_M_poke_101 : decode M_M_poke.2.1 101 = .ok (.iload 8, 2) := by decide +kernel
theorem d_M_poke_103 : decode M_M_poke.2.1 103 = .ok (.iload_n 3, 1) := by decide +kernel
theorem d_M_poke_104 : decode M_M_poke.2.1 104 = .ok (.invokevirtual 158, 3) := by decide +kernel
theorem d_M_poke_107 : decode M_M_poke.2.1 107 = .ok (.aload_n 0, 1) := by decide +kernel
theorem d_M_poke_108 : decode M_M_poke.2.1 108 = .ok (.getfield 66, 3) := by decide +kernel
theorem d_M_poke_111 : decode M_M_poke.2.1 111 = .ok (.istore 9, 2) := by decide +kernel
theorem d_M_poke_113 : decode M_M_poke.2.1 113 = .ok (.iload_n 2, 1) := by decide +kernel
theorem d_M_poke_114 : decode M_M_poke.2.1 114 = .ok (.ifCond .eq (41), 3) := by decide +kernel
theorem d_M_poke_117 : decode M_M_poke.2.1 117 = .ok (.iload 4, 2) := by decide +kernel
theorem d_M_poke_119 : decode M_M_poke.2.1 119 = .ok (.ifCond .eq (36), 3) := by decide +kernel
theorem d_M_poke_122 : decode M_M_poke.2.1 122 = .ok (.aload_n 0, 1) := by decide +kernel
theorem d_M_poke_123 : decode M_M_poke.2.1 123 = .ok (.iload 9, 2) := by decide +kernel
theorem d_M_poke_125 : decode M_M_poke.2.1 125 = .ok (.iload 7, 2) := by decide +kernel
theorem d_M_poke_127 : decode M_M_poke.2.1 127 = .ok (.iload_n 1, 1) := by decide +kernel
theorem d_M_poke_128 : decode M_M_poke.2.1 128 = .ok (.iload 8, 2) := by decide +kernel
theorem d_M_poke_130 : decode M_M_poke.2.1 130 = .ok (.iload 5, 2) := by decide +kernel
theorem d_M_poke_132 : decode M_M_poke.2.1 132 = .ok (.iconst (0), 1) := by decide +kernel
theorem d_M_poke_133 : decode M_M_poke.2.1 133 = .ok (.invokevirtual 59, 3) := by decide +kernel
theorem d_M_poke_136 : decode M_M_poke.2.1 136 = .ok (.aload_n 0, 1) := by decide +kernel
theorem d_M_poke_137 : decode M_M_poke.2.1 137 = .ok (.iload 9, 2) := by decide +kernel
theorem d_M_poke_139 : decode M_M_poke.2.1 139 = .ok (.iconst (1), 1) := by decide +kernel
theorem d_M_poke_140 : decode M_M_poke.2.1 140 = .ok (.iadd, 1) := by decide +kernel
theorem d_M_poke_141 : decode M_M_poke.2.1 141 = .ok (.iload_n 3, 1) := by decide +kernel
theorem d_M_poke_142 : decode M_M_poke.2.1 142 = .ok (.iload 6, 2) := by decide +kernel
theorem d_M_poke_144 : decode M_M_poke.2.1 144 = .ok (.iload 7, 2) := by decide +kernel
theorem d_M_poke_146 : decode M_M_poke.2.1 146 = .ok (.iload 5, 2) := by decide +kernel
theorem d_M_poke_148 : decode M_M_poke.2.1 148 = .ok (.iconst (1), 1) := by decide +kernel
theorem d_M_poke_149 : decode M_M_poke.2.1 149 = .ok (.invokevirtual 59, 3) := by decide +kernel
theorem d_M_poke_152 : decode M_M_poke.2.1 152 = .ok (.goto (108), 3) := by decide +kernel
theorem d_M_poke_155 : decode M_M_poke.2.1 155 = .ok (.iload_n 2, 1) := by decide +kernel
theorem d_M_poke_156 : decode M_M_poke.2.1 156 = .ok (.ifCond .eq (36), 3) := by decide +kernel
theorem d_M_poke_159 : decode M_M_poke.2.1 159 = .ok (.aload_n 0, 1) := by decide +kernel
theorem d_M_poke_160 : decode M_M_poke.2.1 160 = .ok (.iload 9, 2) := by decide +kernel
theorem d_M_poke_162 : decode M_M_poke.2.1 162 = .ok (.iload_n 3, 1) := by decide +kernel
theorem d_M_poke_163 : decode M_M_poke.2.1 163 = .ok (.iload 5, 2) := by decide +kernel
theorem d_M_poke_165 : decode M_M_poke.2.1 165 = .ok (.iload 7, 2) := by decide +kernel
theorem d_M_poke_167 : decode M_M_poke.2.1 167 = .ok (.iload_n 1, 1) := by decide +kernel
theorem d_M_poke_168 : decode M_M_poke.2.1 168 = .ok (.iconst (1), 1) := by decide +kernel
theorem d_M_poke_169 : decode M_M_poke.2.1 169 = .ok (.invokevirtual 59, 3) := by decide +kernel
theorem d_M_poke_172 : decode M_M_poke.2.1 172 = .ok (.aload_n 0, 1) := by decide +kernel
theorem d_M_poke_173 : decode M_M_poke.2.1 173 = .ok (.iload 9, 2) := by decide +kernel
theorem d_M_poke_175 : decode M_M_poke.2.1 175 = .ok (.iconst (1), 1) := by decide +kernel
theorem d_M_poke_176 : decode M_M_poke.2.1 176 = .ok (.iadd, 1) := by decide +kernel
theorem d_M_poke_177 : decode M_M_poke.2.1 177 = .ok (.iload 7, 2) := by decide +kernel
theorem d_M_poke_179 : decode M_M_poke.2.1 179 = .ok (.iload 5, 2) := by decide +kernel
theorem d_M_poke_181 : decode M_M_poke.2.1 181 = .ok (.iload 8, 2) := by decide +kernel
theorem d_M_poke_183 : decode M_M_poke.2.1 183 = .ok (.iload 6, 2) := by decide +kernel
theorem d_M_poke_185 : decode M_M_poke.2.1 185 = .ok (.iconst (0), 1) := by decide +kernel
theorem d_M_poke_186 : decode M_M_poke.2.1 186 = .ok (.invokevirtual 59, 3) := by decide +kernel
theorem d_M_poke_189 : decode M_M_poke.2.1 189 = .ok (.goto (71), 3) := by decide +kernel
theorem d_M_poke_192 : decode M_M_poke.2.1 192 = .ok (.iload 4, 2) := by decide +kernel
theorem d_M_poke_194 : decode M_M_poke.2.1 194 = .ok (.ifCond .eq (36), 3) := by decide +kernel
theorem d_M_poke_197 : decode M_M_poke.2.1 197 = .ok (.aload_n 0, 1) := by decide +kernel
theorem d_M_poke_198 : decode M_M_poke.2.1 198 = .ok (.iload 9, 2) := by decide +kernel
theorem d_M_poke_200 : decode M_M_poke.2.1 200 = .ok (.iload_n 3, 1) := by decide +kernel
theorem d_M_poke_201 : decode M_M_poke.2.1 201 = .ok (.iload_n 1, 1) := by decide +kernel
theorem d_M_poke_202 : decode M_M_poke.2.1 202 = .ok (.iload 7, 2) := by decide +kernel
theorem d_M_poke_204 : decode M_M_poke.2.1 204 = .ok (.iload 5, 2) := by decide +kernel
theorem d_M_poke_206 : decode M_M_poke.2.1 206 = .ok (.iconst (0), 1) := by decide +kernel
theorem d_M_poke_207 : decode M_M_poke.2.1 207 = .ok (.invokevirtual 59, 3) := by decide +kernel
theorem d_M_poke_210 : decode M_M_poke.2.1 210 = .ok (.aload_n 0, 1) := by decide +kernel
theorem d_M_poke_211 : decode M_M_poke.2.1 211 = .ok (.iload 9, 2) := by decide +kernel
theorem d_M_poke_213 : decode M_M_poke.2.1 213 = .ok (.iconst (1), 1) := by decide +kernel
theorem d_M_poke_214 : decode M_M_poke.2.1 214 = .ok (.iadd, 1) := by decide +kernel
theorem d_M_poke_215 : decode M_M_poke.2.1 215 = .ok (.iload 7, 2) := by decide +kernel
theorem d_M_poke_217 : decode M_M_poke.2.1 217 = .ok (.iload 6, 2) := by decide +kernel
theorem d_M_poke_219 : decode M_M_poke.2.1 219 = .ok (.iload 8, 2) := by decide +kernel
theorem d_M_poke_221 : decode M_M_poke.2.1 221 = .ok (.iload 5, 2) := by decide +kernel
theorem d_M_poke_223 : decode M_M_poke.2.1 223 = .ok (.iconst (1), 1) := by decide +kernel
theorem d_M_poke_224 : decode M_M_poke.2.1 224 = .ok (.invokevirtual 59, 3) := by decide +kernel
theorem d_M_poke_227 : decode M_M_poke.2.1 227 = .ok (.goto (33), 3) := by decide +kernel
theorem d_M_poke_230 : decode M_M_poke.2.1 230 = .ok (.aload_n 0, 1) := by decide +kernel
theorem d_M_poke_231 : decode M_M_poke.2.1 231 = .ok (.iload 9, 2) := by decide +kernel
theorem d_M_poke_233 : decode M_M_poke.2.1 233 = .ok (.iload 7, 2) := by decide +kernel
theorem d_M_poke_235 : decode M_M_poke.2.1 235 = .ok (.iload 5, 2) := by decide +kernel
theorem d_M_poke_237 : decode M_M_poke.2.1 237 = .ok (.iload 8, 2) := by decide +kernel
theorem d_M_poke_239 : decode M_M_poke.2.1 239 = .ok (.iload_n 1, 1) := by decide +kernel
theorem d_M_poke_240 : decode M_M_poke.2.1 240 = .ok (.iconst (1), 1) := by decide +kernel
theorem d_M_poke_241 : decode M_M_poke.2.1 241 = .ok (.invokevirtual 59, 3) := by decide +kernel
theorem d_M_poke_244 : decode M_M_poke.2.1 244 = .ok (.aload_n 0, 1) := by decide +kernel
theorem d_M_poke_245 : decode M_M_poke.2.1 245 = .ok (.iload 9, 2) := by decide +kernel
theorem d_M_poke_247 : decode M_M_poke.2.1 247 = .ok (.iconst (1), 1) := by decide +kernel
theorem d_M_poke_248 : decode M_M_poke.2.1 248 = .ok (.iadd, 1) := by decide +kernel
theorem d_M_poke_249 : decode M_M_poke.2.1 249 = .ok (.iload_n 3, 1) := by decide +kernel
theorem d_M_poke_250 : decode M_M_poke.2.1 250 = .ok (.iload 5, 2) := by decide +kernel
theorem d_M_poke_252 : decode M_M_poke.2.1 252 = .ok (.iload 7, 2) := by decide +kernel
theorem d_M_poke_254 : decode M_M_poke.2.1 254 = .ok (.iload 6, 2) := by decide +kernel
theorem d_M_poke_256 : decode M_M_poke.2.1 256 = .ok (.iconst (0), 1) := by decide +kernel
theorem d_M_poke_257 : decode M_M_poke.2.1 257 = .ok (.invokevirtual 59, 3) := by decide +kernel
theorem d_M_poke_260 : decode M_M_poke.2.1 260 = .ok (.aload_n 0, 1) := by decide +kernel
theorem d_M_poke_261 : decode M_M_poke.2.1 261 = .ok (.iload 9, 2) := by decide +kernel
theorem d_M_poke_263 : decode M_M_poke.2.1 263 = .ok (.iconst (2), 1) := by decide +kernel
theorem d_M_poke_264 : decode M_M_poke.2.1 264 = .ok (.iadd, 1) := by decide +kernel
theorem d_M_poke_265 : decode M_M_poke.2.1 265 = .ok (.putfield 66, 3) := by decide +kernel
theorem d_M_poke_268 : decode M_M_poke.2.1 268 = .ok (.iconst (1), 1) := by decide +kernel
theorem d_M_poke_269 : decode M_M_poke.2.1 269 = .ok (.ireturn, 1) := by decide +kernel
theorem d_M_opposite_0 : decode M_M_opposite.2.1 0 = .ok (.iload_n 0, 1) := by decide +kernel
theorem d_M_opposite_1 : decode M_M_opposite.2.1 1 = .ok (.iconst (4), 1) := by decide +kernel
theorem d_M_opposite_2 : decode M_M_opposite.2.1 2 = .ok (.irem, 1) := by decide +kernel
theorem d_M_opposite_3 : decode M_M_opposite.2.1 3 = .ok (.iconst (2), 1) := by decide +kernel
theorem d_M_opposite_4 : decode M_M_opposite.2.1 4 = .ok (.if_icmp .ge (9), 3) := by decide +kernel
theorem d_M_opposite_7 : decode M_M_opposite.2.1 7 = .ok (.iload_n 0, 1) := by decide +kernel
theorem d_M_opposite_8 : decode M_M_opposite.2.1 8 = .ok (.iconst (2), 1) := by decide +kernel
theorem d_M_opposite_9 : decode M_M_opposite.2.1 9 = .ok (.iadd, 1) := by decide +kernel
theorem d_M_opposite_10 : decode M_M_opposite.2.1 10 = .ok (.goto (6), 3) := by decide +kernel
theorem d_M_opposite_13 : decode M_M_opposite.2.1 13 = .ok (.iload_n 0, 1) := by decide +kernel
theorem d_M_opposite_14 : decode M_M_opposite.2.1 14 = .ok (.iconst (2), 1) := by decide +kernel
theorem d_M_opposite_15 : decode M_M_opposite.2.1 15 = .ok (.isub, 1) := by decide +kernel
theorem d_M_opposite_16 : decode M_M_opposite.2.1 16 = .ok (.ireturn, 1) := by decide +kernel
theorem d_M_level_0 : decode M_M_level.2.1 0 = .ok (.aload_n 0, 1) := by decide +kernel
theorem d_M_level_1 : decode M_M_level.2.1 1 = .ok (.iload_n 1, 1) := by decide +kernel
theorem d_M_level_2 : decode M_M_level.2.1 2 = .ok (.invokevirtual 72, 3) := by decide +kernel
theorem d_M_level_5 : decode M_M_level.2.1 5 = .ok (.istore_n 3, 1) := by decide +kernel
theorem d_M_level_6 : decode M_M_level.2.1 6 = .ok (.iload_n 2, 1) := by decide +kernel
theorem d_M_level_7 : decode M_M_level.2.1 7 = .ok (.ifCond .eq (7), 3) := by decide +kernel
theorem d_M_level_10 : decode M_M_level.2.1 10 = .ok (.iconst (1), 1) := by decide +kernel
theorem d_M_level_11 : decode M_M_level.2.1 11 = .ok (.goto (4), 3) := by decide +kernel
theorem d_M_level_14 : decode M_M_level.2.1 14 = .ok (.iconst (0), 1) := by decide +kernel
theorem d_M_level_15 : decode M_M_level.2.1 15 = .ok (.istore 4, 2) := by decide +kernel
theorem d_M_level_17 : decode M_M_level.2.1 17 = .ok (.iload_n 1, 1) := by decide +kernel
theorem d_M_level_18 : decode M_M_level.2.1 18 = .ok (.iconst (2), 1) := by decide +kernel
theorem d_M_level_19 : decode M_M_level.2.1 19 = .ok (.irem, 1) := by decide +kernel
theorem d_M_level_20 : decode M_M_level.2.1 20 = .ok (.iload 4, 2) := by decide +kernel
theorem d_M_level_22 : decode M_M_level.2.1 22 = .ok (.if_icmp .ne (15), 3) := by decide +kernel
theorem d_M_level_25 : decode M_M_level.2.1 25 = .ok (.iload_n 3, 1) := by decide +kernel
theorem d_M_level_26 : decode M_M_level.2.1 26 = .ok (.iconst (2), 1) := by decide +kernel
theorem d_M_level_27 : decode M_M_level.2.1 27 = .ok (.irem, 1) := by decide +kernel
theorem d_M_level_28 : decode M_M_level.2.1 28 = .ok (.iload 4, 2) := by decide +kernel
theorem d_M_level_30 : decode M_M_level.2.1 30 = .ok (.if_icmp .ne (7), 3) := by decide +kernel
theorem d_M_level_33 : decode M_M_level.2.1 33 = .ok (.iconst (1), 1) := by decide +kernel
theorem d_M_level_34 : decode M_M_level.2.1 34 = .ok (.goto (4), 3) := by decide +kernel
theorem d_M_level_37 : decode M_M_level.2.1 37 = .ok (.iconst (0), 1) := by decide +kernel
theorem d_M_level_38 : decode M_M_level.2.1 38 = .ok (.ireturn, 1) := by decide +kernel
theorem d_M_beyond_0 : decode M_M_beyond.2.1 0 = .ok (.aload_n 0, 1) := by decide +kernel
theorem d_M_beyond_1 : decode M_M_beyond.2.1 1 = .ok (.iload_n 1, 1) := by decide +kernel
theorem d_M_beyond_2 : decode M_M_beyond.2.1 2 = .ok (.invokevirtual 72, 3) := by decide +kernel
theorem d_M_beyond_5 : decode M_M_beyond.2.1 5 = .ok (.istore_n 3, 1) := by decide +kernel
theorem d_M_beyond_6 : decode M_M_beyond.2.1 6 = .ok (.aload_n 0, 1) := by decide +kernel
theorem d_M_beyond_7 : decode M_M_beyond.2.1 7 = .ok (.iload_n 1, 1) := by decide +kernel
theorem d_M_beyond_8 : decode M_M_beyond.2.1 8 = .ok (.invokevirtual 76, 3) := by decide +kernel
theorem d_M_beyond_11 : decode M_M_beyond.2.1 11 = .ok (.iload_n 2, 1) := by decide +kernel
theorem d_M_beyond_12 : decode M_M_beyond.2.1 12 = .ok (.if_icmp .ne (7), 3) := by decide +kernel
theorem d_M_beyond_15 : decode M_M_beyond.2.1 15 = .ok (.iload_n 3, 1) := by decide +kernel
theorem d_M_beyond_16 : decode M_M_beyond.2.1 16 = .ok (.goto (4), 3) := by decide +kernel
theorem d_M_beyond_19 : decode M_M_beyond.2.1 19 = .ok (.iload_n 1, 1) := by decide +kernel
theorem d_M_beyond_20 : decode M_M_beyond.2.1 20 = .ok (.istore 4, 2) := by decide +kernel
theorem d_M_beyond_22 : decode M_M_beyond.2.1 22 = .ok (.aload_n 0, 1) := by decide +kernel
theorem d_M_beyond_23 : decode M_M_beyond.2.1 23 = .ok (.getfield 7, 3) := by decide +kernel
theorem d_M_beyond_26 : decode M_M_beyond.2.1 26 = .ok (.iload 4, 2) := by decide +kernel
theorem d_M_beyond_28 : decode M_M_beyond.2.1 28 = .ok (.invokestatic 177, 3) := by decide +kernel
theorem d_M_beyond_31 : decode M_M_beyond.2.1 31 = .ok (.iaload, 1) := by decide +kernel
theorem d_M_beyond_32 : decode M_M_beyond.2.1 32 = .ok (.ireturn, 1) := by decide +kernel
theorem d_M_unpoke_0 : decode M_M_unpoke.2.1 0 = .ok (.iload_n 1, 1) := by decide +kernel
theorem d_M_unpoke_1 : decode M_M_unpoke.2.1 1 = .ok (.iload_n 2, 1) := by decide +kernel
theorem d_M_unpoke_2 : decode M_M_unpoke.2.1 2 = .ok (.if_icmp .eq (19), 3) := by decide +kernel
theorem d_M_unpoke_5 : decode M_M_unpoke.2.1 5 = .ok (.aload_n 0, 1) := by decide +kernel
theorem d_M_unpoke_6 : decode M_M_unpoke.2.1 6 = .ok (.iload_n 1, 1) := by decide +kernel
theorem d_M_unpoke_7 : decode M_M_unpoke.2.1 7 = .ok (.invokevirtual 168, 3) := by decide +kernel
theorem d_M_unpoke_10 : decode M_M_unpoke.2.1 10 = .ok (.ifCond .eq (11), 3) := by decide +kernel
theorem d_M_unpoke_13 : decode M_M_unpoke.2.1 13 = .ok (.aload_n 0, 1) := by decide +kernel
theorem d_M_unpoke_14 : decode M_M_unpoke.2.1 14 = .ok (.iload_n 2, 1) := by decide +kernel
theorem d_M_unpoke_15 : decode M_M_unpoke.2.1 15 = .ok (.invokevirtual 168, 3) := by decide +kernel
theorem d_M_unpoke_18 : decode M_M_unpoke.2.1 18 = .ok (.ifCond .ne (5), 3) := by decide +kernel
theorem d_M_unpoke_21 : decode M_M_unpoke.2.1 21 = .ok (.iconst (0), 1) := by decide +kernel
theorem d_M_unpoke_22 : decode M_M_unpoke.2.1 22 = .ok (.ireturn, 1) := by decide +kernel
theorem d_M_unpoke_23 : decode M_M_unpoke.2.1 23 = .ok (.aload_n 0, 1) := by decide +kernel
theorem d_M_unpoke_24 : decode M_M_unpoke.2.1 24 = .ok (.iconst (0), 1) := by decide +kernel
theorem d_M_unpoke_25 : decode M_M_unpoke.2.1 25 = .ok (.invokevirtual 92, 3) := by decide +kernel
theorem d_M_unpoke_28 : decode M_M_unpoke.2.1 28 = .ok (.iconst (4), 1) := by decide +kernel
theorem d_M_unpoke_29 : decode M_M_unpoke.2.1 29 = .ok (.iload_n 1, 1) := by decide +kernel
theorem d_M_unpoke_30 : decode M_M_unpoke.2.1 30 = .ok (.imul, 1) := by decide +kernel
theorem d_M_unpoke_31 : decode M_M_unpoke.2.1 31 = .ok (.istore_n 3, 1) := by decide +kernel
theorem d_M_unpoke_32 : decode M_M_unpoke.2.1 32 = .ok (.iload_n 3, 1) := by decide +kernel
theorem d_M_unpoke_33 : decode M_M_unpoke.2.1 33 = .ok (.iconst (4), 1) := by decide +kernel
theorem d_M_unpoke_34 : decode M_M_unpoke.2.1 34 = .ok (.iload_n 1, 1) := by decide +kernel
theorem d_M_unpoke_35 : decode M_M_unpoke.2.1 35 = .ok (.imul, 1) := by decide +kernel
theorem d_M_unpoke_36 : decode M_M_unpoke.2.1 36 = .ok (.iconst (4), 1) := by decide +kernel
theorem d_M_unpoke_37 : decode M_M_unpoke.2.1 37 = .ok (.iadd, 1) := by decide +kernel
theorem d_M_unpoke_38 : decode M_M_unpoke.2.1 38 = .ok (.if_icmp .ge (122), 3) := by decide +kernel
theorem d_M_unpoke_41 : decode M_M_unpoke.2.1 41 = .ok (.aload_n 0, 1) := by decide +kernel
theorem d_M_unpoke_42 : decode M_M_unpoke.2.1 42 = .ok (.iload_n 3, 1) := by decide +kernel
theorem d_M_unpoke_43 : decode M_M_unpoke.2.1 43 = .ok (.invokevirtual 79, 3) := by decide +kernel
theorem d_M_unpoke_46 : decode M_M_unpoke.2.1 46 = .ok (.istore 4, 2) := by decide +kernel
theorem d_M_unpoke_48 : decode M_M_unpoke.2.1 48 = .ok (.iload 4, 2) := by decide +kernel
theorem d_M_unpoke_50 : decode M_M_unpoke.2.1 50 = .ok (.iconst (4), 1) := by decide +kernel
theorem d_M_unpoke_51 : decode M_M_unpoke.2.1 51 = .ok (.idiv, 1) := by decide +kernel
theorem d_M_unpoke_52 : decode M_M_unpoke.2.1 52 = .ok (.iload_n 2, 1) := by decide +kernel
theorem d_M_unpoke_53 : decode M_M_unpoke.2.1 53 = .ok (.if_icmp .ne (17), 3) := by decide +kernel
theorem d_M_unpoke_56 : decode M_M_unpoke.2.1 56 = .ok (.aload_n 0, 1) := by decide +kernel
theorem d_M_unpoke_57 : decode M_M_unpoke.2.1 57 = .ok (.iload 4, 2) := by decide +kernel
theorem d_M_unpoke_59 : decode M_M_unpoke.2.1 59 = .ok (.invokevirtual 79, 3) := by decide +kernel
theorem d_M_unpoke_62 : decode M_M_unpoke.2.1 62 = .ok (.iload_n 3, 1) := by decide +kernel
theorem d_M_unpoke_63 : decode M_M_unpoke.2.1 63 = .ok (.if_icmp .ne (7), 3) := by decide +kernel
theorem d_M_unpoke_66 : decode M_M_unpoke.2.1 66 = .ok (.iconst (1), 1) := by decide +kernel
theorem d_M_unpoke_67 : decode M_M_unpoke.2.1 67 = .ok (.goto (4), 3) := by decide +kernel
theorem d_M_unpoke_70 : decode M_M_unpoke.2.1 70 = .ok (.iconst (0), 1) := by decide +kernel
theorem d_M_unpoke_71 : decode M_M_unpoke.2.1 71 = .ok (.istore 5, 2) := by decide +kernel
theorem d_M_unpoke_73 : decode M_M_unpoke.2.1 73 = .ok (.iload 5, 2) := by decide +kernel
theorem d_M_unpoke_75 : decode M_M_unpoke.2.1 75 = .ok (.ifCond .eq (79), 3) := by decide +kernel
theorem d_M_unpoke_78 : decode M_M_unpoke.2.1 78 = .ok (.aload_n 0, 1) := by decide +kernel
theorem d_M_unpoke_79 : decode M_M_unpoke.2.1 79 = .ok (.iload_n 3, 1) := by decide +kernel
theorem d_M_unpoke_80 : decode M_M_unpoke.2.1 80 = .ok (.iconst (1), 1) := by decide +kernel
theorem d_M_unpoke_81 : decode M_M_unpoke.2.1 81 = .ok (.invokevirtual 180, 3) := by decide +kernel
theorem d_M_unpoke_84 : decode M_M_unpoke.2.1 84 = .ok (.ifCond .eq (13), 3) := by decide +kernel
theorem d_M_unpoke_87 : decode M_M_unpoke.2.1 87 = .ok (.aload_n 0, 1) := by decide +kernel
theorem d_M_unpoke_88 : decode M_M_unpoke.2.1 88 = .ok (.iload 4, 2) := by decide +kernel
theorem d_M_unpoke_90 : decode M_M_unpoke.2.1 90 = .ok (.iconst (0), 1) := by decide +kernel
theorem d_M_unpoke_91 : decode M_M_unpoke.2.1 91 = .ok (.invokevirtual 180, 3) := by decide +kernel
theorem d_M_unpoke_94 : decode M_M_unpoke.2.1 94 = .ok (.ifCond .ne (22), 3) := by decide +kernel
theorem d_M_unpoke_97 : decode M_M_unpoke.2.1 97 = .ok (.aload_n 0, 1) := by decide +kernel
theorem d_M_unpoke_98 : decode M_M_unpoke.2.1 98 = .ok (.iload_n 3, 1) := by decide +kernel
theorem d_M_unpoke_99 : decode M_M_unpoke.2.1 99 = .ok (.iconst (0), 1) := by decide +kernel
theorem d_M_unpoke_100 : decode M_M_unpoke.2.1 100 = .ok (.invokevirtual 180, 3) := by decide +kernel
theorem d_M_unpoke_103 : decode M_M_unpoke.2.1 103 = .ok (.ifCond .eq (51), 3) := by decide +kernel
theorem d_M_unpoke_106 : decode M_M_unpoke.2.1 106 = .ok (.aload_n 0, 1) := by decide +kernel
theorem d_M_unpoke_107 : decode M_M_unpoke.2.1 107 = .ok (.iload 4, 2) := by decide +kernel
theorem d_M_unpoke_109 : decode M_M_unpoke.2.1 109 = .ok (.iconst (1), 1) := by decide +kernel
theorem d_M_unpoke_110 : decode M_M_unpoke.2.1 110 = .ok (.invokevirtual 180, 3) := by decide +kernel
theorem d_M_unpoke_113 : decode M_M_unpoke.2.1 113 = .ok (.ifCond .eq (41), 3) := by decide +kernel
theorem d_M_unpoke_116 : decode M_M_unpoke.2.1 116 = .ok (.aload_n 0, 1) := by decide +kernel
theorem d_M_unpoke_117 : decode M_M_unpoke.2.1 117 = .ok (.aload_n 0, 1) := by decide +kernel
theorem d_M_unpoke_118 : decode M_M_unpoke.2.1 118 = .ok (.iload_n 3, 1) := by decide +kernel
theorem d_M_unpoke_119 : decode M_M_unpoke.2.1 119 = .ok (.iconst (1), 1) := by decide +kernel
theorem d_M_unpoke_120 : decode M_M_unpoke.2.1 120 = .ok (.invokevirtual 180, 3) := by decide +kernel
theorem d_M_unpoke_123 : decode M_M_unpoke.2.1 123 = .ok (.ifCond .eq (7), 3) := by decide +kernel
theorem d_M_unpoke_126 : decode M_M_unpoke.2.1 126 = .ok (.iload_n 3, 1) := by decide +kernel
theorem d_M_unpoke_127 : decode M_M_unpoke.2.1 127 = .ok (.goto (5), 3) := by decide +kernel
theorem d_M_unpoke_130 : decode M_M_unpoke.2.1 130 = .ok (.iload 4, 2) := by decide +kernel
theorem d_M_unpoke_132 : decode M_M_unpoke.2.1 132 = .ok (.aload_n 0, 1) := by decide +kernel
theorem d_M_unpoke_133 : decode M_M_unpoke.2.1 133 = .ok (.iload_n 3, 1) := by decide +kernel
theorem d_M_unpoke_134 : decode M_M_unpoke.2.1 134 = .ok (.iconst (1), 1) := by decide +kernel
theorem d_M_unpoke_135 : decode M_M_unpoke.2.1 135 = .ok (.invokevirtual 180, 3) := by decide +kernel
theorem d_M_unpoke_138 : decode M_M_unpoke.2.1 138 = .ok (.ifCond .eq (8), 3) := by decide +kernel
theorem d_M_unpoke_141 : decode M_M_unpoke.2.1 141 = .ok (.iload 4, 2) := by decide +kernel
theorem d_M_unpoke_143 : decode M_M_unpoke.2.1 143 = .ok (.goto (4), 3) := by decide +kernel
theorem d_M_unpoke_146 : decode M_M_unpoke.2.1 146 = .ok (.iload_n 3, 1) := by decide +kernel
theorem d_M_unpoke_147 : decode M_M_unpoke.2.1 147 = .ok (.iload_n 1, 1) := by decide +kernel
theorem d_M_unpoke_148 : decode M_M_unpoke.2.1 148 = .ok (.iload_n 2, 1) := by decide +kernel
theorem d_M_unpoke_149 : decode M_M_unpoke.2.1 149 = .ok (.invokevirtual 184, 3) := by decide +kernel
theorem d_M_unpoke_152 : decode M_M_unpoke.2.1 152 = .ok (.iconst (1), 1) := by decide +kernel
theorem d_M_unpoke_153 : decode M_M_unpoke.2.1 153 = .ok (.ireturn, 1) := by decide +kernel
theorem d_M_unpoke_154 : decode M_M_unpoke.2.1 154 = .ok (.iinc 3 (1), 3) := by decide +kernel
theorem d_M_unpoke_157 : decode M_M_unpoke.2.1 157 = .ok (.goto (-125), 3) := by decide +kernel
theorem d_M_unpoke_160 : decode M_M_unpoke.2.1 160 = .ok (.iconst (0), 1) := by decide +kernel
theorem d_M_unpoke_161 : decode M_M_unpoke.2.1 161 = .ok (.ireturn, 1) := by decide +kernel
theorem d_M_pull_0 : decode M_M_pull.2.1 0 = .ok (.aload_n 0, 1) := by decide +kernel
theorem d_M_pull_1 : decode M_M_pull.2.1 1 = .ok (.iload_n 1, 1) := by decide +kernel
theorem d_M_pull_2 : decode M_M_pull.2.1 2 = .ok (.iconst (1), 1) := by decide +kernel
theorem d_M_pull_3 : decode M_M_pull.2.1 3 = .ok (.invokevirtual 187, 3) := by decide +kernel
theorem d_M_pull_6 : decode M_M_pull.2.1 6 = .ok (.istore 5, 2) := by decide +kernel
theorem d_M_pull_8 : decode M_M_pull.2.1 8 = .ok (.aload_n 0, 1) := by decide +kernel
theorem d_M_pull_9 : decode M_M_pull.2.1 9 = .ok (.iload_n 1, 1) := by decide +kernel
theorem d_M_pull_10 : decode M_M_pull.2.1 10 = .ok (.iconst (0), 1) := by decide +kernel
theorem d_M_pull_11 : decode M_M_pull.2.1 11 = .ok (.invokevirtual 187, 3) := by decide +kernel
theorem d_M_pull_14 : decode M_M_pull.2.1 14 = .ok (.istore 6, 2) := by decide +kernel
theorem d_M_pull_16 : decode M_M_pull.2.1 16 = .ok (.aload_n 0, 1) := by decide +kernel
theorem d_M_pull_17 : decode M_M_pull.2.1 17 = .ok (.iload_n 2, 1) := by decide +kernel
theorem d_M_pull_18 : decode M_M_pull.2.1 18 = .ok (.iconst (1), 1) := by decide +kernel
theorem d_M_pull_19 : decode M_M_pull.2.1 19 = .ok (.invokevirtual 187, 3) := by decide +kernel
theorem d_M_pull_22 : decode M_M_pull.2.1 22 = .ok (.istore 7, 2) := by decide +kernel
theorem d_M_pull_24 : decode M_M_pull.2.1 24 = .ok (.aload_n 0, 1) := by decide +kernel
theorem d_M_pull_25 : decode M_M_pull.2.1 25 = .ok (.iload_n 2, 1) := by decide +kernel
theorem d_M_pull_26 : decode M_M_pull.2.1 26 = .ok (.iconst (0), 1) := by decide +kernel
theorem d_M_pull_27 : decode M_M_pull.2.1 27 = .ok (.invokevirtual 187, 3) := by decide +kernel
theorem d_M_pull_30 : decode M_M_pull.2.1 30 = .ok (.istore 8, 2) := by decide +kernel
theorem d_M_pull_32 : decode M_M_pull.2.1 32 = .ok (.aload_n 0, 1) := by decide +kernel
theorem d_M_pull_33 : decode M_M_pull.2.1 33 = .ok (.iload_n 3, 1) := by decide +kernel
theorem d_M_pull_34 : decode M_M_pull.2.1 34 = .ok (.iload 4, 2) := by decide +kernel
theorem d_M_pull_36 : decode M_M_pull.2.1 36 = .ok (.if_icmp .le (7), 3) := by decide +kernel
theorem d_M_pull_39 : decode M_M_pull.2.1 39 = .ok (.iload_n 3, 1) := by decide +kernel
theorem d_M_pull_40 : decode M_M_pull.2.1 40 = .ok (.goto (5), 3) := by decide +kernel
theorem d_M_pull_43 : decode M_M_pull.2.1 43 = .ok (.iload 4, 2) := by decide +kernel
theorem d_M_pull_45 : decode M_M_pull.2.1 45 = .ok (.invokevirtual 171, 3) := by decide +kernel
theorem d_M_pull_48 : decode M_M_pull.2.1 48 = .ok (.aload_n 0, 1) := by decide +kernel
theorem d_M_pull_49 : decode M_M_pull.2.1 49 = .ok (.iload_n 3, 1) := by decide +kernel
theorem d_M_pull_50 : decode M_M_pull.2.1 50 = .ok (.iload 4, 2) := by decide +kernel
theorem d_M_pull_52 : decode M_M_pull.2.1 52 = .ok (.if_icmp .le (8), 3) := by decide +kernel
theorem d_M_pull_55 : decode M_M_pull.2.1 55 = .ok (.iload 4, 2) := by decide +kernel
theorem d_M_pull_57 : decode M_M_pull.2.1 57 = .ok (.goto (4), 3) := by decide +kernel
theorem d_M_pull_60 : decode M_M_pull.2.1 60 = .ok (.iload_n 3, 1) := by decide +kernel
theorem d_M_pull_61 : decode M_M_pull.2.1 61 = .ok (.invokevirtual 171, 3) := by decide +kernel
theorem d_M_pull_64 : decode M_M_pull.2.1 64 = .ok (.aload_n 0, 1) := by decide +kernel
theorem d_M_pull_65 : decode M_M_pull.2.1 65 = .ok (.iload 5, 2) := by decide +kernel
theorem d_M_pull_67 : decode M_M_pull.2.1 67 = .ok (.iload 6, 2) := by decide +kernel
theorem d_M_pull_69 : decode M_M_pull.2.1 69 = .ok (.invokevirtual 174, 3) := by decide +kernel
theorem d_M_pull_72 : decode M_M_pull.2.1 72 = .ok (.iload 7, 2) := by decide +kernel
theorem d_M_pull_74 : decode M_M_pull.2.1 74 = .ok (.iload 6, 2) := by decide +kernel
theorem d_M_pull_76 : decode M_M_pull.2.1 76 = .ok (.if_icmp .ne (8), 3) := by decide +kernel
theorem d_M_pull_79 : decode M_M_pull.2.1 79 = .ok (.iload 5, 2) := by decide +kernel
theorem d_M_pull_81 : decode M_M_pull.2.1 81 = .ok (.goto (5), 3) := by decide +kernel
theorem d_M_pull_84 : decode M_M_pull.2.1 84 = .ok (.iload 7, 2) := by decide +kernel
theorem d_M_pull_86 : decode M_M_pull.2.1 86 = .ok (.istore 7, 2) := by decide +kernel
theorem d_M_pull_88 : decode M_M_pull.2.1 88 = .ok (.iload 8, 2) := by decide +kernel
theorem d_M_pull_90 : decode M_M_pull.2.1 90 = .ok (.iload 6, 2) := by decide +kernel
theorem d_M_pull_92 : decode M_M_pull.2.1 92 = .ok (.if_icmp .ne (8), 3) := by decide +kernel
theorem d_M_pull_95 : decode M_M_pull.2.1 95 = .ok (.iload 5, 2) := by decide +kernel
theorem d_M_pull_97 : decode M_M_pull.2.1 97 = .ok (.goto (5), 3) := by decide +kernel
theorem d_M_pull_100 : decode M_M_pull.2.1 100 = .ok (.iload 8, 2) := by decide +kernel
theorem d_M_pull_102 : decode M_M_pull.2.1 102 = .ok (.istore 8, 2) := by decide +kernel
theorem d_M_pull_104 : decode M_M_pull.2.1 104 = .ok (.aload_n 0, 1) := by decide +kernel
theorem d_M_pull_105 : decode M_M_pull.2.1 105 = .ok (.iload 7, 2) := by decide +kernel
theorem d_M_pull_107 : decode M_M_pull.2.1 107 = .ok (.iload 8, 2) := by decide +kernel
theorem d_M_pull_109 : decode M_M_pull.2.1 109 = .ok (.invokevirtual 174, 3) := by decide +kernel
theorem d_M_pull_112 : decode M_M_pull.2.1 112 = .ok (.return_, 1) := by decide +kernel
theorem d_M_slideEdge_0 : decode M_M_slideEdge.2.1 0 = .ok (.aload_n 0, 1) := by decide +kernel
theorem d_M_slideEdge_1 : decode M_M_slideEdge.2.1 1 = .ok (.iload_n 1, 1) := by decide +kernel
theorem d_M_slideEdge_2 : decode M_M_slideEdge.2.1 2 = .ok (.invokevirtual 72, 3) := by decide +kernel
theorem d_M_slideEdge_5 : decode M_M_slideEdge.2.1 5 = .ok (.istore_n 2, 1) := by decide +kernel
theorem d_M_slideEdge_6 : decode M_M_slideEdge.2.1 6 = .ok (.aload_n 0, 1) := by decide +kernel
theorem d_M_slideEdge_7 : decode M_M_slideEdge.2.1 7 = .ok (.iload_n 1, 1) := by decide +kernel
theorem d_M_slideEdge_8 : decode M_M_slideEdge.2.1 8 = .ok (.invokevirtual 76, 3) := by decide +kernel
theorem d_M_slideEdge_11 : decode M_M_slideEdge.2.1 11 = .ok (.ifCond .eq (7), 3) := by decide +kernel
theorem d_M_slideEdge_14 : decode M_M_slideEdge.2.1 14 = .ok (.iload_n 2, 1) := by decide +kernel
theorem d_M_slideEdge_15 : decode M_M_slideEdge.2.1 15 = .ok (.goto (4), 3) := by decide +kernel
theorem d_M_slideEdge_18 : decode M_M_slideEdge.2.1 18 = .ok (.iload_n 1, 1) := by decide +kernel
theorem d_M_slideEdge_19 : decode M_M_slideEdge.2.1 19 = .ok (.istore_n 3, 1) := by decide +kernel
theorem d_M_slideEdge_20 : decode M_M_slideEdge.2.1 20 = .ok (.aload_n 0, 1) := by decide +kernel
theorem d_M_slideEdge_21 : decode M_M_slideEdge.2.1 21 = .ok (.iload_n 1, 1) := by decide +kernel
theorem d_M_slideEdge_22 : decode M_M_slideEdge.2.1 22 = .ok (.invokevirtual 76, 3) := by decide +kernel
theorem d_M_slideEdge_25 : decode M_M_slideEdge.2.1 25 = .ok (.ifCond .eq (7), 3) := by decide +kernel
theorem d_M_slideEdge_28 : decode M_M_slideEdge.2.1 28 = .ok (.iload_n 1, 1) := by decide +kernel
theorem d_M_slideEdge_29 : decode M_M_slideEdge.2.1 29 = .ok (.goto (4), 3) := by decide +kernel
theorem d_M_slideEdge_32 : decode M_M_slideEdge.2.1 32 = .ok (.iload_n 2, 1) := by decide +kernel
theorem d_M_slideEdge_33 : decode M_M_slideEdge.2.1 33 = .ok (.istore 4, 2) := by decide +kernel
theorem d_M_slideEdge_35 : decode M_M_slideEdge.2.1 35 = .ok (.aload_n 0, 1) := by decide +kernel
theorem d_M_slideEdge_36 : decode M_M_slideEdge.2.1 36 = .ok (.getfield 49, 3) := by decide +kernel
theorem d_M_slideEdge_39 : decode M_M_slideEdge.2.1 39 = .ok (.iload_n 3, 1) := by decide +kernel
theorem d_M_slideEdge_40 : decode M_M_slideEdge.2.1 40 = .ok (.invokestatic 177, 3) := by decide +kernel
theorem d_M_slideEdge_43 : decode M_M_slideEdge.2.1 43 = .ok (.aload_n 0, 1) := by decide +kernel
theorem d_M_slideEdge_44 : decode M_M_slideEdge.2.1 44 = .ok (.getfield 7, 3) := by decide +kernel
theorem d_M_slideEdge_47 : decode M_M_slideEdge.2.1 47 = .ok (.iload_n 3, 1) := by decide +kernel
theorem d_M_slideEdge_48 : decode M_M_slideEdge.2.1 48 = .ok (.iaload, 1) := by decide +kernel
theorem d_M_slideEdge_49 : decode M_M_slideEdge.2.1 49 = .ok (.iastore, 1) := by decide +kernel
theorem d_M_slideEdge_50 : decode M_M_slideEdge.2.1 50 = .ok (.aload_n 0, 1) := by decide +kernel
theorem d_M_slideEdge_51 : decode M_M_slideEdge.2.1 51 = .ok (.getfield 49, 3) := by decide +kernel
theorem d_M_slideEdge_54 : decode M_M_slideEdge.2.1 54 = .ok (.iload_n 3, 1) := by decide +kernel
theorem d_M_slideEdge_55 : decode M_M_slideEdge.2.1 55 = .ok (.aload_n 0, 1) := by decide +kernel
theorem d_M_slideEdge_56 : decode M_M_slideEdge.2.1 56 = .ok (.getfield 7, 3) := by decide +kernel
theorem d_M_slideEdge_59 : decode M_M_slideEdge.2.1 59 = .ok (.iload 4, 2) := by decide +kernel
theorem d_M_slideEdge_61 : decode M_M_slideEdge.2.1 61 = .ok (.invokestatic 177, 3) := by decide +kernel
theorem d_M_slideEdge_64 : decode M_M_slideEdge.2.1 64 = .ok (.iaload, 1) := by decide +kernel
theorem d_M_slideEdge_65 : decode M_M_slideEdge.2.1 65 = .ok (.iastore, 1) := by decide +kernel
theorem d_M_slideEdge_66 : decode M_M_slideEdge.2.1 66 = .ok (.aload_n 0, 1) := by decide +kernel
theorem d_M_slideEdge_67 : decode M_M_slideEdge.2.1 67 = .ok (.getfield 49, 3) := by decide +kernel
theorem d_M_slideEdge_70 : decode M_M_slideEdge.2.1 70 = .ok (.iload 4, 2) := by decide +kernel
theorem d_M_slideEdge_72 : decode M_M_slideEdge.2.1 72 = .ok (.aload_n 0, 1) := by decide +kernel
theorem d_M_slideEdge_73 : decode M_M_slideEdge.2.1 73 = .ok (.getfield 7, 3) := by decide +kernel
theorem d_M_slideEdge_76 : decode M_M_slideEdge.2.1 76 = .ok (.iload_n 3, 1) := by decide +kernel
theorem d_M_slideEdge_77 : decode M_M_slideEdge.2.1 77 = .ok (.invokestatic 177, 3) := by decide +kernel
theorem d_M_slideEdge_80 : decode M_M_slideEdge.2.1 80 = .ok (.iaload, 1) := by decide +kernel
theorem d_M_slideEdge_81 : decode M_M_slideEdge.2.1 81 = .ok (.iastore, 1) := by decide +kernel
theorem d_M_slideEdge_82 : decode M_M_slideEdge.2.1 82 = .ok (.aload_n 0, 1) := by decide +kernel
theorem d_M_slideEdge_83 : decode M_M_slideEdge.2.1 83 = .ok (.getfield 49, 3) := by decide +kernel
theorem d_M_slideEdge_86 : decode M_M_slideEdge.2.1 86 = .ok (.iload 4, 2) := by decide +kernel
theorem d_M_slideEdge_88 : decode M_M_slideEdge.2.1 88 = .ok (.invokestatic 177, 3) := by decide +kernel
theorem d_M_slideEdge_91 : decode M_M_slideEdge.2.1 91 = .ok (.aload_n 0, 1) := by decide +kernel
theorem d_M_slideEdge_92 : decode M_M_slideEdge.2.1 92 = .ok (.getfield 7, 3) := by decide +kernel
theorem d_M_slideEdge_95 : decode M_M_slideEdge.2.1 95 = .ok (.iload 4, 2) := by decide +kernel
theorem d_M_slideEdge_97 : decode M_M_slideEdge.2.1 97 = .ok (.iaload, 1) := by decide +kernel
theorem d_M_slideEdge_98 : decode M_M_slideEdge.2.1 98 = .ok (.iastore, 1) := by decide +kernel
theorem d_M_slideEdge_99 : decode M_M_slideEdge.2.1 99 = .ok (.return_, 1) := by decide +kernel
theorem d_M_slide_0 : decode M_M_slide.2.1 0 = .ok (.iload_n 1, 1) := by decide +kernel
theorem d_M_slide_1 : decode M_M_slide.2.1 1 = .ok (.iload_n 2, 1) := by decide +kernel
theorem d_M_slide_2 : decode M_M_slide.2.1 2 = .ok (.if_icmp .eq (37), 3) := by decide +kernel
theorem d_M_slide_5 : decode M_M_slide.2.1 5 = .ok (.iload_n 2, 1) := by decide +kernel
theorem d_M_slide_6 : decode M_M_slide.2.1 6 = .ok (.iload_n 3, 1) := by decide +kernel
theorem d_M_slide_7 : decode M_M_slide.2.1 7 = .ok (.if_icmp .eq (32), 3) := by decide +kernel
theorem d_M_slide_10 : decode M_M_slide.2.1 10 = .ok (.iload_n 1, 1) := by decide +kernel
theorem d_M_slide_11 : decode M_M_slide.2.1 11 = .ok (.iload_n 3, 1) := by decide +kernel
theorem d_M_slide_12 : decode M_M_slide.2.1 12 = .ok (.if_icmp .eq (27), 3) := by decide +kernel
theorem d_M_slide_15 : decode M_M_slide.2.1 15 = .ok (.aload_n 0, 1) := by decide +kernel
theorem d_M_slide_16 : decode M_M_slide.2.1 16 = .ok (.iload_n 1, 1) := by decide +kernel
theorem d_M_slide_17 : decode M_M_slide.2.1 17 = .ok (.invokevirtual 168, 3) := by decide +kernel
theorem d_M_slide_20 : decode M_M_slide.2.1 20 = .ok (.ifCond .eq (19), 3) := by decide +kernel
theorem d_M_slide_23 : decode M_M_slide.2.1 23 = .ok (.aload_n 0, 1) := by decide +kernel
theorem d_M_slide_24 : decode M_M_slide.2.1 24 = .ok (.iload_n 2, 1) := by decide +kernel
theorem d_M_slide_25 : decode M_M_slide.2.1 25 = .ok (.invokevirtual 168, 3) := by decide +kernel
theorem d_M_slide_28 : decode M_M_slide.2.1 28 = .ok (.ifCond .eq (11), 3) := by decide +kernel
theorem d_M_slide_31 : decode M_M_slide.2.1 31 = .ok (.aload_n 0, 1) := by decide +kernel
theorem d_M_slide_32 : decode M_M_slide.2.1 32 = .ok (.iload_n 3, 1) := by decide +kernel
theorem d_M_slide_33 : decode M_M_slide.2.1 33 = .ok (.invokevirtual 168, 3) := by decide +kernel
theorem d_M_slide_36 : decode M_M_slide.2.1 36 = .ok (.ifCond .ne (5), 3) := by decide +kernel
theorem d_M_slide_39 : decode M_M_slide.2.1 39 = .ok (.iconst (0), 1) := by decide +kernel
theorem d_M_slide_40 : decode M_M_slide.2.1 40 = .ok (.ireturn, 1) := by decide +kernel
theorem d_M_slide_41 : decode M_M_slide.2.1 41 = .ok (.aload_n 0, 1) := by decide +kernel
theorem d_M_slide_42 : decode M_M_slide.2.1 42 = .ok (.iconst (0), 1) := by decide +kernel
theorem d_M_slide_43 : decode M_M_slide.2.1 43 = .ok (.invokevirtual 92, 3) := by decide +kernel
theorem d_M_slide_46 : decode M_M_slide.2.1 46 = .ok (.iconst (4), 1) := by decide +kernel
theorem d_M_slide_47 : decode M_M_slide.2.1 47 = .ok (.iload_n 1, 1) := by decide +kernel
theorem d_M_slide_48 : decode M_M_slide.2.1 48 = .ok (.imul, 1) := by decide +kernel
theorem d_M_slide_49 : decode M_M_slide.2.1 49 = .ok (.istore 4, 2) := by decide +kernel
theorem d_M_slide_51 : decode M_M_slide.2.1 51 = .ok (.iload 4, 2) := by decide +kernel
theorem d_M_slide_53 : decode M_M_slide.2.1 53 = .ok (.iconst (4), 1) := by decide +kernel
theorem d_M_slide_54 : decode M_M_slide.2.1 54 = .ok (.iload_n 1, 1) := by decide +kernel
theorem d_M_slide_55 : decode M_M_slide.2.1 55 = .ok (.imul, 1) := by decide +kernel
theorem d_M_slide_56 : decode M_M_slide.2.1 56 = .ok (.iconst (4), 1) := by decide +kernel
theorem d_M_slide_57 : decode M_M_slide.2.1 57 = .ok (.iadd, 1) := by decide +kernel
theorem d_M_slide_58 : decode M_M_slide.2.1 58 = .ok (.if_icmp .ge (190), 3) := by decide +kernel
theorem d_M_slide_61 : decode M_M_slide.2.1 61 = .ok (.aload_n 0, 1) := by decide +kernel
theorem d_M_slide_62 : decode M_M_slide.2.1 62 = .ok (.iload 4, 2) := by decide +kernel
theorem d_M_slide_64 : decode M_M_slide.2.1 64 = .ok (.invokevirtual 79, 3) := by decide +kernel
theorem d_M_slide_67 : decode M_M_slide.2.1 67 = .ok (.istore 5, 2) := by decide +kernel
theorem d_M_slide_69 : decode M_M_slide.2.1 69 = .ok (.aload_n 0, 1) := by decide +kernel
theorem d_M_slide_70 : decode M_M_slide.2.1 70 = .ok (.iload 5, 2) := by decide +kernel
theorem d_M_slide_72 : decode M_M_slide.2.1 72 = .ok (.invokevirtual 79, 3) := by decide +kernel
theorem d_M_slide_75 : decode M_M_slide.2.1 75 = .ok (.istore 6, 2) := by decide +kernel
theorem d_M_slide_77 : decode M_M_slide.2.1 77 = .ok (.aload_n 0, 1) := by decide +kernel
theorem d_M_slide_78 : decode M_M_slide.2.1 78 = .ok (.iload 6, 2) := by decide +kernel
theorem d_M_slide_80 : decode M_M_slide.2.1 80 = .ok (.invokevirtual 79, 3) := by decide +kernel
theorem d_M_slide_83 : decode M_M_slide.2.1 83 = .ok (.iload 4, 2) := by decide +kernel
theorem d_M_slide_85 : decode M_M_slide.2.1 85 = .ok (.if_icmp .ne (39), 3) := by decide +kernel
theorem d_M_slide_88 : decode M_M_slide.2.1 88 = .ok (.iload 5, 2) := by decide +kernel
theorem d_M_slide_90 : decode M_M_slide.2.1 90 = .ok (.iconst (4), 1) := by decide +kernel
theorem d_M_slide_91 : decode M_M_slide.2.1 91 = .ok (.idiv, 1) := by decide +kernel
theorem d_M_slide_92 : decode M_M_slide.2.1 92 = .ok (.iload_n 2, 1) := by decide +kernel
theorem d_M_slide_93 : decode M_M_slide.2.1 93 = .ok (.if_icmp .ne (11), 3) := by decide +kernel
theorem d_M_slide_96 : decode M_M_slide.2.1 96 = .ok (.iload 6, 2) := by decide +kernel
theorem d_M_slide_98 : decode M_M_slide.2.1 98 = .ok (.iconst (4), 1) := by decide +kernel
theorem d_M_slide_99 : decode M_M_slide.2.1 99 = .ok (.idiv, 1) := by decide +kernel
theorem d_M_slide_100 : decode M_M_slide.2.1 100 = .ok (.iload_n 3, 1) := by decide +kernel
theorem d_M_slide_101 : decode M_M_slide.2.1 101 = .ok (.if_icmp .eq (19), 3) := by decide +kernel
theorem d_M_slide_104 : decode M_M_slide.2.1 104 = .ok (.iload 5, 2) := by decide +kernel
theorem d_M_slide_106 : decode M_M_slide.2.1 106 = .ok (.iconst (4), 1) := by decide +kernel
theorem d_M_slide_107 : decode M_M_slide.2.1 107 = .ok (.idiv, 1) := by decide +kernel
theorem d_M_slide_108 : decode M_M_slide.2.1 108 = .ok (.iload_n 3, 1) := by decide +kernel
theorem d_M_slide_109 : decode M_M_slide.2.1 109 = .ok (.if_icmp .ne (15), 3) := by decide +kernel
theorem d_M_slide_112 : decode M_M_slide.2.1 112 = .ok (.iload 6, 2) := by decide +kernel
theorem d_M_slide_114 : decode M_M_slide.2.1 114 = .ok (.iconst (4), 1) := by decide +kernel
theorem d_M_slide_115 : decode M_M_slide.2.1 115 = .ok (.idiv, 1) := by decide +kernel
theorem d_M_slide_116 : decode M_M_slide.2.1 116 = .ok (.iload_n 2, 1) := by decide +kernel
theorem d_M_slide_117 : decode M_M_slide.2.1 117 = .ok (.if_icmp .ne (7), 3) := by decide +kernel
theorem d_M_slide_120 : decode M_M_slide.2.1 120 = .ok (.iconst (1), 1) := by decide +kernel
theorem d_M_slide_121 : decode M_M_slide.2.1 121 = .ok (.goto (4), 3) := by decide +kernel
theorem d_M_slide_124 : decode M_M_slide.2.1 124 = .ok (.iconst (0), 1) := by decide +kernel
theorem d_M_slide_125 : decode M_M_slide.2.1 125 = .ok (.istore 7, 2) := by decide +kernel
theorem d_M_slide_127 : decode M_M_slide.2.1 127 = .ok (.iload 7, 2) := by decide +kernel
theorem d_M_slide_129 : decode M_M_slide.2.1 129 = .ok (.ifCond .eq (113), 3) := by decide +kernel
theorem d_M_slide_132 : decode M_M_slide.2.1 132 = .ok (.aload_n 0, 1) := by decide +kernel
theorem d_M_slide_133 : decode M_M_slide.2.1 133 = .ok (.iload 4, 2) := by decide +kernel
theorem d_M_slide_135 : decode M_M_slide.2.1 135 = .ok (.iconst (1), 1) := by decide +kernel
theorem d_M_slide_136 : decode M_M_slide.2.1 136 = .ok (.invokevirtual 180, 3) := by decide +kernel
theorem d_M_slide_139 : decode M_M_slide.2.1 139 = .ok (.ifCond .ne (23), 3) := by decide +kernel
theorem d_M_slide_142 : decode M_M_slide.2.1 142 = .ok (.aload_n 0, 1) := by decide +kernel
theorem d_M_slide_143 : decode M_M_slide.2.1 143 = .ok (.iload 5, 2) := by decide +kernel
theorem d_M_slide_145 : decode M_M_slide.2.1 145 = .ok (.iconst (1), 1) := by decide +kernel
theorem d_M_slide_146 : decode M_M_slide.2.1 146 = .ok (.invokevirtual 180, 3) := by decide +kernel
theorem d_M_slide_149 : decode M_M_slide.2.1 149 = .ok (.ifCond .ne (13), 3) := by decide +kernel
theorem d_M_slide_152 : decode M_M_slide.2.1 152 = .ok (.aload_n 0, 1) := by decide +kernel
theorem d_M_slide_153 : decode M_M_slide.2.1 153 = .ok (.iload 6, 2) := by decide +kernel
theorem d_M_slide_155 : decode M_M_slide.2.1 155 = .ok (.iconst (1), 1) := by decide +kernel
theorem d_M_slide_156 : decode M_M_slide.2.1 156 = .ok (.invokevirtual 180, 3) := by decide +kernel
theorem d_M_slide_159 : decode M_M_slide.2.1 159 = .ok (.ifCond .eq (83), 3) := by decide +kernel
theorem d_M_slide_162 : decode M_M_slide.2.1 162 = .ok (.iconst (0), 1) := by decide +kernel
theorem d_M_slide_163 : decode M_M_slide.2.1 163 = .ok (.istore 8, 2) := by decide +kernel
theorem d_M_slide_165 : decode M_M_slide.2.1 165 = .ok (.iload 8, 2) := by decide +kernel
theorem d_M_slide_167 : decode M_M_slide.2.1 167 = .ok (.bipush (32), 2) := by decide +kernel
theorem d_M_slide_169 : decode M_M_slide.2.1 169 = .ok (.if_icmp .ge (23), 3) := by decide +kernel
theorem d_M_slide_172 : decode M_M_slide.2.1 172 = .ok (.aload_n 0, 1) := by decide +kernel
theorem d_M_slide_173 : decode M_M_slide.2.1 173 = .ok (.getfield 49, 3) := by decide +kernel
theorem d_M_slide_176 : decode M_M_slide.2.1 176 = .ok (.iload 8, 2) := by decide +kernel
theorem d_M_slide_178 : decode M_M_slide.2.1 178 = .ok (.aload_n 0, 1) := by decide +kernel
theorem d_M_slide_179 : decode M_M_slide.2.1 179 = .ok (.getfield 7, 3) := by decide +kernel
theorem d_M_slide_182 : decode M_M_slide.2.1 182 = .ok (.iload 8, 2) := by decide +kernel
theorem d_M_slide_184 : decode M_M_slide.2.1 184 = .ok (.iaload, 1) := by decide +kernel
theorem d_M_slide_185 : decode M_M_slide.2.1 185 = .ok (.iastore, 1) := by decide +kernel
theorem d_M_slide_186 : decode M_M_slide.2.1 186 = .ok (.iinc 8 (1), 3) := by decide +kernel
theorem d_M_slide_189 : decode M_M_slide.2.1 189 = .ok (.goto (-24), 3) := by decide +kernel
theorem d_M_slide_192 : decode M_M_slide.2.1 192 = .ok (.aload_n 0, 1) := by decide +kernel
theorem d_M_slide_193 : decode M_M_slide.2.1 193 = .ok (.iload 4, 2) := by decide +kernel
theorem d_M_slide_195 : decode M_M_slide.2.1 195 = .ok (.invokevirtual 190, 3) := by decide +kernel
theorem d_M_slide_198 : decode M_M_slide.2.1 198 = .ok (.aload_n 0, 1) := by decide +kernel
theorem d_M_slide_199 : decode M_M_slide.2.1 199 = .ok (.iload 5, 2) := by decide +kernel
theorem d_M_slide_201 : decode M_M_slide.2.1 201 = .ok (.invokevirtual 190, 3) := by decide +kernel
theorem d_M_slide_204 : decode M_M_slide.2.1 204 = .ok (.aload_n 0, 1) := by decide +kernel
theorem d_M_slide_205 : decode M_M_slide.2.1 205 = .ok (.iload 6, 2) := by decide +kernel
theorem d_M_slide_207 : decode M_M_slide.2.1 207 = .ok (.invokevirtual 190, 3) := by decide +kernel
theorem d_M_slide_210 : decode M_M_slide.2.1 210 = .ok (.iconst (0), 1) := by decide +kernel
theorem d_M_slide_211 : decode M_M_slide.2.1 211 = .ok (.istore 8, 2) := by decide +kernel
theorem d_M_slide_213 : decode M_M_slide.2.1 213 = .ok (.iload 8, 2) := by decide +kernel
theorem d_M_slide_215 : decode M_M_slide.2.1 215 = .ok (.bipush (32), 2) := by decide +kernel
theorem d_M_slide_217 : decode M_M_slide.2.1 217 = .ok (.if_icmp .ge (23), 3) := by decide +kernel
theorem d_M_slide_220 : decode M_M_slide.2.1 220 = .ok (.aload_n 0, 1) := by decide +kernel
theorem d_M_slide_221 : decode M_M_slide.2.1 221 = .ok (.getfield 7, 3) := by decide +kernel
theorem d_M_slide_224 : decode M_M_slide.2.1 224 = .ok (.iload 8, 2) := by decide +kernel
theorem d_M_slide_226 : decode M_M_slide.2.1 226 = .ok (.aload_n 0, 1) := by decide +kernel
theorem d_M_slide_227 : decode M_M_slide.2.1 227 = .ok (.getfield 49, 3) := by decide +kernel
theorem d_M_slide_230 : decode M_M_slide.2.1 230 = .ok (.iload 8, 2) := by decide +kernel
theorem d_M_slide_232 : decode M_M_slide.2.1 232 = .ok (.iaload, 1) := by decide +kernel
theorem d_M_slide_233 : decode M_M_slide.2.1 233 = .ok (.iastore, 1) := by decide +kernel
theorem d_M_slide_234 : decode M_M_slide.2.1 234 = .ok (.iinc 8 (1), 3) := by decide +kernel
theorem d_M_slide_237 : decode M_M_slide.2.1 237 = .ok (.goto (-24), 3) := by decide +kernel
theorem d_M_slide_240 : decode M_M_slide.2.1 240 = .ok (.iconst (1), 1) := by decide +kernel
theorem d_M_slide_241 : decode M_M_slide.2.1 241 = .ok (.ireturn, 1) := by decide +kernel
theorem d_M_slide_242 : decode M_M_slide.2.1 242 = .ok (.iinc 4 (1), 3) := by decide +kernel
theorem d_M_slide_245 : decode M_M_slide.2.1 245 = .ok (.goto (-194), 3) := by decide +kernel
theorem d_M_slide_248 : decode M_M_slide.2.1 248 = .ok (.iconst (0), 1) := by decide +kernel
theorem d_M_slide_249 : decode M_M_slide.2.1 249 = .ok (.ireturn, 1) := by decide +kernel
