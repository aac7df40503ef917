theorem dX12_readPart_6 : decode cX12_readPart 6 = .ok (.aload_n 0, 1) := by decide +kernel
theorem dX12_readPart_7 : decode cX12_readPart 7 = .ok (.getfield 90, 3) := by decide +kernel
theorem dX12_readPart_10 : decode cX12_readPart 10 = .ok (.iconst 4, 1) := by decide +kernel
theorem dX12_readPart_11 : decode cX12_readPart 11 = .ok (.if_icmp .ge 40, 3) := by decide +kernel
theorem dX12_readPart_14 : decode cX12_readPart 14 = .ok (.aload_n 0, 1) := by decide +kernel
theorem dX12_readPart_15 : decode cX12_readPart 15 = .ok (.dup, 1) := by decide +kernel
theorem dX12_readPart_16 : decode cX12_readPart 16 = .ok (.getfield 81, 3) := by decide +kernel
theorem dX12_readPart_19 : decode cX12_readPart 19 = .ok (.iconst 1, 1) := by decide +kernel
theorem dX12_readPart_20 : decode cX12_readPart 20 = .ok (.iadd, 1) := by decide +kernel
theorem dX12_readPart_21 : decode cX12_readPart 21 = .ok (.putfield 81, 3) := by decide +kernel
theorem dX12_readPart_24 : decode cX12_readPart 24 = .ok (.aload_n 0, 1) := by decide +kernel
theorem dX12_readPart_25 : decode cX12_readPart 25 = .ok (.getfield 31, 3) := by decide +kernel
theorem dX12_readPart_28 : decode cX12_readPart 28 = .ok (.aload_n 0, 1) := by decide +kernel
theorem dX12_readPart_29 : decode cX12_readPart 29 = .ok (.getfield 90, 3) := by decide +kernel
theorem dX12_readPart_32 : decode cX12_readPart 32 = .ok (.aload_n 0, 1) := by decide +kernel
theorem dX12_readPart_33 : decode cX12_readPart 33 = .ok (.iconst 4, 1) := by decide +kernel
theorem dX12_readPart_34 : decode cX12_readPart 34 = .ok (.invokevirtual 106, 3) := by decide +kernel
theorem dX12_readPart_37 : decode cX12_readPart 37 = .ok (.iastore, 1) := by decide +kernel
theorem dX12_readPart_38 : decode cX12_readPart 38 = .ok (.aload_n 0, 1) := by decide +kernel
theorem dX12_readPart_39 : decode cX12_readPart 39 = .ok (.dup, 1) := by decide +kernel
theorem dX12_readPart_40 : decode cX12_readPart 40 = .ok (.getfield 90, 3) := by decide +kernel
theorem dX12_readPart_43 : decode cX12_readPart 43 = .ok (.iconst 1, 1) := by decide +kernel
theorem dX12_readPart_44 : decode cX12_readPart 44 = .ok (.iadd, 1) := by decide +kernel
theorem dX12_readPart_45 : decode cX12_readPart 45 = .ok (.putfield 90, 3) := by decide +kernel
theorem dX12_readPart_48 : decode cX12_readPart 48 = .ok (.goto 215, 3) := by decide +kernel
theorem dX12_readPart_51 : decode cX12_readPart 51 = .ok (.iload_n 1, 1) := by decide +kernel
theorem dX12_readPart_52 : decode cX12_readPart 52 = .ok (.bipush 66, 2) := by decide +kernel
theorem dX12_readPart_54 : decode cX12_readPart 54 = .ok (.if_icmp .ne 86, 3) := by decide +kernel
theorem dX12_readPart_57 : decode cX12_readPart 57 = .ok (.aload_n 0, 1) := by decide +kernel
theorem dX12_readPart_58 : decode cX12_readPart 58 = .ok (.getfield 93, 3) := by decide +kernel
theorem dX12_readPart_61 : decode cX12_readPart 61 = .ok (.iconst 5, 1) := by decide +kernel
theorem dX12_readPart_62 : decode cX12_readPart 62 = .ok (.if_icmp .ge 78, 3) := by decide +kernel
theorem dX12_readPart_65 : decode cX12_readPart 65 = .ok (.aload_n 0, 1) := by decide +kernel
theorem dX12_readPart_66 : decode cX12_readPart 66 = .ok (.dup, 1) := by decide +kernel
theorem dX12_readPart_67 : decode cX12_readPart 67 = .ok (.getfield 81, 3) := by decide +kernel
theorem dX12_readPart_70 : decode cX12_readPart 70 = .ok (.iconst 1, 1) := by decide +kernel
theorem dX12_readPart_71 : decode cX12_readPart 71 = .ok (.iadd, 1) := by decide +kernel
theorem dX12_readPart_72 : decode cX12_readPart 72 = .ok (.putfield 81, 3) := by decide +kernel
theorem dX12_readPart_75 : decode cX12_readPart 75 = .ok (.aload_n 0, 1) := by decide +kernel
theorem dX12_readPart_76 : decode cX12_readPart 76 = .ok (.getfield 34, 3) := by decide +kernel
theorem dX12_readPart_79 : decode cX12_readPart 79 = .ok (.iconst 3, 1) := by decide +kernel
theorem dX12_readPart_80 : decode cX12_readPart 80 = .ok (.aload_n 0, 1) := by decide +kernel
theorem dX12_readPart_81 : decode cX12_readPart 81 = .ok (.getfield 93, 3) := by decide +kernel
theorem dX12_readPart_84 : decode cX12_readPart 84 = .ok (.imul, 1) := by decide +kernel
theorem dX12_readPart_85 : decode cX12_readPart 85 = .ok (.aload_n 0, 1) := by decide +kernel
theorem dX12_readPart_86 : decode cX12_readPart 86 = .ok (.iconst 0, 1) := by decide +kernel
theorem dX12_readPart_87 : decode cX12_readPart 87 = .ok (.invokevirtual 110, 3) := by decide +kernel
theorem dX12_readPart_90 : decode cX12_readPart 90 = .ok (.iastore, 1) := by decide +kernel
theorem dX12_readPart_91 : decode cX12_readPart 91 = .ok (.aload_n 0, 1) := by decide +kernel
theorem dX12_readPart_92 : decode cX12_readPart 92 = .ok (.getfield 34, 3) := by decide +kernel
theorem dX12_readPart_95 : decode cX12_readPart 95 = .ok (.iconst 3, 1) := by decide +kernel
theorem dX12_readPart_96 : decode cX12_readPart 96 = .ok (.aload_n 0, 1) := by decide +kernel
theorem dX12_readPart_97 : decode cX12_readPart 97 = .ok (.getfield 93, 3) := by decide +kernel
theorem dX12_readPart_100 : decode cX12_readPart 100 = .ok (.imul, 1) := by decide +kernel
theorem dX12_readPart_101 : decode cX12_readPart 101 = .ok (.iconst 1, 1) := by decide +kernel
theorem dX12_readPart_102 : decode cX12_readPart 102 = .ok (.iadd, 1) := by decide +kernel
theorem dX12_readPart_103 : decode cX12_readPart 103 = .ok (.aload_n 0, 1) := by decide +kernel
theorem dX12_readPart_104 : decode cX12_readPart 104 = .ok (.iconst 3, 1) := by decide +kernel
theorem dX12_readPart_105 : decode cX12_readPart 105 = .ok (.invokevirtual 106, 3) := by decide +kernel
theorem dX12_readPart_108 : decode cX12_readPart 108 = .ok (.iastore, 1) := by decide +kernel
theorem dX12_readPart_109 : decode cX12_readPart 109 = .ok (.aload_n 0, 1) := by decide +kernel
theorem dX12_readPart_110 : decode cX12_readPart 110 = .ok (.getfield 34, 3) := by decide +kernel
theorem dX12_readPart_113 : decode cX12_readPart 113 = .ok (.iconst 3, 1) := by decide +kernel
theorem dX12_readPart_114 : decode cX12_readPart 114 = .ok (.aload_n 0, 1) := by decide +kernel
theorem dX12_readPart_115 : decode cX12_readPart 115 = .ok (.getfield 93, 3) := by decide +kernel
theorem dX12_readPart_118 : decode cX12_readPart 118 = .ok (.imul, 1) := by decide +kernel
theorem dX12_readPart_119 : decode cX12_readPart 119 = .ok (.iconst 2, 1) := by decide +kernel
theorem dX12_readPart_120 : decode cX12_readPart 120 = .ok (.iadd, 1) := by decide +kernel
theorem dX12_readPart_121 : decode cX12_readPart 121 = .ok (.aload_n 0, 1) := by decide +kernel
theorem dX12_readPart_122 : decode cX12_readPart 122 = .ok (.iconst 3, 1) := by decide +kernel
theorem dX12_readPart_123 : decode cX12_readPart 123 = .ok (.invokevirtual 106, 3) := by decide +kernel
theorem dX12_readPart_126 : decode cX12_readPart 126 = .ok (.iastore, 1) := by decide +kernel
theorem dX12_readPart_127 : decode cX12_readPart 127 = .ok (.aload_n 0, 1) := by decide +kernel
theorem dX12_readPart_128 : decode cX12_readPart 128 = .ok (.dup, 1) := by decide +kernel
theorem dX12_readPart_129 : decode cX12_readPart 129 = .ok (.getfield 93, 3) := by decide +kernel
theorem dX12_readPart_132 : decode cX12_readPart 132 = .ok (.iconst 1, 1) := by decide +kernel
theorem dX12_readPart_133 : decode cX12_readPart 133 = .ok (.iadd, 1) := by decide +kernel
theorem dX12_readPart_134 : decode cX12_readPart 134 = .ok (.putfield 93, 3) := by decide +kernel
theorem dX12_readPart_137 : decode cX12_readPart 137 = .ok (.goto 126, 3) := by decide +kernel
theorem dX12_readPart_140 : decode cX12_readPart 140 = .ok (.iload_n 1, 1) := by decide +kernel
theorem dX12_readPart_141 : decode cX12_readPart 141 = .ok (.bipush 72, 2) := by decide +kernel
theorem dX12_readPart_143 : decode cX12_readPart 143 = .ok (.if_icmp .ne 112, 3) := by decide +kernel
theorem dX12_readPart_146 : decode cX12_readPart 146 = .ok (.aload_n 0, 1) := by decide +kernel
theorem dX12_readPart_147 : decode cX12_readPart 147 = .ok (.getfield 96, 3) := by decide +kernel
theorem dX12_readPart_150 : decode cX12_readPart 150 = .ok (.iconst 4, 1) := by decide +kernel
theorem dX12_readPart_151 : decode cX12_readPart 151 = .ok (.if_icmp .ge 104, 3) := by decide +kernel
theorem dX12_readPart_154 : decode cX12_readPart 154 = .ok (.aload_n 0, 1) := by decide +kernel
theorem dX12_readPart_155 : decode cX12_readPart 155 = .ok (.dup, 1) := by decide +kernel
theorem dX12_readPart_156 : decode cX12_readPart 156 = .ok (.getfield 81, 3) := by decide +kernel
theorem dX12_readPart_159 : decode cX12_readPart 159 = .ok (.iconst 1, 1) := by decide +kernel
theorem dX12_readPart_160 : decode cX12_readPart 160 = .ok (.iadd, 1) := by decide +kernel
theorem dX12_readPart_161 : decode cX12_readPart 161 = .ok (.putfield 81, 3) := by decide +kernel
theorem dX12_readPart_164 : decode cX12_readPart 164 = .ok (.aload_n 0, 1) := by decide +kernel
theorem dX12_readPart_165 : decode cX12_readPart 165 = .ok (.getfield 37, 3) := by decide +kernel
theorem dX12_readPart_168 : decode cX12_readPart 168 = .ok (.iconst 3, 1) := by decide +kernel
theorem dX12_readPart_169 : decode cX12_readPart 169 = .ok (.aload_n 0, 1) := by decide +kernel
theorem dX12_readPart_170 : decode cX12_readPart 170 = .ok (.getfield 96, 3) := by decide +kernel
theorem dX12_readPart_173 : decode cX12_readPart 173 = .ok (.imul, 1) := by decide +kernel
theorem dX12_readPart_174 : decode cX12_readPart 174 = .ok (.aload_n 0, 1) := by decide +kernel
theorem dX12_readPart_175 : decode cX12_readPart 175 = .ok (.aload_n 0, 1) := by decide +kernel
theorem dX12_readPart_176 : decode cX12_readPart 176 = .ok (.getfield 99, 3) := by decide +kernel
theorem dX12_readPart_179 : decode cX12_readPart 179 = .ok (.invokevirtual 110, 3) := by decide +kernel
theorem dX12_readPart_182 : decode cX12_readPart 182 = .ok (.iastore, 1) := by decide +kernel
theorem dX12_readPart_183 : decode cX12_readPart 183 = .ok (.aload_n 0, 1) := by decide +kernel
theorem dX12_readPart_184 : decode cX12_readPart 184 = .ok (.getfield 37, 3) := by decide +kernel
theorem dX12_readPart_187 : decode cX12_readPart 187 = .ok (.iconst 3, 1) := by decide +kernel
theorem dX12_readPart_188 : decode cX12_readPart 188 = .ok (.aload_n 0, 1) := by decide +kernel
theorem dX12_readPart_189 : decode cX12_readPart 189 = .ok (.getfield 96, 3) := by decide +kernel
theorem dX12_readPart_192 : decode cX12_readPart 192 = .ok (.imul, 1) := by decide +kernel
theorem dX12_readPart_193 : decode cX12_readPart 193 = .ok (.iconst 1, 1) := by decide +kernel
theorem dX12_readPart_194 : decode cX12_readPart 194 = .ok (.iadd, 1) := by decide +kernel
theorem dX12_readPart_195 : decode cX12_readPart 195 = .ok (.aload_n 0, 1) := by decide +kernel
theorem dX12_readPart_196 : decode cX12_readPart 196 = .ok (.bipush 9, 2) := by decide +kernel
theorem dX12_readPart_198 : decode cX12_readPart 198 = .ok (.invokevirtual 106, 3) := by decide +kernel
theorem dX12_readPart_201 : decode cX12_readPart 201 = .ok (.iastore, 1) := by decide +kernel
theorem dX12_readPart_202 : decode cX12_readPart 202 = .ok (.aload_n 0, 1) := by decide +kernel
theorem dX12_readPart_203 : decode cX12_readPart 203 = .ok (.getfield 37, 3) := by decide +kernel
theorem dX12_readPart_206 : decode cX12_readPart 206 = .ok (.iconst 3, 1) := by decide +kernel
theorem dX12_readPart_207 : decode cX12_readPart 207 = .ok (.aload_n 0, 1) := by decide +kernel
theorem dX12_readPart_208 : decode cX12_readPart 208 = .ok (.getfield 96, 3) := by decide +kernel
theorem dX12_readPart_211 : decode cX12_readPart 211 = .ok (.imul, 1) := by decide +kernel
theorem dX12_readPart_212 : decode cX12_readPart 212 = .ok (.iconst 2, 1) := by decide +kernel
theorem dX12_readPart_213 : decode cX12_readPart 213 = .ok (.iadd, 1) := by decide +kernel
theorem dX12_readPart_214 : decode cX12_readPart 214 = .ok (.aload_n 0, 1) := by decide +kernel
theorem dX12_readPart_215 : decode cX12_readPart 215 = .ok (.iconst 3, 1) := by decide +kernel
theorem dX12_readPart_216 : decode cX12_readPart 216 = .ok (.invokevirtual 106, 3) := by decide +kernel
theorem dX12_readPart_219 : decode cX12_readPart 219 = .ok (.iastore, 1) := by decide +kernel
theorem dX12_readPart_220 : decode cX12_readPart 220 = .ok (.aload_n 0, 1) := by decide +kernel
theorem dX12_readPart_221 : decode cX12_readPart 221 = .ok (.dup, 1) := by decide +kernel
theorem dX12_readPart_222 : decode cX12_readPart 222 = .ok (.getfield 99, 3) := by decide +kernel
theorem dX12_readPart_225 : decode cX12_readPart 225 = .ok (.iconst 1, 1) := by decide +kernel
theorem dX12_readPart_226 : decode cX12_readPart 226 = .ok (.aload_n 0, 1) := by decide +kernel
theorem dX12_readPart_227 : decode cX12_readPart 227 = .ok (.getfield 37, 3) := by decide +kernel
theorem dX12_readPart_230 : decode cX12_readPart 230 = .ok (.iconst 3, 1) := by decide +kernel
theorem dX12_readPart_231 : decode cX12_readPart 231 = .ok (.aload_n 0, 1) := by decide +kernel
theorem dX12_readPart_232 : decode cX12_readPart 232 = .ok (.getfield 96, 3) := by decide +kernel
theorem dX12_readPart_235 : decode cX12_readPart 235 = .ok (.imul, 1) := by decide +kernel
theorem dX12_readPart_236 : decode cX12_readPart 236 = .ok (.iaload, 1) := by decide +kernel
theorem dX12_readPart_237 : decode cX12_readPart 237 = .ok (.ishl, 1) := by decide +kernel
theorem dX12_readPart_238 : decode cX12_readPart 238 = .ok (.ior, 1) := by decide +kernel
theorem dX12_readPart_239 : decode cX12_readPart 239 = .ok (.putfield 99, 3) := by decide +kernel
theorem dX12_readPart_242 : decode cX12_readPart 242 = .ok (.aload_n 0, 1) := by decide +kernel
theorem dX12_readPart_243 : decode cX12_readPart 243 = .ok (.dup, 1) := by decide +kernel
theorem dX12_readPart_244 : decode cX12_readPart 244 = .ok (.getfield 96, 3) := by decide +kernel
theorem dX12_readPart_247 : decode cX12_readPart 247 = .ok (.iconst 1, 1) := by decide +kernel
theorem dX12_readPart_248 : decode cX12_readPart 248 = .ok (.iadd, 1) := by decide +kernel
theorem dX12_readPart_249 : decode cX12_readPart 249 = .ok (.putfield 96, 3) := by decide +kernel
theorem dX12_readPart_252 : decode cX12_readPart 252 = .ok (.goto 11, 3) := by decide +kernel
theorem dX12_readPart_255 : decode cX12_readPart 255 = .ok (.aload_n 0, 1) := by decide +kernel
theorem dX12_readPart_256 : decode cX12_readPart 256 = .ok (.aload_n 0, 1) := by decide +kernel
theorem dX12_readPart_257 : decode cX12_readPart 257 = .ok (.getfield 81, 3) := by decide +kernel
theorem dX12_readPart_260 : decode cX12_readPart 260 = .ok (.putfield 78, 3) := by decide +kernel
theorem dX12_readPart_263 : decode cX12_readPart 263 = .ok (.return_, 1) := by decide +kernel
theorem dX12_fault_0 : decode cX12_fault 0 = .ok (.aload_n 0, 1) := by decide +kernel
theorem dX12_fault_1 : decode cX12_fault 1 = .ok (.invokevirtual 113, 3) := by decide +kernel
theorem dX12_fault_4 : decode cX12_fault 4 = .ok (.ireturn, 1) := by decide +kernel
theorem dX12_city_0 : decode cX12_city 0 = .ok (.aload_n 0, 1) := by decide +kernel
theorem dX12_city_1 : decode cX12_city 1 = .ok (.invokevirtual 113, 3) := by decide +kernel
theorem dX12_city_4 : decode cX12_city 4 = .ok (.bipush (-9), 2) := by decide +kernel
theorem dX12_city_6 : decode cX12_city 6 = .ok (.if_icmp .eq 6, 3) := by decide +kernel
theorem dX12_city_9 : decode cX12_city 9 = .ok (.bipush (-3), 2) := by decide +kernel
theorem dX12_city_11 : decode cX12_city 11 = .ok (.ireturn, 1) := by decide +kernel
theorem dX12_city_12 : decode cX12_city 12 = .ok (.aload_n 0, 1) := by decide +kernel
theorem dX12_city_13 : decode cX12_city 13 = .ok (.aload_n 0, 1) := by decide +kernel
theorem dX12_city_14 : decode cX12_city 14 = .ok (.getfield 90, 3) := by decide +kernel
theorem dX12_city_17 : decode cX12_city 17 = .ok (.putfield 117, 3) := by decide +kernel
theorem dX12_city_20 : decode cX12_city 20 = .ok (.aload_n 0, 1) := by decide +kernel
theorem dX12_city_21 : decode cX12_city 21 = .ok (.aload_n 0, 1) := by decide +kernel
theorem dX12_city_22 : decode cX12_city 22 = .ok (.getfield 93, 3) := by decide +kernel
theorem dX12_city_25 : decode cX12_city 25 = .ok (.putfield 120, 3) := by decide +kernel
theorem dX12_city_28 : decode cX12_city 28 = .ok (.aload_n 0, 1) := by decide +kernel
theorem dX12_city_29 : decode cX12_city 29 = .ok (.aload_n 0, 1) := by decide +kernel
theorem dX12_city_30 : decode cX12_city 30 = .ok (.getfield 96, 3) := by decide +kernel
theorem dX12_city_33 : decode cX12_city 33 = .ok (.putfield 123, 3) := by decide +kernel
theorem dX12_city_36 : decode cX12_city 36 = .ok (.iconst 0, 1) := by decide +kernel
theorem dX12_city_37 : decode cX12_city 37 = .ok (.istore_n 1, 1) := by decide +kernel
theorem dX12_city_38 : decode cX12_city 38 = .ok (.iload_n 1, 1) := by decide +kernel
theorem dX12_city_39 : decode cX12_city 39 = .ok (.bipush 31, 2) := by decide +kernel
theorem dX12_city_41 : decode cX12_city 41 = .ok (.if_icmp .ge 16, 3) := by decide +kernel
theorem dX12_city_44 : decode cX12_city 44 = .ok (.aload_n 0, 1) := by decide +kernel
theorem dX12_city_45 : decode cX12_city 45 = .ok (.getfield 28, 3) := by decide +kernel
theorem dX12_city_48 : decode cX12_city 48 = .ok (.iload_n 1, 1) := by decide +kernel
theorem dX12_city_49 : decode cX12_city 49 = .ok (.iconst 0, 1) := by decide +kernel
theorem dX12_city_50 : decode cX12_city 50 = .ok (.iastore, 1) := by decide +kernel
theorem dX12_city_51 : decode cX12_city 51 = .ok (.iinc 1 1, 3) := by decide +kernel
theorem dX12_city_54 : decode cX12_city 54 = .ok (.goto (-16), 3) := by decide +kernel
theorem dX12_city_57 : decode cX12_city 57 = .ok (.iconst 0, 1) := by decide +kernel
theorem dX12_city_58 : decode cX12_city 58 = .ok (.istore_n 1, 1) := by decide +kernel
theorem dX12_city_59 : decode cX12_city 59 = .ok (.iload_n 1, 1) := by decide +kernel
theorem dX12_city_60 : decode cX12_city 60 = .ok (.aload_n 0, 1) := by decide +kernel
theorem dX12_city_61 : decode cX12_city 61 = .ok (.getfield 117, 3) := by decide +kernel
theorem dX12_city_64 : decode cX12_city 64 = .ok (.if_icmp .ge 21, 3) := by decide +kernel
theorem dX12_city_67 : decode cX12_city 67 = .ok (.aload_n 0, 1) := by decide +kernel
theorem dX12_city_68 : decode cX12_city 68 = .ok (.getfield 7, 3) := by decide +kernel
theorem dX12_city_71 : decode cX12_city 71 = .ok (.iload_n 1, 1) := by decide +kernel
theorem dX12_city_72 : decode cX12_city 72 = .ok (.aload_n 0, 1) := by decide +kernel
theorem dX12_city_73 : decode cX12_city 73 = .ok (.getfield 31, 3) := by decide +kernel
theorem dX12_city_76 : decode cX12_city 76 = .ok (.iload_n 1, 1) := by decide +kernel
theorem dX12_city_77 : decode cX12_city 77 = .ok (.iaload, 1) := by decide +kernel
theorem dX12_city_78 : decode cX12_city 78 = .ok (.iastore, 1) := by decide +kernel
theorem dX12_city_79 : decode cX12_city 79 = .ok (.iinc 1 1, 3) := by decide +kernel
theorem dX12_city_82 : decode cX12_city 82 = .ok (.goto (-23), 3) := by decide +kernel
theorem dX12_city_85 : decode cX12_city 85 = .ok (.iconst 0, 1) := by decide +kernel
theorem dX12_city_86 : decode cX12_city 86 = .ok (.istore_n 1, 1) := by decide +kernel
theorem dX12_city_87 : decode cX12_city 87 = .ok (.iload_n 1, 1) := by decide +kernel
theorem dX12_city_88 : decode cX12_city 88 = .ok (.aload_n 0, 1) := by decide +kernel
theorem dX12_city_89 : decode cX12_city 89 = .ok (.getfield 120, 3) := by decide +kernel
theorem dX12_city_92 : decode cX12_city 92 = .ok (.if_icmp .ge 76, 3) := by decide +kernel
theorem dX12_city_95 : decode cX12_city 95 = .ok (.aload_n 0, 1) := by decide +kernel
theorem dX12_city_96 : decode cX12_city 96 = .ok (.getfield 28, 3) := by decide +kernel
theorem dX12_city_99 : decode cX12_city 99 = .ok (.iload_n 1, 1) := by decide +kernel
theorem dX12_city_100 : decode cX12_city 100 = .ok (.aload_n 0, 1) := by decide +kernel
theorem dX12_city_101 : decode cX12_city 101 = .ok (.getfield 34, 3) := by decide +kernel
theorem dX12_city_104 : decode cX12_city 104 = .ok (.iconst 3, 1) := by decide +kernel
theorem dX12_city_105 : decode cX12_city 105 = .ok (.iload_n 1, 1) := by decide +kernel
theorem dX12_city_106 : decode cX12_city 106 = .ok (.imul, 1) := by decide +kernel
theorem dX12_city_107 : decode cX12_city 107 = .ok (.iaload, 1) := by decide +kernel
theorem dX12_city_108 : decode cX12_city 108 = .ok (.iastore, 1) := by decide +kernel
theorem dX12_city_109 : decode cX12_city 109 = .ok (.aload_n 0, 1) := by decide +kernel
theorem dX12_city_110 : decode cX12_city 110 = .ok (.getfield 13, 3) := by decide +kernel
theorem dX12_city_113 : decode cX12_city 113 = .ok (.iload_n 1, 1) := by decide +kernel
theorem dX12_city_114 : decode cX12_city 114 = .ok (.aload_n 0, 1) := by decide +kernel
theorem dX12_city_115 : decode cX12_city 115 = .ok (.getfield 34, 3) := by decide +kernel
theorem dX12_city_118 : decode cX12_city 118 = .ok (.iconst 3, 1) := by decide +kernel
theorem dX12_city_119 : decode cX12_city 119 = .ok (.iload_n 1, 1) := by decide +kernel
theorem dX12_city_120 : decode cX12_city 120 = .ok (.imul, 1) := by decide +kernel
theorem dX12_city_121 : decode cX12_city 121 = .ok (.iconst 1, 1) := by decide +kernel
theorem dX12_city_122 : decode cX12_city 122 = .ok (.iadd, 1) := by decide +kernel
theorem dX12_city_123 : decode cX12_city 123 = .ok (.iaload, 1) := by decide +kernel
theorem dX12_city_124 : decode cX12_city 124 = .ok (.iastore, 1) := by decide +kernel
theorem dX12_city_125 : decode cX12_city 125 = .ok (.aload_n 0, 1) := by decide +kernel
theorem dX12_city_126 : decode cX12_city 126 = .ok (.getfield 16, 3) := by decide +kernel
theorem dX12_city_129 : decode cX12_city 129 = .ok (.iload_n 1, 1) := by decide +kernel
theorem dX12_city_130 : decode cX12_city 130 = .ok (.aload_n 0, 1) := by decide +kernel
theorem dX12_city_131 : decode cX12_city 131 = .ok (.getfield 34, 3) := by decide +kernel
theorem dX12_city_134 : decode cX12_city 134 = .ok (.iconst 3, 1) := by decide +kernel
theorem dX12_city_135 : decode cX12_city 135 = .ok (.iload_n 1, 1) := by decide +kernel
theorem dX12_city_136 : decode cX12_city 136 = .ok (.imul, 1) := by decide +kernel
theorem dX12_city_137 : decode cX12_city 137 = .ok (.iconst 2, 1) := by decide +kernel
theorem dX12_city_138 : decode cX12_city 138 = .ok (.iadd, 1) := by decide +kernel
theorem dX12_city_139 : decode cX12_city 139 = .ok (.iaload, 1) := by decide +kernel
theorem dX12_city_140 : decode cX12_city 140 = .ok (.iastore, 1) := by decide +kernel
theorem dX12_city_141 : decode cX12_city 141 = .ok (.aload_n 0, 1) := by decide +kernel
theorem dX12_city_142 : decode cX12_city 142 = .ok (.getfield 28, 3) := by decide +kernel
theorem dX12_city_145 : decode cX12_city 145 = .ok (.bipush 15, 2) := by decide +kernel
theorem dX12_city_147 : decode cX12_city 147 = .ok (.iload_n 1, 1) := by decide +kernel
theorem dX12_city_148 : decode cX12_city 148 = .ok (.iadd, 1) := by decide +kernel
theorem dX12_city_149 : decode cX12_city 149 = .ok (.bipush (-9), 2) := by decide +kernel
theorem dX12_city_151 : decode cX12_city 151 = .ok (.iastore, 1) := by decide +kernel
theorem dX12_city_152 : decode cX12_city 152 = .ok (.aload_n 0, 1) := by decide +kernel
theorem dX12_city_153 : decode cX12_city 153 = .ok (.getfield 28, 3) := by decide +kernel
theorem dX12_city_156 : decode cX12_city 156 = .ok (.bipush 25, 2) := by decide +kernel
theorem dX12_city_158 : decode cX12_city 158 = .ok (.iload_n 1, 1) := by decide +kernel
theorem dX12_city_159 : decode cX12_city 159 = .ok (.iadd, 1) := by decide +kernel
theorem dX12_city_160 : decode cX12_city 160 = .ok (.iload_n 1, 1) := by decide +kernel
theorem dX12_city_161 : decode cX12_city 161 = .ok (.iastore, 1) := by decide +kernel
theorem dX12_city_162 : decode cX12_city 162 = .ok (.iinc 1 1, 3) := by decide +kernel
theorem dX12_city_165 : decode cX12_city 165 = .ok (.goto (-78), 3) := by decide +kernel
theorem dX12_city_168 : decode cX12_city 168 = .ok (.iconst 0, 1) := by decide +kernel
theorem dX12_city_169 : decode cX12_city 169 = .ok (.istore_n 1, 1) := by decide +kernel
theorem dX12_city_170 : decode cX12_city 170 = .ok (.iload_n 1, 1) := by decide +kernel
theorem dX12_city_171 : decode cX12_city 171 = .ok (.aload_n 0, 1) := by decide +kernel
theorem dX12_city_172 : decode cX12_city 172 = .ok (.getfield 123, 3) := by decide +kernel
theorem dX12_city_175 : decode cX12_city 175 = .ok (.if_icmp .ge 55, 3) := by decide +kernel
theorem dX12_city_178 : decode cX12_city 178 = .ok (.aload_n 0, 1) := by decide +kernel
theorem dX12_city_179 : decode cX12_city 179 = .ok (.getfield 19, 3) := by decide +kernel
theorem dX12_city_182 : decode cX12_city 182 = .ok (.iload_n 1, 1) := by decide +kernel
theorem dX12_city_183 : decode cX12_city 183 = .ok (.aload_n 0, 1) := by decide +kernel
theorem dX12_city_184 : decode cX12_city 184 = .ok (.getfield 37, 3) := by decide +kernel
theorem dX12_city_187 : decode cX12_city 187 = .ok (.iconst 3, 1) := by decide +kernel
theorem dX12_city_188 : decode cX12_city 188 = .ok (.iload_n 1, 1) := by decide +kernel
theorem dX12_city_189 : decode cX12_city 189 = .ok (.imul, 1) := by decide +kernel
theorem dX12_city_190 : decode cX12_city 190 = .ok (.iaload, 1) := by decide +kernel
theorem dX12_city_191 : decode cX12_city 191 = .ok (.iastore, 1) := by decide +kernel
theorem dX12_city_192 : decode cX12_city 192 = .ok (.aload_n 0, 1) := by decide +kernel
theorem dX12_city_193 : decode cX12_city 193 = .ok (.getfield 22, 3) := by decide +kernel
theorem dX12_city_196 : decode cX12_city 196 = .ok (.iload_n 1, 1) := by decide +kernel
theorem dX12_city_197 : decode cX12_city 197 = .ok (.aload_n 0, 1) := by decide +kernel
theorem dX12_city_198 : decode cX12_city 198 = .ok (.getfield 37, 3) := by decide +kernel
theorem dX12_city_201 : decode cX12_city 201 = .ok (.iconst 3, 1) := by decide +kernel
theorem dX12_city_202 : decode cX12_city 202 = .ok (.iload_n 1, 1) := by decide +kernel
theorem dX12_city_203 : decode cX12_city 203 = .ok (.imul, 1) := by decide +kernel
theorem dX12_city_204 : decode cX12_city 204 = .ok (.iconst 1, 1) := by decide +kernel
theorem dX12_city_205 : decode cX12_city 205 = .ok (.iadd, 1) := by decide +kernel
theorem dX12_city_206 : decode cX12_city 206 = .ok (.iaload, 1) := by decide +kernel
theorem dX12_city_207 : decode cX12_city 207 = .ok (.iastore, 1) := by decide +kernel
theorem dX12_city_208 : decode cX12_city 208 = .ok (.aload_n 0, 1) := by decide +kernel
theorem dX12_city_209 : decode cX12_city 209 = .ok (.getfield 25, 3) := by decide +kernel
theorem dX12_city_212 : decode cX12_city 212 = .ok (.iload_n 1, 1) := by decide +kernel
theorem dX12_city_213 : decode cX12_city 213 = .ok (.aload_n 0, 1) := by decide +kernel
theorem dX12_city_214 : decode cX12_city 214 = .ok (.getfield 37, 3) := by decide +kernel
theorem dX12_city_217 : decode cX12_city 217 = .ok (.iconst 3, 1) := by decide +kernel
theorem dX12_city_218 : decode cX12_city 218 = .ok (.iload_n 1, 1) := by decide +kernel
theorem dX12_city_219 : decode cX12_city 219 = .ok (.imul, 1) := by decide +kernel
theorem dX12_city_220 : decode cX12_city 220 = .ok (.iconst 2, 1) := by decide +kernel
theorem dX12_city_221 : decode cX12_city 221 = .ok (.iadd, 1) := by decide +kernel
theorem dX12_city_222 : decode cX12_city 222 = .ok (.iaload, 1) := by decide +kernel
theorem dX12_city_223 : decode cX12_city 223 = .ok (.iastore, 1) := by decide +kernel
theorem dX12_city_224 : decode cX12_city 224 = .ok (.iinc 1 1, 3) := by decide +kernel
theorem dX12_city_227 : decode cX12_city 227 = .ok (.goto (-57), 3) := by decide +kernel
theorem dX12_city_230 : decode cX12_city 230 = .ok (.aload_n 0, 1) := by decide +kernel
theorem dX12_city_231 : decode cX12_city 231 = .ok (.iconst 0, 1) := by decide +kernel
theorem dX12_city_232 : decode cX12_city 232 = .ok (.putfield 126, 3) := by decide +kernel
theorem dX12_city_235 : decode cX12_city 235 = .ok (.aload_n 0, 1) := by decide +kernel
theorem dX12_city_236 : decode cX12_city 236 = .ok (.getfield 62, 3) := by decide +kernel
theorem dX12_city_239 : decode cX12_city 239 = .ok (.iconst 0, 1) := by decide +kernel
theorem dX12_city_240 : decode cX12_city 240 = .ok (.iconst 0, 1) := by decide +kernel
theorem dX12_city_241 : decode cX12_city 241 = .ok (.bastore, 1) := by decide +kernel
theorem dX12_city_242 : decode cX12_city 242 = .ok (.aload_n 0, 1) := by decide +kernel
theorem dX12_city_243 : decode cX12_city 243 = .ok (.getfield 62, 3) := by decide +kernel
theorem dX12_city_246 : decode cX12_city 246 = .ok (.iconst 1, 1) := by decide +kernel
theorem dX12_city_247 : decode cX12_city 247 = .ok (.iconst 0, 1) := by decide +kernel
theorem dX12_city_248 : decode cX12_city 248 = .ok (.bastore, 1) := by decide +kernel
theorem dX12_city_249 : decode cX12_city 249 = .ok (.bipush 100, 2) := by decide +kernel
theorem dX12_city_251 : decode cX12_city 251 = .ok (.aload_n 0, 1) := by decide +kernel
theorem dX12_city_252 : decode cX12_city 252 = .ok (.getfield 117, 3) := by decide +kernel
theorem dX12_city_255 : decode cX12_city 255 = .ok (.imul, 1) := by decide +kernel
theorem dX12_city_256 : decode cX12_city 256 = .ok (.bipush 10, 2) := by decide +kernel
theorem dX12_city_258 : decode cX12_city 258 = .ok (.aload_n 0, 1) := by decide +kernel
theorem dX12_city_259 : decode cX12_city 259 = .ok (.getfield 120, 3) := by decide +kernel
theorem dX12_city_262 : decode cX12_city 262 = .ok (.imul, 1) := by decide +kernel
theorem dX12_city_263 : decode cX12_city 263 = .ok (.iadd, 1) := by decide +kernel
theorem dX12_city_264 : decode cX12_city 264 = .ok (.aload_n 0, 1) := by decide +kernel
theorem dX12_city_265 : decode cX12_city 265 = .ok (.getfield 123, 3) := by decide +kernel
theorem dX12_city_268 : decode cX12_city 268 = .ok (.iadd, 1) := by decide +kernel
theorem dX12_city_269 : decode cX12_city 269 = .ok (.ireturn, 1) := by decide +kernel
theorem dX12_isBalloon_0 : decode cX12_isBalloon 0 = .ok (.iload_n 1, 1) := by decide +kernel
theorem dX12_isBalloon_1 : decode cX12_isBalloon 1 = .ok (.i2l, 1) := by decide +kernel
theorem dX12_isBalloon_2 : decode cX12_isBalloon 2 = .ok (.lconst 0, 1) := by decide +kernel
theorem dX12_isBalloon_3 : decode cX12_isBalloon 3 = .ok (.aload_n 0, 1) := by decide +kernel
theorem dX12_isBalloon_4 : decode cX12_isBalloon 4 = .ok (.getfield 120, 3) := by decide +kernel
theorem dX12_isBalloon_7 : decode cX12_isBalloon 7 = .ok (.iconst 1, 1) := by decide +kernel
theorem dX12_isBalloon_8 : decode cX12_isBalloon 8 = .ok (.isub, 1) := by decide +kernel
theorem dX12_isBalloon_9 : decode cX12_isBalloon 9 = .ok (.i2l, 1) := by decide +kernel
theorem dX12_isBalloon_10 : decode cX12_isBalloon 10 = .ok (.invokestatic 71, 3) := by decide +kernel
theorem dX12_isBalloon_13 : decode cX12_isBalloon 13 = .ok (.ireturn, 1) := by decide +kernel
theorem dX12_isHedge_0 : decode cX12_isHedge 0 = .ok (.iload_n 1, 1) := by decide +kernel
theorem dX12_isHedge_1 : decode cX12_isHedge 1 = .ok (.i2l, 1) := by decide +kernel
theorem dX12_isHedge_2 : decode cX12_isHedge 2 = .ok (.lconst 0, 1) := by decide +kernel
theorem dX12_isHedge_3 : decode cX12_isHedge 3 = .ok (.aload_n 0, 1) := by decide +kernel
theorem dX12_isHedge_4 : decode cX12_isHedge 4 = .ok (.getfield 123, 3) := by decide +kernel
theorem dX12_isHedge_7 : decode cX12_isHedge 7 = .ok (.iconst 1, 1) := by decide +kernel
theorem dX12_isHedge_8 : decode cX12_isHedge 8 = .ok (.isub, 1) := by decide +kernel
theorem dX12_isHedge_9 : decode cX12_isHedge 9 = .ok (.i2l, 1) := by decide +kernel
theorem dX12_isHedge_10 : decode cX12_isHedge 10 = .ok (.invokestatic 71, 3) := by decide +kernel
theorem dX12_isHedge_13 : decode cX12_isHedge 13 = .ok (.ireturn, 1) := by decide +kernel
theorem dX12_isCell_0 : decode cX12_isCell 0 = .ok (.iload_n 0, 1) := by decide +kernel
theorem dX12_isCell_1 : decode cX12_isCell 1 = .ok (.i2l, 1) := by decide +kernel
theorem dX12_isCell_2 : decode cX12_isCell 2 = .ok (.lconst 0, 1) := by decide +kernel
theorem dX12_isCell_3 : decode cX12_isCell 3 = .ok (.ldc2_w 84, 3) := by decide +kernel
theorem dX12_isCell_6 : decode cX12_isCell 6 = .ok (.invokestatic 71, 3) := by decide +kernel
theorem dX12_isCell_9 : decode cX12_isCell 9 = .ok (.ireturn, 1) := by decide +kernel
theorem dX12_windOf_0 : decode cX12_windOf 0 = .ok (.aload_n 0, 1) := by decide +kernel
theorem dX12_windOf_1 : decode cX12_windOf 1 = .ok (.getfield 117, 3) := by decide +kernel
theorem dX12_windOf_4 : decode cX12_windOf 4 = .ok (.ifCond .ne 7, 3) := by decide +kernel
theorem dX12_windOf_7 : decode cX12_windOf 7 = .ok (.iconst 0, 1) := by decide +kernel
theorem dX12_windOf_8 : decode cX12_windOf 8 = .ok (.goto 14, 3) := by decide +kernel
theorem dX12_windOf_11 : decode cX12_windOf 11 = .ok (.aload_n 0, 1) := by decide +kernel
theorem dX12_windOf_12 : decode cX12_windOf 12 = .ok (.getfield 7, 3) := by decide +kernel
theorem dX12_windOf_15 : decode cX12_windOf 15 = .ok (.iload_n 1, 1) := by decide +kernel
theorem dX12_windOf_16 : decode cX12_windOf 16 = .ok (.aload_n 0, 1) := by decide +kernel
theorem dX12_windOf_17 : decode cX12_windOf 17 = .ok (.getfield 117, 3) := by decide +kernel
theorem dX12_windOf_20 : decode cX12_windOf 20 = .ok (.irem, 1) := by decide +kernel
theorem dX12_windOf_21 : decode cX12_windOf 21 = .ok (.iaload, 1) := by decide +kernel
theorem dX12_windOf_22 : decode cX12_windOf 22 = .ok (.ireturn, 1) := by decide +kernel
theorem dX12_blown_0 : decode cX12_blown 0 = .ok (.iload_n 1, 1) := by decide +kernel
theorem dX12_blown_1 : decode cX12_blown 1 = .ok (.tableswitch 91 1 4 #[31, 47, 62, 76], 31) := by decide +kernel
theorem dX12_blown_32 : decode cX12_blown 32 = .ok (.iload_n 0, 1) := by decide +kernel
theorem dX12_blown_33 : decode cX12_blown 33 = .ok (.iconst 5, 1) := by decide +kernel
theorem dX12_blown_34 : decode cX12_blown 34 = .ok (.irem, 1) := by decide +kernel
theorem dX12_blown_35 : decode cX12_blown 35 = .ok (.iconst 4, 1) := by decide +kernel
theorem dX12_blown_36 : decode cX12_blown 36 = .ok (.if_icmp .ge 9, 3) := by decide +kernel
theorem dX12_blown_39 : decode cX12_blown 39 = .ok (.iload_n 0, 1) := by decide +kernel
theorem dX12_blown_40 : decode cX12_blown 40 = .ok (.iconst 1, 1) := by decide +kernel
theorem dX12_blown_41 : decode cX12_blown 41 = .ok (.iadd, 1) := by decide +kernel
theorem dX12_blown_42 : decode cX12_blown 42 = .ok (.goto 5, 3) := by decide +kernel
theorem dX12_blown_45 : decode cX12_blown 45 = .ok (.bipush (-9), 2) := by decide +kernel
theorem dX12_blown_47 : decode cX12_blown 47 = .ok (.ireturn, 1) := by decide +kernel
theorem dX12_blown_48 : decode cX12_blown 48 = .ok (.iload_n 0, 1) := by decide +kernel
theorem dX12_blown_49 : decode cX12_blown 49 = .ok (.iconst 5, 1) := by decide +kernel
theorem dX12_blown_50 : decode cX12_blown 50 = .ok (.irem, 1) := by decide +kernel
theorem dX12_blown_51 : decode cX12_blown 51 = .ok (.ifCond .le 9, 3) := by decide +kernel
theorem dX12_blown_54 : decode cX12_blown 54 = .ok (.iload_n 0, 1) := by decide +kernel
theorem dX12_blown_55 : decode cX12_blown 55 = .ok (.iconst 1, 1) := by decide +kernel
theorem dX12_blown_56 : decode cX12_blown 56 = .ok (.isub, 1) := by decide +kernel
theorem dX12_blown_57 : decode cX12_blown 57 = .ok (.goto 5, 3) := by decide +kernel
theorem dX12_blown_60 : decode cX12_blown 60 = .ok (.bipush (-9), 2) := by decide +kernel
theorem dX12_blown_62 : decode cX12_blown 62 = .ok (.ireturn, 1) := by decide +kernel
theorem dX12_blown_63 : decode cX12_blown 63 = .ok (.iload_n 0, 1) := by decide +kernel
theorem dX12_blown_64 : decode cX12_blown 64 = .ok (.iconst 4, 1) := by decide +kernel
theorem dX12_blown_65 : decode cX12_blown 65 = .ok (.if_icmp .le 9, 3) := by decide +kernel
theorem dX12_blown_68 : decode cX12_blown 68 = .ok (.iload_n 0, 1) := by decide +kernel
theorem dX12_blown_69 : decode cX12_blown 69 = .ok (.iconst 5, 1) := by decide +kernel
theorem dX12_blown_70 : decode cX12_blown 70 = .ok (.isub, 1) := by decide +kernel
theorem dX12_blown_71 : decode cX12_blown 71 = .ok (.goto 5, 3) := by decide +kernel
theorem dX12_blown_74 : decode cX12_blown 74 = .ok (.bipush (-9), 2) := by decide +kernel
theorem dX12_blown_76 : decode cX12_blown 76 = .ok (.ireturn, 1) := by decide +kernel
theorem dX12_blown_77 : decode cX12_blown 77 = .ok (.iload_n 0, 1) := by decide +kernel
theorem dX12_blown_78 : decode cX12_blown 78 = .ok (.bipush 15, 2) := by decide +kernel
theorem dX12_blown_80 : decode cX12_blown 80 = .ok (.if_icmp .ge 9, 3) := by decide +kernel
theorem dX12_blown_83 : decode cX12_blown 83 = .ok (.iload_n 0, 1) := by decide +kernel
theorem dX12_blown_84 : decode cX12_blown 84 = .ok (.iconst 5, 1) := by decide +kernel
theorem dX12_blown_85 : decode cX12_blown 85 = .ok (.iadd, 1) := by decide +kernel
theorem dX12_blown_86 : decode cX12_blown 86 = .ok (.goto 5, 3) := by decide +kernel
theorem dX12_blown_89 : decode cX12_blown 89 = .ok (.bipush (-9), 2) := by decide +kernel
theorem dX12_blown_91 : decode cX12_blown 91 = .ok (.ireturn, 1) := by decide +kernel
theorem dX12_blown_92 : decode cX12_blown 92 = .ok (.iload_n 0, 1) := by decide +kernel
theorem dX12_blown_93 : decode cX12_blown 93 = .ok (.ireturn, 1) := by decide +kernel
theorem dX12_hedgeAt_0 : decode cX12_hedgeAt 0 = .ok (.iconst 0, 1) := by decide +kernel
theorem dX12_hedgeAt_1 : decode cX12_hedgeAt 1 = .ok (.istore_n 2, 1) := by decide +kernel
theorem dX12_hedgeAt_2 : decode cX12_hedgeAt 2 = .ok (.iload_n 2, 1) := by decide +kernel
theorem dX12_hedgeAt_3 : decode cX12_hedgeAt 3 = .ok (.aload_n 0, 1) := by decide +kernel
theorem dX12_hedgeAt_4 : decode cX12_hedgeAt 4 = .ok (.getfield 123, 3) := by decide +kernel
theorem dX12_hedgeAt_7 : decode cX12_hedgeAt 7 = .ok (.if_icmp .ge 32, 3) := by decide +kernel
theorem dX12_hedgeAt_10 : decode cX12_hedgeAt 10 = .ok (.aload_n 0, 1) := by decide +kernel
theorem dX12_hedgeAt_11 : decode cX12_hedgeAt 11 = .ok (.getfield 43, 3) := by decide +kernel
theorem dX12_hedgeAt_14 : decode cX12_hedgeAt 14 = .ok (.iload_n 2, 1) := by decide +kernel
theorem dX12_hedgeAt_15 : decode cX12_hedgeAt 15 = .ok (.invokestatic 86, 3) := by decide +kernel
theorem dX12_hedgeAt_18 : decode cX12_hedgeAt 18 = .ok (.ifCond .eq 15, 3) := by decide +kernel
theorem dX12_hedgeAt_21 : decode cX12_hedgeAt 21 = .ok (.aload_n 0, 1) := by decide +kernel
theorem dX12_hedgeAt_22 : decode cX12_hedgeAt 22 = .ok (.getfield 19, 3) := by decide +kernel
theorem dX12_hedgeAt_25 : decode cX12_hedgeAt 25 = .ok (.iload_n 2, 1) := by decide +kernel
theorem dX12_hedgeAt_26 : decode cX12_hedgeAt 26 = .ok (.iaload, 1) := by decide +kernel
theorem dX12_hedgeAt_27 : decode cX12_hedgeAt 27 = .ok (.iload_n 1, 1) := by decide +kernel
theorem dX12_hedgeAt_28 : decode cX12_hedgeAt 28 = .ok (.if_icmp .ne 5, 3) := by decide +kernel
theorem dX12_hedgeAt_31 : decode cX12_hedgeAt 31 = .ok (.iload_n 2, 1) := by decide +kernel
theorem dX12_hedgeAt_32 : decode cX12_hedgeAt 32 = .ok (.ireturn, 1) := by decide +kernel
theorem dX12_hedgeAt_33 : decode cX12_hedgeAt 33 = .ok (.iinc 2 1, 3) := by decide +kernel
theorem dX12_hedgeAt_36 : decode cX12_hedgeAt 36 = .ok (.goto (-34), 3) := by decide +kernel
theorem dX12_hedgeAt_39 : decode cX12_hedgeAt 39 = .ok (.bipush (-9), 2) := by decide +kernel
theorem dX12_hedgeAt_41 : decode cX12_hedgeAt 41 = .ok (.ireturn, 1) := by decide +kernel
theorem dX12_goOne_0 : decode cX12_goOne 0 = .ok (.bipush 31, 2) := by decide +kernel
theorem dX12_goOne_2 : decode cX12_goOne 2 = .ok (.iload_n 1, 1) := by decide +kernel
theorem dX12_goOne_3 : decode cX12_goOne 3 = .ok (.imul, 1) := by decide +kernel
theorem dX12_goOne_4 : decode cX12_goOne 4 = .ok (.istore 4, 2) := by decide +kernel
theorem dX12_goOne_6 : decode cX12_goOne 6 = .ok (.aload_n 0, 1) := by decide +kernel
theorem dX12_goOne_7 : decode cX12_goOne 7 = .ok (.getfield 28, 3) := by decide +kernel
theorem dX12_goOne_10 : decode cX12_goOne 10 = .ok (.iload 4, 2) := by decide +kernel
theorem dX12_goOne_12 : decode cX12_goOne 12 = .ok (.iload_n 2, 1) := by decide +kernel
theorem dX12_goOne_13 : decode cX12_goOne 13 = .ok (.iadd, 1) := by decide +kernel
theorem dX12_goOne_14 : decode cX12_goOne 14 = .ok (.iaload, 1) := by decide +kernel
theorem dX12_goOne_15 : decode cX12_goOne 15 = .ok (.iload_n 3, 1) := by decide +kernel
theorem dX12_goOne_16 : decode cX12_goOne 16 = .ok (.invokestatic 129, 3) := by decide +kernel
theorem dX12_goOne_19 : decode cX12_goOne 19 = .ok (.istore 5, 2) := by decide +kernel
theorem dX12_goOne_21 : decode cX12_goOne 21 = .ok (.aload_n 0, 1) := by decide +kernel
theorem dX12_goOne_22 : decode cX12_goOne 22 = .ok (.getfield 28, 3) := by decide +kernel
theorem dX12_goOne_25 : decode cX12_goOne 25 = .ok (.iload 4, 2) := by decide +kernel
theorem dX12_goOne_27 : decode cX12_goOne 27 = .ok (.iload_n 2, 1) := by decide +kernel
theorem dX12_goOne_28 : decode cX12_goOne 28 = .ok (.iadd, 1) := by decide +kernel
theorem dX12_goOne_29 : decode cX12_goOne 29 = .ok (.iload 5, 2) := by decide +kernel
theorem dX12_goOne_31 : decode cX12_goOne 31 = .ok (.bipush (-9), 2) := by decide +kernel
theorem dX12_goOne_33 : decode cX12_goOne 33 = .ok (.if_icmp .ne 15, 3) := by decide +kernel
theorem dX12_goOne_36 : decode cX12_goOne 36 = .ok (.aload_n 0, 1) := by decide +kernel
theorem dX12_goOne_37 : decode cX12_goOne 37 = .ok (.getfield 28, 3) := by decide +kernel
theorem dX12_goOne_40 : decode cX12_goOne 40 = .ok (.iload 4, 2) := by decide +kernel
theorem dX12_goOne_42 : decode cX12_goOne 42 = .ok (.iload_n 2, 1) := by decide +kernel
theorem dX12_goOne_43 : decode cX12_goOne 43 = .ok (.iadd, 1) := by decide +kernel
theorem dX12_goOne_44 : decode cX12_goOne 44 = .ok (.iaload, 1) := by decide +kernel
theorem dX12_goOne_45 : decode cX12_goOne 45 = .ok (.goto 5, 3) := by decide +kernel
theorem dX12_goOne_48 : decode cX12_goOne 48 = .ok (.iload 5, 2) := by decide +kernel
theorem dX12_goOne_50 : decode cX12_goOne 50 = .ok (.iastore, 1) := by decide +kernel
theorem dX12_goOne_51 : decode cX12_goOne 51 = .ok (.aload_n 0, 1) := by decide +kernel
theorem dX12_goOne_52 : decode cX12_goOne 52 = .ok (.getfield 28, 3) := by decide +kernel
theorem dX12_goOne_55 : decode cX12_goOne 55 = .ok (.iload 4, 2) := by decide +kernel
theorem dX12_goOne_57 : decode cX12_goOne 57 = .ok (.iconst 5, 1) := by decide +kernel
theorem dX12_goOne_58 : decode cX12_goOne 58 = .ok (.iadd, 1) := by decide +kernel
theorem dX12_goOne_59 : decode cX12_goOne 59 = .ok (.iload_n 2, 1) := by decide +kernel
theorem dX12_goOne_60 : decode cX12_goOne 60 = .ok (.iadd, 1) := by decide +kernel
theorem dX12_goOne_61 : decode cX12_goOne 61 = .ok (.iload 5, 2) := by decide +kernel
theorem dX12_goOne_63 : decode cX12_goOne 63 = .ok (.bipush (-9), 2) := by decide +kernel
theorem dX12_goOne_65 : decode cX12_goOne 65 = .ok (.if_icmp .ne 7, 3) := by decide +kernel
theorem dX12_goOne_68 : decode cX12_goOne 68 = .ok (.iconst 3, 1) := by decide +kernel
theorem dX12_goOne_69 : decode cX12_goOne 69 = .ok (.goto 4, 3) := by decide +kernel
theorem dX12_goOne_72 : decode cX12_goOne 72 = .ok (.iconst 1, 1) := by decide +kernel
theorem dX12_goOne_73 : decode cX12_goOne 73 = .ok (.iastore, 1) := by decide +kernel
theorem dX12_goOne_74 : decode cX12_goOne 74 = .ok (.return_, 1) := by decide +kernel
theorem dX12_go_0 : decode cX12_go 0 = .ok (.bipush 31, 2) := by decide +kernel
theorem dX12_go_2 : decode cX12_go 2 = .ok (.iload_n 1, 1) := by decide +kernel
theorem dX12_go_3 : decode cX12_go 3 = .ok (.imul, 1) := by decide +kernel
theorem dX12_go_4 : decode cX12_go 4 = .ok (.istore 4, 2) := by decide +kernel
theorem dX12_go_6 : decode cX12_go 6 = .ok (.iload_n 3, 1) := by decide +kernel
theorem dX12_go_7 : decode cX12_go 7 = .ok (.istore 5, 2) := by decide +kernel
theorem dX12_go_9 : decode cX12_go 9 = .ok (.aload_n 0, 1) := by decide +kernel
theorem dX12_go_10 : decode cX12_go 10 = .ok (.getfield 13, 3) := by decide +kernel
theorem dX12_go_13 : decode cX12_go 13 = .ok (.iload_n 2, 1) := by decide +kernel
theorem dX12_go_14 : decode cX12_go 14 = .ok (.iaload, 1) := by decide +kernel
theorem dX12_go_15 : decode cX12_go 15 = .ok (.iconst 1, 1) := by decide +kernel
theorem dX12_go_16 : decode cX12_go 16 = .ok (.if_icmp .ne 63, 3) := by decide +kernel
theorem dX12_go_19 : decode cX12_go 19 = .ok (.aload_n 0, 1) := by decide +kernel
theorem dX12_go_20 : decode cX12_go 20 = .ok (.getfield 28, 3) := by decide +kernel
theorem dX12_go_23 : decode cX12_go 23 = .ok (.iload 4, 2) := by decide +kernel
theorem dX12_go_25 : decode cX12_go 25 = .ok (.bipush 10, 2) := by decide +kernel
theorem dX12_go_27 : decode cX12_go 27 = .ok (.iadd, 1) := by decide +kernel
theorem dX12_go_28 : decode cX12_go 28 = .ok (.iload_n 2, 1) := by decide +kernel
theorem dX12_go_29 : decode cX12_go 29 = .ok (.iadd, 1) := by decide +kernel
theorem dX12_go_30 : decode cX12_go 30 = .ok (.aload_n 0, 1) := by decide +kernel
theorem dX12_go_31 : decode cX12_go 31 = .ok (.getfield 28, 3) := by decide +kernel
theorem dX12_go_34 : decode cX12_go 34 = .ok (.iload 4, 2) := by decide +kernel
theorem dX12_go_36 : decode cX12_go 36 = .ok (.bipush 10, 2) := by decide +kernel
theorem dX12_go_38 : decode cX12_go 38 = .ok (.iadd, 1) := by decide +kernel
theorem dX12_go_39 : decode cX12_go 39 = .ok (.iload_n 2, 1) := by decide +kernel
theorem dX12_go_40 : decode cX12_go 40 = .ok (.iadd, 1) := by decide +kernel
theorem dX12_go_41 : decode cX12_go 41 = .ok (.iaload, 1) := by decide +kernel
theorem dX12_go_42 : decode cX12_go 42 = .ok (.ifCond .ne 7, 3) := by decide +kernel
theorem dX12_go_45 : decode cX12_go 45 = .ok (.iload_n 3, 1) := by decide +kernel
theorem dX12_go_46 : decode cX12_go 46 = .ok (.goto 15, 3) := by decide +kernel
theorem dX12_go_49 : decode cX12_go 49 = .ok (.aload_n 0, 1) := by decide +kernel
theorem dX12_go_50 : decode cX12_go 50 = .ok (.getfield 28, 3) := by decide +kernel
theorem dX12_go_53 : decode cX12_go 53 = .ok (.iload 4, 2) := by decide +kernel
theorem dX12_go_55 : decode cX12_go 55 = .ok (.bipush 10, 2) := by decide +kernel
theorem dX12_go_57 : decode cX12_go 57 = .ok (.iadd, 1) := by decide +kernel
theorem dX12_go_58 : decode cX12_go 58 = .ok (.iload_n 2, 1) := by decide +kernel
theorem dX12_go_59 : decode cX12_go 59 = .ok (.iadd, 1) := by decide +kernel
theorem dX12_go_60 : decode cX12_go 60 = .ok (.iaload, 1) := by decide +kernel
theorem dX12_go_61 : decode cX12_go 61 = .ok (.iastore, 1) := by decide +kernel
theorem dX12_go_62 : decode cX12_go 62 = .ok (.aload_n 0, 1) := by decide +kernel
theorem dX12_go_63 : decode cX12_go 63 = .ok (.getfield 28, 3) := by decide +kernel
theorem dX12_go_66 : decode cX12_go 66 = .ok (.iload 4, 2) := by decide +kernel
theorem dX12_go_68 : decode cX12_go 68 = .ok (.bipush 10, 2) := by decide +kernel
theorem dX12_go_70 : decode cX12_go 70 = .ok (.iadd, 1) := by decide +kernel
theorem dX12_go_71 : decode cX12_go 71 = .ok (.iload_n 2, 1) := by decide +kernel
theorem dX12_go_72 : decode cX12_go 72 = .ok (.iadd, 1) := by decide +kernel
theorem dX12_go_73 : decode cX12_go 73 = .ok (.iaload, 1) := by decide +kernel
theorem dX12_go_74 : decode cX12_go 74 = .ok (.istore 5, 2) := by decide +kernel
theorem dX12_go_76 : decode cX12_go 76 = .ok (.goto 32, 3) := by decide +kernel
theorem dX12_go_79 : decode cX12_go 79 = .ok (.aload_n 0, 1) := by decide +kernel
theorem dX12_go_80 : decode cX12_go 80 = .ok (.getfield 13, 3) := by decide +kernel
theorem dX12_go_83 : decode cX12_go 83 = .ok (.iload_n 2, 1) := by decide +kernel
theorem dX12_go_84 : decode cX12_go 84 = .ok (.iaload, 1) := by decide +kernel
theorem dX12_go_85 : decode cX12_go 85 = .ok (.iconst 2, 1) := by decide +kernel
theorem dX12_go_86 : decode cX12_go 86 = .ok (.if_icmp .ne 22, 3) := by decide +kernel
theorem dX12_go_89 : decode cX12_go 89 = .ok (.aload_n 0, 1) := by decide +kernel
theorem dX12_go_90 : decode cX12_go 90 = .ok (.getfield 28, 3) := by decide +kernel
theorem dX12_go_93 : decode cX12_go 93 = .ok (.iload 4, 2) := by decide +kernel
theorem dX12_go_95 : decode cX12_go 95 = .ok (.bipush 30, 2) := by decide +kernel
theorem dX12_go_97 : decode cX12_go 97 = .ok (.iadd, 1) := by decide +kernel
theorem dX12_go_98 : decode cX12_go 98 = .ok (.iaload, 1) := by decide +kernel
theorem dX12_go_99 : decode cX12_go 99 = .ok (.iconst 2, 1) := by decide +kernel
theorem dX12_go_100 : decode cX12_go 100 = .ok (.irem, 1) := by decide +kernel
theorem dX12_go_101 : decode cX12_go 101 = .ok (.iconst 1, 1) := by decide +kernel
theorem dX12_go_102 : decode cX12_go 102 = .ok (.if_icmp .ne 6, 3) := by decide +kernel
theorem dX12_go_105 : decode cX12_go 105 = .ok (.iconst 0, 1) := by decide +kernel
theorem dX12_go_106 : decode cX12_go 106 = .ok (.istore 5, 2) := by decide +kernel
theorem dX12_go_108 : decode cX12_go 108 = .ok (.aload_n 0, 1) := by decide +kernel
theorem dX12_go_109 : decode cX12_go 109 = .ok (.iload_n 1, 1) := by decide +kernel
theorem dX12_go_110 : decode cX12_go 110 = .ok (.iload_n 2, 1) := by decide +kernel
theorem dX12_go_111 : decode cX12_go 111 = .ok (.iload 5, 2) := by decide +kernel
theorem dX12_go_113 : decode cX12_go 113 = .ok (.invokevirtual 133, 3) := by decide +kernel
theorem dX12_go_116 : decode cX12_go 116 = .ok (.aload_n 0, 1) := by decide +kernel
theorem dX12_go_117 : decode cX12_go 117 = .ok (.getfield 13, 3) := by decide +kernel
theorem dX12_go_120 : decode cX12_go 120 = .ok (.iload_n 2, 1) := by decide +kernel
theorem dX12_go_121 : decode cX12_go 121 = .ok (.iaload, 1) := by decide +kernel
theorem dX12_go_122 : decode cX12_go 122 = .ok (.iconst 3, 1) := by decide +kernel
theorem dX12_go_123 : decode cX12_go 123 = .ok (.if_icmp .ne 26, 3) := by decide +kernel
theorem dX12_go_126 : decode cX12_go 126 = .ok (.aload_n 0, 1) := by decide +kernel
theorem dX12_go_127 : decode cX12_go 127 = .ok (.getfield 28, 3) := by decide +kernel
theorem dX12_go_130 : decode cX12_go 130 = .ok (.iload 4, 2) := by decide +kernel
theorem dX12_go_132 : decode cX12_go 132 = .ok (.iconst 5, 1) := by decide +kernel
theorem dX12_go_133 : decode cX12_go 133 = .ok (.iadd, 1) := by decide +kernel
theorem dX12_go_134 : decode cX12_go 134 = .ok (.iload_n 2, 1) := by decide +kernel
theorem dX12_go_135 : decode cX12_go 135 = .ok (.iadd, 1) := by decide +kernel
theorem dX12_go_136 : decode cX12_go 136 = .ok (.iaload, 1) := by decide +kernel
theorem dX12_go_137 : decode cX12_go 137 = .ok (.iconst 1, 1) := by decide +kernel
theorem dX12_go_138 : decode cX12_go 138 = .ok (.if_icmp .ne 11, 3) := by decide +kernel
theorem dX12_go_141 : decode cX12_go 141 = .ok (.aload_n 0, 1) := by decide +kernel
theorem dX12_go_142 : decode cX12_go 142 = .ok (.iload_n 1, 1) := by decide +kernel
theorem dX12_go_143 : decode cX12_go 143 = .ok (.iload_n 2, 1) := by decide +kernel
theorem dX12_go_144 : decode cX12_go 144 = .ok (.iload 5, 2) := by decide +kernel
theorem dX12_go_146 : decode cX12_go 146 = .ok (.invokevirtual 133, 3) := by decide +kernel
theorem dX12_go_149 : decode cX12_go 149 = .ok (.return_, 1) := by decide +kernel
theorem dX12_passOn_0 : decode cX12_passOn 0 = .ok (.bipush 31, 2) := by decide +kernel
theorem dX12_passOn_2 : decode cX12_passOn 2 = .ok (.iload_n 1, 1) := by decide +kernel
theorem dX12_passOn_3 : decode cX12_passOn 3 = .ok (.imul, 1) := by decide +kernel
theorem dX12_passOn_4 : decode cX12_passOn 4 = .ok (.istore_n 3, 1) := by decide +kernel
theorem dX12_passOn_5 : decode cX12_passOn 5 = .ok (.iload_n 2, 1) := by decide +kernel
theorem dX12_passOn_6 : decode cX12_passOn 6 = .ok (.ifCond .eq 19, 3) := by decide +kernel
theorem dX12_passOn_9 : decode cX12_passOn 9 = .ok (.aload_n 0, 1) := by decide +kernel
theorem dX12_passOn_10 : decode cX12_passOn 10 = .ok (.aload_n 0, 1) := by decide +kernel
theorem dX12_passOn_11 : decode cX12_passOn 11 = .ok (.getfield 28, 3) := by decide +kernel
theorem dX12_passOn_14 : decode cX12_passOn 14 = .ok (.iload_n 3, 1) := by decide +kernel
theorem dX12_passOn_15 : decode cX12_passOn 15 = .ok (.bipush 30, 2) := by decide +kernel
theorem dX12_passOn_17 : decode cX12_passOn 17 = .ok (.iadd, 1) := by decide +kernel
theorem dX12_passOn_18 : decode cX12_passOn 18 = .ok (.iaload, 1) := by decide +kernel
theorem dX12_passOn_19 : decode cX12_passOn 19 = .ok (.invokevirtual 137, 3) := by decide +kernel
theorem dX12_passOn_22 : decode cX12_passOn 22 = .ok (.goto 4, 3) := by decide +kernel
theorem dX12_passOn_25 : decode cX12_passOn 25 = .ok (.iconst 0, 1) := by decide +kernel
theorem dX12_passOn_26 : decode cX12_passOn 26 = .ok (.istore 4, 2) := by decide +kernel
theorem dX12_passOn_28 : decode cX12_passOn 28 = .ok (.iconst 0, 1) := by decide +kernel
theorem dX12_passOn_29 : decode cX12_passOn 29 = .ok (.istore 5, 2) := by decide +kernel
theorem dX12_passOn_31 : decode cX12_passOn 31 = .ok (.iload 5, 2) := by decide +kernel
theorem dX12_passOn_33 : decode cX12_passOn 33 = .ok (.aload_n 0, 1) := by decide +kernel
theorem dX12_passOn_34 : decode cX12_passOn 34 = .ok (.getfield 120, 3) := by decide +kernel
theorem dX12_passOn_37 : decode cX12_passOn 37 = .ok (.if_icmp .ge 33, 3) := by decide +kernel
theorem dX12_passOn_40 : decode cX12_passOn 40 = .ok (.aload_n 0, 1) := by decide +kernel
theorem dX12_passOn_41 : decode cX12_passOn 41 = .ok (.getfield 28, 3) := by decide +kernel
theorem dX12_passOn_44 : decode cX12_passOn 44 = .ok (.iload_n 3, 1) := by decide +kernel
theorem dX12_passOn_45 : decode cX12_passOn 45 = .ok (.iconst 5, 1) := by decide +kernel
theorem dX12_passOn_46 : decode cX12_passOn 46 = .ok (.iadd, 1) := by decide +kernel
theorem dX12_passOn_47 : decode cX12_passOn 47 = .ok (.iload 5, 2) := by decide +kernel
theorem dX12_passOn_49 : decode cX12_passOn 49 = .ok (.iadd, 1) := by decide +kernel
theorem dX12_passOn_50 : decode cX12_passOn 50 = .ok (.iaload, 1) := by decide +kernel
theorem dX12_passOn_51 : decode cX12_passOn 51 = .ok (.iconst 1, 1) := by decide +kernel
theorem dX12_passOn_52 : decode cX12_passOn 52 = .ok (.if_icmp .ne 12, 3) := by decide +kernel
theorem dX12_passOn_55 : decode cX12_passOn 55 = .ok (.aload_n 0, 1) := by decide +kernel
theorem dX12_passOn_56 : decode cX12_passOn 56 = .ok (.iload_n 1, 1) := by decide +kernel
theorem dX12_passOn_57 : decode cX12_passOn 57 = .ok (.iload 5, 2) := by decide +kernel
theorem dX12_passOn_59 : decode cX12_passOn 59 = .ok (.iload 4, 2) := by decide +kernel
theorem dX12_passOn_61 : decode cX12_passOn 61 = .ok (.invokevirtual 140, 3) := by decide +kernel
theorem dX12_passOn_64 : decode cX12_passOn 64 = .ok (.iinc 5 1, 3) := by decide +kernel
theorem dX12_passOn_67 : decode cX12_passOn 67 = .ok (.goto (-36), 3) := by decide +kernel
theorem dX12_passOn_70 : decode cX12_passOn 70 = .ok (.aload_n 0, 1) := by decide +kernel
theorem dX12_passOn_71 : decode cX12_passOn 71 = .ok (.getfield 28, 3) := by decide +kernel
theorem dX12_passOn_74 : decode cX12_passOn 74 = .ok (.iload_n 3, 1) := by decide +kernel
theorem dX12_passOn_75 : decode cX12_passOn 75 = .ok (.bipush 30, 2) := by decide +kernel
theorem dX12_passOn_77 : decode cX12_passOn 77 = .ok (.iadd, 1) := by decide +kernel
theorem dX12_passOn_78 : decode cX12_passOn 78 = .ok (.dup2, 1) := by decide +kernel
theorem dX12_passOn_79 : decode cX12_passOn 79 = .ok (.iaload, 1) := by decide +kernel
theorem dX12_passOn_80 : decode cX12_passOn 80 = .ok (.iconst 1, 1) := by decide +kernel
theorem dX12_passOn_81 : decode cX12_passOn 81 = .ok (.iadd, 1) := by decide +kernel
theorem dX12_passOn_82 : decode cX12_passOn 82 = .ok (.iastore, 1) := by decide +kernel
theorem dX12_passOn_83 : decode cX12_passOn 83 = .ok (.iconst 0, 1) := by decide +kernel
theorem dX12_passOn_84 : decode cX12_passOn 84 = .ok (.istore 5, 2) := by decide +kernel
theorem dX12_passOn_86 : decode cX12_passOn 86 = .ok (.iconst 0, 1) := by decide +kernel
theorem dX12_passOn_87 : decode cX12_passOn 87 = .ok (.istore 6, 2) := by decide +kernel
theorem dX12_passOn_89 : decode cX12_passOn 89 = .ok (.iload 6, 2) := by decide +kernel
theorem dX12_passOn_91 : decode cX12_passOn 91 = .ok (.aload_n 0, 1) := by decide +kernel
theorem dX12_passOn_92 : decode cX12_passOn 92 = .ok (.getfield 120, 3) := by decide +kernel
theorem dX12_passOn_95 : decode cX12_passOn 95 = .ok (.if_icmp .ge 101, 3) := by decide +kernel
theorem dX12_passOn_98 : decode cX12_passOn 98 = .ok (.aload_n 0, 1) := by decide +kernel
theorem dX12_passOn_99 : decode cX12_passOn 99 = .ok (.getfield 28, 3) := by decide +kernel
theorem dX12_passOn_102 : decode cX12_passOn 102 = .ok (.iload_n 3, 1) := by decide +kernel
theorem dX12_passOn_103 : decode cX12_passOn 103 = .ok (.iconst 5, 1) := by decide +kernel
theorem dX12_passOn_104 : decode cX12_passOn 104 = .ok (.iadd, 1) := by decide +kernel
theorem dX12_passOn_105 : decode cX12_passOn 105 = .ok (.iload 6, 2) := by decide +kernel
theorem dX12_passOn_107 : decode cX12_passOn 107 = .ok (.iadd, 1) := by decide +kernel
theorem dX12_passOn_108 : decode cX12_passOn 108 = .ok (.iaload, 1) := by decide +kernel
theorem dX12_passOn_109 : decode cX12_passOn 109 = .ok (.iconst 1, 1) := by decide +kernel
theorem dX12_passOn_110 : decode cX12_passOn 110 = .ok (.if_icmp .ne 19, 3) := by decide +kernel
theorem dX12_passOn_113 : decode cX12_passOn 113 = .ok (.aload_n 0, 1) := by decide +kernel
theorem dX12_passOn_114 : decode cX12_passOn 114 = .ok (.aload_n 0, 1) := by decide +kernel
theorem dX12_passOn_115 : decode cX12_passOn 115 = .ok (.getfield 28, 3) := by decide +kernel
theorem dX12_passOn_118 : decode cX12_passOn 118 = .ok (.iload_n 3, 1) := by decide +kernel
theorem dX12_passOn_119 : decode cX12_passOn 119 = .ok (.iload 6, 2) := by decide +kernel
theorem dX12_passOn_121 : decode cX12_passOn 121 = .ok (.iadd, 1) := by decide +kernel
theorem dX12_passOn_122 : decode cX12_passOn 122 = .ok (.iaload, 1) := by decide +kernel
theorem dX12_passOn_123 : decode cX12_passOn 123 = .ok (.invokevirtual 143, 3) := by decide +kernel
theorem dX12_passOn_126 : decode cX12_passOn 126 = .ok (.goto 5, 3) := by decide +kernel
theorem dX12_passOn_129 : decode cX12_passOn 129 = .ok (.bipush (-9), 2) := by decide +kernel
theorem dX12_passOn_131 : decode cX12_passOn 131 = .ok (.istore 7, 2) := by decide +kernel
theorem dX12_passOn_133 : decode cX12_passOn 133 = .ok (.iload 7, 2) := by decide +kernel
theorem dX12_passOn_135 : decode cX12_passOn 135 = .ok (.bipush (-9), 2) := by decide +kernel
theorem dX12_passOn_137 : decode cX12_passOn 137 = .ok (.if_icmp .eq 53, 3) := by decide +kernel
theorem dX12_passOn_140 : decode cX12_passOn 140 = .ok (.aload_n 0, 1) := by decide +kernel
theorem dX12_passOn_141 : decode cX12_passOn 141 = .ok (.getfield 28, 3) := by decide +kernel
theorem dX12_passOn_144 : decode cX12_passOn 144 = .ok (.iload_n 3, 1) := by decide +kernel
theorem dX12_passOn_145 : decode cX12_passOn 145 = .ok (.iconst 5, 1) := by decide +kernel
theorem dX12_passOn_146 : decode cX12_passOn 146 = .ok (.iadd, 1) := by decide +kernel
theorem dX12_passOn_147 : decode cX12_passOn 147 = .ok (.iload 6, 2) := by decide +kernel
theorem dX12_passOn_149 : decode cX12_passOn 149 = .ok (.iadd, 1) := by decide +kernel
theorem dX12_passOn_150 : decode cX12_passOn 150 = .ok (.iconst 2, 1) := by decide +kernel
theorem dX12_passOn_151 : decode cX12_passOn 151 = .ok (.iastore, 1) := by decide +kernel
theorem dX12_passOn_152 : decode cX12_passOn 152 = .ok (.aload_n 0, 1) := by decide +kernel
theorem dX12_passOn_153 : decode cX12_passOn 153 = .ok (.getfield 28, 3) := by decide +kernel
theorem dX12_passOn_156 : decode cX12_passOn 156 = .ok (.iload_n 3, 1) := by decide +kernel
theorem dX12_passOn_157 : decode cX12_passOn 157 = .ok (.bipush 15, 2) := by decide +kernel
theorem dX12_passOn_159 : decode cX12_passOn 159 = .ok (.iadd, 1) := by decide +kernel
theorem dX12_passOn_160 : decode cX12_passOn 160 = .ok (.iload 6, 2) := by decide +kernel
theorem dX12_passOn_162 : decode cX12_passOn 162 = .ok (.iadd, 1) := by decide +kernel
theorem dX12_passOn_163 : decode cX12_passOn 163 = .ok (.iload 7, 2) := by decide +kernel
theorem dX12_passOn_165 : decode cX12_passOn 165 = .ok (.iastore, 1) := by decide +kernel
theorem dX12_passOn_166 : decode cX12_passOn 166 = .ok (.aload_n 0, 1) := by decide +kernel
theorem dX12_passOn_167 : decode cX12_passOn 167 = .ok (.getfield 28, 3) := by decide +kernel
theorem dX12_passOn_170 : decode cX12_passOn 170 = .ok (.iload_n 3, 1) := by decide +kernel
theorem dX12_passOn_171 : decode cX12_passOn 171 = .ok (.bipush 20, 2) := by decide +kernel
theorem dX12_passOn_173 : decode cX12_passOn 173 = .ok (.iadd, 1) := by decide +kernel
theorem dX12_passOn_174 : decode cX12_passOn 174 = .ok (.iload 6, 2) := by decide +kernel
theorem dX12_passOn_176 : decode cX12_passOn 176 = .ok (.iadd, 1) := by decide +kernel
theorem dX12_passOn_177 : decode cX12_passOn 177 = .ok (.aload_n 0, 1) := by decide +kernel
theorem dX12_passOn_178 : decode cX12_passOn 178 = .ok (.getfield 28, 3) := by decide +kernel
theorem dX12_passOn_181 : decode cX12_passOn 181 = .ok (.iload_n 3, 1) := by decide +kernel
theorem dX12_passOn_182 : decode cX12_passOn 182 = .ok (.bipush 30, 2) := by decide +kernel
theorem dX12_passOn_184 : decode cX12_passOn 184 = .ok (.iadd, 1) := by decide +kernel
theorem dX12_passOn_185 : decode cX12_passOn 185 = .ok (.iaload, 1) := by decide +kernel
theorem dX12_passOn_186 : decode cX12_passOn 186 = .ok (.iastore, 1) := by decide +kernel
theorem dX12_passOn_187 : decode cX12_passOn 187 = .ok (.iinc 5 1, 3) := by decide +kernel
theorem dX12_passOn_190 : decode cX12_passOn 190 = .ok (.iinc 6 1, 3) := by decide +kernel
theorem dX12_passOn_193 : decode cX12_passOn 193 = .ok (.goto (-104), 3) := by decide +kernel
theorem dX12_passOn_196 : decode cX12_passOn 196 = .ok (.iload 5, 2) := by decide +kernel
theorem dX12_passOn_198 : decode cX12_passOn 198 = .ok (.ireturn, 1) := by decide +kernel
theorem dX12_whoIs_0 : decode cX12_whoIs 0 = .ok (.iconst 0, 1) := by decide +kernel
theorem dX12_whoIs_1 : decode cX12_whoIs 1 = .ok (.istore_n 3, 1) := by decide +kernel
theorem dX12_whoIs_2 : decode cX12_whoIs 2 = .ok (.iconst 0, 1) := by decide +kernel
theorem dX12_whoIs_3 : decode cX12_whoIs 3 = .ok (.istore 4, 2) := by decide +kernel
theorem dX12_whoIs_5 : decode cX12_whoIs 5 = .ok (.iload 4, 2) := by decide +kernel
theorem dX12_whoIs_7 : decode cX12_whoIs 7 = .ok (.aload_n 0, 1) := by decide +kernel
theorem dX12_whoIs_8 : decode cX12_whoIs 8 = .ok (.getfield 120, 3) := by decide +kernel
theorem dX12_whoIs_11 : decode cX12_whoIs 11 = .ok (.if_icmp .ge 38, 3) := by decide +kernel
theorem dX12_whoIs_14 : decode cX12_whoIs 14 = .ok (.iload_n 3, 1) := by decide +kernel
theorem dX12_whoIs_15 : decode cX12_whoIs 15 = .ok (.aload_n 0, 1) := by decide +kernel
theorem dX12_whoIs_16 : decode cX12_whoIs 16 = .ok (.getfield 28, 3) := by decide +kernel
theorem dX12_whoIs_19 : decode cX12_whoIs 19 = .ok (.bipush 31, 2) := by decide +kernel
theorem dX12_whoIs_21 : decode cX12_whoIs 21 = .ok (.iload_n 1, 1) := by decide +kernel
theorem dX12_whoIs_22 : decode cX12_whoIs 22 = .ok (.imul, 1) := by decide +kernel
theorem dX12_whoIs_23 : decode cX12_whoIs 23 = .ok (.iconst 5, 1) := by decide +kernel
theorem dX12_whoIs_24 : decode cX12_whoIs 24 = .ok (.iadd, 1) := by decide +kernel
theorem dX12_whoIs_25 : decode cX12_whoIs 25 = .ok (.iload 4, 2) := by decide +kernel
theorem dX12_whoIs_27 : decode cX12_whoIs 27 = .ok (.iadd, 1) := by decide +kernel
theorem dX12_whoIs_28 : decode cX12_whoIs 28 = .ok (.iaload, 1) := by decide +kernel
theorem dX12_whoIs_29 : decode cX12_whoIs 29 = .ok (.iload_n 2, 1) := by decide +kernel
theorem dX12_whoIs_30 : decode cX12_whoIs 30 = .ok (.if_icmp .ne 10, 3) := by decide +kernel
theorem dX12_whoIs_33 : decode cX12_whoIs 33 = .ok (.iconst 1, 1) := by decide +kernel
theorem dX12_whoIs_34 : decode cX12_whoIs 34 = .ok (.iload 4, 2) := by decide +kernel
theorem dX12_whoIs_36 : decode cX12_whoIs 36 = .ok (.ishl, 1) := by decide +kernel
theorem dX12_whoIs_37 : decode cX12_whoIs 37 = .ok (.goto 4, 3) := by decide +kernel
theorem dX12_whoIs_40 : decode cX12_whoIs 40 = .ok (.iconst 0, 1) := by decide +kernel
theorem dX12_whoIs_41 : decode cX12_whoIs 41 = .ok (.ior, 1) := by decide +kernel
theorem dX12_whoIs_42 : decode cX12_whoIs 42 = .ok (.istore_n 3, 1) := by decide +kernel
theorem dX12_whoIs_43 : decode cX12_whoIs 43 = .ok (.iinc 4 1, 3) := by decide +kernel
theorem dX12_whoIs_46 : decode cX12_whoIs 46 = .ok (.goto (-41), 3) := by decide +kernel
theorem dX12_whoIs_49 : decode cX12_whoIs 49 = .ok (.iload_n 3, 1) := by decide +kernel
theorem dX12_whoIs_50 : decode cX12_whoIs 50 = .ok (.ireturn, 1) := by decide +kernel
theorem dX12_isAnswered_0 : decode cX12_isAnswered 0 = .ok (.bipush 31, 2) := by decide +kernel
theorem dX12_isAnswered_2 : decode cX12_isAnswered 2 = .ok (.iload_n 1, 1) := by decide +kernel
theorem dX12_isAnswered_3 : decode cX12_isAnswered 3 = .ok (.imul, 1) := by decide +kernel
theorem dX12_isAnswered_4 : decode cX12_isAnswered 4 = .ok (.istore_n 3, 1) := by decide +kernel
theorem dX12_isAnswered_5 : decode cX12_isAnswered 5 = .ok (.aload_n 0, 1) := by decide +kernel
theorem dX12_isAnswered_6 : decode cX12_isAnswered 6 = .ok (.getfield 28, 3) := by decide +kernel
theorem dX12_isAnswered_9 : decode cX12_isAnswered 9 = .ok (.iload_n 3, 1) := by decide +kernel
theorem dX12_isAnswered_10 : decode cX12_isAnswered 10 = .ok (.iconst 5, 1) := by decide +kernel
theorem dX12_isAnswered_11 : decode cX12_isAnswered 11 = .ok (.iadd, 1) := by decide +kernel
theorem dX12_isAnswered_12 : decode cX12_isAnswered 12 = .ok (.iload_n 2, 1) := by decide +kernel
theorem dX12_isAnswered_13 : decode cX12_isAnswered 13 = .ok (.iadd, 1) := by decide +kernel
theorem dX12_isAnswered_14 : decode cX12_isAnswered 14 = .ok (.iaload, 1) := by decide +kernel
theorem dX12_isAnswered_15 : decode cX12_isAnswered 15 = .ok (.iconst 2, 1) := by decide +kernel
theorem dX12_isAnswered_16 : decode cX12_isAnswered 16 = .ok (.if_icmp .ne 47, 3) := by decide +kernel
theorem dX12_isAnswered_19 : decode cX12_isAnswered 19 = .ok (.aload_n 0, 1) := by decide +kernel
theorem dX12_isAnswered_20 : decode cX12_isAnswered 20 = .ok (.getfield 28, 3) := by decide +kernel
theorem dX12_isAnswered_23 : decode cX12_isAnswered 23 = .ok (.iload_n 3, 1) := by decide +kernel
theorem dX12_isAnswered_24 : decode cX12_isAnswered 24 = .ok (.bipush 30, 2) := by decide +kernel
theorem dX12_isAnswered_26 : decode cX12_isAnswered 26 = .ok (.iadd, 1) := by decide +kernel
theorem dX12_isAnswered_27 : decode cX12_isAnswered 27 = .ok (.iaload, 1) := by decide +kernel
theorem dX12_isAnswered_28 : decode cX12_isAnswered 28 = .ok (.aload_n 0, 1) := by decide +kernel
theorem dX12_isAnswered_29 : decode cX12_isAnswered 29 = .ok (.getfield 28, 3) := by decide +kernel
theorem dX12_isAnswered_32 : decode cX12_isAnswered 32 = .ok (.iload_n 3, 1) := by decide +kernel
theorem dX12_isAnswered_33 : decode cX12_isAnswered 33 = .ok (.bipush 20, 2) := by decide +kernel
theorem dX12_isAnswered_35 : decode cX12_isAnswered 35 = .ok (.iadd, 1) := by decide +kernel
theorem dX12_isAnswered_36 : decode cX12_isAnswered 36 = .ok (.iload_n 2, 1) := by decide +kernel
theorem dX12_isAnswered_37 : decode cX12_isAnswered 37 = .ok (.iadd, 1) := by decide +kernel
theorem dX12_isAnswered_38 : decode cX12_isAnswered 38 = .ok (.iaload, 1) := by decide +kernel
theorem dX12_isAnswered_39 : decode cX12_isAnswered 39 = .ok (.aload_n 0, 1) := by decide +kernel
theorem dX12_isAnswered_40 : decode cX12_isAnswered 40 = .ok (.getfield 22, 3) := by decide +kernel
theorem dX12_isAnswered_43 : decode cX12_isAnswered 43 = .ok (.aload_n 0, 1) := by decide +kernel
theorem dX12_isAnswered_44 : decode cX12_isAnswered 44 = .ok (.getfield 28, 3) := by decide +kernel
theorem dX12_isAnswered_47 : decode cX12_isAnswered 47 = .ok (.iload_n 3, 1) := by decide +kernel
theorem dX12_isAnswered_48 : decode cX12_isAnswered 48 = .ok (.bipush 15, 2) := by decide +kernel
theorem dX12_isAnswered_50 : decode cX12_isAnswered 50 = .ok (.iadd, 1) := by decide +kernel
theorem dX12_isAnswered_51 : decode cX12_isAnswered 51 = .ok (.iload_n 2, 1) := by decide +kernel
theorem dX12_isAnswered_52 : decode cX12_isAnswered 52 = .ok (.iadd, 1) := by decide +kernel
theorem dX12_isAnswered_53 : decode cX12_isAnswered 53 = .ok (.iaload, 1) := by decide +kernel
theorem dX12_isAnswered_54 : decode cX12_isAnswered 54 = .ok (.iaload, 1) := by decide +kernel
theorem dX12_isAnswered_55 : decode cX12_isAnswered 55 = .ok (.iadd, 1) := by decide +kernel
theorem dX12_isAnswered_56 : decode cX12_isAnswered 56 = .ok (.if_icmp .lt 7, 3) := by decide +kernel
theorem dX12_isAnswered_59 : decode cX12_isAnswered 59 = .ok (.iconst 1, 1) := by decide +kernel
theorem dX12_isAnswered_60 : decode cX12_isAnswered 60 = .ok (.goto 4, 3) := by decide +kernel
theorem dX12_isAnswered_63 : decode cX12_isAnswered 63 = .ok (.iconst 0, 1) := by decide +kernel
theorem dX12_isAnswered_64 : decode cX12_isAnswered 64 = .ok (.ireturn, 1) := by decide +kernel
theorem dX12_answered_0 : decode cX12_answered 0 = .ok (.iconst 0, 1) := by decide +kernel
theorem dX12_answered_1 : decode cX12_answered 1 = .ok (.istore_n 2, 1) := by decide +kernel
theorem dX12_answered_2 : decode cX12_answered 2 = .ok (.iconst 0, 1) := by decide +kernel
theorem dX12_answered_3 : decode cX12_answered 3 = .ok (.istore_n 3, 1) := by decide +kernel
theorem dX12_answered_4 : decode cX12_answered 4 = .ok (.iload_n 3, 1) := by decide +kernel
theorem dX12_answered_5 : decode cX12_answered 5 = .ok (.aload_n 0, 1) := by decide +kernel
theorem dX12_answered_6 : decode cX12_answered 6 = .ok (.getfield 120, 3) := by decide +kernel
theorem dX12_answered_9 : decode cX12_answered 9 = .ok (.if_icmp .ge 28, 3) := by decide +kernel
theorem dX12_answered_12 : decode cX12_answered 12 = .ok (.iload_n 2, 1) := by decide +kernel
theorem dX12_answered_13 : decode cX12_answered 13 = .ok (.aload_n 0, 1) := by decide +kernel
theorem dX12_answered_14 : decode cX12_answered 14 = .ok (.iload_n 1, 1) := by decide +kernel
theorem dX12_answered_15 : decode cX12_answered 15 = .ok (.iload_n 3, 1) := by decide +kernel
theorem dX12_answered_16 : decode cX12_answered 16 = .ok (.invokevirtual 146, 3) := by decide +kernel
theorem dX12_answered_19 : decode cX12_answered 19 = .ok (.ifCond .eq 9, 3) := by decide +kernel
theorem dX12_answered_22 : decode cX12_answered 22 = .ok (.iconst 1, 1) := by decide +kernel
theorem dX12_answered_23 : decode cX12_answered 23 = .ok (.iload_n 3, 1) := by decide +kernel
theorem dX12_answered_24 : decode cX12_answered 24 = .ok (.ishl, 1) := by decide +kernel
theorem dX12_answered_25 : decode cX12_answered 25 = .ok (.goto 4, 3) := by decide +kernel
theorem dX12_answered_28 : decode cX12_answered 28 = .ok (.iconst 0, 1) := by decide +kernel
theorem dX12_answered_29 : decode cX12_answered 29 = .ok (.ior, 1) := by decide +kernel
theorem dX12_answered_30 : decode cX12_answered 30 = .ok (.istore_n 2, 1) := by decide +kernel
theorem dX12_answered_31 : decode cX12_answered 31 = .ok (.iinc 3 1, 3) := by decide +kernel
theorem dX12_answered_34 : decode cX12_answered 34 = .ok (.goto (-30), 3) := by decide +kernel
theorem dX12_answered_37 : decode cX12_answered 37 = .ok (.iload_n 2, 1) := by decide +kernel
theorem dX12_answered_38 : decode cX12_answered 38 = .ok (.ireturn, 1) := by decide +kernel
theorem dX12_brings_0 : decode cX12_brings 0 = .ok (.aload_n 0, 1) := by decide +kernel
theorem dX12_brings_1 : decode cX12_brings 1 = .ok (.iload_n 1, 1) := by decide +kernel
theorem dX12_brings_2 : decode cX12_brings 2 = .ok (.iload_n 2, 1) := by decide +kernel
theorem dX12_brings_3 : decode cX12_brings 3 = .ok (.invokevirtual 146, 3) := by decide +kernel
theorem dX12_brings_6 : decode cX12_brings 6 = .ok (.ifCond .eq 25, 3) := by decide +kernel
theorem dX12_brings_9 : decode cX12_brings 9 = .ok (.aload_n 0, 1) := by decide +kernel
theorem dX12_brings_10 : decode cX12_brings 10 = .ok (.getfield 25, 3) := by decide +kernel
theorem dX12_brings_13 : decode cX12_brings 13 = .ok (.aload_n 0, 1) := by decide +kernel
theorem dX12_brings_14 : decode cX12_brings 14 = .ok (.getfield 28, 3) := by decide +kernel
theorem dX12_brings_17 : decode cX12_brings 17 = .ok (.bipush 31, 2) := by decide +kernel
theorem dX12_brings_19 : decode cX12_brings 19 = .ok (.iload_n 1, 1) := by decide +kernel
theorem dX12_brings_20 : decode cX12_brings 20 = .ok (.imul, 1) := by decide +kernel
theorem dX12_brings_21 : decode cX12_brings 21 = .ok (.bipush 15, 2) := by decide +kernel
theorem dX12_brings_23 : decode cX12_brings 23 = .ok (.iadd, 1) := by decide +kernel
theorem dX12_brings_24 : decode cX12_brings 24 = .ok (.iload_n 2, 1) := by decide +kernel
theorem dX12_brings_25 : decode cX12_brings 25 = .ok (.iadd, 1) := by decide +kernel
theorem dX12_brings_26 : decode cX12_brings 26 = .ok (.iaload, 1) := by decide +kernel
theorem dX12_brings_27 : decode cX12_brings 27 = .ok (.iaload, 1) := by decide +kernel
theorem dX12_brings_28 : decode cX12_brings 28 = .ok (.goto 5, 3) := by decide +kernel
theorem dX12_brings_31 : decode cX12_brings 31 = .ok (.bipush (-9), 2) := by decide +kernel
theorem dX12_brings_33 : decode cX12_brings 33 = .ok (.ireturn, 1) := by decide +kernel
theorem dX12_glad_0 : decode cX12_glad 0 = .ok (.iconst 0, 1) := by decide +kernel
theorem dX12_glad_1 : decode cX12_glad 1 = .ok (.istore_n 2, 1) := by decide +kernel
theorem dX12_glad_2 : decode cX12_glad 2 = .ok (.iconst 0, 1) := by decide +kernel
theorem dX12_glad_3 : decode cX12_glad 3 = .ok (.istore_n 3, 1) := by decide +kernel
theorem dX12_glad_4 : decode cX12_glad 4 = .ok (.iload_n 3, 1) := by decide +kernel
theorem dX12_glad_5 : decode cX12_glad 5 = .ok (.aload_n 0, 1) := by decide +kernel
theorem dX12_glad_6 : decode cX12_glad 6 = .ok (.getfield 120, 3) := by decide +kernel
theorem dX12_glad_9 : decode cX12_glad 9 = .ok (.if_icmp .ge 52, 3) := by decide +kernel
theorem dX12_glad_12 : decode cX12_glad 12 = .ok (.aload_n 0, 1) := by decide +kernel
theorem dX12_glad_13 : decode cX12_glad 13 = .ok (.getfield 28, 3) := by decide +kernel
theorem dX12_glad_16 : decode cX12_glad 16 = .ok (.bipush 31, 2) := by decide +kernel
theorem dX12_glad_18 : decode cX12_glad 18 = .ok (.iload_n 1, 1) := by decide +kernel
theorem dX12_glad_19 : decode cX12_glad 19 = .ok (.imul, 1) := by decide +kernel
theorem dX12_glad_20 : decode cX12_glad 20 = .ok (.bipush 25, 2) := by decide +kernel
theorem dX12_glad_22 : decode cX12_glad 22 = .ok (.iadd, 1) := by decide +kernel
theorem dX12_glad_23 : decode cX12_glad 23 = .ok (.iload_n 3, 1) := by decide +kernel
theorem dX12_glad_24 : decode cX12_glad 24 = .ok (.iadd, 1) := by decide +kernel
theorem dX12_glad_25 : decode cX12_glad 25 = .ok (.iaload, 1) := by decide +kernel
theorem dX12_glad_26 : decode cX12_glad 26 = .ok (.istore 4, 2) := by decide +kernel
theorem dX12_glad_28 : decode cX12_glad 28 = .ok (.iload_n 2, 1) := by decide +kernel
theorem dX12_glad_29 : decode cX12_glad 29 = .ok (.aload_n 0, 1) := by decide +kernel
theorem dX12_glad_30 : decode cX12_glad 30 = .ok (.iload_n 1, 1) := by decide +kernel
theorem dX12_glad_31 : decode cX12_glad 31 = .ok (.iload_n 3, 1) := by decide +kernel
theorem dX12_glad_32 : decode cX12_glad 32 = .ok (.invokevirtual 149, 3) := by decide +kernel
theorem dX12_glad_35 : decode cX12_glad 35 = .ok (.aload_n 0, 1) := by decide +kernel
theorem dX12_glad_36 : decode cX12_glad 36 = .ok (.getfield 16, 3) := by decide +kernel
theorem dX12_glad_39 : decode cX12_glad 39 = .ok (.iload 4, 2) := by decide +kernel
theorem dX12_glad_41 : decode cX12_glad 41 = .ok (.iaload, 1) := by decide +kernel
theorem dX12_glad_42 : decode cX12_glad 42 = .ok (.if_icmp .ne 10, 3) := by decide +kernel
theorem dX12_glad_45 : decode cX12_glad 45 = .ok (.iconst 1, 1) := by decide +kernel
theorem dX12_glad_46 : decode cX12_glad 46 = .ok (.iload 4, 2) := by decide +kernel
theorem dX12_glad_48 : decode cX12_glad 48 = .ok (.ishl, 1) := by decide +kernel
theorem dX12_glad_49 : decode cX12_glad 49 = .ok (.goto 4, 3) := by decide +kernel
theorem dX12_glad_52 : decode cX12_glad 52 = .ok (.iconst 0, 1) := by decide +kernel
theorem dX12_glad_53 : decode cX12_glad 53 = .ok (.ior, 1) := by decide +kernel
theorem dX12_glad_54 : decode cX12_glad 54 = .ok (.istore_n 2, 1) := by decide +kernel
theorem dX12_glad_55 : decode cX12_glad 55 = .ok (.iinc 3 1, 3) := by decide +kernel
theorem dX12_glad_58 : decode cX12_glad 58 = .ok (.goto (-54), 3) := by decide +kernel
theorem dX12_glad_61 : decode cX12_glad 61 = .ok (.iload_n 2, 1) := by decide +kernel
theorem dX12_glad_62 : decode cX12_glad 62 = .ok (.ireturn, 1) := by decide +kernel
theorem dX12_balloon_0 : decode cX12_balloon 0 = .ok (.aload_n 0, 1) := by decide +kernel
theorem dX12_balloon_1 : decode cX12_balloon 1 = .ok (.iload_n 1, 1) := by decide +kernel
theorem dX12_balloon_2 : decode cX12_balloon 2 = .ok (.invokevirtual 152, 3) := by decide +kernel
theorem dX12_balloon_5 : decode cX12_balloon 5 = .ok (.ifCond .ne 5, 3) := by decide +kernel
theorem dX12_balloon_8 : decode cX12_balloon 8 = .ok (.iconst (-1), 1) := by decide +kernel
theorem dX12_balloon_9 : decode cX12_balloon 9 = .ok (.ireturn, 1) := by decide +kernel
theorem dX12_balloon_10 : decode cX12_balloon 10 = .ok (.iload_n 2, 1) := by decide +kernel
theorem dX12_balloon_11 : decode cX12_balloon 11 = .ok (.tableswitch 137 0 7 #[45, 52, 59, 66, 75, 102, 112, 127], 45) := by decide +kernel
theorem dX12_balloon_56 : decode cX12_balloon 56 = .ok (.aload_n 0, 1) := by decide +kernel
theorem dX12_balloon_57 : decode cX12_balloon 57 = .ok (.getfield 28, 3) := by decide +kernel
theorem dX12_balloon_60 : decode cX12_balloon 60 = .ok (.iload_n 1, 1) := by decide +kernel
theorem dX12_balloon_61 : decode cX12_balloon 61 = .ok (.iaload, 1) := by decide +kernel
theorem dX12_balloon_62 : decode cX12_balloon 62 = .ok (.ireturn, 1) := by decide +kernel
theorem dX12_balloon_63 : decode cX12_balloon 63 = .ok (.aload_n 0, 1) := by decide +kernel
theorem dX12_balloon_64 : decode cX12_balloon 64 = .ok (.getfield 13, 3) := by decide +kernel
theorem dX12_balloon_67 : decode cX12_balloon 67 = .ok (.iload_n 1, 1) := by decide +kernel
theorem dX12_balloon_68 : decode cX12_balloon 68 = .ok (.iaload, 1) := by decide +kernel
theorem dX12_balloon_69 : decode cX12_balloon 69 = .ok (.ireturn, 1) := by decide +kernel
theorem dX12_balloon_70 : decode cX12_balloon 70 = .ok (.aload_n 0, 1) := by decide +kernel
theorem dX12_balloon_71 : decode cX12_balloon 71 = .ok (.getfield 16, 3) := by decide +kernel
theorem dX12_balloon_74 : decode cX12_balloon 74 = .ok (.iload_n 1, 1) := by decide +kernel
theorem dX12_balloon_75 : decode cX12_balloon 75 = .ok (.iaload, 1) := by decide +kernel
theorem dX12_balloon_76 : decode cX12_balloon 76 = .ok (.ireturn, 1) := by decide +kernel
theorem dX12_balloon_77 : decode cX12_balloon 77 = .ok (.aload_n 0, 1) := by decide +kernel
theorem dX12_balloon_78 : decode cX12_balloon 78 = .ok (.getfield 28, 3) := by decide +kernel
theorem dX12_balloon_81 : decode cX12_balloon 81 = .ok (.iconst 5, 1) := by decide +kernel
theorem dX12_balloon_82 : decode cX12_balloon 82 = .ok (.iload_n 1, 1) := by decide +kernel
theorem dX12_balloon_83 : decode cX12_balloon 83 = .ok (.iadd, 1) := by decide +kernel
theorem dX12_balloon_84 : decode cX12_balloon 84 = .ok (.iaload, 1) := by decide +kernel
theorem dX12_balloon_85 : decode cX12_balloon 85 = .ok (.ireturn, 1) := by decide +kernel
theorem dX12_balloon_86 : decode cX12_balloon 86 = .ok (.aload_n 0, 1) := by decide +kernel
theorem dX12_balloon_87 : decode cX12_balloon 87 = .ok (.getfield 28, 3) := by decide +kernel
theorem dX12_balloon_90 : decode cX12_balloon 90 = .ok (.iconst 5, 1) := by decide +kernel
theorem dX12_balloon_91 : decode cX12_balloon 91 = .ok (.iload_n 1, 1) := by decide +kernel
theorem dX12_balloon_92 : decode cX12_balloon 92 = .ok (.iadd, 1) := by decide +kernel
theorem dX12_balloon_93 : decode cX12_balloon 93 = .ok (.iaload, 1) := by decide +kernel
theorem dX12_balloon_94 : decode cX12_balloon 94 = .ok (.iconst 2, 1) := by decide +kernel
theorem dX12_balloon_95 : decode cX12_balloon 95 = .ok (.if_icmp .ne 15, 3) := by decide +kernel
theorem dX12_balloon_98 : decode cX12_balloon 98 = .ok (.aload_n 0, 1) := by decide +kernel
theorem dX12_balloon_99 : decode cX12_balloon 99 = .ok (.getfield 28, 3) := by decide +kernel
theorem dX12_balloon_102 : decode cX12_balloon 102 = .ok (.bipush 15, 2) := by decide +kernel
theorem dX12_balloon_104 : decode cX12_balloon 104 = .ok (.iload_n 1, 1) := by decide +kernel
theorem dX12_balloon_105 : decode cX12_balloon 105 = .ok (.iadd, 1) := by decide +kernel
theorem dX12_balloon_106 : decode cX12_balloon 106 = .ok (.iaload, 1) := by decide +kernel
theorem dX12_balloon_107 : decode cX12_balloon 107 = .ok (.goto 5, 3) := by decide +kernel
theorem dX12_balloon_110 : decode cX12_balloon 110 = .ok (.bipush (-9), 2) := by decide +kernel
theorem dX12_balloon_112 : decode cX12_balloon 112 = .ok (.ireturn, 1) := by decide +kernel
theorem dX12_balloon_113 : decode cX12_balloon 113 = .ok (.aload_n 0, 1) := by decide +kernel
theorem dX12_balloon_114 : decode cX12_balloon 114 = .ok (.getfield 28, 3) := by decide +kernel
theorem dX12_balloon_117 : decode cX12_balloon 117 = .ok (.bipush 25, 2) := by decide +kernel
theorem dX12_balloon_119 : decode cX12_balloon 119 = .ok (.iload_n 1, 1) := by decide +kernel
theorem dX12_balloon_120 : decode cX12_balloon 120 = .ok (.iadd, 1) := by decide +kernel
theorem dX12_balloon_121 : decode cX12_balloon 121 = .ok (.iaload, 1) := by decide +kernel
theorem dX12_balloon_122 : decode cX12_balloon 122 = .ok (.ireturn, 1) := by decide +kernel
theorem dX12_balloon_123 : decode cX12_balloon 123 = .ok (.aload_n 0, 1) := by decide +kernel
theorem dX12_balloon_124 : decode cX12_balloon 124 = .ok (.iconst 0, 1) := by decide +kernel
theorem dX12_balloon_125 : decode cX12_balloon 125 = .ok (.iload_n 1, 1) := by decide +kernel
theorem dX12_balloon_126 : decode cX12_balloon 126 = .ok (.invokevirtual 146, 3) := by decide +kernel
theorem dX12_balloon_129 : decode cX12_balloon 129 = .ok (.ifCond .eq 7, 3) := by decide +kernel
theorem dX12_balloon_132 : decode cX12_balloon 132 = .ok (.iconst 1, 1) := by decide +kernel
theorem dX12_balloon_133 : decode cX12_balloon 133 = .ok (.goto 4, 3) := by decide +kernel
theorem dX12_balloon_136 : decode cX12_balloon 136 = .ok (.iconst 0, 1) := by decide +kernel
theorem dX12_balloon_137 : decode cX12_balloon 137 = .ok (.ireturn, 1) := by decide +kernel
theorem dX12_balloon_138 : decode cX12_balloon 138 = .ok (.aload_n 0, 1) := by decide +kernel
theorem dX12_balloon_139 : decode cX12_balloon 139 = .ok (.iconst 0, 1) := by decide +kernel
theorem dX12_balloon_140 : decode cX12_balloon 140 = .ok (.invokevirtual 156, 3) := by decide +kernel
theorem dX12_balloon_143 : decode cX12_balloon 143 = .ok (.iload_n 1, 1) := by decide +kernel
theorem dX12_balloon_144 : decode cX12_balloon 144 = .ok (.ishr, 1) := by decide +kernel
theorem dX12_balloon_145 : decode cX12_balloon 145 = .ok (.iconst 1, 1) := by decide +kernel
theorem dX12_balloon_146 : decode cX12_balloon 146 = .ok (.iand, 1) := by decide +kernel
theorem dX12_balloon_147 : decode cX12_balloon 147 = .ok (.ireturn, 1) := by decide +kernel
theorem dX12_balloon_148 : decode cX12_balloon 148 = .ok (.bipush (-2), 2) := by decide +kernel
theorem dX12_balloon_150 : decode cX12_balloon 150 = .ok (.ireturn, 1) := by decide +kernel
theorem dX12_caughtIn_0 : decode cX12_caughtIn 0 = .ok (.iconst 0, 1) := by decide +kernel
theorem dX12_caughtIn_1 : decode cX12_caughtIn 1 = .ok (.istore_n 2, 1) := by decide +kernel
theorem dX12_caughtIn_2 : decode cX12_caughtIn 2 = .ok (.iconst 0, 1) := by decide +kernel
theorem dX12_caughtIn_3 : decode cX12_caughtIn 3 = .ok (.istore_n 3, 1) := by decide +kernel
theorem dX12_caughtIn_4 : decode cX12_caughtIn 4 = .ok (.iload_n 3, 1) := by decide +kernel
theorem dX12_caughtIn_5 : decode cX12_caughtIn 5 = .ok (.aload_n 0, 1) := by decide +kernel
theorem dX12_caughtIn_6 : decode cX12_caughtIn 6 = .ok (.getfield 120, 3) := by decide +kernel
theorem dX12_caughtIn_9 : decode cX12_caughtIn 9 = .ok (.if_icmp .ge 44, 3) := by decide +kernel
theorem dX12_caughtIn_12 : decode cX12_caughtIn 12 = .ok (.iload_n 2, 1) := by decide +kernel
theorem dX12_caughtIn_13 : decode cX12_caughtIn 13 = .ok (.aload_n 0, 1) := by decide +kernel
theorem dX12_caughtIn_14 : decode cX12_caughtIn 14 = .ok (.getfield 28, 3) := by decide +kernel
theorem dX12_caughtIn_17 : decode cX12_caughtIn 17 = .ok (.iconst 5, 1) := by decide +kernel
theorem dX12_caughtIn_18 : decode cX12_caughtIn 18 = .ok (.iload_n 3, 1) := by decide +kernel
theorem dX12_caughtIn_19 : decode cX12_caughtIn 19 = .ok (.iadd, 1) := by decide +kernel
theorem dX12_caughtIn_20 : decode cX12_caughtIn 20 = .ok (.iaload, 1) := by decide +kernel
theorem dX12_caughtIn_21 : decode cX12_caughtIn 21 = .ok (.iconst 2, 1) := by decide +kernel
theorem dX12_caughtIn_22 : decode cX12_caughtIn 22 = .ok (.if_icmp .ne 22, 3) := by decide +kernel
theorem dX12_caughtIn_25 : decode cX12_caughtIn 25 = .ok (.aload_n 0, 1) := by decide +kernel
theorem dX12_caughtIn_26 : decode cX12_caughtIn 26 = .ok (.getfield 28, 3) := by decide +kernel
theorem dX12_caughtIn_29 : decode cX12_caughtIn 29 = .ok (.bipush 15, 2) := by decide +kernel
theorem dX12_caughtIn_31 : decode cX12_caughtIn 31 = .ok (.iload_n 3, 1) := by decide +kernel
theorem dX12_caughtIn_32 : decode cX12_caughtIn 32 = .ok (.iadd, 1) := by decide +kernel
theorem dX12_caughtIn_33 : decode cX12_caughtIn 33 = .ok (.iaload, 1) := by decide +kernel
theorem dX12_caughtIn_34 : decode cX12_caughtIn 34 = .ok (.iload_n 1, 1) := by decide +kernel
theorem dX12_caughtIn_35 : decode cX12_caughtIn 35 = .ok (.if_icmp .ne 9, 3) := by decide +kernel
theorem dX12_caughtIn_38 : decode cX12_caughtIn 38 = .ok (.iconst 1, 1) := by decide +kernel
theorem dX12_caughtIn_39 : decode cX12_caughtIn 39 = .ok (.iload_n 3, 1) := by decide +kernel
theorem dX12_caughtIn_40 : decode cX12_caughtIn 40 = .ok (.ishl, 1) := by decide +kernel
theorem dX12_caughtIn_41 : decode cX12_caughtIn 41 = .ok (.goto 4, 3) := by decide +kernel
theorem dX12_caughtIn_44 : decode cX12_caughtIn 44 = .ok (.iconst 0, 1) := by decide +kernel
theorem dX12_caughtIn_45 : decode cX12_caughtIn 45 = .ok (.ior, 1) := by decide +kernel
theorem dX12_caughtIn_46 : decode cX12_caughtIn 46 = .ok (.istore_n 2, 1) := by decide +kernel
theorem dX12_caughtIn_47 : decode cX12_caughtIn 47 = .ok (.iinc 3 1, 3) := by decide +kernel
theorem dX12_caughtIn_50 : decode cX12_caughtIn 50 = .ok (.goto (-46), 3) := by decide +kernel
theorem dX12_caughtIn_53 : decode cX12_caughtIn 53 = .ok (.iload_n 2, 1) := by decide +kernel
theorem dX12_caughtIn_54 : decode cX12_caughtIn 54 = .ok (.ireturn, 1) := by decide +kernel
theorem dX12_hedge_0 : decode cX12_hedge 0 = .ok (.aload_n 0, 1) := by decide +kernel
theorem dX12_hedge_1 : decode cX12_hedge 1 = .ok (.iload_n 1, 1) := by decide +kernel
theorem dX12_hedge_2 : decode cX12_hedge 2 = .ok (.invokevirtual 159, 3) := by decide +kernel
theorem dX12_hedge_5 : decode cX12_hedge 5 = .ok (.ifCond .ne 5, 3) := by decide +kernel
theorem dX12_hedge_8 : decode cX12_hedge 8 = .ok (.iconst (-1), 1) := by decide +kernel
theorem dX12_hedge_9 : decode cX12_hedge 9 = .ok (.ireturn, 1) := by decide +kernel
theorem dX12_hedge_10 : decode cX12_hedge 10 = .ok (.iload_n 2, 1) := by decide +kernel
theorem dX12_hedge_11 : decode cX12_hedge 11 = .ok (.tableswitch 56 0 3 #[29, 36, 43, 50], 29) := by decide +kernel
theorem dX12_hedge_40 : decode cX12_hedge 40 = .ok (.aload_n 0, 1) := by decide +kernel
theorem dX12_hedge_41 : decode cX12_hedge 41 = .ok (.getfield 19, 3) := by decide +kernel
theorem dX12_hedge_44 : decode cX12_hedge 44 = .ok (.iload_n 1, 1) := by decide +kernel
theorem dX12_hedge_45 : decode cX12_hedge 45 = .ok (.iaload, 1) := by decide +kernel
theorem dX12_hedge_46 : decode cX12_hedge 46 = .ok (.ireturn, 1) := by decide +kernel
theorem dX12_hedge_47 : decode cX12_hedge 47 = .ok (.aload_n 0, 1) := by decide +kernel
theorem dX12_hedge_48 : decode cX12_hedge 48 = .ok (.getfield 22, 3) := by decide +kernel
theorem dX12_hedge_51 : decode cX12_hedge 51 = .ok (.iload_n 1, 1) := by decide +kernel
theorem dX12_hedge_52 : decode cX12_hedge 52 = .ok (.iaload, 1) := by decide +kernel
theorem dX12_hedge_53 : decode cX12_hedge 53 = .ok (.ireturn, 1) := by decide +kernel
theorem dX12_hedge_54 : decode cX12_hedge 54 = .ok (.aload_n 0, 1) := by decide +kernel
theorem dX12_hedge_55 : decode cX12_hedge 55 = .ok (.getfield 25, 3) := by decide +kernel
theorem dX12_hedge_58 : decode cX12_hedge 58 = .ok (.iload_n 1, 1) := by decide +kernel
theorem dX12_hedge_59 : decode cX12_hedge 59 = .ok (.iaload, 1) := by decide +kernel
theorem dX12_hedge_60 : decode cX12_hedge 60 = .ok (.ireturn, 1) := by decide +kernel
theorem dX12_hedge_61 : decode cX12_hedge 61 = .ok (.aload_n 0, 1) := by decide +kernel
theorem dX12_hedge_62 : decode cX12_hedge 62 = .ok (.iload_n 1, 1) := by decide +kernel
theorem dX12_hedge_63 : decode cX12_hedge 63 = .ok (.invokevirtual 162, 3) := by decide +kernel
theorem dX12_hedge_66 : decode cX12_hedge 66 = .ok (.ireturn, 1) := by decide +kernel
theorem dX12_hedge_67 : decode cX12_hedge 67 = .ok (.bipush (-2), 2) := by decide +kernel
theorem dX12_hedge_69 : decode cX12_hedge 69 = .ok (.ireturn, 1) := by decide +kernel
theorem dX12_keepAct_0 : decode cX12_keepAct 0 = .ok (.iconst 0, 1) := by decide +kernel
theorem dX12_keepAct_1 : decode cX12_keepAct 1 = .ok (.istore_n 1, 1) := by decide +kernel
theorem dX12_keepAct_2 : decode cX12_keepAct 2 = .ok (.iload_n 1, 1) := by decide +kernel
theorem dX12_keepAct_3 : decode cX12_keepAct 3 = .ok (.bipush 31, 2) := by decide +kernel
theorem dX12_keepAct_5 : decode cX12_keepAct 5 = .ok (.if_icmp .ge 29, 3) := by decide +kernel
theorem dX12_keepAct_8 : decode cX12_keepAct 8 = .ok (.aload_n 0, 1) := by decide +kernel
theorem dX12_keepAct_9 : decode cX12_keepAct 9 = .ok (.getfield 47, 3) := by decide +kernel
theorem dX12_keepAct_12 : decode cX12_keepAct 12 = .ok (.bipush 31, 2) := by decide +kernel
theorem dX12_keepAct_14 : decode cX12_keepAct 14 = .ok (.aload_n 0, 1) := by decide +kernel
theorem dX12_keepAct_15 : decode cX12_keepAct 15 = .ok (.getfield 165, 3) := by decide +kernel
theorem dX12_keepAct_18 : decode cX12_keepAct 18 = .ok (.imul, 1) := by decide +kernel
theorem dX12_keepAct_19 : decode cX12_keepAct 19 = .ok (.iload_n 1, 1) := by decide +kernel
theorem dX12_keepAct_20 : decode cX12_keepAct 20 = .ok (.iadd, 1) := by decide +kernel
theorem dX12_keepAct_21 : decode cX12_keepAct 21 = .ok (.aload_n 0, 1) := by decide +kernel
theorem dX12_keepAct_22 : decode cX12_keepAct 22 = .ok (.getfield 28, 3) := by decide +kernel
theorem dX12_keepAct_25 : decode cX12_keepAct 25 = .ok (.iload_n 1, 1) := by decide +kernel
theorem dX12_keepAct_26 : decode cX12_keepAct 26 = .ok (.iaload, 1) := by decide +kernel
theorem dX12_keepAct_27 : decode cX12_keepAct 27 = .ok (.iastore, 1) := by decide +kernel
theorem dX12_keepAct_28 : decode cX12_keepAct 28 = .ok (.iinc 1 1, 3) := by decide +kernel
theorem dX12_keepAct_31 : decode cX12_keepAct 31 = .ok (.goto (-29), 3) := by decide +kernel
theorem dX12_keepAct_34 : decode cX12_keepAct 34 = .ok (.aload_n 0, 1) := by decide +kernel
theorem dX12_keepAct_35 : decode cX12_keepAct 35 = .ok (.aload_n 0, 1) := by decide +kernel
theorem dX12_keepAct_36 : decode cX12_keepAct 36 = .ok (.getfield 165, 3) := by decide +kernel
theorem dX12_keepAct_39 : decode cX12_keepAct 39 = .ok (.iconst 1, 1) := by decide +kernel
theorem dX12_keepAct_40 : decode cX12_keepAct 40 = .ok (.iadd, 1) := by decide +kernel
theorem dX12_keepAct_41 : decode cX12_keepAct 41 = .ok (.bipush 14, 2) := by decide +kernel
theorem dX12_keepAct_43 : decode cX12_keepAct 43 = .ok (.irem, 1) := by decide +kernel
theorem dX12_keepAct_44 : decode cX12_keepAct 44 = .ok (.putfield 165, 3) := by decide +kernel
theorem dX12_keepAct_47 : decode cX12_keepAct 47 = .ok (.aload_n 0, 1) := by decide +kernel
theorem dX12_keepAct_48 : decode cX12_keepAct 48 = .ok (.aload_n 0, 1) := by decide +kernel
theorem dX12_keepAct_49 : decode cX12_keepAct 49 = .ok (.getfield 126, 3) := by decide +kernel
theorem dX12_keepAct_52 : decode cX12_keepAct 52 = .ok (.bipush 14, 2) := by decide +kernel
theorem dX12_keepAct_54 : decode cX12_keepAct 54 = .ok (.if_icmp .ge 12, 3) := by decide +kernel
theorem dX12_keepAct_57 : decode cX12_keepAct 57 = .ok (.aload_n 0, 1) := by decide +kernel
theorem dX12_keepAct_58 : decode cX12_keepAct 58 = .ok (.getfield 126, 3) := by decide +kernel
theorem dX12_keepAct_61 : decode cX12_keepAct 61 = .ok (.iconst 1, 1) := by decide +kernel
theorem dX12_keepAct_62 : decode cX12_keepAct 62 = .ok (.iadd, 1) := by decide +kernel
theorem dX12_keepAct_63 : decode cX12_keepAct 63 = .ok (.goto 5, 3) := by decide +kernel
theorem dX12_keepAct_66 : decode cX12_keepAct 66 = .ok (.bipush 14, 2) := by decide +kernel
theorem dX12_keepAct_68 : decode cX12_keepAct 68 = .ok (.putfield 126, 3) := by decide +kernel
theorem dX12_keepAct_71 : decode cX12_keepAct 71 = .ok (.return_, 1) := by decide +kernel
theorem dX12_let_0 : decode cX12_let 0 = .ok (.aload_n 0, 1) := by decide +kernel
theorem dX12_let_1 : decode cX12_let 1 = .ok (.iload_n 1, 1) := by decide +kernel
theorem dX12_let_2 : decode cX12_let 2 = .ok (.invokevirtual 152, 3) := by decide +kernel
theorem dX12_let_5 : decode cX12_let 5 = .ok (.ifCond .ne 5, 3) := by decide +kernel
theorem dX12_let_8 : decode cX12_let 8 = .ok (.iconst (-1), 1) := by decide +kernel
theorem dX12_let_9 : decode cX12_let 9 = .ok (.ireturn, 1) := by decide +kernel
theorem dX12_let_10 : decode cX12_let 10 = .ok (.aload_n 0, 1) := by decide +kernel
theorem dX12_let_11 : decode cX12_let 11 = .ok (.getfield 28, 3) := by decide +kernel
theorem dX12_let_14 : decode cX12_let 14 = .ok (.iconst 5, 1) := by decide +kernel
theorem dX12_let_15 : decode cX12_let 15 = .ok (.iload_n 1, 1) := by decide +kernel
theorem dX12_let_16 : decode cX12_let 16 = .ok (.iadd, 1) := by decide +kernel
theorem dX12_let_17 : decode cX12_let 17 = .ok (.iaload, 1) := by decide +kernel
theorem dX12_let_18 : decode cX12_let 18 = .ok (.ifCond .eq 6, 3) := by decide +kernel
theorem dX12_let_21 : decode cX12_let 21 = .ok (.bipush (-3), 2) := by decide +kernel
theorem dX12_let_23 : decode cX12_let 23 = .ok (.ireturn, 1) := by decide +kernel
theorem dX12_let_24 : decode cX12_let 24 = .ok (.aload_n 0, 1) := by decide +kernel
theorem dX12_let_25 : decode cX12_let 25 = .ok (.invokevirtual 168, 3) := by decide +kernel
theorem dX12_let_28 : decode cX12_let 28 = .ok (.aload_n 0, 1) := by decide +kernel
theorem dX12_let_29 : decode cX12_let 29 = .ok (.getfield 28, 3) := by decide +kernel
theorem dX12_let_32 : decode cX12_let 32 = .ok (.iconst 5, 1) := by decide +kernel
theorem dX12_let_33 : decode cX12_let 33 = .ok (.iload_n 1, 1) := by decide +kernel
theorem dX12_let_34 : decode cX12_let 34 = .ok (.iadd, 1) := by decide +kernel
theorem dX12_let_35 : decode cX12_let 35 = .ok (.iconst 1, 1) := by decide +kernel
theorem dX12_let_36 : decode cX12_let 36 = .ok (.iastore, 1) := by decide +kernel
theorem dX12_let_37 : decode cX12_let 37 = .ok (.aload_n 0, 1) := by decide +kernel
theorem dX12_let_38 : decode cX12_let 38 = .ok (.iconst 0, 1) := by decide +kernel
theorem dX12_let_39 : decode cX12_let 39 = .ok (.iconst 1, 1) := by decide +kernel
theorem dX12_let_40 : decode cX12_let 40 = .ok (.invokevirtual 171, 3) := by decide +kernel
theorem dX12_let_43 : decode cX12_let 43 = .ok (.invokestatic 174, 3) := by decide +kernel
theorem dX12_let_46 : decode cX12_let 46 = .ok (.ireturn, 1) := by decide +kernel
theorem dX12_hour_0 : decode cX12_hour 0 = .ok (.aload_n 0, 1) := by decide +kernel
theorem dX12_hour_1 : decode cX12_hour 1 = .ok (.invokevirtual 168, 3) := by decide +kernel
theorem dX12_hour_4 : decode cX12_hour 4 = .ok (.aload_n 0, 1) := by decide +kernel
theorem dX12_hour_5 : decode cX12_hour 5 = .ok (.iconst 0, 1) := by decide +kernel
theorem dX12_hour_6 : decode cX12_hour 6 = .ok (.iconst 1, 1) := by decide +kernel
theorem dX12_hour_7 : decode cX12_hour 7 = .ok (.invokevirtual 177, 3) := by decide +kernel
theorem dX12_hour_10 : decode cX12_hour 10 = .ok (.ireturn, 1) := by decide +kernel
theorem dX12_free_0 : decode cX12_free 0 = .ok (.aload_n 0, 1) := by decide +kernel
theorem dX12_free_1 : decode cX12_free 1 = .ok (.iload_n 1, 1) := by decide +kernel
theorem dX12_free_2 : decode cX12_free 2 = .ok (.invokevirtual 152, 3) := by decide +kernel
theorem dX12_free_5 : decode cX12_free 5 = .ok (.ifCond .ne 5, 3) := by decide +kernel
theorem dX12_free_8 : decode cX12_free 8 = .ok (.iconst (-1), 1) := by decide +kernel
theorem dX12_free_9 : decode cX12_free 9 = .ok (.ireturn, 1) := by decide +kernel
theorem dX12_free_10 : decode cX12_free 10 = .ok (.aload_n 0, 1) := by decide +kernel
theorem dX12_free_11 : decode cX12_free 11 = .ok (.getfield 28, 3) := by decide +kernel
theorem dX12_free_14 : decode cX12_free 14 = .ok (.iconst 5, 1) := by decide +kernel
theorem dX12_free_15 : decode cX12_free 15 = .ok (.iload_n 1, 1) := by decide +kernel
theorem dX12_free_16 : decode cX12_free 16 = .ok (.iadd, 1) := by decide +kernel
theorem dX12_free_17 : decode cX12_free 17 = .ok (.iaload, 1) := by decide +kernel
theorem dX12_free_18 : decode cX12_free 18 = .ok (.iconst 2, 1) := by decide +kernel
theorem dX12_free_19 : decode cX12_free 19 = .ok (.if_icmp .eq 6, 3) := by decide +kernel
theorem dX12_free_22 : decode cX12_free 22 = .ok (.bipush (-3), 2) := by decide +kernel
theorem dX12_free_24 : decode cX12_free 24 = .ok (.ireturn, 1) := by decide +kernel
theorem dX12_free_25 : decode cX12_free 25 = .ok (.aload_n 0, 1) := by decide +kernel
theorem dX12_free_26 : decode cX12_free 26 = .ok (.invokevirtual 168, 3) := by decide +kernel
theorem dX12_free_29 : decode cX12_free 29 = .ok (.aload_n 0, 1) := by decide +kernel
theorem dX12_free_30 : decode cX12_free 30 = .ok (.getfield 28, 3) := by decide +kernel
theorem dX12_free_33 : decode cX12_free 33 = .ok (.iconst 5, 1) := by decide +kernel
theorem dX12_free_34 : decode cX12_free 34 = .ok (.iload_n 1, 1) := by decide +kernel
theorem dX12_free_35 : decode cX12_free 35 = .ok (.iadd, 1) := by decide +kernel
theorem dX12_free_36 : decode cX12_free 36 = .ok (.iconst 1, 1) := by decide +kernel
theorem dX12_free_37 : decode cX12_free 37 = .ok (.iastore, 1) := by decide +kernel
theorem dX12_free_38 : decode cX12_free 38 = .ok (.aload_n 0, 1) := by decide +kernel
theorem dX12_free_39 : decode cX12_free 39 = .ok (.getfield 28, 3) := by decide +kernel
theorem dX12_free_42 : decode cX12_free 42 = .ok (.bipush 15, 2) := by decide +kernel
theorem dX12_free_44 : decode cX12_free 44 = .ok (.iload_n 1, 1) := by decide +kernel
theorem dX12_free_45 : decode cX12_free 45 = .ok (.iadd, 1) := by decide +kernel
theorem dX12_free_46 : decode cX12_free 46 = .ok (.iaload, 1) := by decide +kernel
theorem dX12_free_47 : decode cX12_free 47 = .ok (.ireturn, 1) := by decide +kernel
theorem dX12_exchange_0 : decode cX12_exchange 0 = .ok (.bipush 31, 2) := by decide +kernel
theorem dX12_exchange_2 : decode cX12_exchange 2 = .ok (.iload_n 1, 1) := by decide +kernel
theorem dX12_exchange_3 : decode cX12_exchange 3 = .ok (.imul, 1) := by decide +kernel
theorem dX12_exchange_4 : decode cX12_exchange 4 = .ok (.bipush 25, 2) := by decide +kernel
theorem dX12_exchange_6 : decode cX12_exchange 6 = .ok (.iadd, 1) := by decide +kernel
theorem dX12_exchange_7 : decode cX12_exchange 7 = .ok (.istore 4, 2) := by decide +kernel
theorem dX12_exchange_9 : decode cX12_exchange 9 = .ok (.aload_n 0, 1) := by decide +kernel
theorem dX12_exchange_10 : decode cX12_exchange 10 = .ok (.getfield 28, 3) := by decide +kernel
theorem dX12_exchange_13 : decode cX12_exchange 13 = .ok (.iload 4, 2) := by decide +kernel
theorem dX12_exchange_15 : decode cX12_exchange 15 = .ok (.iload_n 2, 1) := by decide +kernel
theorem dX12_exchange_16 : decode cX12_exchange 16 = .ok (.iadd, 1) := by decide +kernel
theorem dX12_exchange_17 : decode cX12_exchange 17 = .ok (.iaload, 1) := by decide +kernel
theorem dX12_exchange_18 : decode cX12_exchange 18 = .ok (.istore 5, 2) := by decide +kernel
theorem dX12_exchange_20 : decode cX12_exchange 20 = .ok (.aload_n 0, 1) := by decide +kernel
theorem dX12_exchange_21 : decode cX12_exchange 21 = .ok (.getfield 28, 3) := by decide +kernel
theorem dX12_exchange_24 : decode cX12_exchange 24 = .ok (.iload 4, 2) := by decide +kernel
theorem dX12_exchange_26 : decode cX12_exchange 26 = .ok (.iload_n 2, 1) := by decide +kernel
theorem dX12_exchange_27 : decode cX12_exchange 27 = .ok (.iadd, 1) := by decide +kernel
theorem dX12_exchange_28 : decode cX12_exchange 28 = .ok (.aload_n 0, 1) := by decide +kernel
theorem dX12_exchange_29 : decode cX12_exchange 29 = .ok (.getfield 28, 3) := by decide +kernel
theorem dX12_exchange_32 : decode cX12_exchange 32 = .ok (.iload 4, 2) := by decide +kernel
theorem dX12_exchange_34 : decode cX12_exchange 34 = .ok (.iload_n 3, 1) := by decide +kernel
theorem dX12_exchange_35 : decode cX12_exchange 35 = .ok (.iadd, 1) := by decide +kernel
