theorem d_Lw_law_0 : decode code 0 = .ok (.new 7, 3) := by decide +kernel
theorem d_Lw_law_3 : decode code 3 = .ok (.dup, 1) := by decide +kernel
theorem d_Lw_law_4 : decode code 4 = .ok (.invokespecial 9, 3) := by decide +kernel
theorem d_Lw_law_7 : decode code 7 = .ok (.astore_n 1, 1) := by decide +kernel
theorem d_Lw_law_8 : decode code 8 = .ok (.new 10, 3) := by decide +kernel
theorem d_Lw_law_11 : decode code 11 = .ok (.dup, 1) := by decide +kernel
theorem d_Lw_law_12 : decode code 12 = .ok (.invokespecial 12, 3) := by decide +kernel
theorem d_Lw_law_15 : decode code 15 = .ok (.astore_n 2, 1) := by decide +kernel
theorem d_Lw_law_16 : decode code 16 = .ok (.iconst 0, 1) := by decide +kernel
theorem d_Lw_law_17 : decode code 17 = .ok (.istore_n 3, 1) := by decide +kernel
theorem d_Lw_law_18 : decode code 18 = .ok (.iload_n 3, 1) := by decide +kernel
theorem d_Lw_law_19 : decode code 19 = .ok (.aload_n 0, 1) := by decide +kernel
theorem d_Lw_law_20 : decode code 20 = .ok (.arraylength, 1) := by decide +kernel
theorem d_Lw_law_21 : decode code 21 = .ok (.bipush 6, 2) := by decide +kernel
theorem d_Lw_law_23 : decode code 23 = .ok (.isub, 1) := by decide +kernel
theorem d_Lw_law_24 : decode code 24 = .ok (.if_icmp .gt 528, 3) := by decide +kernel
theorem d_Lw_law_27 : decode code 27 = .ok (.aload_n 0, 1) := by decide +kernel
theorem d_Lw_law_28 : decode code 28 = .ok (.iload_n 3, 1) := by decide +kernel
theorem d_Lw_law_29 : decode code 29 = .ok (.iaload, 1) := by decide +kernel
theorem d_Lw_law_30 : decode code 30 = .ok (.bipush 15, 2) := by decide +kernel
theorem d_Lw_law_32 : decode code 32 = .ok (.iand, 1) := by decide +kernel
theorem d_Lw_law_33 : decode code 33 = .ok (.tableswitch 513 0 13 #[71, 114, 147, 180, 243, 276, 309, 342, 365, 398, 411, 434, 457, 480], 71) := by decide +kernel
theorem d_Lw_law_104 : decode code 104 = .ok (.aload_n 1, 1) := by decide +kernel
theorem d_Lw_law_105 : decode code 105 = .ok (.aload_n 0, 1) := by decide +kernel
theorem d_Lw_law_106 : decode code 106 = .ok (.iload_n 3, 1) := by decide +kernel
theorem d_Lw_law_107 : decode code 107 = .ok (.iconst 1, 1) := by decide +kernel
theorem d_Lw_law_108 : decode code 108 = .ok (.iadd, 1) := by decide +kernel
theorem d_Lw_law_109 : decode code 109 = .ok (.iaload, 1) := by decide +kernel
theorem d_Lw_law_110 : decode code 110 = .ok (.aload_n 0, 1) := by decide +kernel
theorem d_Lw_law_111 : decode code 111 = .ok (.iload_n 3, 1) := by decide +kernel
theorem d_Lw_law_112 : decode code 112 = .ok (.iconst 2, 1) := by decide +kernel
theorem d_Lw_law_113 : decode code 113 = .ok (.iadd, 1) := by decide +kernel
theorem d_Lw_law_114 : decode code 114 = .ok (.iaload, 1) := by decide +kernel
theorem d_Lw_law_115 : decode code 115 = .ok (.aload_n 0, 1) := by decide +kernel
theorem d_Lw_law_116 : decode code 116 = .ok (.iload_n 3, 1) := by decide +kernel
theorem d_Lw_law_117 : decode code 117 = .ok (.iconst 3, 1) := by decide +kernel
theorem d_Lw_law_118 : decode code 118 = .ok (.iadd, 1) := by decide +kernel
theorem d_Lw_law_119 : decode code 119 = .ok (.iaload, 1) := by decide +kernel
theorem d_Lw_law_120 : decode code 120 = .ok (.invokevirtual 13, 3) := by decide +kernel
theorem d_Lw_law_123 : decode code 123 = .ok (.aload_n 2, 1) := by decide +kernel
theorem d_Lw_law_124 : decode code 124 = .ok (.aload_n 0, 1) := by decide +kernel
theorem d_Lw_law_125 : decode code 125 = .ok (.iload_n 3, 1) := by decide +kernel
theorem d_Lw_law_126 : decode code 126 = .ok (.iconst 1, 1) := by decide +kernel
theorem d_Lw_law_127 : decode code 127 = .ok (.iadd, 1) := by decide +kernel
theorem d_Lw_law_128 : decode code 128 = .ok (.iaload, 1) := by decide +kernel
theorem d_Lw_law_129 : decode code 129 = .ok (.aload_n 0, 1) := by decide +kernel
theorem d_Lw_law_130 : decode code 130 = .ok (.iload_n 3, 1) := by decide +kernel
theorem d_Lw_law_131 : decode code 131 = .ok (.iconst 2, 1) := by decide +kernel
theorem d_Lw_law_132 : decode code 132 = .ok (.iadd, 1) := by decide +kernel
theorem d_Lw_law_133 : decode code 133 = .ok (.iaload, 1) := by decide +kernel
theorem d_Lw_law_134 : decode code 134 = .ok (.aload_n 0, 1) := by decide +kernel
theorem d_Lw_law_135 : decode code 135 = .ok (.iload_n 3, 1) := by decide +kernel
theorem d_Lw_law_136 : decode code 136 = .ok (.iconst 3, 1) := by decide +kernel
theorem d_Lw_law_137 : decode code 137 = .ok (.iadd, 1) := by decide +kernel
theorem d_Lw_law_138 : decode code 138 = .ok (.iaload, 1) := by decide +kernel
theorem d_Lw_law_139 : decode code 139 = .ok (.invokevirtual 17, 3) := by decide +kernel
theorem d_Lw_law_142 : decode code 142 = .ok (.if_icmp .eq 404, 3) := by decide +kernel
theorem d_Lw_law_145 : decode code 145 = .ok (.iconst 0, 1) := by decide +kernel
theorem d_Lw_law_146 : decode code 146 = .ok (.ireturn, 1) := by decide +kernel
theorem d_Lw_law_147 : decode code 147 = .ok (.aload_n 1, 1) := by decide +kernel
theorem d_Lw_law_148 : decode code 148 = .ok (.aload_n 0, 1) := by decide +kernel
theorem d_Lw_law_149 : decode code 149 = .ok (.iload_n 3, 1) := by decide +kernel
theorem d_Lw_law_150 : decode code 150 = .ok (.iconst 1, 1) := by decide +kernel
theorem d_Lw_law_151 : decode code 151 = .ok (.iadd, 1) := by decide +kernel
theorem d_Lw_law_152 : decode code 152 = .ok (.iaload, 1) := by decide +kernel
theorem d_Lw_law_153 : decode code 153 = .ok (.aload_n 0, 1) := by decide +kernel
theorem d_Lw_law_154 : decode code 154 = .ok (.iload_n 3, 1) := by decide +kernel
theorem d_Lw_law_155 : decode code 155 = .ok (.iconst 2, 1) := by decide +kernel
theorem d_Lw_law_156 : decode code 156 = .ok (.iadd, 1) := by decide +kernel
theorem d_Lw_law_157 : decode code 157 = .ok (.iaload, 1) := by decide +kernel
theorem d_Lw_law_158 : decode code 158 = .ok (.invokevirtual 18, 3) := by decide +kernel
theorem d_Lw_law_161 : decode code 161 = .ok (.aload_n 2, 1) := by decide +kernel
theorem d_Lw_law_162 : decode code 162 = .ok (.aload_n 0, 1) := by decide +kernel
theorem d_Lw_law_163 : decode code 163 = .ok (.iload_n 3, 1) := by decide +kernel
theorem d_Lw_law_164 : decode code 164 = .ok (.iconst 1, 1) := by decide +kernel
theorem d_Lw_law_165 : decode code 165 = .ok (.iadd, 1) := by decide +kernel
theorem d_Lw_law_166 : decode code 166 = .ok (.iaload, 1) := by decide +kernel
theorem d_Lw_law_167 : decode code 167 = .ok (.aload_n 0, 1) := by decide +kernel
theorem d_Lw_law_168 : decode code 168 = .ok (.iload_n 3, 1) := by decide +kernel
theorem d_Lw_law_169 : decode code 169 = .ok (.iconst 2, 1) := by decide +kernel
theorem d_Lw_law_170 : decode code 170 = .ok (.iadd, 1) := by decide +kernel
theorem d_Lw_law_171 : decode code 171 = .ok (.iaload, 1) := by decide +kernel
theorem d_Lw_law_172 : decode code 172 = .ok (.invokevirtual 22, 3) := by decide +kernel
theorem d_Lw_law_175 : decode code 175 = .ok (.if_icmp .eq 371, 3) := by decide +kernel
theorem d_Lw_law_178 : decode code 178 = .ok (.iconst 0, 1) := by decide +kernel
theorem d_Lw_law_179 : decode code 179 = .ok (.ireturn, 1) := by decide +kernel
theorem d_Lw_law_180 : decode code 180 = .ok (.aload_n 1, 1) := by decide +kernel
theorem d_Lw_law_181 : decode code 181 = .ok (.aload_n 0, 1) := by decide +kernel
theorem d_Lw_law_182 : decode code 182 = .ok (.iload_n 3, 1) := by decide +kernel
theorem d_Lw_law_183 : decode code 183 = .ok (.iconst 1, 1) := by decide +kernel
theorem d_Lw_law_184 : decode code 184 = .ok (.iadd, 1) := by decide +kernel
theorem d_Lw_law_185 : decode code 185 = .ok (.iaload, 1) := by decide +kernel
theorem d_Lw_law_186 : decode code 186 = .ok (.aload_n 0, 1) := by decide +kernel
theorem d_Lw_law_187 : decode code 187 = .ok (.iload_n 3, 1) := by decide +kernel
theorem d_Lw_law_188 : decode code 188 = .ok (.iconst 2, 1) := by decide +kernel
theorem d_Lw_law_189 : decode code 189 = .ok (.iadd, 1) := by decide +kernel
theorem d_Lw_law_190 : decode code 190 = .ok (.iaload, 1) := by decide +kernel
theorem d_Lw_law_191 : decode code 191 = .ok (.invokevirtual 23, 3) := by decide +kernel
theorem d_Lw_law_194 : decode code 194 = .ok (.aload_n 2, 1) := by decide +kernel
theorem d_Lw_law_195 : decode code 195 = .ok (.aload_n 0, 1) := by decide +kernel
theorem d_Lw_law_196 : decode code 196 = .ok (.iload_n 3, 1) := by decide +kernel
theorem d_Lw_law_197 : decode code 197 = .ok (.iconst 1, 1) := by decide +kernel
theorem d_Lw_law_198 : decode code 198 = .ok (.iadd, 1) := by decide +kernel
theorem d_Lw_law_199 : decode code 199 = .ok (.iaload, 1) := by decide +kernel
theorem d_Lw_law_200 : decode code 200 = .ok (.aload_n 0, 1) := by decide +kernel
theorem d_Lw_law_201 : decode code 201 = .ok (.iload_n 3, 1) := by decide +kernel
theorem d_Lw_law_202 : decode code 202 = .ok (.iconst 2, 1) := by decide +kernel
theorem d_Lw_law_203 : decode code 203 = .ok (.iadd, 1) := by decide +kernel
theorem d_Lw_law_204 : decode code 204 = .ok (.iaload, 1) := by decide +kernel
theorem d_Lw_law_205 : decode code 205 = .ok (.invokevirtual 27, 3) := by decide +kernel
theorem d_Lw_law_208 : decode code 208 = .ok (.if_icmp .eq 338, 3) := by decide +kernel
theorem d_Lw_law_211 : decode code 211 = .ok (.iconst 0, 1) := by decide +kernel
theorem d_Lw_law_212 : decode code 212 = .ok (.ireturn, 1) := by decide +kernel
theorem d_Lw_law_213 : decode code 213 = .ok (.aload_n 1, 1) := by decide +kernel
theorem d_Lw_law_214 : decode code 214 = .ok (.aload_n 0, 1) := by decide +kernel
theorem d_Lw_law_215 : decode code 215 = .ok (.iload_n 3, 1) := by decide +kernel
theorem d_Lw_law_216 : decode code 216 = .ok (.iconst 1, 1) := by decide +kernel
theorem d_Lw_law_217 : decode code 217 = .ok (.iadd, 1) := by decide +kernel
theorem d_Lw_law_218 : decode code 218 = .ok (.iaload, 1) := by decide +kernel
theorem d_Lw_law_219 : decode code 219 = .ok (.aload_n 0, 1) := by decide +kernel
theorem d_Lw_law_220 : decode code 220 = .ok (.iload_n 3, 1) := by decide +kernel
theorem d_Lw_law_221 : decode code 221 = .ok (.iconst 2, 1) := by decide +kernel
theorem d_Lw_law_222 : decode code 222 = .ok (.iadd, 1) := by decide +kernel
theorem d_Lw_law_223 : decode code 223 = .ok (.iaload, 1) := by decide +kernel
theorem d_Lw_law_224 : decode code 224 = .ok (.aload_n 0, 1) := by decide +kernel
theorem d_Lw_law_225 : decode code 225 = .ok (.iload_n 3, 1) := by decide +kernel
theorem d_Lw_law_226 : decode code 226 = .ok (.iconst 3, 1) := by decide +kernel
theorem d_Lw_law_227 : decode code 227 = .ok (.iadd, 1) := by decide +kernel
theorem d_Lw_law_228 : decode code 228 = .ok (.iaload, 1) := by decide +kernel
theorem d_Lw_law_229 : decode code 229 = .ok (.aload_n 0, 1) := by decide +kernel
