theorem d_LW_law_168 : decode b_LW_law 168 = .ok (.iconst 1, 1) := by decide +kernel
theorem d_LW_law_169 : decode b_LW_law 169 = .ok (.iadd, 1) := by decide +kernel
theorem d_LW_law_170 : decode b_LW_law 170 = .ok (.iaload, 1) := by decide +kernel
theorem d_LW_law_171 : decode b_LW_law 171 = .ok (.aload_n 0, 1) := by decide +kernel
theorem d_LW_law_172 : decode b_LW_law 172 = .ok (.iload 4, 2) := by decide +kernel
theorem d_LW_law_174 : decode b_LW_law 174 = .ok (.iconst 2, 1) := by decide +kernel
theorem d_LW_law_175 : decode b_LW_law 175 = .ok (.iadd, 1) := by decide +kernel
theorem d_LW_law_176 : decode b_LW_law 176 = .ok (.iaload, 1) := by decide +kernel
theorem d_LW_law_177 : decode b_LW_law 177 = .ok (.aload_n 0, 1) := by decide +kernel
theorem d_LW_law_178 : decode b_LW_law 178 = .ok (.iload 4, 2) := by decide +kernel
theorem d_LW_law_180 : decode b_LW_law 180 = .ok (.iconst 3, 1) := by decide +kernel
theorem d_LW_law_181 : decode b_LW_law 181 = .ok (.iadd, 1) := by decide +kernel
theorem d_LW_law_182 : decode b_LW_law 182 = .ok (.iaload, 1) := by decide +kernel
theorem d_LW_law_183 : decode b_LW_law 183 = .ok (.invokestatic 85, 3) := by decide +kernel
theorem d_LW_law_186 : decode b_LW_law 186 = .ok (.istore 5, 2) := by decide +kernel
theorem d_LW_law_188 : decode b_LW_law 188 = .ok (.aload_n 2, 1) := by decide +kernel
theorem d_LW_law_189 : decode b_LW_law 189 = .ok (.aload_n 0, 1) := by decide +kernel
theorem d_LW_law_190 : decode b_LW_law 190 = .ok (.iload 4, 2) := by decide +kernel
theorem d_LW_law_192 : decode b_LW_law 192 = .ok (.iconst 1, 1) := by decide +kernel
theorem d_LW_law_193 : decode b_LW_law 193 = .ok (.iadd, 1) := by decide +kernel
theorem d_LW_law_194 : decode b_LW_law 194 = .ok (.iaload, 1) := by decide +kernel
theorem d_LW_law_195 : decode b_LW_law 195 = .ok (.aload_n 0, 1) := by decide +kernel
theorem d_LW_law_196 : decode b_LW_law 196 = .ok (.iload 4, 2) := by decide +kernel
theorem d_LW_law_198 : decode b_LW_law 198 = .ok (.iconst 2, 1) := by decide +kernel
theorem d_LW_law_199 : decode b_LW_law 199 = .ok (.iadd, 1) := by decide +kernel
theorem d_LW_law_200 : decode b_LW_law 200 = .ok (.iaload, 1) := by decide +kernel
theorem d_LW_law_201 : decode b_LW_law 201 = .ok (.aload_n 0, 1) := by decide +kernel
theorem d_LW_law_202 : decode b_LW_law 202 = .ok (.iload 4, 2) := by decide +kernel
theorem d_LW_law_204 : decode b_LW_law 204 = .ok (.iconst 3, 1) := by decide +kernel
theorem d_LW_law_205 : decode b_LW_law 205 = .ok (.iadd, 1) := by decide +kernel
theorem d_LW_law_206 : decode b_LW_law 206 = .ok (.iaload, 1) := by decide +kernel
theorem d_LW_law_207 : decode b_LW_law 207 = .ok (.invokevirtual 88, 3) := by decide +kernel
theorem d_LW_law_210 : decode b_LW_law 210 = .ok (.aload_n 2, 1) := by decide +kernel
theorem d_LW_law_211 : decode b_LW_law 211 = .ok (.invokevirtual 81, 3) := by decide +kernel
theorem d_LW_law_214 : decode b_LW_law 214 = .ok (.iload 5, 2) := by decide +kernel
theorem d_LW_law_216 : decode b_LW_law 216 = .ok (.if_icmp .eq 5, 3) := by decide +kernel
theorem d_LW_law_219 : decode b_LW_law 219 = .ok (.iconst 0, 1) := by decide +kernel
theorem d_LW_law_220 : decode b_LW_law 220 = .ok (.ireturn, 1) := by decide +kernel
theorem d_LW_law_221 : decode b_LW_law 221 = .ok (.goto 930, 3) := by decide +kernel
theorem d_LW_law_224 : decode b_LW_law 224 = .ok (.aload_n 1, 1) := by decide +kernel
theorem d_LW_law_225 : decode b_LW_law 225 = .ok (.aload_n 0, 1) := by decide +kernel
theorem d_LW_law_226 : decode b_LW_law 226 = .ok (.iload 4, 2) := by decide +kernel
theorem d_LW_law_228 : decode b_LW_law 228 = .ok (.iconst 1, 1) := by decide +kernel
theorem d_LW_law_229 : decode b_LW_law 229 = .ok (.iadd, 1) := by decide +kernel
theorem d_LW_law_230 : decode b_LW_law 230 = .ok (.iaload, 1) := by decide +kernel
theorem d_LW_law_231 : decode b_LW_law 231 = .ok (.aload_n 0, 1) := by decide +kernel
theorem d_LW_law_232 : decode b_LW_law 232 = .ok (.iload 4, 2) := by decide +kernel
theorem d_LW_law_234 : decode b_LW_law 234 = .ok (.iconst 2, 1) := by decide +kernel
theorem d_LW_law_235 : decode b_LW_law 235 = .ok (.iadd, 1) := by decide +kernel
theorem d_LW_law_236 : decode b_LW_law 236 = .ok (.iaload, 1) := by decide +kernel
theorem d_LW_law_237 : decode b_LW_law 237 = .ok (.aload_n 0, 1) := by decide +kernel
theorem d_LW_law_238 : decode b_LW_law 238 = .ok (.iload 4, 2) := by decide +kernel
theorem d_LW_law_240 : decode b_LW_law 240 = .ok (.iconst 3, 1) := by decide +kernel
theorem d_LW_law_241 : decode b_LW_law 241 = .ok (.iadd, 1) := by decide +kernel
theorem d_LW_law_242 : decode b_LW_law 242 = .ok (.iaload, 1) := by decide +kernel
theorem d_LW_law_243 : decode b_LW_law 243 = .ok (.aload_n 0, 1) := by decide +kernel
theorem d_LW_law_244 : decode b_LW_law 244 = .ok (.iload 4, 2) := by decide +kernel
theorem d_LW_law_246 : decode b_LW_law 246 = .ok (.iconst 4, 1) := by decide +kernel
theorem d_LW_law_247 : decode b_LW_law 247 = .ok (.iadd, 1) := by decide +kernel
theorem d_LW_law_248 : decode b_LW_law 248 = .ok (.iaload, 1) := by decide +kernel
