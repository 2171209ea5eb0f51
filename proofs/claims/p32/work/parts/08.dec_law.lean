theorem dgL_law_0 : (decode cL_law 0 = .ok (.new 7, 3)) ∧ (decode cL_law 3 = .ok (.dup, 1)) ∧ (decode cL_law 4 = .ok (.invokespecial 9, 3)) ∧ (decode cL_law 7 = .ok (.astore_n 1, 1)) ∧ (decode cL_law 8 = .ok (.new 10, 3)) ∧ (decode cL_law 11 = .ok (.dup, 1)) ∧ (decode cL_law 12 = .ok (.invokespecial 12, 3)) ∧ (decode cL_law 15 = .ok (.astore_n 2, 1)) ∧ (decode cL_law 16 = .ok (.iconst 0, 1)) ∧ (decode cL_law 17 = .ok (.istore_n 3, 1)) ∧ (decode cL_law 18 = .ok (.iload_n 3, 1)) ∧ (decode cL_law 19 = .ok (.aload_n 0, 1)) ∧ (decode cL_law 20 = .ok (.arraylength, 1)) ∧ (decode cL_law 21 = .ok (.bipush 7, 2)) ∧ (decode cL_law 23 = .ok (.isub, 1)) ∧ (decode cL_law 24 = .ok (.if_icmp .gt 1301, 3)) := by decide +kernel
theorem dL_law_0 : decode cL_law 0 = .ok (.new 7, 3) := dgL_law_0.1
theorem dL_law_3 : decode cL_law 3 = .ok (.dup, 1) := dgL_law_0.2.1
theorem dL_law_4 : decode cL_law 4 = .ok (.invokespecial 9, 3) := dgL_law_0.2.2.1
theorem dL_law_7 : decode cL_law 7 = .ok (.astore_n 1, 1) := dgL_law_0.2.2.2.1
theorem dL_law_8 : decode cL_law 8 = .ok (.new 10, 3) := dgL_law_0.2.2.2.2.1
theorem dL_law_11 : decode cL_law 11 = .ok (.dup, 1) := dgL_law_0.2.2.2.2.2.1
theorem dL_law_12 : decode cL_law 12 = .ok (.invokespecial 12, 3) := dgL_law_0.2.2.2.2.2.2.1
theorem dL_law_15 : decode cL_law 15 = .ok (.astore_n 2, 1) := dgL_law_0.2.2.2.2.2.2.2.1
theorem dL_law_16 : decode cL_law 16 = .ok (.iconst 0, 1) := dgL_law_0.2.2.2.2.2.2.2.2.1
theorem dL_law_17 : decode cL_law 17 = .ok (.istore_n 3, 1) := dgL_law_0.2.2.2.2.2.2.2.2.2.1
theorem dL_law_18 : decode cL_law 18 = .ok (.iload_n 3, 1) := dgL_law_0.2.2.2.2.2.2.2.2.2.2.1
theorem dL_law_19 : decode cL_law 19 = .ok (.aload_n 0, 1) := dgL_law_0.2.2.2.2.2.2.2.2.2.2.2.1
theorem dL_law_20 : decode cL_law 20 = .ok (.arraylength, 1) := dgL_law_0.2.2.2.2.2.2.2.2.2.2.2.2.1
theorem dL_law_21 : decode cL_law 21 = .ok (.bipush 7, 2) := dgL_law_0.2.2.2.2.2.2.2.2.2.2.2.2.2.1
theorem dL_law_23 : decode cL_law 23 = .ok (.isub, 1) := dgL_law_0.2.2.2.2.2.2.2.2.2.2.2.2.2.2.1
theorem dL_law_24 : decode cL_law 24 = .ok (.if_icmp .gt 1301, 3) := dgL_law_0.2.2.2.2.2.2.2.2.2.2.2.2.2.2.2
theorem dgL_law_16 : (decode cL_law 27 = .ok (.aload_n 0, 1)) ∧ (decode cL_law 28 = .ok (.iload_n 3, 1)) ∧ (decode cL_law 29 = .ok (.iaload, 1)) ∧ (decode cL_law 30 = .ok (.bipush 31, 2)) ∧ (decode cL_law 32 = .ok (.iand, 1)) ∧ (decode cL_law 33 = .ok (.tableswitch 1286 0 30 #[139, 172, 195, 238, 281, 324, 383, 416, 449, 492, 525, 548, 571, 604, 679, 712, 755, 798, 841, 864, 887, 920, 953, 996, 1049, 1082, 1125, 1148, 1197, 1240, 1263], 139)) ∧ (decode cL_law 172 = .ok (.aload_n 1, 1)) ∧ (decode cL_law 173 = .ok (.aload_n 0, 1)) ∧ (decode cL_law 174 = .ok (.iload_n 3, 1)) ∧ (decode cL_law 175 = .ok (.iconst 1, 1)) ∧ (decode cL_law 176 = .ok (.iadd, 1)) ∧ (decode cL_law 177 = .ok (.iaload, 1)) ∧ (decode cL_law 178 = .ok (.aload_n 0, 1)) ∧ (decode cL_law 179 = .ok (.iload_n 3, 1)) ∧ (decode cL_law 180 = .ok (.iconst 2, 1)) ∧ (decode cL_law 181 = .ok (.iadd, 1)) := by decide +kernel
theorem dL_law_27 : decode cL_law 27 = .ok (.aload_n 0, 1) := dgL_law_16.1
theorem dL_law_28 : decode cL_law 28 = .ok (.iload_n 3, 1) := dgL_law_16.2.1
theorem dL_law_29 : decode cL_law 29 = .ok (.iaload, 1) := dgL_law_16.2.2.1
theorem dL_law_30 : decode cL_law 30 = .ok (.bipush 31, 2) := dgL_law_16.2.2.2.1
theorem dL_law_32 : decode cL_law 32 = .ok (.iand, 1) := dgL_law_16.2.2.2.2.1
theorem dL_law_33 : decode cL_law 33 = .ok (.tableswitch 1286 0 30 #[139, 172, 195, 238, 281, 324, 383, 416, 449, 492, 525, 548, 571, 604, 679, 712, 755, 798, 841, 864, 887, 920, 953, 996, 1049, 1082, 1125, 1148, 1197, 1240, 1263], 139) := dgL_law_16.2.2.2.2.2.1
theorem dL_law_172 : decode cL_law 172 = .ok (.aload_n 1, 1) := dgL_law_16.2.2.2.2.2.2.1
theorem dL_law_173 : decode cL_law 173 = .ok (.aload_n 0, 1) := dgL_law_16.2.2.2.2.2.2.2.1
theorem dL_law_174 : decode cL_law 174 = .ok (.iload_n 3, 1) := dgL_law_16.2.2.2.2.2.2.2.2.1
theorem dL_law_175 : decode cL_law 175 = .ok (.iconst 1, 1) := dgL_law_16.2.2.2.2.2.2.2.2.2.1
theorem dL_law_176 : decode cL_law 176 = .ok (.iadd, 1) := dgL_law_16.2.2.2.2.2.2.2.2.2.2.1
theorem dL_law_177 : decode cL_law 177 = .ok (.iaload, 1) := dgL_law_16.2.2.2.2.2.2.2.2.2.2.2.1
theorem dL_law_178 : decode cL_law 178 = .ok (.aload_n 0, 1) := dgL_law_16.2.2.2.2.2.2.2.2.2.2.2.2.1
theorem dL_law_179 : decode cL_law 179 = .ok (.iload_n 3, 1) := dgL_law_16.2.2.2.2.2.2.2.2.2.2.2.2.2.1
theorem dL_law_180 : decode cL_law 180 = .ok (.iconst 2, 1) := dgL_law_16.2.2.2.2.2.2.2.2.2.2.2.2.2.2.1
theorem dL_law_181 : decode cL_law 181 = .ok (.iadd, 1) := dgL_law_16.2.2.2.2.2.2.2.2.2.2.2.2.2.2.2
theorem dgL_law_32 : (decode cL_law 182 = .ok (.iaload, 1)) ∧ (decode cL_law 183 = .ok (.invokevirtual 13, 3)) ∧ (decode cL_law 186 = .ok (.pop, 1)) ∧ (decode cL_law 187 = .ok (.aload_n 2, 1)) ∧ (decode cL_law 188 = .ok (.aload_n 0, 1)) ∧ (decode cL_law 189 = .ok (.iload_n 3, 1)) ∧ (decode cL_law 190 = .ok (.iconst 1, 1)) ∧ (decode cL_law 191 = .ok (.iadd, 1)) ∧ (decode cL_law 192 = .ok (.iaload, 1)) ∧ (decode cL_law 193 = .ok (.aload_n 0, 1)) ∧ (decode cL_law 194 = .ok (.iload_n 3, 1)) ∧ (decode cL_law 195 = .ok (.iconst 2, 1)) ∧ (decode cL_law 196 = .ok (.iadd, 1)) ∧ (decode cL_law 197 = .ok (.iaload, 1)) ∧ (decode cL_law 198 = .ok (.invokevirtual 17, 3)) ∧ (decode cL_law 201 = .ok (.pop, 1)) := by decide +kernel
theorem dL_law_182 : decode cL_law 182 = .ok (.iaload, 1) := dgL_law_32.1
theorem dL_law_183 : decode cL_law 183 = .ok (.invokevirtual 13, 3) := dgL_law_32.2.1
theorem dL_law_186 : decode cL_law 186 = .ok (.pop, 1) := dgL_law_32.2.2.1
theorem dL_law_187 : decode cL_law 187 = .ok (.aload_n 2, 1) := dgL_law_32.2.2.2.1
theorem dL_law_188 : decode cL_law 188 = .ok (.aload_n 0, 1) := dgL_law_32.2.2.2.2.1
theorem dL_law_189 : decode cL_law 189 = .ok (.iload_n 3, 1) := dgL_law_32.2.2.2.2.2.1
theorem dL_law_190 : decode cL_law 190 = .ok (.iconst 1, 1) := dgL_law_32.2.2.2.2.2.2.1
theorem dL_law_191 : decode cL_law 191 = .ok (.iadd, 1) := dgL_law_32.2.2.2.2.2.2.2.1
theorem dL_law_192 : decode cL_law 192 = .ok (.iaload, 1) := dgL_law_32.2.2.2.2.2.2.2.2.1
theorem dL_law_193 : decode cL_law 193 = .ok (.aload_n 0, 1) := dgL_law_32.2.2.2.2.2.2.2.2.2.1
theorem dL_law_194 : decode cL_law 194 = .ok (.iload_n 3, 1) := dgL_law_32.2.2.2.2.2.2.2.2.2.2.1
theorem dL_law_195 : decode cL_law 195 = .ok (.iconst 2, 1) := dgL_law_32.2.2.2.2.2.2.2.2.2.2.2.1
theorem dL_law_196 : decode cL_law 196 = .ok (.iadd, 1) := dgL_law_32.2.2.2.2.2.2.2.2.2.2.2.2.1
theorem dL_law_197 : decode cL_law 197 = .ok (.iaload, 1) := dgL_law_32.2.2.2.2.2.2.2.2.2.2.2.2.2.1
theorem dL_law_198 : decode cL_law 198 = .ok (.invokevirtual 17, 3) := dgL_law_32.2.2.2.2.2.2.2.2.2.2.2.2.2.2.1
theorem dL_law_201 : decode cL_law 201 = .ok (.pop, 1) := dgL_law_32.2.2.2.2.2.2.2.2.2.2.2.2.2.2.2
theorem dgL_law_48 : (decode cL_law 202 = .ok (.goto 1117, 3)) ∧ (decode cL_law 205 = .ok (.aload_n 1, 1)) ∧ (decode cL_law 206 = .ok (.aload_n 0, 1)) ∧ (decode cL_law 207 = .ok (.iload_n 3, 1)) ∧ (decode cL_law 208 = .ok (.iconst 1, 1)) ∧ (decode cL_law 209 = .ok (.iadd, 1)) ∧ (decode cL_law 210 = .ok (.iaload, 1)) ∧ (decode cL_law 211 = .ok (.invokevirtual 18, 3)) ∧ (decode cL_law 214 = .ok (.pop, 1)) ∧ (decode cL_law 215 = .ok (.aload_n 2, 1)) ∧ (decode cL_law 216 = .ok (.aload_n 0, 1)) ∧ (decode cL_law 217 = .ok (.iload_n 3, 1)) ∧ (decode cL_law 218 = .ok (.iconst 1, 1)) ∧ (decode cL_law 219 = .ok (.iadd, 1)) ∧ (decode cL_law 220 = .ok (.iaload, 1)) ∧ (decode cL_law 221 = .ok (.invokevirtual 22, 3)) := by decide +kernel
theorem dL_law_202 : decode cL_law 202 = .ok (.goto 1117, 3) := dgL_law_48.1
theorem dL_law_205 : decode cL_law 205 = .ok (.aload_n 1, 1) := dgL_law_48.2.1
theorem dL_law_206 : decode cL_law 206 = .ok (.aload_n 0, 1) := dgL_law_48.2.2.1
theorem dL_law_207 : decode cL_law 207 = .ok (.iload_n 3, 1) := dgL_law_48.2.2.2.1
theorem dL_law_208 : decode cL_law 208 = .ok (.iconst 1, 1) := dgL_law_48.2.2.2.2.1
theorem dL_law_209 : decode cL_law 209 = .ok (.iadd, 1) := dgL_law_48.2.2.2.2.2.1
theorem dL_law_210 : decode cL_law 210 = .ok (.iaload, 1) := dgL_law_48.2.2.2.2.2.2.1
theorem dL_law_211 : decode cL_law 211 = .ok (.invokevirtual 18, 3) := dgL_law_48.2.2.2.2.2.2.2.1
theorem dL_law_214 : decode cL_law 214 = .ok (.pop, 1) := dgL_law_48.2.2.2.2.2.2.2.2.1
theorem dL_law_215 : decode cL_law 215 = .ok (.aload_n 2, 1) := dgL_law_48.2.2.2.2.2.2.2.2.2.1
theorem dL_law_216 : decode cL_law 216 = .ok (.aload_n 0, 1) := dgL_law_48.2.2.2.2.2.2.2.2.2.2.1
theorem dL_law_217 : decode cL_law 217 = .ok (.iload_n 3, 1) := dgL_law_48.2.2.2.2.2.2.2.2.2.2.2.1
theorem dL_law_218 : decode cL_law 218 = .ok (.iconst 1, 1) := dgL_law_48.2.2.2.2.2.2.2.2.2.2.2.2.1
theorem dL_law_219 : decode cL_law 219 = .ok (.iadd, 1) := dgL_law_48.2.2.2.2.2.2.2.2.2.2.2.2.2.1
theorem dL_law_220 : decode cL_law 220 = .ok (.iaload, 1) := dgL_law_48.2.2.2.2.2.2.2.2.2.2.2.2.2.2.1
theorem dL_law_221 : decode cL_law 221 = .ok (.invokevirtual 22, 3) := dgL_law_48.2.2.2.2.2.2.2.2.2.2.2.2.2.2.2
theorem dgL_law_64 : (decode cL_law 224 = .ok (.pop, 1)) ∧ (decode cL_law 225 = .ok (.goto 1094, 3)) ∧ (decode cL_law 228 = .ok (.aload_n 1, 1)) ∧ (decode cL_law 229 = .ok (.aload_n 0, 1)) ∧ (decode cL_law 230 = .ok (.iload_n 3, 1)) ∧ (decode cL_law 231 = .ok (.iconst 1, 1)) ∧ (decode cL_law 232 = .ok (.iadd, 1)) ∧ (decode cL_law 233 = .ok (.iaload, 1)) ∧ (decode cL_law 234 = .ok (.aload_n 0, 1)) ∧ (decode cL_law 235 = .ok (.iload_n 3, 1)) ∧ (decode cL_law 236 = .ok (.iconst 2, 1)) ∧ (decode cL_law 237 = .ok (.iadd, 1)) ∧ (decode cL_law 238 = .ok (.iaload, 1)) ∧ (decode cL_law 239 = .ok (.aload_n 0, 1)) ∧ (decode cL_law 240 = .ok (.iload_n 3, 1)) ∧ (decode cL_law 241 = .ok (.iconst 3, 1)) := by decide +kernel
theorem dL_law_224 : decode cL_law 224 = .ok (.pop, 1) := dgL_law_64.1
theorem dL_law_225 : decode cL_law 225 = .ok (.goto 1094, 3) := dgL_law_64.2.1
theorem dL_law_228 : decode cL_law 228 = .ok (.aload_n 1, 1) := dgL_law_64.2.2.1
theorem dL_law_229 : decode cL_law 229 = .ok (.aload_n 0, 1) := dgL_law_64.2.2.2.1
theorem dL_law_230 : decode cL_law 230 = .ok (.iload_n 3, 1) := dgL_law_64.2.2.2.2.1
theorem dL_law_231 : decode cL_law 231 = .ok (.iconst 1, 1) := dgL_law_64.2.2.2.2.2.1
theorem dL_law_232 : decode cL_law 232 = .ok (.iadd, 1) := dgL_law_64.2.2.2.2.2.2.1
theorem dL_law_233 : decode cL_law 233 = .ok (.iaload, 1) := dgL_law_64.2.2.2.2.2.2.2.1
theorem dL_law_234 : decode cL_law 234 = .ok (.aload_n 0, 1) := dgL_law_64.2.2.2.2.2.2.2.2.1
theorem dL_law_235 : decode cL_law 235 = .ok (.iload_n 3, 1) := dgL_law_64.2.2.2.2.2.2.2.2.2.1
theorem dL_law_236 : decode cL_law 236 = .ok (.iconst 2, 1) := dgL_law_64.2.2.2.2.2.2.2.2.2.2.1
theorem dL_law_237 : decode cL_law 237 = .ok (.iadd, 1) := dgL_law_64.2.2.2.2.2.2.2.2.2.2.2.1
theorem dL_law_238 : decode cL_law 238 = .ok (.iaload, 1) := dgL_law_64.2.2.2.2.2.2.2.2.2.2.2.2.1
theorem dL_law_239 : decode cL_law 239 = .ok (.aload_n 0, 1) := dgL_law_64.2.2.2.2.2.2.2.2.2.2.2.2.2.1
theorem dL_law_240 : decode cL_law 240 = .ok (.iload_n 3, 1) := dgL_law_64.2.2.2.2.2.2.2.2.2.2.2.2.2.2.1
theorem dL_law_241 : decode cL_law 241 = .ok (.iconst 3, 1) := dgL_law_64.2.2.2.2.2.2.2.2.2.2.2.2.2.2.2
theorem dgL_law_80 : (decode cL_law 242 = .ok (.iadd, 1)) ∧ (decode cL_law 243 = .ok (.iaload, 1)) ∧ (decode cL_law 244 = .ok (.invokevirtual 23, 3)) ∧ (decode cL_law 247 = .ok (.pop, 1)) ∧ (decode cL_law 248 = .ok (.aload_n 2, 1)) ∧ (decode cL_law 249 = .ok (.aload_n 0, 1)) ∧ (decode cL_law 250 = .ok (.iload_n 3, 1)) ∧ (decode cL_law 251 = .ok (.iconst 1, 1)) ∧ (decode cL_law 252 = .ok (.iadd, 1)) ∧ (decode cL_law 253 = .ok (.iaload, 1)) ∧ (decode cL_law 254 = .ok (.aload_n 0, 1)) ∧ (decode cL_law 255 = .ok (.iload_n 3, 1)) ∧ (decode cL_law 256 = .ok (.iconst 2, 1)) ∧ (decode cL_law 257 = .ok (.iadd, 1)) ∧ (decode cL_law 258 = .ok (.iaload, 1)) ∧ (decode cL_law 259 = .ok (.aload_n 0, 1)) := by decide +kernel
theorem dL_law_242 : decode cL_law 242 = .ok (.iadd, 1) := dgL_law_80.1
theorem dL_law_243 : decode cL_law 243 = .ok (.iaload, 1) := dgL_law_80.2.1
theorem dL_law_244 : decode cL_law 244 = .ok (.invokevirtual 23, 3) := dgL_law_80.2.2.1
theorem dL_law_247 : decode cL_law 247 = .ok (.pop, 1) := dgL_law_80.2.2.2.1
theorem dL_law_248 : decode cL_law 248 = .ok (.aload_n 2, 1) := dgL_law_80.2.2.2.2.1
theorem dL_law_249 : decode cL_law 249 = .ok (.aload_n 0, 1) := dgL_law_80.2.2.2.2.2.1
theorem dL_law_250 : decode cL_law 250 = .ok (.iload_n 3, 1) := dgL_law_80.2.2.2.2.2.2.1
theorem dL_law_251 : decode cL_law 251 = .ok (.iconst 1, 1) := dgL_law_80.2.2.2.2.2.2.2.1
theorem dL_law_252 : decode cL_law 252 = .ok (.iadd, 1) := dgL_law_80.2.2.2.2.2.2.2.2.1
theorem dL_law_253 : decode cL_law 253 = .ok (.iaload, 1) := dgL_law_80.2.2.2.2.2.2.2.2.2.1
theorem dL_law_254 : decode cL_law 254 = .ok (.aload_n 0, 1) := dgL_law_80.2.2.2.2.2.2.2.2.2.2.1
theorem dL_law_255 : decode cL_law 255 = .ok (.iload_n 3, 1) := dgL_law_80.2.2.2.2.2.2.2.2.2.2.2.1
theorem dL_law_256 : decode cL_law 256 = .ok (.iconst 2, 1) := dgL_law_80.2.2.2.2.2.2.2.2.2.2.2.2.1
theorem dL_law_257 : decode cL_law 257 = .ok (.iadd, 1) := dgL_law_80.2.2.2.2.2.2.2.2.2.2.2.2.2.1
theorem dL_law_258 : decode cL_law 258 = .ok (.iaload, 1) := dgL_law_80.2.2.2.2.2.2.2.2.2.2.2.2.2.2.1
theorem dL_law_259 : decode cL_law 259 = .ok (.aload_n 0, 1) := dgL_law_80.2.2.2.2.2.2.2.2.2.2.2.2.2.2.2
theorem dgL_law_96 : (decode cL_law 260 = .ok (.iload_n 3, 1)) ∧ (decode cL_law 261 = .ok (.iconst 3, 1)) ∧ (decode cL_law 262 = .ok (.iadd, 1)) ∧ (decode cL_law 263 = .ok (.iaload, 1)) ∧ (decode cL_law 264 = .ok (.invokevirtual 27, 3)) ∧ (decode cL_law 267 = .ok (.pop, 1)) ∧ (decode cL_law 268 = .ok (.goto 1051, 3)) ∧ (decode cL_law 271 = .ok (.aload_n 1, 1)) ∧ (decode cL_law 272 = .ok (.aload_n 0, 1)) ∧ (decode cL_law 273 = .ok (.iload_n 3, 1)) ∧ (decode cL_law 274 = .ok (.iconst 1, 1)) ∧ (decode cL_law 275 = .ok (.iadd, 1)) ∧ (decode cL_law 276 = .ok (.iaload, 1)) ∧ (decode cL_law 277 = .ok (.aload_n 0, 1)) ∧ (decode cL_law 278 = .ok (.iload_n 3, 1)) ∧ (decode cL_law 279 = .ok (.iconst 2, 1)) := by decide +kernel
theorem dL_law_260 : decode cL_law 260 = .ok (.iload_n 3, 1) := dgL_law_96.1
theorem dL_law_261 : decode cL_law 261 = .ok (.iconst 3, 1) := dgL_law_96.2.1
theorem dL_law_262 : decode cL_law 262 = .ok (.iadd, 1) := dgL_law_96.2.2.1
theorem dL_law_263 : decode cL_law 263 = .ok (.iaload, 1) := dgL_law_96.2.2.2.1
theorem dL_law_264 : decode cL_law 264 = .ok (.invokevirtual 27, 3) := dgL_law_96.2.2.2.2.1
theorem dL_law_267 : decode cL_law 267 = .ok (.pop, 1) := dgL_law_96.2.2.2.2.2.1
theorem dL_law_268 : decode cL_law 268 = .ok (.goto 1051, 3) := dgL_law_96.2.2.2.2.2.2.1
theorem dL_law_271 : decode cL_law 271 = .ok (.aload_n 1, 1) := dgL_law_96.2.2.2.2.2.2.2.1
theorem dL_law_272 : decode cL_law 272 = .ok (.aload_n 0, 1) := dgL_law_96.2.2.2.2.2.2.2.2.1
theorem dL_law_273 : decode cL_law 273 = .ok (.iload_n 3, 1) := dgL_law_96.2.2.2.2.2.2.2.2.2.1
theorem dL_law_274 : decode cL_law 274 = .ok (.iconst 1, 1) := dgL_law_96.2.2.2.2.2.2.2.2.2.2.1
theorem dL_law_275 : decode cL_law 275 = .ok (.iadd, 1) := dgL_law_96.2.2.2.2.2.2.2.2.2.2.2.1
theorem dL_law_276 : decode cL_law 276 = .ok (.iaload, 1) := dgL_law_96.2.2.2.2.2.2.2.2.2.2.2.2.1
theorem dL_law_277 : decode cL_law 277 = .ok (.aload_n 0, 1) := dgL_law_96.2.2.2.2.2.2.2.2.2.2.2.2.2.1
theorem dL_law_278 : decode cL_law 278 = .ok (.iload_n 3, 1) := dgL_law_96.2.2.2.2.2.2.2.2.2.2.2.2.2.2.1
theorem dL_law_279 : decode cL_law 279 = .ok (.iconst 2, 1) := dgL_law_96.2.2.2.2.2.2.2.2.2.2.2.2.2.2.2
theorem dgL_law_112 : (decode cL_law 280 = .ok (.iadd, 1)) ∧ (decode cL_law 281 = .ok (.iaload, 1)) ∧ (decode cL_law 282 = .ok (.aload_n 0, 1)) ∧ (decode cL_law 283 = .ok (.iload_n 3, 1)) ∧ (decode cL_law 284 = .ok (.iconst 3, 1)) ∧ (decode cL_law 285 = .ok (.iadd, 1)) ∧ (decode cL_law 286 = .ok (.iaload, 1)) ∧ (decode cL_law 287 = .ok (.invokevirtual 28, 3)) ∧ (decode cL_law 290 = .ok (.pop, 1)) ∧ (decode cL_law 291 = .ok (.aload_n 2, 1)) ∧ (decode cL_law 292 = .ok (.aload_n 0, 1)) ∧ (decode cL_law 293 = .ok (.iload_n 3, 1)) ∧ (decode cL_law 294 = .ok (.iconst 1, 1)) ∧ (decode cL_law 295 = .ok (.iadd, 1)) ∧ (decode cL_law 296 = .ok (.iaload, 1)) ∧ (decode cL_law 297 = .ok (.aload_n 0, 1)) := by decide +kernel
theorem dL_law_280 : decode cL_law 280 = .ok (.iadd, 1) := dgL_law_112.1
theorem dL_law_281 : decode cL_law 281 = .ok (.iaload, 1) := dgL_law_112.2.1
theorem dL_law_282 : decode cL_law 282 = .ok (.aload_n 0, 1) := dgL_law_112.2.2.1
theorem dL_law_283 : decode cL_law 283 = .ok (.iload_n 3, 1) := dgL_law_112.2.2.2.1
theorem dL_law_284 : decode cL_law 284 = .ok (.iconst 3, 1) := dgL_law_112.2.2.2.2.1
theorem dL_law_285 : decode cL_law 285 = .ok (.iadd, 1) := dgL_law_112.2.2.2.2.2.1
theorem dL_law_286 : decode cL_law 286 = .ok (.iaload, 1) := dgL_law_112.2.2.2.2.2.2.1
theorem dL_law_287 : decode cL_law 287 = .ok (.invokevirtual 28, 3) := dgL_law_112.2.2.2.2.2.2.2.1
theorem dL_law_290 : decode cL_law 290 = .ok (.pop, 1) := dgL_law_112.2.2.2.2.2.2.2.2.1
theorem dL_law_291 : decode cL_law 291 = .ok (.aload_n 2, 1) := dgL_law_112.2.2.2.2.2.2.2.2.2.1
theorem dL_law_292 : decode cL_law 292 = .ok (.aload_n 0, 1) := dgL_law_112.2.2.2.2.2.2.2.2.2.2.1
theorem dL_law_293 : decode cL_law 293 = .ok (.iload_n 3, 1) := dgL_law_112.2.2.2.2.2.2.2.2.2.2.2.1
theorem dL_law_294 : decode cL_law 294 = .ok (.iconst 1, 1) := dgL_law_112.2.2.2.2.2.2.2.2.2.2.2.2.1
theorem dL_law_295 : decode cL_law 295 = .ok (.iadd, 1) := dgL_law_112.2.2.2.2.2.2.2.2.2.2.2.2.2.1
theorem dL_law_296 : decode cL_law 296 = .ok (.iaload, 1) := dgL_law_112.2.2.2.2.2.2.2.2.2.2.2.2.2.2.1
theorem dL_law_297 : decode cL_law 297 = .ok (.aload_n 0, 1) := dgL_law_112.2.2.2.2.2.2.2.2.2.2.2.2.2.2.2
theorem dgL_law_128 : (decode cL_law 298 = .ok (.iload_n 3, 1)) ∧ (decode cL_law 299 = .ok (.iconst 2, 1)) ∧ (decode cL_law 300 = .ok (.iadd, 1)) ∧ (decode cL_law 301 = .ok (.iaload, 1)) ∧ (decode cL_law 302 = .ok (.aload_n 0, 1)) ∧ (decode cL_law 303 = .ok (.iload_n 3, 1)) ∧ (decode cL_law 304 = .ok (.iconst 3, 1)) ∧ (decode cL_law 305 = .ok (.iadd, 1)) ∧ (decode cL_law 306 = .ok (.iaload, 1)) ∧ (decode cL_law 307 = .ok (.invokevirtual 32, 3)) ∧ (decode cL_law 310 = .ok (.pop, 1)) ∧ (decode cL_law 311 = .ok (.goto 1008, 3)) ∧ (decode cL_law 314 = .ok (.aload_n 1, 1)) ∧ (decode cL_law 315 = .ok (.aload_n 0, 1)) ∧ (decode cL_law 316 = .ok (.iload_n 3, 1)) ∧ (decode cL_law 317 = .ok (.iconst 1, 1)) := by decide +kernel
theorem dL_law_298 : decode cL_law 298 = .ok (.iload_n 3, 1) := dgL_law_128.1
theorem dL_law_299 : decode cL_law 299 = .ok (.iconst 2, 1) := dgL_law_128.2.1
theorem dL_law_300 : decode cL_law 300 = .ok (.iadd, 1) := dgL_law_128.2.2.1
theorem dL_law_301 : decode cL_law 301 = .ok (.iaload, 1) := dgL_law_128.2.2.2.1
theorem dL_law_302 : decode cL_law 302 = .ok (.aload_n 0, 1) := dgL_law_128.2.2.2.2.1
theorem dL_law_303 : decode cL_law 303 = .ok (.iload_n 3, 1) := dgL_law_128.2.2.2.2.2.1
theorem dL_law_304 : decode cL_law 304 = .ok (.iconst 3, 1) := dgL_law_128.2.2.2.2.2.2.1
theorem dL_law_305 : decode cL_law 305 = .ok (.iadd, 1) := dgL_law_128.2.2.2.2.2.2.2.1
theorem dL_law_306 : decode cL_law 306 = .ok (.iaload, 1) := dgL_law_128.2.2.2.2.2.2.2.2.1
theorem dL_law_307 : decode cL_law 307 = .ok (.invokevirtual 32, 3) := dgL_law_128.2.2.2.2.2.2.2.2.2.1
theorem dL_law_310 : decode cL_law 310 = .ok (.pop, 1) := dgL_law_128.2.2.2.2.2.2.2.2.2.2.1
theorem dL_law_311 : decode cL_law 311 = .ok (.goto 1008, 3) := dgL_law_128.2.2.2.2.2.2.2.2.2.2.2.1
theorem dL_law_314 : decode cL_law 314 = .ok (.aload_n 1, 1) := dgL_law_128.2.2.2.2.2.2.2.2.2.2.2.2.1
theorem dL_law_315 : decode cL_law 315 = .ok (.aload_n 0, 1) := dgL_law_128.2.2.2.2.2.2.2.2.2.2.2.2.2.1
theorem dL_law_316 : decode cL_law 316 = .ok (.iload_n 3, 1) := dgL_law_128.2.2.2.2.2.2.2.2.2.2.2.2.2.2.1
theorem dL_law_317 : decode cL_law 317 = .ok (.iconst 1, 1) := dgL_law_128.2.2.2.2.2.2.2.2.2.2.2.2.2.2.2
theorem dgL_law_144 : (decode cL_law 318 = .ok (.iadd, 1)) ∧ (decode cL_law 319 = .ok (.iaload, 1)) ∧ (decode cL_law 320 = .ok (.aload_n 0, 1)) ∧ (decode cL_law 321 = .ok (.iload_n 3, 1)) ∧ (decode cL_law 322 = .ok (.iconst 2, 1)) ∧ (decode cL_law 323 = .ok (.iadd, 1)) ∧ (decode cL_law 324 = .ok (.iaload, 1)) ∧ (decode cL_law 325 = .ok (.aload_n 0, 1)) ∧ (decode cL_law 326 = .ok (.iload_n 3, 1)) ∧ (decode cL_law 327 = .ok (.iconst 3, 1)) ∧ (decode cL_law 328 = .ok (.iadd, 1)) ∧ (decode cL_law 329 = .ok (.iaload, 1)) ∧ (decode cL_law 330 = .ok (.invokevirtual 33, 3)) ∧ (decode cL_law 333 = .ok (.pop, 1)) ∧ (decode cL_law 334 = .ok (.aload_n 2, 1)) ∧ (decode cL_law 335 = .ok (.aload_n 0, 1)) := by decide +kernel
theorem dL_law_318 : decode cL_law 318 = .ok (.iadd, 1) := dgL_law_144.1
theorem dL_law_319 : decode cL_law 319 = .ok (.iaload, 1) := dgL_law_144.2.1
theorem dL_law_320 : decode cL_law 320 = .ok (.aload_n 0, 1) := dgL_law_144.2.2.1
theorem dL_law_321 : decode cL_law 321 = .ok (.iload_n 3, 1) := dgL_law_144.2.2.2.1
theorem dL_law_322 : decode cL_law 322 = .ok (.iconst 2, 1) := dgL_law_144.2.2.2.2.1
theorem dL_law_323 : decode cL_law 323 = .ok (.iadd, 1) := dgL_law_144.2.2.2.2.2.1
theorem dL_law_324 : decode cL_law 324 = .ok (.iaload, 1) := dgL_law_144.2.2.2.2.2.2.1
theorem dL_law_325 : decode cL_law 325 = .ok (.aload_n 0, 1) := dgL_law_144.2.2.2.2.2.2.2.1
theorem dL_law_326 : decode cL_law 326 = .ok (.iload_n 3, 1) := dgL_law_144.2.2.2.2.2.2.2.2.1
theorem dL_law_327 : decode cL_law 327 = .ok (.iconst 3, 1) := dgL_law_144.2.2.2.2.2.2.2.2.2.1
theorem dL_law_328 : decode cL_law 328 = .ok (.iadd, 1) := dgL_law_144.2.2.2.2.2.2.2.2.2.2.1
theorem dL_law_329 : decode cL_law 329 = .ok (.iaload, 1) := dgL_law_144.2.2.2.2.2.2.2.2.2.2.2.1
theorem dL_law_330 : decode cL_law 330 = .ok (.invokevirtual 33, 3) := dgL_law_144.2.2.2.2.2.2.2.2.2.2.2.2.1
theorem dL_law_333 : decode cL_law 333 = .ok (.pop, 1) := dgL_law_144.2.2.2.2.2.2.2.2.2.2.2.2.2.1
theorem dL_law_334 : decode cL_law 334 = .ok (.aload_n 2, 1) := dgL_law_144.2.2.2.2.2.2.2.2.2.2.2.2.2.2.1
theorem dL_law_335 : decode cL_law 335 = .ok (.aload_n 0, 1) := dgL_law_144.2.2.2.2.2.2.2.2.2.2.2.2.2.2.2
theorem dgL_law_160 : (decode cL_law 336 = .ok (.iload_n 3, 1)) ∧ (decode cL_law 337 = .ok (.iconst 1, 1)) ∧ (decode cL_law 338 = .ok (.iadd, 1)) ∧ (decode cL_law 339 = .ok (.iaload, 1)) ∧ (decode cL_law 340 = .ok (.aload_n 0, 1)) ∧ (decode cL_law 341 = .ok (.iload_n 3, 1)) ∧ (decode cL_law 342 = .ok (.iconst 2, 1)) ∧ (decode cL_law 343 = .ok (.iadd, 1)) ∧ (decode cL_law 344 = .ok (.iaload, 1)) ∧ (decode cL_law 345 = .ok (.aload_n 0, 1)) ∧ (decode cL_law 346 = .ok (.iload_n 3, 1)) ∧ (decode cL_law 347 = .ok (.iconst 3, 1)) ∧ (decode cL_law 348 = .ok (.iadd, 1)) ∧ (decode cL_law 349 = .ok (.iaload, 1)) ∧ (decode cL_law 350 = .ok (.invokevirtual 36, 3)) ∧ (decode cL_law 353 = .ok (.pop, 1)) := by decide +kernel
theorem dL_law_336 : decode cL_law 336 = .ok (.iload_n 3, 1) := dgL_law_160.1
theorem dL_law_337 : decode cL_law 337 = .ok (.iconst 1, 1) := dgL_law_160.2.1
theorem dL_law_338 : decode cL_law 338 = .ok (.iadd, 1) := dgL_law_160.2.2.1
theorem dL_law_339 : decode cL_law 339 = .ok (.iaload, 1) := dgL_law_160.2.2.2.1
theorem dL_law_340 : decode cL_law 340 = .ok (.aload_n 0, 1) := dgL_law_160.2.2.2.2.1
theorem dL_law_341 : decode cL_law 341 = .ok (.iload_n 3, 1) := dgL_law_160.2.2.2.2.2.1
theorem dL_law_342 : decode cL_law 342 = .ok (.iconst 2, 1) := dgL_law_160.2.2.2.2.2.2.1
theorem dL_law_343 : decode cL_law 343 = .ok (.iadd, 1) := dgL_law_160.2.2.2.2.2.2.2.1
theorem dL_law_344 : decode cL_law 344 = .ok (.iaload, 1) := dgL_law_160.2.2.2.2.2.2.2.2.1
theorem dL_law_345 : decode cL_law 345 = .ok (.aload_n 0, 1) := dgL_law_160.2.2.2.2.2.2.2.2.2.1
theorem dL_law_346 : decode cL_law 346 = .ok (.iload_n 3, 1) := dgL_law_160.2.2.2.2.2.2.2.2.2.2.1
theorem dL_law_347 : decode cL_law 347 = .ok (.iconst 3, 1) := dgL_law_160.2.2.2.2.2.2.2.2.2.2.2.1
theorem dL_law_348 : decode cL_law 348 = .ok (.iadd, 1) := dgL_law_160.2.2.2.2.2.2.2.2.2.2.2.2.1
theorem dL_law_349 : decode cL_law 349 = .ok (.iaload, 1) := dgL_law_160.2.2.2.2.2.2.2.2.2.2.2.2.2.1
theorem dL_law_350 : decode cL_law 350 = .ok (.invokevirtual 36, 3) := dgL_law_160.2.2.2.2.2.2.2.2.2.2.2.2.2.2.1
theorem dL_law_353 : decode cL_law 353 = .ok (.pop, 1) := dgL_law_160.2.2.2.2.2.2.2.2.2.2.2.2.2.2.2
theorem dgL_law_176 : (decode cL_law 354 = .ok (.goto 965, 3)) ∧ (decode cL_law 357 = .ok (.aload_n 1, 1)) ∧ (decode cL_law 358 = .ok (.aload_n 0, 1)) ∧ (decode cL_law 359 = .ok (.iload_n 3, 1)) ∧ (decode cL_law 360 = .ok (.iconst 1, 1)) ∧ (decode cL_law 361 = .ok (.iadd, 1)) ∧ (decode cL_law 362 = .ok (.iaload, 1)) ∧ (decode cL_law 363 = .ok (.aload_n 0, 1)) ∧ (decode cL_law 364 = .ok (.iload_n 3, 1)) ∧ (decode cL_law 365 = .ok (.iconst 2, 1)) ∧ (decode cL_law 366 = .ok (.iadd, 1)) ∧ (decode cL_law 367 = .ok (.iaload, 1)) ∧ (decode cL_law 368 = .ok (.aload_n 0, 1)) ∧ (decode cL_law 369 = .ok (.iload_n 3, 1)) ∧ (decode cL_law 370 = .ok (.iconst 3, 1)) ∧ (decode cL_law 371 = .ok (.iadd, 1)) := by decide +kernel
theorem dL_law_354 : decode cL_law 354 = .ok (.goto 965, 3) := dgL_law_176.1
theorem dL_law_357 : decode cL_law 357 = .ok (.aload_n 1, 1) := dgL_law_176.2.1
theorem dL_law_358 : decode cL_law 358 = .ok (.aload_n 0, 1) := dgL_law_176.2.2.1
theorem dL_law_359 : decode cL_law 359 = .ok (.iload_n 3, 1) := dgL_law_176.2.2.2.1
theorem dL_law_360 : decode cL_law 360 = .ok (.iconst 1, 1) := dgL_law_176.2.2.2.2.1
theorem dL_law_361 : decode cL_law 361 = .ok (.iadd, 1) := dgL_law_176.2.2.2.2.2.1
theorem dL_law_362 : decode cL_law 362 = .ok (.iaload, 1) := dgL_law_176.2.2.2.2.2.2.1
theorem dL_law_363 : decode cL_law 363 = .ok (.aload_n 0, 1) := dgL_law_176.2.2.2.2.2.2.2.1
theorem dL_law_364 : decode cL_law 364 = .ok (.iload_n 3, 1) := dgL_law_176.2.2.2.2.2.2.2.2.1
theorem dL_law_365 : decode cL_law 365 = .ok (.iconst 2, 1) := dgL_law_176.2.2.2.2.2.2.2.2.2.1
theorem dL_law_366 : decode cL_law 366 = .ok (.iadd, 1) := dgL_law_176.2.2.2.2.2.2.2.2.2.2.1
theorem dL_law_367 : decode cL_law 367 = .ok (.iaload, 1) := dgL_law_176.2.2.2.2.2.2.2.2.2.2.2.1
theorem dL_law_368 : decode cL_law 368 = .ok (.aload_n 0, 1) := dgL_law_176.2.2.2.2.2.2.2.2.2.2.2.2.1
theorem dL_law_369 : decode cL_law 369 = .ok (.iload_n 3, 1) := dgL_law_176.2.2.2.2.2.2.2.2.2.2.2.2.2.1
theorem dL_law_370 : decode cL_law 370 = .ok (.iconst 3, 1) := dgL_law_176.2.2.2.2.2.2.2.2.2.2.2.2.2.2.1
theorem dL_law_371 : decode cL_law 371 = .ok (.iadd, 1) := dgL_law_176.2.2.2.2.2.2.2.2.2.2.2.2.2.2.2
theorem dgL_law_192 : (decode cL_law 372 = .ok (.iaload, 1)) ∧ (decode cL_law 373 = .ok (.ifCond .eq 7, 3)) ∧ (decode cL_law 376 = .ok (.iconst 1, 1)) ∧ (decode cL_law 377 = .ok (.goto 4, 3)) ∧ (decode cL_law 380 = .ok (.iconst 0, 1)) ∧ (decode cL_law 381 = .ok (.invokevirtual 37, 3)) ∧ (decode cL_law 384 = .ok (.pop, 1)) ∧ (decode cL_law 385 = .ok (.aload_n 2, 1)) ∧ (decode cL_law 386 = .ok (.aload_n 0, 1)) ∧ (decode cL_law 387 = .ok (.iload_n 3, 1)) ∧ (decode cL_law 388 = .ok (.iconst 1, 1)) ∧ (decode cL_law 389 = .ok (.iadd, 1)) ∧ (decode cL_law 390 = .ok (.iaload, 1)) ∧ (decode cL_law 391 = .ok (.aload_n 0, 1)) ∧ (decode cL_law 392 = .ok (.iload_n 3, 1)) ∧ (decode cL_law 393 = .ok (.iconst 2, 1)) := by decide +kernel
theorem dL_law_372 : decode cL_law 372 = .ok (.iaload, 1) := dgL_law_192.1
theorem dL_law_373 : decode cL_law 373 = .ok (.ifCond .eq 7, 3) := dgL_law_192.2.1
theorem dL_law_376 : decode cL_law 376 = .ok (.iconst 1, 1) := dgL_law_192.2.2.1
theorem dL_law_377 : decode cL_law 377 = .ok (.goto 4, 3) := dgL_law_192.2.2.2.1
theorem dL_law_380 : decode cL_law 380 = .ok (.iconst 0, 1) := dgL_law_192.2.2.2.2.1
theorem dL_law_381 : decode cL_law 381 = .ok (.invokevirtual 37, 3) := dgL_law_192.2.2.2.2.2.1
theorem dL_law_384 : decode cL_law 384 = .ok (.pop, 1) := dgL_law_192.2.2.2.2.2.2.1
theorem dL_law_385 : decode cL_law 385 = .ok (.aload_n 2, 1) := dgL_law_192.2.2.2.2.2.2.2.1
theorem dL_law_386 : decode cL_law 386 = .ok (.aload_n 0, 1) := dgL_law_192.2.2.2.2.2.2.2.2.1
theorem dL_law_387 : decode cL_law 387 = .ok (.iload_n 3, 1) := dgL_law_192.2.2.2.2.2.2.2.2.2.1
theorem dL_law_388 : decode cL_law 388 = .ok (.iconst 1, 1) := dgL_law_192.2.2.2.2.2.2.2.2.2.2.1
theorem dL_law_389 : decode cL_law 389 = .ok (.iadd, 1) := dgL_law_192.2.2.2.2.2.2.2.2.2.2.2.1
theorem dL_law_390 : decode cL_law 390 = .ok (.iaload, 1) := dgL_law_192.2.2.2.2.2.2.2.2.2.2.2.2.1
theorem dL_law_391 : decode cL_law 391 = .ok (.aload_n 0, 1) := dgL_law_192.2.2.2.2.2.2.2.2.2.2.2.2.2.1
theorem dL_law_392 : decode cL_law 392 = .ok (.iload_n 3, 1) := dgL_law_192.2.2.2.2.2.2.2.2.2.2.2.2.2.2.1
theorem dL_law_393 : decode cL_law 393 = .ok (.iconst 2, 1) := dgL_law_192.2.2.2.2.2.2.2.2.2.2.2.2.2.2.2
theorem dgL_law_208 : (decode cL_law 394 = .ok (.iadd, 1)) ∧ (decode cL_law 395 = .ok (.iaload, 1)) ∧ (decode cL_law 396 = .ok (.aload_n 0, 1)) ∧ (decode cL_law 397 = .ok (.iload_n 3, 1)) ∧ (decode cL_law 398 = .ok (.iconst 3, 1)) ∧ (decode cL_law 399 = .ok (.iadd, 1)) ∧ (decode cL_law 400 = .ok (.iaload, 1)) ∧ (decode cL_law 401 = .ok (.ifCond .eq 7, 3)) ∧ (decode cL_law 404 = .ok (.iconst 1, 1)) ∧ (decode cL_law 405 = .ok (.goto 4, 3)) ∧ (decode cL_law 408 = .ok (.iconst 0, 1)) ∧ (decode cL_law 409 = .ok (.invokevirtual 41, 3)) ∧ (decode cL_law 412 = .ok (.pop, 1)) ∧ (decode cL_law 413 = .ok (.goto 906, 3)) ∧ (decode cL_law 416 = .ok (.aload_n 1, 1)) ∧ (decode cL_law 417 = .ok (.aload_n 0, 1)) := by decide +kernel
theorem dL_law_394 : decode cL_law 394 = .ok (.iadd, 1) := dgL_law_208.1
theorem dL_law_395 : decode cL_law 395 = .ok (.iaload, 1) := dgL_law_208.2.1
theorem dL_law_396 : decode cL_law 396 = .ok (.aload_n 0, 1) := dgL_law_208.2.2.1
theorem dL_law_397 : decode cL_law 397 = .ok (.iload_n 3, 1) := dgL_law_208.2.2.2.1
theorem dL_law_398 : decode cL_law 398 = .ok (.iconst 3, 1) := dgL_law_208.2.2.2.2.1
theorem dL_law_399 : decode cL_law 399 = .ok (.iadd, 1) := dgL_law_208.2.2.2.2.2.1
theorem dL_law_400 : decode cL_law 400 = .ok (.iaload, 1) := dgL_law_208.2.2.2.2.2.2.1
theorem dL_law_401 : decode cL_law 401 = .ok (.ifCond .eq 7, 3) := dgL_law_208.2.2.2.2.2.2.2.1
theorem dL_law_404 : decode cL_law 404 = .ok (.iconst 1, 1) := dgL_law_208.2.2.2.2.2.2.2.2.1
theorem dL_law_405 : decode cL_law 405 = .ok (.goto 4, 3) := dgL_law_208.2.2.2.2.2.2.2.2.2.1
theorem dL_law_408 : decode cL_law 408 = .ok (.iconst 0, 1) := dgL_law_208.2.2.2.2.2.2.2.2.2.2.1
theorem dL_law_409 : decode cL_law 409 = .ok (.invokevirtual 41, 3) := dgL_law_208.2.2.2.2.2.2.2.2.2.2.2.1
theorem dL_law_412 : decode cL_law 412 = .ok (.pop, 1) := dgL_law_208.2.2.2.2.2.2.2.2.2.2.2.2.1
theorem dL_law_413 : decode cL_law 413 = .ok (.goto 906, 3) := dgL_law_208.2.2.2.2.2.2.2.2.2.2.2.2.2.1
theorem dL_law_416 : decode cL_law 416 = .ok (.aload_n 1, 1) := dgL_law_208.2.2.2.2.2.2.2.2.2.2.2.2.2.2.1
theorem dL_law_417 : decode cL_law 417 = .ok (.aload_n 0, 1) := dgL_law_208.2.2.2.2.2.2.2.2.2.2.2.2.2.2.2
theorem dgL_law_224 : (decode cL_law 418 = .ok (.iload_n 3, 1)) ∧ (decode cL_law 419 = .ok (.iconst 1, 1)) ∧ (decode cL_law 420 = .ok (.iadd, 1)) ∧ (decode cL_law 421 = .ok (.iaload, 1)) ∧ (decode cL_law 422 = .ok (.aload_n 0, 1)) ∧ (decode cL_law 423 = .ok (.iload_n 3, 1)) ∧ (decode cL_law 424 = .ok (.iconst 2, 1)) ∧ (decode cL_law 425 = .ok (.iadd, 1)) ∧ (decode cL_law 426 = .ok (.iaload, 1)) ∧ (decode cL_law 427 = .ok (.invokevirtual 42, 3)) ∧ (decode cL_law 430 = .ok (.pop, 1)) ∧ (decode cL_law 431 = .ok (.aload_n 2, 1)) ∧ (decode cL_law 432 = .ok (.aload_n 0, 1)) ∧ (decode cL_law 433 = .ok (.iload_n 3, 1)) ∧ (decode cL_law 434 = .ok (.iconst 1, 1)) ∧ (decode cL_law 435 = .ok (.iadd, 1)) := by decide +kernel
theorem dL_law_418 : decode cL_law 418 = .ok (.iload_n 3, 1) := dgL_law_224.1
theorem dL_law_419 : decode cL_law 419 = .ok (.iconst 1, 1) := dgL_law_224.2.1
theorem dL_law_420 : decode cL_law 420 = .ok (.iadd, 1) := dgL_law_224.2.2.1
theorem dL_law_421 : decode cL_law 421 = .ok (.iaload, 1) := dgL_law_224.2.2.2.1
theorem dL_law_422 : decode cL_law 422 = .ok (.aload_n 0, 1) := dgL_law_224.2.2.2.2.1
theorem dL_law_423 : decode cL_law 423 = .ok (.iload_n 3, 1) := dgL_law_224.2.2.2.2.2.1
theorem dL_law_424 : decode cL_law 424 = .ok (.iconst 2, 1) := dgL_law_224.2.2.2.2.2.2.1
theorem dL_law_425 : decode cL_law 425 = .ok (.iadd, 1) := dgL_law_224.2.2.2.2.2.2.2.1
theorem dL_law_426 : decode cL_law 426 = .ok (.iaload, 1) := dgL_law_224.2.2.2.2.2.2.2.2.1
theorem dL_law_427 : decode cL_law 427 = .ok (.invokevirtual 42, 3) := dgL_law_224.2.2.2.2.2.2.2.2.2.1
theorem dL_law_430 : decode cL_law 430 = .ok (.pop, 1) := dgL_law_224.2.2.2.2.2.2.2.2.2.2.1
theorem dL_law_431 : decode cL_law 431 = .ok (.aload_n 2, 1) := dgL_law_224.2.2.2.2.2.2.2.2.2.2.2.1
theorem dL_law_432 : decode cL_law 432 = .ok (.aload_n 0, 1) := dgL_law_224.2.2.2.2.2.2.2.2.2.2.2.2.1
theorem dL_law_433 : decode cL_law 433 = .ok (.iload_n 3, 1) := dgL_law_224.2.2.2.2.2.2.2.2.2.2.2.2.2.1
theorem dL_law_434 : decode cL_law 434 = .ok (.iconst 1, 1) := dgL_law_224.2.2.2.2.2.2.2.2.2.2.2.2.2.2.1
theorem dL_law_435 : decode cL_law 435 = .ok (.iadd, 1) := dgL_law_224.2.2.2.2.2.2.2.2.2.2.2.2.2.2.2
theorem dgL_law_240 : (decode cL_law 436 = .ok (.iaload, 1)) ∧ (decode cL_law 437 = .ok (.aload_n 0, 1)) ∧ (decode cL_law 438 = .ok (.iload_n 3, 1)) ∧ (decode cL_law 439 = .ok (.iconst 2, 1)) ∧ (decode cL_law 440 = .ok (.iadd, 1)) ∧ (decode cL_law 441 = .ok (.iaload, 1)) ∧ (decode cL_law 442 = .ok (.invokevirtual 45, 3)) ∧ (decode cL_law 445 = .ok (.pop, 1)) ∧ (decode cL_law 446 = .ok (.goto 873, 3)) ∧ (decode cL_law 449 = .ok (.aload_n 1, 1)) ∧ (decode cL_law 450 = .ok (.aload_n 0, 1)) ∧ (decode cL_law 451 = .ok (.iload_n 3, 1)) ∧ (decode cL_law 452 = .ok (.iconst 1, 1)) ∧ (decode cL_law 453 = .ok (.iadd, 1)) ∧ (decode cL_law 454 = .ok (.iaload, 1)) ∧ (decode cL_law 455 = .ok (.aload_n 0, 1)) := by decide +kernel
theorem dL_law_436 : decode cL_law 436 = .ok (.iaload, 1) := dgL_law_240.1
theorem dL_law_437 : decode cL_law 437 = .ok (.aload_n 0, 1) := dgL_law_240.2.1
theorem dL_law_438 : decode cL_law 438 = .ok (.iload_n 3, 1) := dgL_law_240.2.2.1
theorem dL_law_439 : decode cL_law 439 = .ok (.iconst 2, 1) := dgL_law_240.2.2.2.1
theorem dL_law_440 : decode cL_law 440 = .ok (.iadd, 1) := dgL_law_240.2.2.2.2.1
theorem dL_law_441 : decode cL_law 441 = .ok (.iaload, 1) := dgL_law_240.2.2.2.2.2.1
theorem dL_law_442 : decode cL_law 442 = .ok (.invokevirtual 45, 3) := dgL_law_240.2.2.2.2.2.2.1
theorem dL_law_445 : decode cL_law 445 = .ok (.pop, 1) := dgL_law_240.2.2.2.2.2.2.2.1
theorem dL_law_446 : decode cL_law 446 = .ok (.goto 873, 3) := dgL_law_240.2.2.2.2.2.2.2.2.1
theorem dL_law_449 : decode cL_law 449 = .ok (.aload_n 1, 1) := dgL_law_240.2.2.2.2.2.2.2.2.2.1
theorem dL_law_450 : decode cL_law 450 = .ok (.aload_n 0, 1) := dgL_law_240.2.2.2.2.2.2.2.2.2.2.1
theorem dL_law_451 : decode cL_law 451 = .ok (.iload_n 3, 1) := dgL_law_240.2.2.2.2.2.2.2.2.2.2.2.1
theorem dL_law_452 : decode cL_law 452 = .ok (.iconst 1, 1) := dgL_law_240.2.2.2.2.2.2.2.2.2.2.2.2.1
theorem dL_law_453 : decode cL_law 453 = .ok (.iadd, 1) := dgL_law_240.2.2.2.2.2.2.2.2.2.2.2.2.2.1
theorem dL_law_454 : decode cL_law 454 = .ok (.iaload, 1) := dgL_law_240.2.2.2.2.2.2.2.2.2.2.2.2.2.2.1
theorem dL_law_455 : decode cL_law 455 = .ok (.aload_n 0, 1) := dgL_law_240.2.2.2.2.2.2.2.2.2.2.2.2.2.2.2
theorem dgL_law_256 : (decode cL_law 456 = .ok (.iload_n 3, 1)) ∧ (decode cL_law 457 = .ok (.iconst 2, 1)) ∧ (decode cL_law 458 = .ok (.iadd, 1)) ∧ (decode cL_law 459 = .ok (.iaload, 1)) ∧ (decode cL_law 460 = .ok (.invokevirtual 46, 3)) ∧ (decode cL_law 463 = .ok (.pop, 1)) ∧ (decode cL_law 464 = .ok (.aload_n 2, 1)) ∧ (decode cL_law 465 = .ok (.aload_n 0, 1)) ∧ (decode cL_law 466 = .ok (.iload_n 3, 1)) ∧ (decode cL_law 467 = .ok (.iconst 1, 1)) ∧ (decode cL_law 468 = .ok (.iadd, 1)) ∧ (decode cL_law 469 = .ok (.iaload, 1)) ∧ (decode cL_law 470 = .ok (.aload_n 0, 1)) ∧ (decode cL_law 471 = .ok (.iload_n 3, 1)) ∧ (decode cL_law 472 = .ok (.iconst 2, 1)) ∧ (decode cL_law 473 = .ok (.iadd, 1)) := by decide +kernel
theorem dL_law_456 : decode cL_law 456 = .ok (.iload_n 3, 1) := dgL_law_256.1
theorem dL_law_457 : decode cL_law 457 = .ok (.iconst 2, 1) := dgL_law_256.2.1
theorem dL_law_458 : decode cL_law 458 = .ok (.iadd, 1) := dgL_law_256.2.2.1
theorem dL_law_459 : decode cL_law 459 = .ok (.iaload, 1) := dgL_law_256.2.2.2.1
theorem dL_law_460 : decode cL_law 460 = .ok (.invokevirtual 46, 3) := dgL_law_256.2.2.2.2.1
theorem dL_law_463 : decode cL_law 463 = .ok (.pop, 1) := dgL_law_256.2.2.2.2.2.1
theorem dL_law_464 : decode cL_law 464 = .ok (.aload_n 2, 1) := dgL_law_256.2.2.2.2.2.2.1
theorem dL_law_465 : decode cL_law 465 = .ok (.aload_n 0, 1) := dgL_law_256.2.2.2.2.2.2.2.1
theorem dL_law_466 : decode cL_law 466 = .ok (.iload_n 3, 1) := dgL_law_256.2.2.2.2.2.2.2.2.1
theorem dL_law_467 : decode cL_law 467 = .ok (.iconst 1, 1) := dgL_law_256.2.2.2.2.2.2.2.2.2.1
theorem dL_law_468 : decode cL_law 468 = .ok (.iadd, 1) := dgL_law_256.2.2.2.2.2.2.2.2.2.2.1
theorem dL_law_469 : decode cL_law 469 = .ok (.iaload, 1) := dgL_law_256.2.2.2.2.2.2.2.2.2.2.2.1
theorem dL_law_470 : decode cL_law 470 = .ok (.aload_n 0, 1) := dgL_law_256.2.2.2.2.2.2.2.2.2.2.2.2.1
theorem dL_law_471 : decode cL_law 471 = .ok (.iload_n 3, 1) := dgL_law_256.2.2.2.2.2.2.2.2.2.2.2.2.2.1
theorem dL_law_472 : decode cL_law 472 = .ok (.iconst 2, 1) := dgL_law_256.2.2.2.2.2.2.2.2.2.2.2.2.2.2.1
theorem dL_law_473 : decode cL_law 473 = .ok (.iadd, 1) := dgL_law_256.2.2.2.2.2.2.2.2.2.2.2.2.2.2.2
theorem dgL_law_272 : (decode cL_law 474 = .ok (.iaload, 1)) ∧ (decode cL_law 475 = .ok (.invokevirtual 50, 3)) ∧ (decode cL_law 478 = .ok (.pop, 1)) ∧ (decode cL_law 479 = .ok (.goto 840, 3)) ∧ (decode cL_law 482 = .ok (.aload_n 1, 1)) ∧ (decode cL_law 483 = .ok (.aload_n 0, 1)) ∧ (decode cL_law 484 = .ok (.iload_n 3, 1)) ∧ (decode cL_law 485 = .ok (.iconst 1, 1)) ∧ (decode cL_law 486 = .ok (.iadd, 1)) ∧ (decode cL_law 487 = .ok (.iaload, 1)) ∧ (decode cL_law 488 = .ok (.aload_n 0, 1)) ∧ (decode cL_law 489 = .ok (.iload_n 3, 1)) ∧ (decode cL_law 490 = .ok (.iconst 2, 1)) ∧ (decode cL_law 491 = .ok (.iadd, 1)) ∧ (decode cL_law 492 = .ok (.iaload, 1)) ∧ (decode cL_law 493 = .ok (.aload_n 0, 1)) := by decide +kernel
theorem dL_law_474 : decode cL_law 474 = .ok (.iaload, 1) := dgL_law_272.1
theorem dL_law_475 : decode cL_law 475 = .ok (.invokevirtual 50, 3) := dgL_law_272.2.1
theorem dL_law_478 : decode cL_law 478 = .ok (.pop, 1) := dgL_law_272.2.2.1
theorem dL_law_479 : decode cL_law 479 = .ok (.goto 840, 3) := dgL_law_272.2.2.2.1
theorem dL_law_482 : decode cL_law 482 = .ok (.aload_n 1, 1) := dgL_law_272.2.2.2.2.1
theorem dL_law_483 : decode cL_law 483 = .ok (.aload_n 0, 1) := dgL_law_272.2.2.2.2.2.1
theorem dL_law_484 : decode cL_law 484 = .ok (.iload_n 3, 1) := dgL_law_272.2.2.2.2.2.2.1
theorem dL_law_485 : decode cL_law 485 = .ok (.iconst 1, 1) := dgL_law_272.2.2.2.2.2.2.2.1
theorem dL_law_486 : decode cL_law 486 = .ok (.iadd, 1) := dgL_law_272.2.2.2.2.2.2.2.2.1
theorem dL_law_487 : decode cL_law 487 = .ok (.iaload, 1) := dgL_law_272.2.2.2.2.2.2.2.2.2.1
theorem dL_law_488 : decode cL_law 488 = .ok (.aload_n 0, 1) := dgL_law_272.2.2.2.2.2.2.2.2.2.2.1
theorem dL_law_489 : decode cL_law 489 = .ok (.iload_n 3, 1) := dgL_law_272.2.2.2.2.2.2.2.2.2.2.2.1
theorem dL_law_490 : decode cL_law 490 = .ok (.iconst 2, 1) := dgL_law_272.2.2.2.2.2.2.2.2.2.2.2.2.1
theorem dL_law_491 : decode cL_law 491 = .ok (.iadd, 1) := dgL_law_272.2.2.2.2.2.2.2.2.2.2.2.2.2.1
theorem dL_law_492 : decode cL_law 492 = .ok (.iaload, 1) := dgL_law_272.2.2.2.2.2.2.2.2.2.2.2.2.2.2.1
theorem dL_law_493 : decode cL_law 493 = .ok (.aload_n 0, 1) := dgL_law_272.2.2.2.2.2.2.2.2.2.2.2.2.2.2.2
theorem dgL_law_288 : (decode cL_law 494 = .ok (.iload_n 3, 1)) ∧ (decode cL_law 495 = .ok (.iconst 3, 1)) ∧ (decode cL_law 496 = .ok (.iadd, 1)) ∧ (decode cL_law 497 = .ok (.iaload, 1)) ∧ (decode cL_law 498 = .ok (.invokevirtual 51, 3)) ∧ (decode cL_law 501 = .ok (.pop, 1)) ∧ (decode cL_law 502 = .ok (.aload_n 2, 1)) ∧ (decode cL_law 503 = .ok (.aload_n 0, 1)) ∧ (decode cL_law 504 = .ok (.iload_n 3, 1)) ∧ (decode cL_law 505 = .ok (.iconst 1, 1)) ∧ (decode cL_law 506 = .ok (.iadd, 1)) ∧ (decode cL_law 507 = .ok (.iaload, 1)) ∧ (decode cL_law 508 = .ok (.aload_n 0, 1)) ∧ (decode cL_law 509 = .ok (.iload_n 3, 1)) ∧ (decode cL_law 510 = .ok (.iconst 2, 1)) ∧ (decode cL_law 511 = .ok (.iadd, 1)) := by decide +kernel
theorem dL_law_494 : decode cL_law 494 = .ok (.iload_n 3, 1) := dgL_law_288.1
theorem dL_law_495 : decode cL_law 495 = .ok (.iconst 3, 1) := dgL_law_288.2.1
theorem dL_law_496 : decode cL_law 496 = .ok (.iadd, 1) := dgL_law_288.2.2.1
theorem dL_law_497 : decode cL_law 497 = .ok (.iaload, 1) := dgL_law_288.2.2.2.1
theorem dL_law_498 : decode cL_law 498 = .ok (.invokevirtual 51, 3) := dgL_law_288.2.2.2.2.1
theorem dL_law_501 : decode cL_law 501 = .ok (.pop, 1) := dgL_law_288.2.2.2.2.2.1
theorem dL_law_502 : decode cL_law 502 = .ok (.aload_n 2, 1) := dgL_law_288.2.2.2.2.2.2.1
theorem dL_law_503 : decode cL_law 503 = .ok (.aload_n 0, 1) := dgL_law_288.2.2.2.2.2.2.2.1
theorem dL_law_504 : decode cL_law 504 = .ok (.iload_n 3, 1) := dgL_law_288.2.2.2.2.2.2.2.2.1
theorem dL_law_505 : decode cL_law 505 = .ok (.iconst 1, 1) := dgL_law_288.2.2.2.2.2.2.2.2.2.1
theorem dL_law_506 : decode cL_law 506 = .ok (.iadd, 1) := dgL_law_288.2.2.2.2.2.2.2.2.2.2.1
theorem dL_law_507 : decode cL_law 507 = .ok (.iaload, 1) := dgL_law_288.2.2.2.2.2.2.2.2.2.2.2.1
theorem dL_law_508 : decode cL_law 508 = .ok (.aload_n 0, 1) := dgL_law_288.2.2.2.2.2.2.2.2.2.2.2.2.1
theorem dL_law_509 : decode cL_law 509 = .ok (.iload_n 3, 1) := dgL_law_288.2.2.2.2.2.2.2.2.2.2.2.2.2.1
theorem dL_law_510 : decode cL_law 510 = .ok (.iconst 2, 1) := dgL_law_288.2.2.2.2.2.2.2.2.2.2.2.2.2.2.1
theorem dL_law_511 : decode cL_law 511 = .ok (.iadd, 1) := dgL_law_288.2.2.2.2.2.2.2.2.2.2.2.2.2.2.2
theorem dgL_law_304 : (decode cL_law 512 = .ok (.iaload, 1)) ∧ (decode cL_law 513 = .ok (.aload_n 0, 1)) ∧ (decode cL_law 514 = .ok (.iload_n 3, 1)) ∧ (decode cL_law 515 = .ok (.iconst 3, 1)) ∧ (decode cL_law 516 = .ok (.iadd, 1)) ∧ (decode cL_law 517 = .ok (.iaload, 1)) ∧ (decode cL_law 518 = .ok (.invokevirtual 54, 3)) ∧ (decode cL_law 521 = .ok (.pop, 1)) ∧ (decode cL_law 522 = .ok (.goto 797, 3)) ∧ (decode cL_law 525 = .ok (.aload_n 1, 1)) ∧ (decode cL_law 526 = .ok (.aload_n 0, 1)) ∧ (decode cL_law 527 = .ok (.iload_n 3, 1)) ∧ (decode cL_law 528 = .ok (.iconst 1, 1)) ∧ (decode cL_law 529 = .ok (.iadd, 1)) ∧ (decode cL_law 530 = .ok (.iaload, 1)) ∧ (decode cL_law 531 = .ok (.aload_n 0, 1)) := by decide +kernel
theorem dL_law_512 : decode cL_law 512 = .ok (.iaload, 1) := dgL_law_304.1
theorem dL_law_513 : decode cL_law 513 = .ok (.aload_n 0, 1) := dgL_law_304.2.1
theorem dL_law_514 : decode cL_law 514 = .ok (.iload_n 3, 1) := dgL_law_304.2.2.1
theorem dL_law_515 : decode cL_law 515 = .ok (.iconst 3, 1) := dgL_law_304.2.2.2.1
theorem dL_law_516 : decode cL_law 516 = .ok (.iadd, 1) := dgL_law_304.2.2.2.2.1
theorem dL_law_517 : decode cL_law 517 = .ok (.iaload, 1) := dgL_law_304.2.2.2.2.2.1
theorem dL_law_518 : decode cL_law 518 = .ok (.invokevirtual 54, 3) := dgL_law_304.2.2.2.2.2.2.1
theorem dL_law_521 : decode cL_law 521 = .ok (.pop, 1) := dgL_law_304.2.2.2.2.2.2.2.1
theorem dL_law_522 : decode cL_law 522 = .ok (.goto 797, 3) := dgL_law_304.2.2.2.2.2.2.2.2.1
theorem dL_law_525 : decode cL_law 525 = .ok (.aload_n 1, 1) := dgL_law_304.2.2.2.2.2.2.2.2.2.1
theorem dL_law_526 : decode cL_law 526 = .ok (.aload_n 0, 1) := dgL_law_304.2.2.2.2.2.2.2.2.2.2.1
theorem dL_law_527 : decode cL_law 527 = .ok (.iload_n 3, 1) := dgL_law_304.2.2.2.2.2.2.2.2.2.2.2.1
theorem dL_law_528 : decode cL_law 528 = .ok (.iconst 1, 1) := dgL_law_304.2.2.2.2.2.2.2.2.2.2.2.2.1
theorem dL_law_529 : decode cL_law 529 = .ok (.iadd, 1) := dgL_law_304.2.2.2.2.2.2.2.2.2.2.2.2.2.1
theorem dL_law_530 : decode cL_law 530 = .ok (.iaload, 1) := dgL_law_304.2.2.2.2.2.2.2.2.2.2.2.2.2.2.1
theorem dL_law_531 : decode cL_law 531 = .ok (.aload_n 0, 1) := dgL_law_304.2.2.2.2.2.2.2.2.2.2.2.2.2.2.2
theorem dgL_law_320 : (decode cL_law 532 = .ok (.iload_n 3, 1)) ∧ (decode cL_law 533 = .ok (.iconst 2, 1)) ∧ (decode cL_law 534 = .ok (.iadd, 1)) ∧ (decode cL_law 535 = .ok (.iaload, 1)) ∧ (decode cL_law 536 = .ok (.invokevirtual 55, 3)) ∧ (decode cL_law 539 = .ok (.pop, 1)) ∧ (decode cL_law 540 = .ok (.aload_n 2, 1)) ∧ (decode cL_law 541 = .ok (.aload_n 0, 1)) ∧ (decode cL_law 542 = .ok (.iload_n 3, 1)) ∧ (decode cL_law 543 = .ok (.iconst 1, 1)) ∧ (decode cL_law 544 = .ok (.iadd, 1)) ∧ (decode cL_law 545 = .ok (.iaload, 1)) ∧ (decode cL_law 546 = .ok (.aload_n 0, 1)) ∧ (decode cL_law 547 = .ok (.iload_n 3, 1)) ∧ (decode cL_law 548 = .ok (.iconst 2, 1)) ∧ (decode cL_law 549 = .ok (.iadd, 1)) := by decide +kernel
theorem dL_law_532 : decode cL_law 532 = .ok (.iload_n 3, 1) := dgL_law_320.1
theorem dL_law_533 : decode cL_law 533 = .ok (.iconst 2, 1) := dgL_law_320.2.1
theorem dL_law_534 : decode cL_law 534 = .ok (.iadd, 1) := dgL_law_320.2.2.1
theorem dL_law_535 : decode cL_law 535 = .ok (.iaload, 1) := dgL_law_320.2.2.2.1
theorem dL_law_536 : decode cL_law 536 = .ok (.invokevirtual 55, 3) := dgL_law_320.2.2.2.2.1
theorem dL_law_539 : decode cL_law 539 = .ok (.pop, 1) := dgL_law_320.2.2.2.2.2.1
theorem dL_law_540 : decode cL_law 540 = .ok (.aload_n 2, 1) := dgL_law_320.2.2.2.2.2.2.1
theorem dL_law_541 : decode cL_law 541 = .ok (.aload_n 0, 1) := dgL_law_320.2.2.2.2.2.2.2.1
theorem dL_law_542 : decode cL_law 542 = .ok (.iload_n 3, 1) := dgL_law_320.2.2.2.2.2.2.2.2.1
theorem dL_law_543 : decode cL_law 543 = .ok (.iconst 1, 1) := dgL_law_320.2.2.2.2.2.2.2.2.2.1
theorem dL_law_544 : decode cL_law 544 = .ok (.iadd, 1) := dgL_law_320.2.2.2.2.2.2.2.2.2.2.1
theorem dL_law_545 : decode cL_law 545 = .ok (.iaload, 1) := dgL_law_320.2.2.2.2.2.2.2.2.2.2.2.1
theorem dL_law_546 : decode cL_law 546 = .ok (.aload_n 0, 1) := dgL_law_320.2.2.2.2.2.2.2.2.2.2.2.2.1
theorem dL_law_547 : decode cL_law 547 = .ok (.iload_n 3, 1) := dgL_law_320.2.2.2.2.2.2.2.2.2.2.2.2.2.1
theorem dL_law_548 : decode cL_law 548 = .ok (.iconst 2, 1) := dgL_law_320.2.2.2.2.2.2.2.2.2.2.2.2.2.2.1
theorem dL_law_549 : decode cL_law 549 = .ok (.iadd, 1) := dgL_law_320.2.2.2.2.2.2.2.2.2.2.2.2.2.2.2
theorem dgL_law_336 : (decode cL_law 550 = .ok (.iaload, 1)) ∧ (decode cL_law 551 = .ok (.invokevirtual 58, 3)) ∧ (decode cL_law 554 = .ok (.pop, 1)) ∧ (decode cL_law 555 = .ok (.goto 764, 3)) ∧ (decode cL_law 558 = .ok (.aload_n 1, 1)) ∧ (decode cL_law 559 = .ok (.aload_n 0, 1)) ∧ (decode cL_law 560 = .ok (.iload_n 3, 1)) ∧ (decode cL_law 561 = .ok (.iconst 1, 1)) ∧ (decode cL_law 562 = .ok (.iadd, 1)) ∧ (decode cL_law 563 = .ok (.iaload, 1)) ∧ (decode cL_law 564 = .ok (.invokevirtual 59, 3)) ∧ (decode cL_law 567 = .ok (.pop, 1)) ∧ (decode cL_law 568 = .ok (.aload_n 2, 1)) ∧ (decode cL_law 569 = .ok (.aload_n 0, 1)) ∧ (decode cL_law 570 = .ok (.iload_n 3, 1)) ∧ (decode cL_law 571 = .ok (.iconst 1, 1)) := by decide +kernel
theorem dL_law_550 : decode cL_law 550 = .ok (.iaload, 1) := dgL_law_336.1
theorem dL_law_551 : decode cL_law 551 = .ok (.invokevirtual 58, 3) := dgL_law_336.2.1
theorem dL_law_554 : decode cL_law 554 = .ok (.pop, 1) := dgL_law_336.2.2.1
theorem dL_law_555 : decode cL_law 555 = .ok (.goto 764, 3) := dgL_law_336.2.2.2.1
theorem dL_law_558 : decode cL_law 558 = .ok (.aload_n 1, 1) := dgL_law_336.2.2.2.2.1
theorem dL_law_559 : decode cL_law 559 = .ok (.aload_n 0, 1) := dgL_law_336.2.2.2.2.2.1
theorem dL_law_560 : decode cL_law 560 = .ok (.iload_n 3, 1) := dgL_law_336.2.2.2.2.2.2.1
theorem dL_law_561 : decode cL_law 561 = .ok (.iconst 1, 1) := dgL_law_336.2.2.2.2.2.2.2.1
theorem dL_law_562 : decode cL_law 562 = .ok (.iadd, 1) := dgL_law_336.2.2.2.2.2.2.2.2.1
theorem dL_law_563 : decode cL_law 563 = .ok (.iaload, 1) := dgL_law_336.2.2.2.2.2.2.2.2.2.1
theorem dL_law_564 : decode cL_law 564 = .ok (.invokevirtual 59, 3) := dgL_law_336.2.2.2.2.2.2.2.2.2.2.1
theorem dL_law_567 : decode cL_law 567 = .ok (.pop, 1) := dgL_law_336.2.2.2.2.2.2.2.2.2.2.2.1
theorem dL_law_568 : decode cL_law 568 = .ok (.aload_n 2, 1) := dgL_law_336.2.2.2.2.2.2.2.2.2.2.2.2.1
theorem dL_law_569 : decode cL_law 569 = .ok (.aload_n 0, 1) := dgL_law_336.2.2.2.2.2.2.2.2.2.2.2.2.2.1
theorem dL_law_570 : decode cL_law 570 = .ok (.iload_n 3, 1) := dgL_law_336.2.2.2.2.2.2.2.2.2.2.2.2.2.2.1
theorem dL_law_571 : decode cL_law 571 = .ok (.iconst 1, 1) := dgL_law_336.2.2.2.2.2.2.2.2.2.2.2.2.2.2.2
theorem dgL_law_352 : (decode cL_law 572 = .ok (.iadd, 1)) ∧ (decode cL_law 573 = .ok (.iaload, 1)) ∧ (decode cL_law 574 = .ok (.invokevirtual 63, 3)) ∧ (decode cL_law 577 = .ok (.pop, 1)) ∧ (decode cL_law 578 = .ok (.goto 741, 3)) ∧ (decode cL_law 581 = .ok (.aload_n 1, 1)) ∧ (decode cL_law 582 = .ok (.aload_n 0, 1)) ∧ (decode cL_law 583 = .ok (.iload_n 3, 1)) ∧ (decode cL_law 584 = .ok (.iconst 1, 1)) ∧ (decode cL_law 585 = .ok (.iadd, 1)) ∧ (decode cL_law 586 = .ok (.iaload, 1)) ∧ (decode cL_law 587 = .ok (.invokevirtual 64, 3)) ∧ (decode cL_law 590 = .ok (.pop, 1)) ∧ (decode cL_law 591 = .ok (.aload_n 2, 1)) ∧ (decode cL_law 592 = .ok (.aload_n 0, 1)) ∧ (decode cL_law 593 = .ok (.iload_n 3, 1)) := by decide +kernel
theorem dL_law_572 : decode cL_law 572 = .ok (.iadd, 1) := dgL_law_352.1
theorem dL_law_573 : decode cL_law 573 = .ok (.iaload, 1) := dgL_law_352.2.1
theorem dL_law_574 : decode cL_law 574 = .ok (.invokevirtual 63, 3) := dgL_law_352.2.2.1
theorem dL_law_577 : decode cL_law 577 = .ok (.pop, 1) := dgL_law_352.2.2.2.1
theorem dL_law_578 : decode cL_law 578 = .ok (.goto 741, 3) := dgL_law_352.2.2.2.2.1
theorem dL_law_581 : decode cL_law 581 = .ok (.aload_n 1, 1) := dgL_law_352.2.2.2.2.2.1
theorem dL_law_582 : decode cL_law 582 = .ok (.aload_n 0, 1) := dgL_law_352.2.2.2.2.2.2.1
theorem dL_law_583 : decode cL_law 583 = .ok (.iload_n 3, 1) := dgL_law_352.2.2.2.2.2.2.2.1
theorem dL_law_584 : decode cL_law 584 = .ok (.iconst 1, 1) := dgL_law_352.2.2.2.2.2.2.2.2.1
theorem dL_law_585 : decode cL_law 585 = .ok (.iadd, 1) := dgL_law_352.2.2.2.2.2.2.2.2.2.1
theorem dL_law_586 : decode cL_law 586 = .ok (.iaload, 1) := dgL_law_352.2.2.2.2.2.2.2.2.2.2.1
theorem dL_law_587 : decode cL_law 587 = .ok (.invokevirtual 64, 3) := dgL_law_352.2.2.2.2.2.2.2.2.2.2.2.1
theorem dL_law_590 : decode cL_law 590 = .ok (.pop, 1) := dgL_law_352.2.2.2.2.2.2.2.2.2.2.2.2.1
theorem dL_law_591 : decode cL_law 591 = .ok (.aload_n 2, 1) := dgL_law_352.2.2.2.2.2.2.2.2.2.2.2.2.2.1
theorem dL_law_592 : decode cL_law 592 = .ok (.aload_n 0, 1) := dgL_law_352.2.2.2.2.2.2.2.2.2.2.2.2.2.2.1
theorem dL_law_593 : decode cL_law 593 = .ok (.iload_n 3, 1) := dgL_law_352.2.2.2.2.2.2.2.2.2.2.2.2.2.2.2
theorem dgL_law_368 : (decode cL_law 594 = .ok (.iconst 1, 1)) ∧ (decode cL_law 595 = .ok (.iadd, 1)) ∧ (decode cL_law 596 = .ok (.iaload, 1)) ∧ (decode cL_law 597 = .ok (.invokevirtual 67, 3)) ∧ (decode cL_law 600 = .ok (.pop, 1)) ∧ (decode cL_law 601 = .ok (.goto 718, 3)) ∧ (decode cL_law 604 = .ok (.aload_n 1, 1)) ∧ (decode cL_law 605 = .ok (.aload_n 0, 1)) ∧ (decode cL_law 606 = .ok (.iload_n 3, 1)) ∧ (decode cL_law 607 = .ok (.iconst 1, 1)) ∧ (decode cL_law 608 = .ok (.iadd, 1)) ∧ (decode cL_law 609 = .ok (.iaload, 1)) ∧ (decode cL_law 610 = .ok (.aload_n 0, 1)) ∧ (decode cL_law 611 = .ok (.iload_n 3, 1)) ∧ (decode cL_law 612 = .ok (.iconst 2, 1)) ∧ (decode cL_law 613 = .ok (.iadd, 1)) := by decide +kernel
theorem dL_law_594 : decode cL_law 594 = .ok (.iconst 1, 1) := dgL_law_368.1
theorem dL_law_595 : decode cL_law 595 = .ok (.iadd, 1) := dgL_law_368.2.1
theorem dL_law_596 : decode cL_law 596 = .ok (.iaload, 1) := dgL_law_368.2.2.1
theorem dL_law_597 : decode cL_law 597 = .ok (.invokevirtual 67, 3) := dgL_law_368.2.2.2.1
theorem dL_law_600 : decode cL_law 600 = .ok (.pop, 1) := dgL_law_368.2.2.2.2.1
theorem dL_law_601 : decode cL_law 601 = .ok (.goto 718, 3) := dgL_law_368.2.2.2.2.2.1
theorem dL_law_604 : decode cL_law 604 = .ok (.aload_n 1, 1) := dgL_law_368.2.2.2.2.2.2.1
theorem dL_law_605 : decode cL_law 605 = .ok (.aload_n 0, 1) := dgL_law_368.2.2.2.2.2.2.2.1
theorem dL_law_606 : decode cL_law 606 = .ok (.iload_n 3, 1) := dgL_law_368.2.2.2.2.2.2.2.2.1
theorem dL_law_607 : decode cL_law 607 = .ok (.iconst 1, 1) := dgL_law_368.2.2.2.2.2.2.2.2.2.1
theorem dL_law_608 : decode cL_law 608 = .ok (.iadd, 1) := dgL_law_368.2.2.2.2.2.2.2.2.2.2.1
theorem dL_law_609 : decode cL_law 609 = .ok (.iaload, 1) := dgL_law_368.2.2.2.2.2.2.2.2.2.2.2.1
theorem dL_law_610 : decode cL_law 610 = .ok (.aload_n 0, 1) := dgL_law_368.2.2.2.2.2.2.2.2.2.2.2.2.1
theorem dL_law_611 : decode cL_law 611 = .ok (.iload_n 3, 1) := dgL_law_368.2.2.2.2.2.2.2.2.2.2.2.2.2.1
theorem dL_law_612 : decode cL_law 612 = .ok (.iconst 2, 1) := dgL_law_368.2.2.2.2.2.2.2.2.2.2.2.2.2.2.1
theorem dL_law_613 : decode cL_law 613 = .ok (.iadd, 1) := dgL_law_368.2.2.2.2.2.2.2.2.2.2.2.2.2.2.2
theorem dgL_law_384 : (decode cL_law 614 = .ok (.iaload, 1)) ∧ (decode cL_law 615 = .ok (.invokevirtual 68, 3)) ∧ (decode cL_law 618 = .ok (.pop, 1)) ∧ (decode cL_law 619 = .ok (.aload_n 2, 1)) ∧ (decode cL_law 620 = .ok (.aload_n 0, 1)) ∧ (decode cL_law 621 = .ok (.iload_n 3, 1)) ∧ (decode cL_law 622 = .ok (.iconst 1, 1)) ∧ (decode cL_law 623 = .ok (.iadd, 1)) ∧ (decode cL_law 624 = .ok (.iaload, 1)) ∧ (decode cL_law 625 = .ok (.aload_n 0, 1)) ∧ (decode cL_law 626 = .ok (.iload_n 3, 1)) ∧ (decode cL_law 627 = .ok (.iconst 2, 1)) ∧ (decode cL_law 628 = .ok (.iadd, 1)) ∧ (decode cL_law 629 = .ok (.iaload, 1)) ∧ (decode cL_law 630 = .ok (.invokevirtual 71, 3)) ∧ (decode cL_law 633 = .ok (.pop, 1)) := by decide +kernel
theorem dL_law_614 : decode cL_law 614 = .ok (.iaload, 1) := dgL_law_384.1
theorem dL_law_615 : decode cL_law 615 = .ok (.invokevirtual 68, 3) := dgL_law_384.2.1
theorem dL_law_618 : decode cL_law 618 = .ok (.pop, 1) := dgL_law_384.2.2.1
theorem dL_law_619 : decode cL_law 619 = .ok (.aload_n 2, 1) := dgL_law_384.2.2.2.1
theorem dL_law_620 : decode cL_law 620 = .ok (.aload_n 0, 1) := dgL_law_384.2.2.2.2.1
theorem dL_law_621 : decode cL_law 621 = .ok (.iload_n 3, 1) := dgL_law_384.2.2.2.2.2.1
theorem dL_law_622 : decode cL_law 622 = .ok (.iconst 1, 1) := dgL_law_384.2.2.2.2.2.2.1
theorem dL_law_623 : decode cL_law 623 = .ok (.iadd, 1) := dgL_law_384.2.2.2.2.2.2.2.1
theorem dL_law_624 : decode cL_law 624 = .ok (.iaload, 1) := dgL_law_384.2.2.2.2.2.2.2.2.1
theorem dL_law_625 : decode cL_law 625 = .ok (.aload_n 0, 1) := dgL_law_384.2.2.2.2.2.2.2.2.2.1
theorem dL_law_626 : decode cL_law 626 = .ok (.iload_n 3, 1) := dgL_law_384.2.2.2.2.2.2.2.2.2.2.1
theorem dL_law_627 : decode cL_law 627 = .ok (.iconst 2, 1) := dgL_law_384.2.2.2.2.2.2.2.2.2.2.2.1
theorem dL_law_628 : decode cL_law 628 = .ok (.iadd, 1) := dgL_law_384.2.2.2.2.2.2.2.2.2.2.2.2.1
theorem dL_law_629 : decode cL_law 629 = .ok (.iaload, 1) := dgL_law_384.2.2.2.2.2.2.2.2.2.2.2.2.2.1
theorem dL_law_630 : decode cL_law 630 = .ok (.invokevirtual 71, 3) := dgL_law_384.2.2.2.2.2.2.2.2.2.2.2.2.2.2.1
theorem dL_law_633 : decode cL_law 633 = .ok (.pop, 1) := dgL_law_384.2.2.2.2.2.2.2.2.2.2.2.2.2.2.2
theorem dgL_law_400 : (decode cL_law 634 = .ok (.goto 685, 3)) ∧ (decode cL_law 637 = .ok (.aload_n 1, 1)) ∧ (decode cL_law 638 = .ok (.aload_n 0, 1)) ∧ (decode cL_law 639 = .ok (.iload_n 3, 1)) ∧ (decode cL_law 640 = .ok (.iconst 1, 1)) ∧ (decode cL_law 641 = .ok (.iadd, 1)) ∧ (decode cL_law 642 = .ok (.iaload, 1)) ∧ (decode cL_law 643 = .ok (.aload_n 0, 1)) ∧ (decode cL_law 644 = .ok (.iload_n 3, 1)) ∧ (decode cL_law 645 = .ok (.iconst 2, 1)) ∧ (decode cL_law 646 = .ok (.iadd, 1)) ∧ (decode cL_law 647 = .ok (.iaload, 1)) ∧ (decode cL_law 648 = .ok (.aload_n 0, 1)) ∧ (decode cL_law 649 = .ok (.iload_n 3, 1)) ∧ (decode cL_law 650 = .ok (.iconst 3, 1)) ∧ (decode cL_law 651 = .ok (.iadd, 1)) := by decide +kernel
theorem dL_law_634 : decode cL_law 634 = .ok (.goto 685, 3) := dgL_law_400.1
theorem dL_law_637 : decode cL_law 637 = .ok (.aload_n 1, 1) := dgL_law_400.2.1
theorem dL_law_638 : decode cL_law 638 = .ok (.aload_n 0, 1) := dgL_law_400.2.2.1
theorem dL_law_639 : decode cL_law 639 = .ok (.iload_n 3, 1) := dgL_law_400.2.2.2.1
theorem dL_law_640 : decode cL_law 640 = .ok (.iconst 1, 1) := dgL_law_400.2.2.2.2.1
theorem dL_law_641 : decode cL_law 641 = .ok (.iadd, 1) := dgL_law_400.2.2.2.2.2.1
theorem dL_law_642 : decode cL_law 642 = .ok (.iaload, 1) := dgL_law_400.2.2.2.2.2.2.1
theorem dL_law_643 : decode cL_law 643 = .ok (.aload_n 0, 1) := dgL_law_400.2.2.2.2.2.2.2.1
theorem dL_law_644 : decode cL_law 644 = .ok (.iload_n 3, 1) := dgL_law_400.2.2.2.2.2.2.2.2.1
theorem dL_law_645 : decode cL_law 645 = .ok (.iconst 2, 1) := dgL_law_400.2.2.2.2.2.2.2.2.2.1
theorem dL_law_646 : decode cL_law 646 = .ok (.iadd, 1) := dgL_law_400.2.2.2.2.2.2.2.2.2.2.1
theorem dL_law_647 : decode cL_law 647 = .ok (.iaload, 1) := dgL_law_400.2.2.2.2.2.2.2.2.2.2.2.1
theorem dL_law_648 : decode cL_law 648 = .ok (.aload_n 0, 1) := dgL_law_400.2.2.2.2.2.2.2.2.2.2.2.2.1
theorem dL_law_649 : decode cL_law 649 = .ok (.iload_n 3, 1) := dgL_law_400.2.2.2.2.2.2.2.2.2.2.2.2.2.1
theorem dL_law_650 : decode cL_law 650 = .ok (.iconst 3, 1) := dgL_law_400.2.2.2.2.2.2.2.2.2.2.2.2.2.2.1
theorem dL_law_651 : decode cL_law 651 = .ok (.iadd, 1) := dgL_law_400.2.2.2.2.2.2.2.2.2.2.2.2.2.2.2
theorem dgL_law_416 : (decode cL_law 652 = .ok (.iaload, 1)) ∧ (decode cL_law 653 = .ok (.aload_n 0, 1)) ∧ (decode cL_law 654 = .ok (.iload_n 3, 1)) ∧ (decode cL_law 655 = .ok (.iconst 4, 1)) ∧ (decode cL_law 656 = .ok (.iadd, 1)) ∧ (decode cL_law 657 = .ok (.iaload, 1)) ∧ (decode cL_law 658 = .ok (.aload_n 0, 1)) ∧ (decode cL_law 659 = .ok (.iload_n 3, 1)) ∧ (decode cL_law 660 = .ok (.iconst 5, 1)) ∧ (decode cL_law 661 = .ok (.iadd, 1)) ∧ (decode cL_law 662 = .ok (.iaload, 1)) ∧ (decode cL_law 663 = .ok (.aload_n 0, 1)) ∧ (decode cL_law 664 = .ok (.iload_n 3, 1)) ∧ (decode cL_law 665 = .ok (.bipush 6, 2)) ∧ (decode cL_law 667 = .ok (.iadd, 1)) ∧ (decode cL_law 668 = .ok (.iaload, 1)) := by decide +kernel
theorem dL_law_652 : decode cL_law 652 = .ok (.iaload, 1) := dgL_law_416.1
theorem dL_law_653 : decode cL_law 653 = .ok (.aload_n 0, 1) := dgL_law_416.2.1
theorem dL_law_654 : decode cL_law 654 = .ok (.iload_n 3, 1) := dgL_law_416.2.2.1
theorem dL_law_655 : decode cL_law 655 = .ok (.iconst 4, 1) := dgL_law_416.2.2.2.1
theorem dL_law_656 : decode cL_law 656 = .ok (.iadd, 1) := dgL_law_416.2.2.2.2.1
theorem dL_law_657 : decode cL_law 657 = .ok (.iaload, 1) := dgL_law_416.2.2.2.2.2.1
theorem dL_law_658 : decode cL_law 658 = .ok (.aload_n 0, 1) := dgL_law_416.2.2.2.2.2.2.1
theorem dL_law_659 : decode cL_law 659 = .ok (.iload_n 3, 1) := dgL_law_416.2.2.2.2.2.2.2.1
theorem dL_law_660 : decode cL_law 660 = .ok (.iconst 5, 1) := dgL_law_416.2.2.2.2.2.2.2.2.1
theorem dL_law_661 : decode cL_law 661 = .ok (.iadd, 1) := dgL_law_416.2.2.2.2.2.2.2.2.2.1
theorem dL_law_662 : decode cL_law 662 = .ok (.iaload, 1) := dgL_law_416.2.2.2.2.2.2.2.2.2.2.1
theorem dL_law_663 : decode cL_law 663 = .ok (.aload_n 0, 1) := dgL_law_416.2.2.2.2.2.2.2.2.2.2.2.1
theorem dL_law_664 : decode cL_law 664 = .ok (.iload_n 3, 1) := dgL_law_416.2.2.2.2.2.2.2.2.2.2.2.2.1
theorem dL_law_665 : decode cL_law 665 = .ok (.bipush 6, 2) := dgL_law_416.2.2.2.2.2.2.2.2.2.2.2.2.2.1
theorem dL_law_667 : decode cL_law 667 = .ok (.iadd, 1) := dgL_law_416.2.2.2.2.2.2.2.2.2.2.2.2.2.2.1
theorem dL_law_668 : decode cL_law 668 = .ok (.iaload, 1) := dgL_law_416.2.2.2.2.2.2.2.2.2.2.2.2.2.2.2
theorem dgL_law_432 : (decode cL_law 669 = .ok (.invokevirtual 72, 3)) ∧ (decode cL_law 672 = .ok (.pop, 1)) ∧ (decode cL_law 673 = .ok (.aload_n 2, 1)) ∧ (decode cL_law 674 = .ok (.aload_n 0, 1)) ∧ (decode cL_law 675 = .ok (.iload_n 3, 1)) ∧ (decode cL_law 676 = .ok (.iconst 1, 1)) ∧ (decode cL_law 677 = .ok (.iadd, 1)) ∧ (decode cL_law 678 = .ok (.iaload, 1)) ∧ (decode cL_law 679 = .ok (.aload_n 0, 1)) ∧ (decode cL_law 680 = .ok (.iload_n 3, 1)) ∧ (decode cL_law 681 = .ok (.iconst 2, 1)) ∧ (decode cL_law 682 = .ok (.iadd, 1)) ∧ (decode cL_law 683 = .ok (.iaload, 1)) ∧ (decode cL_law 684 = .ok (.aload_n 0, 1)) ∧ (decode cL_law 685 = .ok (.iload_n 3, 1)) ∧ (decode cL_law 686 = .ok (.iconst 3, 1)) := by decide +kernel
theorem dL_law_669 : decode cL_law 669 = .ok (.invokevirtual 72, 3) := dgL_law_432.1
theorem dL_law_672 : decode cL_law 672 = .ok (.pop, 1) := dgL_law_432.2.1
theorem dL_law_673 : decode cL_law 673 = .ok (.aload_n 2, 1) := dgL_law_432.2.2.1
theorem dL_law_674 : decode cL_law 674 = .ok (.aload_n 0, 1) := dgL_law_432.2.2.2.1
theorem dL_law_675 : decode cL_law 675 = .ok (.iload_n 3, 1) := dgL_law_432.2.2.2.2.1
theorem dL_law_676 : decode cL_law 676 = .ok (.iconst 1, 1) := dgL_law_432.2.2.2.2.2.1
theorem dL_law_677 : decode cL_law 677 = .ok (.iadd, 1) := dgL_law_432.2.2.2.2.2.2.1
theorem dL_law_678 : decode cL_law 678 = .ok (.iaload, 1) := dgL_law_432.2.2.2.2.2.2.2.1
theorem dL_law_679 : decode cL_law 679 = .ok (.aload_n 0, 1) := dgL_law_432.2.2.2.2.2.2.2.2.1
theorem dL_law_680 : decode cL_law 680 = .ok (.iload_n 3, 1) := dgL_law_432.2.2.2.2.2.2.2.2.2.1
theorem dL_law_681 : decode cL_law 681 = .ok (.iconst 2, 1) := dgL_law_432.2.2.2.2.2.2.2.2.2.2.1
theorem dL_law_682 : decode cL_law 682 = .ok (.iadd, 1) := dgL_law_432.2.2.2.2.2.2.2.2.2.2.2.1
theorem dL_law_683 : decode cL_law 683 = .ok (.iaload, 1) := dgL_law_432.2.2.2.2.2.2.2.2.2.2.2.2.1
theorem dL_law_684 : decode cL_law 684 = .ok (.aload_n 0, 1) := dgL_law_432.2.2.2.2.2.2.2.2.2.2.2.2.2.1
theorem dL_law_685 : decode cL_law 685 = .ok (.iload_n 3, 1) := dgL_law_432.2.2.2.2.2.2.2.2.2.2.2.2.2.2.1
theorem dL_law_686 : decode cL_law 686 = .ok (.iconst 3, 1) := dgL_law_432.2.2.2.2.2.2.2.2.2.2.2.2.2.2.2
theorem dgL_law_448 : (decode cL_law 687 = .ok (.iadd, 1)) ∧ (decode cL_law 688 = .ok (.iaload, 1)) ∧ (decode cL_law 689 = .ok (.aload_n 0, 1)) ∧ (decode cL_law 690 = .ok (.iload_n 3, 1)) ∧ (decode cL_law 691 = .ok (.iconst 4, 1)) ∧ (decode cL_law 692 = .ok (.iadd, 1)) ∧ (decode cL_law 693 = .ok (.iaload, 1)) ∧ (decode cL_law 694 = .ok (.aload_n 0, 1)) ∧ (decode cL_law 695 = .ok (.iload_n 3, 1)) ∧ (decode cL_law 696 = .ok (.iconst 5, 1)) ∧ (decode cL_law 697 = .ok (.iadd, 1)) ∧ (decode cL_law 698 = .ok (.iaload, 1)) ∧ (decode cL_law 699 = .ok (.aload_n 0, 1)) ∧ (decode cL_law 700 = .ok (.iload_n 3, 1)) ∧ (decode cL_law 701 = .ok (.bipush 6, 2)) ∧ (decode cL_law 703 = .ok (.iadd, 1)) := by decide +kernel
theorem dL_law_687 : decode cL_law 687 = .ok (.iadd, 1) := dgL_law_448.1
theorem dL_law_688 : decode cL_law 688 = .ok (.iaload, 1) := dgL_law_448.2.1
theorem dL_law_689 : decode cL_law 689 = .ok (.aload_n 0, 1) := dgL_law_448.2.2.1
theorem dL_law_690 : decode cL_law 690 = .ok (.iload_n 3, 1) := dgL_law_448.2.2.2.1
theorem dL_law_691 : decode cL_law 691 = .ok (.iconst 4, 1) := dgL_law_448.2.2.2.2.1
theorem dL_law_692 : decode cL_law 692 = .ok (.iadd, 1) := dgL_law_448.2.2.2.2.2.1
theorem dL_law_693 : decode cL_law 693 = .ok (.iaload, 1) := dgL_law_448.2.2.2.2.2.2.1
theorem dL_law_694 : decode cL_law 694 = .ok (.aload_n 0, 1) := dgL_law_448.2.2.2.2.2.2.2.1
theorem dL_law_695 : decode cL_law 695 = .ok (.iload_n 3, 1) := dgL_law_448.2.2.2.2.2.2.2.2.1
theorem dL_law_696 : decode cL_law 696 = .ok (.iconst 5, 1) := dgL_law_448.2.2.2.2.2.2.2.2.2.1
theorem dL_law_697 : decode cL_law 697 = .ok (.iadd, 1) := dgL_law_448.2.2.2.2.2.2.2.2.2.2.1
theorem dL_law_698 : decode cL_law 698 = .ok (.iaload, 1) := dgL_law_448.2.2.2.2.2.2.2.2.2.2.2.1
theorem dL_law_699 : decode cL_law 699 = .ok (.aload_n 0, 1) := dgL_law_448.2.2.2.2.2.2.2.2.2.2.2.2.1
theorem dL_law_700 : decode cL_law 700 = .ok (.iload_n 3, 1) := dgL_law_448.2.2.2.2.2.2.2.2.2.2.2.2.2.1
theorem dL_law_701 : decode cL_law 701 = .ok (.bipush 6, 2) := dgL_law_448.2.2.2.2.2.2.2.2.2.2.2.2.2.2.1
theorem dL_law_703 : decode cL_law 703 = .ok (.iadd, 1) := dgL_law_448.2.2.2.2.2.2.2.2.2.2.2.2.2.2.2
theorem dgL_law_464 : (decode cL_law 704 = .ok (.iaload, 1)) ∧ (decode cL_law 705 = .ok (.invokevirtual 76, 3)) ∧ (decode cL_law 708 = .ok (.pop, 1)) ∧ (decode cL_law 709 = .ok (.goto 610, 3)) ∧ (decode cL_law 712 = .ok (.aload_n 1, 1)) ∧ (decode cL_law 713 = .ok (.aload_n 0, 1)) ∧ (decode cL_law 714 = .ok (.iload_n 3, 1)) ∧ (decode cL_law 715 = .ok (.iconst 1, 1)) ∧ (decode cL_law 716 = .ok (.iadd, 1)) ∧ (decode cL_law 717 = .ok (.iaload, 1)) ∧ (decode cL_law 718 = .ok (.aload_n 0, 1)) ∧ (decode cL_law 719 = .ok (.iload_n 3, 1)) ∧ (decode cL_law 720 = .ok (.iconst 2, 1)) ∧ (decode cL_law 721 = .ok (.iadd, 1)) ∧ (decode cL_law 722 = .ok (.iaload, 1)) ∧ (decode cL_law 723 = .ok (.invokevirtual 77, 3)) := by decide +kernel
theorem dL_law_704 : decode cL_law 704 = .ok (.iaload, 1) := dgL_law_464.1
theorem dL_law_705 : decode cL_law 705 = .ok (.invokevirtual 76, 3) := dgL_law_464.2.1
theorem dL_law_708 : decode cL_law 708 = .ok (.pop, 1) := dgL_law_464.2.2.1
theorem dL_law_709 : decode cL_law 709 = .ok (.goto 610, 3) := dgL_law_464.2.2.2.1
theorem dL_law_712 : decode cL_law 712 = .ok (.aload_n 1, 1) := dgL_law_464.2.2.2.2.1
theorem dL_law_713 : decode cL_law 713 = .ok (.aload_n 0, 1) := dgL_law_464.2.2.2.2.2.1
theorem dL_law_714 : decode cL_law 714 = .ok (.iload_n 3, 1) := dgL_law_464.2.2.2.2.2.2.1
theorem dL_law_715 : decode cL_law 715 = .ok (.iconst 1, 1) := dgL_law_464.2.2.2.2.2.2.2.1
theorem dL_law_716 : decode cL_law 716 = .ok (.iadd, 1) := dgL_law_464.2.2.2.2.2.2.2.2.1
theorem dL_law_717 : decode cL_law 717 = .ok (.iaload, 1) := dgL_law_464.2.2.2.2.2.2.2.2.2.1
theorem dL_law_718 : decode cL_law 718 = .ok (.aload_n 0, 1) := dgL_law_464.2.2.2.2.2.2.2.2.2.2.1
theorem dL_law_719 : decode cL_law 719 = .ok (.iload_n 3, 1) := dgL_law_464.2.2.2.2.2.2.2.2.2.2.2.1
theorem dL_law_720 : decode cL_law 720 = .ok (.iconst 2, 1) := dgL_law_464.2.2.2.2.2.2.2.2.2.2.2.2.1
theorem dL_law_721 : decode cL_law 721 = .ok (.iadd, 1) := dgL_law_464.2.2.2.2.2.2.2.2.2.2.2.2.2.1
theorem dL_law_722 : decode cL_law 722 = .ok (.iaload, 1) := dgL_law_464.2.2.2.2.2.2.2.2.2.2.2.2.2.2.1
theorem dL_law_723 : decode cL_law 723 = .ok (.invokevirtual 77, 3) := dgL_law_464.2.2.2.2.2.2.2.2.2.2.2.2.2.2.2
theorem dgL_law_480 : (decode cL_law 726 = .ok (.pop, 1)) ∧ (decode cL_law 727 = .ok (.aload_n 2, 1)) ∧ (decode cL_law 728 = .ok (.aload_n 0, 1)) ∧ (decode cL_law 729 = .ok (.iload_n 3, 1)) ∧ (decode cL_law 730 = .ok (.iconst 1, 1)) ∧ (decode cL_law 731 = .ok (.iadd, 1)) ∧ (decode cL_law 732 = .ok (.iaload, 1)) ∧ (decode cL_law 733 = .ok (.aload_n 0, 1)) ∧ (decode cL_law 734 = .ok (.iload_n 3, 1)) ∧ (decode cL_law 735 = .ok (.iconst 2, 1)) ∧ (decode cL_law 736 = .ok (.iadd, 1)) ∧ (decode cL_law 737 = .ok (.iaload, 1)) ∧ (decode cL_law 738 = .ok (.invokevirtual 80, 3)) ∧ (decode cL_law 741 = .ok (.pop, 1)) ∧ (decode cL_law 742 = .ok (.goto 577, 3)) ∧ (decode cL_law 745 = .ok (.aload_n 1, 1)) := by decide +kernel
theorem dL_law_726 : decode cL_law 726 = .ok (.pop, 1) := dgL_law_480.1
theorem dL_law_727 : decode cL_law 727 = .ok (.aload_n 2, 1) := dgL_law_480.2.1
theorem dL_law_728 : decode cL_law 728 = .ok (.aload_n 0, 1) := dgL_law_480.2.2.1
theorem dL_law_729 : decode cL_law 729 = .ok (.iload_n 3, 1) := dgL_law_480.2.2.2.1
theorem dL_law_730 : decode cL_law 730 = .ok (.iconst 1, 1) := dgL_law_480.2.2.2.2.1
theorem dL_law_731 : decode cL_law 731 = .ok (.iadd, 1) := dgL_law_480.2.2.2.2.2.1
theorem dL_law_732 : decode cL_law 732 = .ok (.iaload, 1) := dgL_law_480.2.2.2.2.2.2.1
theorem dL_law_733 : decode cL_law 733 = .ok (.aload_n 0, 1) := dgL_law_480.2.2.2.2.2.2.2.1
theorem dL_law_734 : decode cL_law 734 = .ok (.iload_n 3, 1) := dgL_law_480.2.2.2.2.2.2.2.2.1
theorem dL_law_735 : decode cL_law 735 = .ok (.iconst 2, 1) := dgL_law_480.2.2.2.2.2.2.2.2.2.1
theorem dL_law_736 : decode cL_law 736 = .ok (.iadd, 1) := dgL_law_480.2.2.2.2.2.2.2.2.2.2.1
theorem dL_law_737 : decode cL_law 737 = .ok (.iaload, 1) := dgL_law_480.2.2.2.2.2.2.2.2.2.2.2.1
theorem dL_law_738 : decode cL_law 738 = .ok (.invokevirtual 80, 3) := dgL_law_480.2.2.2.2.2.2.2.2.2.2.2.2.1
theorem dL_law_741 : decode cL_law 741 = .ok (.pop, 1) := dgL_law_480.2.2.2.2.2.2.2.2.2.2.2.2.2.1
theorem dL_law_742 : decode cL_law 742 = .ok (.goto 577, 3) := dgL_law_480.2.2.2.2.2.2.2.2.2.2.2.2.2.2.1
theorem dL_law_745 : decode cL_law 745 = .ok (.aload_n 1, 1) := dgL_law_480.2.2.2.2.2.2.2.2.2.2.2.2.2.2.2
theorem dgL_law_496 : (decode cL_law 746 = .ok (.aload_n 0, 1)) ∧ (decode cL_law 747 = .ok (.iload_n 3, 1)) ∧ (decode cL_law 748 = .ok (.iconst 1, 1)) ∧ (decode cL_law 749 = .ok (.iadd, 1)) ∧ (decode cL_law 750 = .ok (.iaload, 1)) ∧ (decode cL_law 751 = .ok (.aload_n 0, 1)) ∧ (decode cL_law 752 = .ok (.iload_n 3, 1)) ∧ (decode cL_law 753 = .ok (.iconst 2, 1)) ∧ (decode cL_law 754 = .ok (.iadd, 1)) ∧ (decode cL_law 755 = .ok (.iaload, 1)) ∧ (decode cL_law 756 = .ok (.aload_n 0, 1)) ∧ (decode cL_law 757 = .ok (.iload_n 3, 1)) ∧ (decode cL_law 758 = .ok (.iconst 3, 1)) ∧ (decode cL_law 759 = .ok (.iadd, 1)) ∧ (decode cL_law 760 = .ok (.iaload, 1)) ∧ (decode cL_law 761 = .ok (.invokevirtual 81, 3)) := by decide +kernel
theorem dL_law_746 : decode cL_law 746 = .ok (.aload_n 0, 1) := dgL_law_496.1
theorem dL_law_747 : decode cL_law 747 = .ok (.iload_n 3, 1) := dgL_law_496.2.1
theorem dL_law_748 : decode cL_law 748 = .ok (.iconst 1, 1) := dgL_law_496.2.2.1
theorem dL_law_749 : decode cL_law 749 = .ok (.iadd, 1) := dgL_law_496.2.2.2.1
theorem dL_law_750 : decode cL_law 750 = .ok (.iaload, 1) := dgL_law_496.2.2.2.2.1
theorem dL_law_751 : decode cL_law 751 = .ok (.aload_n 0, 1) := dgL_law_496.2.2.2.2.2.1
theorem dL_law_752 : decode cL_law 752 = .ok (.iload_n 3, 1) := dgL_law_496.2.2.2.2.2.2.1
theorem dL_law_753 : decode cL_law 753 = .ok (.iconst 2, 1) := dgL_law_496.2.2.2.2.2.2.2.1
theorem dL_law_754 : decode cL_law 754 = .ok (.iadd, 1) := dgL_law_496.2.2.2.2.2.2.2.2.1
theorem dL_law_755 : decode cL_law 755 = .ok (.iaload, 1) := dgL_law_496.2.2.2.2.2.2.2.2.2.1
theorem dL_law_756 : decode cL_law 756 = .ok (.aload_n 0, 1) := dgL_law_496.2.2.2.2.2.2.2.2.2.2.1
theorem dL_law_757 : decode cL_law 757 = .ok (.iload_n 3, 1) := dgL_law_496.2.2.2.2.2.2.2.2.2.2.2.1
theorem dL_law_758 : decode cL_law 758 = .ok (.iconst 3, 1) := dgL_law_496.2.2.2.2.2.2.2.2.2.2.2.2.1
theorem dL_law_759 : decode cL_law 759 = .ok (.iadd, 1) := dgL_law_496.2.2.2.2.2.2.2.2.2.2.2.2.2.1
theorem dL_law_760 : decode cL_law 760 = .ok (.iaload, 1) := dgL_law_496.2.2.2.2.2.2.2.2.2.2.2.2.2.2.1
theorem dL_law_761 : decode cL_law 761 = .ok (.invokevirtual 81, 3) := dgL_law_496.2.2.2.2.2.2.2.2.2.2.2.2.2.2.2
theorem dgL_law_512 : (decode cL_law 764 = .ok (.pop, 1)) ∧ (decode cL_law 765 = .ok (.aload_n 2, 1)) ∧ (decode cL_law 766 = .ok (.aload_n 0, 1)) ∧ (decode cL_law 767 = .ok (.iload_n 3, 1)) ∧ (decode cL_law 768 = .ok (.iconst 1, 1)) ∧ (decode cL_law 769 = .ok (.iadd, 1)) ∧ (decode cL_law 770 = .ok (.iaload, 1)) ∧ (decode cL_law 771 = .ok (.aload_n 0, 1)) ∧ (decode cL_law 772 = .ok (.iload_n 3, 1)) ∧ (decode cL_law 773 = .ok (.iconst 2, 1)) ∧ (decode cL_law 774 = .ok (.iadd, 1)) ∧ (decode cL_law 775 = .ok (.iaload, 1)) ∧ (decode cL_law 776 = .ok (.aload_n 0, 1)) ∧ (decode cL_law 777 = .ok (.iload_n 3, 1)) ∧ (decode cL_law 778 = .ok (.iconst 3, 1)) ∧ (decode cL_law 779 = .ok (.iadd, 1)) := by decide +kernel
theorem dL_law_764 : decode cL_law 764 = .ok (.pop, 1) := dgL_law_512.1
theorem dL_law_765 : decode cL_law 765 = .ok (.aload_n 2, 1) := dgL_law_512.2.1
theorem dL_law_766 : decode cL_law 766 = .ok (.aload_n 0, 1) := dgL_law_512.2.2.1
theorem dL_law_767 : decode cL_law 767 = .ok (.iload_n 3, 1) := dgL_law_512.2.2.2.1
theorem dL_law_768 : decode cL_law 768 = .ok (.iconst 1, 1) := dgL_law_512.2.2.2.2.1
theorem dL_law_769 : decode cL_law 769 = .ok (.iadd, 1) := dgL_law_512.2.2.2.2.2.1
theorem dL_law_770 : decode cL_law 770 = .ok (.iaload, 1) := dgL_law_512.2.2.2.2.2.2.1
theorem dL_law_771 : decode cL_law 771 = .ok (.aload_n 0, 1) := dgL_law_512.2.2.2.2.2.2.2.1
theorem dL_law_772 : decode cL_law 772 = .ok (.iload_n 3, 1) := dgL_law_512.2.2.2.2.2.2.2.2.1
theorem dL_law_773 : decode cL_law 773 = .ok (.iconst 2, 1) := dgL_law_512.2.2.2.2.2.2.2.2.2.1
theorem dL_law_774 : decode cL_law 774 = .ok (.iadd, 1) := dgL_law_512.2.2.2.2.2.2.2.2.2.2.1
theorem dL_law_775 : decode cL_law 775 = .ok (.iaload, 1) := dgL_law_512.2.2.2.2.2.2.2.2.2.2.2.1
theorem dL_law_776 : decode cL_law 776 = .ok (.aload_n 0, 1) := dgL_law_512.2.2.2.2.2.2.2.2.2.2.2.2.1
theorem dL_law_777 : decode cL_law 777 = .ok (.iload_n 3, 1) := dgL_law_512.2.2.2.2.2.2.2.2.2.2.2.2.2.1
theorem dL_law_778 : decode cL_law 778 = .ok (.iconst 3, 1) := dgL_law_512.2.2.2.2.2.2.2.2.2.2.2.2.2.2.1
theorem dL_law_779 : decode cL_law 779 = .ok (.iadd, 1) := dgL_law_512.2.2.2.2.2.2.2.2.2.2.2.2.2.2.2
theorem dgL_law_528 : (decode cL_law 780 = .ok (.iaload, 1)) ∧ (decode cL_law 781 = .ok (.invokevirtual 84, 3)) ∧ (decode cL_law 784 = .ok (.pop, 1)) ∧ (decode cL_law 785 = .ok (.goto 534, 3)) ∧ (decode cL_law 788 = .ok (.aload_n 1, 1)) ∧ (decode cL_law 789 = .ok (.aload_n 0, 1)) ∧ (decode cL_law 790 = .ok (.iload_n 3, 1)) ∧ (decode cL_law 791 = .ok (.iconst 1, 1)) ∧ (decode cL_law 792 = .ok (.iadd, 1)) ∧ (decode cL_law 793 = .ok (.iaload, 1)) ∧ (decode cL_law 794 = .ok (.aload_n 0, 1)) ∧ (decode cL_law 795 = .ok (.iload_n 3, 1)) ∧ (decode cL_law 796 = .ok (.iconst 2, 1)) ∧ (decode cL_law 797 = .ok (.iadd, 1)) ∧ (decode cL_law 798 = .ok (.iaload, 1)) ∧ (decode cL_law 799 = .ok (.aload_n 0, 1)) := by decide +kernel
theorem dL_law_780 : decode cL_law 780 = .ok (.iaload, 1) := dgL_law_528.1
theorem dL_law_781 : decode cL_law 781 = .ok (.invokevirtual 84, 3) := dgL_law_528.2.1
theorem dL_law_784 : decode cL_law 784 = .ok (.pop, 1) := dgL_law_528.2.2.1
theorem dL_law_785 : decode cL_law 785 = .ok (.goto 534, 3) := dgL_law_528.2.2.2.1
theorem dL_law_788 : decode cL_law 788 = .ok (.aload_n 1, 1) := dgL_law_528.2.2.2.2.1
theorem dL_law_789 : decode cL_law 789 = .ok (.aload_n 0, 1) := dgL_law_528.2.2.2.2.2.1
theorem dL_law_790 : decode cL_law 790 = .ok (.iload_n 3, 1) := dgL_law_528.2.2.2.2.2.2.1
theorem dL_law_791 : decode cL_law 791 = .ok (.iconst 1, 1) := dgL_law_528.2.2.2.2.2.2.2.1
theorem dL_law_792 : decode cL_law 792 = .ok (.iadd, 1) := dgL_law_528.2.2.2.2.2.2.2.2.1
theorem dL_law_793 : decode cL_law 793 = .ok (.iaload, 1) := dgL_law_528.2.2.2.2.2.2.2.2.2.1
theorem dL_law_794 : decode cL_law 794 = .ok (.aload_n 0, 1) := dgL_law_528.2.2.2.2.2.2.2.2.2.2.1
theorem dL_law_795 : decode cL_law 795 = .ok (.iload_n 3, 1) := dgL_law_528.2.2.2.2.2.2.2.2.2.2.2.1
theorem dL_law_796 : decode cL_law 796 = .ok (.iconst 2, 1) := dgL_law_528.2.2.2.2.2.2.2.2.2.2.2.2.1
theorem dL_law_797 : decode cL_law 797 = .ok (.iadd, 1) := dgL_law_528.2.2.2.2.2.2.2.2.2.2.2.2.2.1
theorem dL_law_798 : decode cL_law 798 = .ok (.iaload, 1) := dgL_law_528.2.2.2.2.2.2.2.2.2.2.2.2.2.2.1
theorem dL_law_799 : decode cL_law 799 = .ok (.aload_n 0, 1) := dgL_law_528.2.2.2.2.2.2.2.2.2.2.2.2.2.2.2
theorem dgL_law_544 : (decode cL_law 800 = .ok (.iload_n 3, 1)) ∧ (decode cL_law 801 = .ok (.iconst 3, 1)) ∧ (decode cL_law 802 = .ok (.iadd, 1)) ∧ (decode cL_law 803 = .ok (.iaload, 1)) ∧ (decode cL_law 804 = .ok (.invokevirtual 85, 3)) ∧ (decode cL_law 807 = .ok (.pop, 1)) ∧ (decode cL_law 808 = .ok (.aload_n 2, 1)) ∧ (decode cL_law 809 = .ok (.aload_n 0, 1)) ∧ (decode cL_law 810 = .ok (.iload_n 3, 1)) ∧ (decode cL_law 811 = .ok (.iconst 1, 1)) ∧ (decode cL_law 812 = .ok (.iadd, 1)) ∧ (decode cL_law 813 = .ok (.iaload, 1)) ∧ (decode cL_law 814 = .ok (.aload_n 0, 1)) ∧ (decode cL_law 815 = .ok (.iload_n 3, 1)) ∧ (decode cL_law 816 = .ok (.iconst 2, 1)) ∧ (decode cL_law 817 = .ok (.iadd, 1)) := by decide +kernel
theorem dL_law_800 : decode cL_law 800 = .ok (.iload_n 3, 1) := dgL_law_544.1
theorem dL_law_801 : decode cL_law 801 = .ok (.iconst 3, 1) := dgL_law_544.2.1
theorem dL_law_802 : decode cL_law 802 = .ok (.iadd, 1) := dgL_law_544.2.2.1
theorem dL_law_803 : decode cL_law 803 = .ok (.iaload, 1) := dgL_law_544.2.2.2.1
theorem dL_law_804 : decode cL_law 804 = .ok (.invokevirtual 85, 3) := dgL_law_544.2.2.2.2.1
theorem dL_law_807 : decode cL_law 807 = .ok (.pop, 1) := dgL_law_544.2.2.2.2.2.1
theorem dL_law_808 : decode cL_law 808 = .ok (.aload_n 2, 1) := dgL_law_544.2.2.2.2.2.2.1
theorem dL_law_809 : decode cL_law 809 = .ok (.aload_n 0, 1) := dgL_law_544.2.2.2.2.2.2.2.1
theorem dL_law_810 : decode cL_law 810 = .ok (.iload_n 3, 1) := dgL_law_544.2.2.2.2.2.2.2.2.1
theorem dL_law_811 : decode cL_law 811 = .ok (.iconst 1, 1) := dgL_law_544.2.2.2.2.2.2.2.2.2.1
theorem dL_law_812 : decode cL_law 812 = .ok (.iadd, 1) := dgL_law_544.2.2.2.2.2.2.2.2.2.2.1
theorem dL_law_813 : decode cL_law 813 = .ok (.iaload, 1) := dgL_law_544.2.2.2.2.2.2.2.2.2.2.2.1
theorem dL_law_814 : decode cL_law 814 = .ok (.aload_n 0, 1) := dgL_law_544.2.2.2.2.2.2.2.2.2.2.2.2.1
theorem dL_law_815 : decode cL_law 815 = .ok (.iload_n 3, 1) := dgL_law_544.2.2.2.2.2.2.2.2.2.2.2.2.2.1
theorem dL_law_816 : decode cL_law 816 = .ok (.iconst 2, 1) := dgL_law_544.2.2.2.2.2.2.2.2.2.2.2.2.2.2.1
theorem dL_law_817 : decode cL_law 817 = .ok (.iadd, 1) := dgL_law_544.2.2.2.2.2.2.2.2.2.2.2.2.2.2.2
theorem dgL_law_560 : (decode cL_law 818 = .ok (.iaload, 1)) ∧ (decode cL_law 819 = .ok (.aload_n 0, 1)) ∧ (decode cL_law 820 = .ok (.iload_n 3, 1)) ∧ (decode cL_law 821 = .ok (.iconst 3, 1)) ∧ (decode cL_law 822 = .ok (.iadd, 1)) ∧ (decode cL_law 823 = .ok (.iaload, 1)) ∧ (decode cL_law 824 = .ok (.invokevirtual 88, 3)) ∧ (decode cL_law 827 = .ok (.pop, 1)) ∧ (decode cL_law 828 = .ok (.goto 491, 3)) ∧ (decode cL_law 831 = .ok (.aload_n 1, 1)) ∧ (decode cL_law 832 = .ok (.aload_n 0, 1)) ∧ (decode cL_law 833 = .ok (.iload_n 3, 1)) ∧ (decode cL_law 834 = .ok (.iconst 1, 1)) ∧ (decode cL_law 835 = .ok (.iadd, 1)) ∧ (decode cL_law 836 = .ok (.iaload, 1)) ∧ (decode cL_law 837 = .ok (.aload_n 0, 1)) := by decide +kernel
theorem dL_law_818 : decode cL_law 818 = .ok (.iaload, 1) := dgL_law_560.1
theorem dL_law_819 : decode cL_law 819 = .ok (.aload_n 0, 1) := dgL_law_560.2.1
theorem dL_law_820 : decode cL_law 820 = .ok (.iload_n 3, 1) := dgL_law_560.2.2.1
theorem dL_law_821 : decode cL_law 821 = .ok (.iconst 3, 1) := dgL_law_560.2.2.2.1
theorem dL_law_822 : decode cL_law 822 = .ok (.iadd, 1) := dgL_law_560.2.2.2.2.1
theorem dL_law_823 : decode cL_law 823 = .ok (.iaload, 1) := dgL_law_560.2.2.2.2.2.1
theorem dL_law_824 : decode cL_law 824 = .ok (.invokevirtual 88, 3) := dgL_law_560.2.2.2.2.2.2.1
theorem dL_law_827 : decode cL_law 827 = .ok (.pop, 1) := dgL_law_560.2.2.2.2.2.2.2.1
theorem dL_law_828 : decode cL_law 828 = .ok (.goto 491, 3) := dgL_law_560.2.2.2.2.2.2.2.2.1
theorem dL_law_831 : decode cL_law 831 = .ok (.aload_n 1, 1) := dgL_law_560.2.2.2.2.2.2.2.2.2.1
theorem dL_law_832 : decode cL_law 832 = .ok (.aload_n 0, 1) := dgL_law_560.2.2.2.2.2.2.2.2.2.2.1
theorem dL_law_833 : decode cL_law 833 = .ok (.iload_n 3, 1) := dgL_law_560.2.2.2.2.2.2.2.2.2.2.2.1
theorem dL_law_834 : decode cL_law 834 = .ok (.iconst 1, 1) := dgL_law_560.2.2.2.2.2.2.2.2.2.2.2.2.1
theorem dL_law_835 : decode cL_law 835 = .ok (.iadd, 1) := dgL_law_560.2.2.2.2.2.2.2.2.2.2.2.2.2.1
theorem dL_law_836 : decode cL_law 836 = .ok (.iaload, 1) := dgL_law_560.2.2.2.2.2.2.2.2.2.2.2.2.2.2.1
theorem dL_law_837 : decode cL_law 837 = .ok (.aload_n 0, 1) := dgL_law_560.2.2.2.2.2.2.2.2.2.2.2.2.2.2.2
theorem dgL_law_576 : (decode cL_law 838 = .ok (.iload_n 3, 1)) ∧ (decode cL_law 839 = .ok (.iconst 2, 1)) ∧ (decode cL_law 840 = .ok (.iadd, 1)) ∧ (decode cL_law 841 = .ok (.iaload, 1)) ∧ (decode cL_law 842 = .ok (.aload_n 0, 1)) ∧ (decode cL_law 843 = .ok (.iload_n 3, 1)) ∧ (decode cL_law 844 = .ok (.iconst 3, 1)) ∧ (decode cL_law 845 = .ok (.iadd, 1)) ∧ (decode cL_law 846 = .ok (.iaload, 1)) ∧ (decode cL_law 847 = .ok (.invokevirtual 89, 3)) ∧ (decode cL_law 850 = .ok (.pop, 1)) ∧ (decode cL_law 851 = .ok (.aload_n 2, 1)) ∧ (decode cL_law 852 = .ok (.aload_n 0, 1)) ∧ (decode cL_law 853 = .ok (.iload_n 3, 1)) ∧ (decode cL_law 854 = .ok (.iconst 1, 1)) ∧ (decode cL_law 855 = .ok (.iadd, 1)) := by decide +kernel
theorem dL_law_838 : decode cL_law 838 = .ok (.iload_n 3, 1) := dgL_law_576.1
theorem dL_law_839 : decode cL_law 839 = .ok (.iconst 2, 1) := dgL_law_576.2.1
theorem dL_law_840 : decode cL_law 840 = .ok (.iadd, 1) := dgL_law_576.2.2.1
theorem dL_law_841 : decode cL_law 841 = .ok (.iaload, 1) := dgL_law_576.2.2.2.1
theorem dL_law_842 : decode cL_law 842 = .ok (.aload_n 0, 1) := dgL_law_576.2.2.2.2.1
theorem dL_law_843 : decode cL_law 843 = .ok (.iload_n 3, 1) := dgL_law_576.2.2.2.2.2.1
theorem dL_law_844 : decode cL_law 844 = .ok (.iconst 3, 1) := dgL_law_576.2.2.2.2.2.2.1
theorem dL_law_845 : decode cL_law 845 = .ok (.iadd, 1) := dgL_law_576.2.2.2.2.2.2.2.1
theorem dL_law_846 : decode cL_law 846 = .ok (.iaload, 1) := dgL_law_576.2.2.2.2.2.2.2.2.1
theorem dL_law_847 : decode cL_law 847 = .ok (.invokevirtual 89, 3) := dgL_law_576.2.2.2.2.2.2.2.2.2.1
theorem dL_law_850 : decode cL_law 850 = .ok (.pop, 1) := dgL_law_576.2.2.2.2.2.2.2.2.2.2.1
theorem dL_law_851 : decode cL_law 851 = .ok (.aload_n 2, 1) := dgL_law_576.2.2.2.2.2.2.2.2.2.2.2.1
theorem dL_law_852 : decode cL_law 852 = .ok (.aload_n 0, 1) := dgL_law_576.2.2.2.2.2.2.2.2.2.2.2.2.1
theorem dL_law_853 : decode cL_law 853 = .ok (.iload_n 3, 1) := dgL_law_576.2.2.2.2.2.2.2.2.2.2.2.2.2.1
theorem dL_law_854 : decode cL_law 854 = .ok (.iconst 1, 1) := dgL_law_576.2.2.2.2.2.2.2.2.2.2.2.2.2.2.1
theorem dL_law_855 : decode cL_law 855 = .ok (.iadd, 1) := dgL_law_576.2.2.2.2.2.2.2.2.2.2.2.2.2.2.2
theorem dgL_law_592 : (decode cL_law 856 = .ok (.iaload, 1)) ∧ (decode cL_law 857 = .ok (.aload_n 0, 1)) ∧ (decode cL_law 858 = .ok (.iload_n 3, 1)) ∧ (decode cL_law 859 = .ok (.iconst 2, 1)) ∧ (decode cL_law 860 = .ok (.iadd, 1)) ∧ (decode cL_law 861 = .ok (.iaload, 1)) ∧ (decode cL_law 862 = .ok (.aload_n 0, 1)) ∧ (decode cL_law 863 = .ok (.iload_n 3, 1)) ∧ (decode cL_law 864 = .ok (.iconst 3, 1)) ∧ (decode cL_law 865 = .ok (.iadd, 1)) ∧ (decode cL_law 866 = .ok (.iaload, 1)) ∧ (decode cL_law 867 = .ok (.invokevirtual 92, 3)) ∧ (decode cL_law 870 = .ok (.pop, 1)) ∧ (decode cL_law 871 = .ok (.goto 448, 3)) ∧ (decode cL_law 874 = .ok (.aload_n 1, 1)) ∧ (decode cL_law 875 = .ok (.aload_n 0, 1)) := by decide +kernel
theorem dL_law_856 : decode cL_law 856 = .ok (.iaload, 1) := dgL_law_592.1
theorem dL_law_857 : decode cL_law 857 = .ok (.aload_n 0, 1) := dgL_law_592.2.1
theorem dL_law_858 : decode cL_law 858 = .ok (.iload_n 3, 1) := dgL_law_592.2.2.1
theorem dL_law_859 : decode cL_law 859 = .ok (.iconst 2, 1) := dgL_law_592.2.2.2.1
theorem dL_law_860 : decode cL_law 860 = .ok (.iadd, 1) := dgL_law_592.2.2.2.2.1
theorem dL_law_861 : decode cL_law 861 = .ok (.iaload, 1) := dgL_law_592.2.2.2.2.2.1
theorem dL_law_862 : decode cL_law 862 = .ok (.aload_n 0, 1) := dgL_law_592.2.2.2.2.2.2.1
theorem dL_law_863 : decode cL_law 863 = .ok (.iload_n 3, 1) := dgL_law_592.2.2.2.2.2.2.2.1
theorem dL_law_864 : decode cL_law 864 = .ok (.iconst 3, 1) := dgL_law_592.2.2.2.2.2.2.2.2.1
theorem dL_law_865 : decode cL_law 865 = .ok (.iadd, 1) := dgL_law_592.2.2.2.2.2.2.2.2.2.1
theorem dL_law_866 : decode cL_law 866 = .ok (.iaload, 1) := dgL_law_592.2.2.2.2.2.2.2.2.2.2.1
theorem dL_law_867 : decode cL_law 867 = .ok (.invokevirtual 92, 3) := dgL_law_592.2.2.2.2.2.2.2.2.2.2.2.1
theorem dL_law_870 : decode cL_law 870 = .ok (.pop, 1) := dgL_law_592.2.2.2.2.2.2.2.2.2.2.2.2.1
theorem dL_law_871 : decode cL_law 871 = .ok (.goto 448, 3) := dgL_law_592.2.2.2.2.2.2.2.2.2.2.2.2.2.1
theorem dL_law_874 : decode cL_law 874 = .ok (.aload_n 1, 1) := dgL_law_592.2.2.2.2.2.2.2.2.2.2.2.2.2.2.1
theorem dL_law_875 : decode cL_law 875 = .ok (.aload_n 0, 1) := dgL_law_592.2.2.2.2.2.2.2.2.2.2.2.2.2.2.2
theorem dgL_law_608 : (decode cL_law 876 = .ok (.iload_n 3, 1)) ∧ (decode cL_law 877 = .ok (.iconst 1, 1)) ∧ (decode cL_law 878 = .ok (.iadd, 1)) ∧ (decode cL_law 879 = .ok (.iaload, 1)) ∧ (decode cL_law 880 = .ok (.invokevirtual 93, 3)) ∧ (decode cL_law 883 = .ok (.pop, 1)) ∧ (decode cL_law 884 = .ok (.aload_n 2, 1)) ∧ (decode cL_law 885 = .ok (.aload_n 0, 1)) ∧ (decode cL_law 886 = .ok (.iload_n 3, 1)) ∧ (decode cL_law 887 = .ok (.iconst 1, 1)) ∧ (decode cL_law 888 = .ok (.iadd, 1)) ∧ (decode cL_law 889 = .ok (.iaload, 1)) ∧ (decode cL_law 890 = .ok (.invokevirtual 96, 3)) ∧ (decode cL_law 893 = .ok (.pop, 1)) ∧ (decode cL_law 894 = .ok (.goto 425, 3)) ∧ (decode cL_law 897 = .ok (.aload_n 1, 1)) := by decide +kernel
theorem dL_law_876 : decode cL_law 876 = .ok (.iload_n 3, 1) := dgL_law_608.1
theorem dL_law_877 : decode cL_law 877 = .ok (.iconst 1, 1) := dgL_law_608.2.1
theorem dL_law_878 : decode cL_law 878 = .ok (.iadd, 1) := dgL_law_608.2.2.1
theorem dL_law_879 : decode cL_law 879 = .ok (.iaload, 1) := dgL_law_608.2.2.2.1
theorem dL_law_880 : decode cL_law 880 = .ok (.invokevirtual 93, 3) := dgL_law_608.2.2.2.2.1
theorem dL_law_883 : decode cL_law 883 = .ok (.pop, 1) := dgL_law_608.2.2.2.2.2.1
theorem dL_law_884 : decode cL_law 884 = .ok (.aload_n 2, 1) := dgL_law_608.2.2.2.2.2.2.1
theorem dL_law_885 : decode cL_law 885 = .ok (.aload_n 0, 1) := dgL_law_608.2.2.2.2.2.2.2.1
theorem dL_law_886 : decode cL_law 886 = .ok (.iload_n 3, 1) := dgL_law_608.2.2.2.2.2.2.2.2.1
theorem dL_law_887 : decode cL_law 887 = .ok (.iconst 1, 1) := dgL_law_608.2.2.2.2.2.2.2.2.2.1
theorem dL_law_888 : decode cL_law 888 = .ok (.iadd, 1) := dgL_law_608.2.2.2.2.2.2.2.2.2.2.1
theorem dL_law_889 : decode cL_law 889 = .ok (.iaload, 1) := dgL_law_608.2.2.2.2.2.2.2.2.2.2.2.1
theorem dL_law_890 : decode cL_law 890 = .ok (.invokevirtual 96, 3) := dgL_law_608.2.2.2.2.2.2.2.2.2.2.2.2.1
theorem dL_law_893 : decode cL_law 893 = .ok (.pop, 1) := dgL_law_608.2.2.2.2.2.2.2.2.2.2.2.2.2.1
theorem dL_law_894 : decode cL_law 894 = .ok (.goto 425, 3) := dgL_law_608.2.2.2.2.2.2.2.2.2.2.2.2.2.2.1
theorem dL_law_897 : decode cL_law 897 = .ok (.aload_n 1, 1) := dgL_law_608.2.2.2.2.2.2.2.2.2.2.2.2.2.2.2
theorem dgL_law_624 : (decode cL_law 898 = .ok (.aload_n 0, 1)) ∧ (decode cL_law 899 = .ok (.iload_n 3, 1)) ∧ (decode cL_law 900 = .ok (.iconst 1, 1)) ∧ (decode cL_law 901 = .ok (.iadd, 1)) ∧ (decode cL_law 902 = .ok (.iaload, 1)) ∧ (decode cL_law 903 = .ok (.invokevirtual 97, 3)) ∧ (decode cL_law 906 = .ok (.pop, 1)) ∧ (decode cL_law 907 = .ok (.aload_n 2, 1)) ∧ (decode cL_law 908 = .ok (.aload_n 0, 1)) ∧ (decode cL_law 909 = .ok (.iload_n 3, 1)) ∧ (decode cL_law 910 = .ok (.iconst 1, 1)) ∧ (decode cL_law 911 = .ok (.iadd, 1)) ∧ (decode cL_law 912 = .ok (.iaload, 1)) ∧ (decode cL_law 913 = .ok (.invokevirtual 100, 3)) ∧ (decode cL_law 916 = .ok (.pop, 1)) ∧ (decode cL_law 917 = .ok (.goto 402, 3)) := by decide +kernel
theorem dL_law_898 : decode cL_law 898 = .ok (.aload_n 0, 1) := dgL_law_624.1
theorem dL_law_899 : decode cL_law 899 = .ok (.iload_n 3, 1) := dgL_law_624.2.1
theorem dL_law_900 : decode cL_law 900 = .ok (.iconst 1, 1) := dgL_law_624.2.2.1
theorem dL_law_901 : decode cL_law 901 = .ok (.iadd, 1) := dgL_law_624.2.2.2.1
theorem dL_law_902 : decode cL_law 902 = .ok (.iaload, 1) := dgL_law_624.2.2.2.2.1
theorem dL_law_903 : decode cL_law 903 = .ok (.invokevirtual 97, 3) := dgL_law_624.2.2.2.2.2.1
theorem dL_law_906 : decode cL_law 906 = .ok (.pop, 1) := dgL_law_624.2.2.2.2.2.2.1
theorem dL_law_907 : decode cL_law 907 = .ok (.aload_n 2, 1) := dgL_law_624.2.2.2.2.2.2.2.1
theorem dL_law_908 : decode cL_law 908 = .ok (.aload_n 0, 1) := dgL_law_624.2.2.2.2.2.2.2.2.1
theorem dL_law_909 : decode cL_law 909 = .ok (.iload_n 3, 1) := dgL_law_624.2.2.2.2.2.2.2.2.2.1
theorem dL_law_910 : decode cL_law 910 = .ok (.iconst 1, 1) := dgL_law_624.2.2.2.2.2.2.2.2.2.2.1
theorem dL_law_911 : decode cL_law 911 = .ok (.iadd, 1) := dgL_law_624.2.2.2.2.2.2.2.2.2.2.2.1
theorem dL_law_912 : decode cL_law 912 = .ok (.iaload, 1) := dgL_law_624.2.2.2.2.2.2.2.2.2.2.2.2.1
theorem dL_law_913 : decode cL_law 913 = .ok (.invokevirtual 100, 3) := dgL_law_624.2.2.2.2.2.2.2.2.2.2.2.2.2.1
theorem dL_law_916 : decode cL_law 916 = .ok (.pop, 1) := dgL_law_624.2.2.2.2.2.2.2.2.2.2.2.2.2.2.1
theorem dL_law_917 : decode cL_law 917 = .ok (.goto 402, 3) := dgL_law_624.2.2.2.2.2.2.2.2.2.2.2.2.2.2.2
theorem dgL_law_640 : (decode cL_law 920 = .ok (.aload_n 1, 1)) ∧ (decode cL_law 921 = .ok (.aload_n 0, 1)) ∧ (decode cL_law 922 = .ok (.iload_n 3, 1)) ∧ (decode cL_law 923 = .ok (.iconst 1, 1)) ∧ (decode cL_law 924 = .ok (.iadd, 1)) ∧ (decode cL_law 925 = .ok (.iaload, 1)) ∧ (decode cL_law 926 = .ok (.aload_n 0, 1)) ∧ (decode cL_law 927 = .ok (.iload_n 3, 1)) ∧ (decode cL_law 928 = .ok (.iconst 2, 1)) ∧ (decode cL_law 929 = .ok (.iadd, 1)) ∧ (decode cL_law 930 = .ok (.iaload, 1)) ∧ (decode cL_law 931 = .ok (.invokevirtual 101, 3)) ∧ (decode cL_law 934 = .ok (.pop, 1)) ∧ (decode cL_law 935 = .ok (.aload_n 2, 1)) ∧ (decode cL_law 936 = .ok (.aload_n 0, 1)) ∧ (decode cL_law 937 = .ok (.iload_n 3, 1)) := by decide +kernel
theorem dL_law_920 : decode cL_law 920 = .ok (.aload_n 1, 1) := dgL_law_640.1
theorem dL_law_921 : decode cL_law 921 = .ok (.aload_n 0, 1) := dgL_law_640.2.1
theorem dL_law_922 : decode cL_law 922 = .ok (.iload_n 3, 1) := dgL_law_640.2.2.1
theorem dL_law_923 : decode cL_law 923 = .ok (.iconst 1, 1) := dgL_law_640.2.2.2.1
theorem dL_law_924 : decode cL_law 924 = .ok (.iadd, 1) := dgL_law_640.2.2.2.2.1
theorem dL_law_925 : decode cL_law 925 = .ok (.iaload, 1) := dgL_law_640.2.2.2.2.2.1
theorem dL_law_926 : decode cL_law 926 = .ok (.aload_n 0, 1) := dgL_law_640.2.2.2.2.2.2.1
theorem dL_law_927 : decode cL_law 927 = .ok (.iload_n 3, 1) := dgL_law_640.2.2.2.2.2.2.2.1
theorem dL_law_928 : decode cL_law 928 = .ok (.iconst 2, 1) := dgL_law_640.2.2.2.2.2.2.2.2.1
theorem dL_law_929 : decode cL_law 929 = .ok (.iadd, 1) := dgL_law_640.2.2.2.2.2.2.2.2.2.1
theorem dL_law_930 : decode cL_law 930 = .ok (.iaload, 1) := dgL_law_640.2.2.2.2.2.2.2.2.2.2.1
theorem dL_law_931 : decode cL_law 931 = .ok (.invokevirtual 101, 3) := dgL_law_640.2.2.2.2.2.2.2.2.2.2.2.1
theorem dL_law_934 : decode cL_law 934 = .ok (.pop, 1) := dgL_law_640.2.2.2.2.2.2.2.2.2.2.2.2.1
theorem dL_law_935 : decode cL_law 935 = .ok (.aload_n 2, 1) := dgL_law_640.2.2.2.2.2.2.2.2.2.2.2.2.2.1
theorem dL_law_936 : decode cL_law 936 = .ok (.aload_n 0, 1) := dgL_law_640.2.2.2.2.2.2.2.2.2.2.2.2.2.2.1
theorem dL_law_937 : decode cL_law 937 = .ok (.iload_n 3, 1) := dgL_law_640.2.2.2.2.2.2.2.2.2.2.2.2.2.2.2
theorem dgL_law_656 : (decode cL_law 938 = .ok (.iconst 1, 1)) ∧ (decode cL_law 939 = .ok (.iadd, 1)) ∧ (decode cL_law 940 = .ok (.iaload, 1)) ∧ (decode cL_law 941 = .ok (.aload_n 0, 1)) ∧ (decode cL_law 942 = .ok (.iload_n 3, 1)) ∧ (decode cL_law 943 = .ok (.iconst 2, 1)) ∧ (decode cL_law 944 = .ok (.iadd, 1)) ∧ (decode cL_law 945 = .ok (.iaload, 1)) ∧ (decode cL_law 946 = .ok (.invokevirtual 104, 3)) ∧ (decode cL_law 949 = .ok (.pop, 1)) ∧ (decode cL_law 950 = .ok (.goto 369, 3)) ∧ (decode cL_law 953 = .ok (.aload_n 1, 1)) ∧ (decode cL_law 954 = .ok (.aload_n 0, 1)) ∧ (decode cL_law 955 = .ok (.iload_n 3, 1)) ∧ (decode cL_law 956 = .ok (.iconst 1, 1)) ∧ (decode cL_law 957 = .ok (.iadd, 1)) := by decide +kernel
theorem dL_law_938 : decode cL_law 938 = .ok (.iconst 1, 1) := dgL_law_656.1
theorem dL_law_939 : decode cL_law 939 = .ok (.iadd, 1) := dgL_law_656.2.1
theorem dL_law_940 : decode cL_law 940 = .ok (.iaload, 1) := dgL_law_656.2.2.1
theorem dL_law_941 : decode cL_law 941 = .ok (.aload_n 0, 1) := dgL_law_656.2.2.2.1
theorem dL_law_942 : decode cL_law 942 = .ok (.iload_n 3, 1) := dgL_law_656.2.2.2.2.1
theorem dL_law_943 : decode cL_law 943 = .ok (.iconst 2, 1) := dgL_law_656.2.2.2.2.2.1
theorem dL_law_944 : decode cL_law 944 = .ok (.iadd, 1) := dgL_law_656.2.2.2.2.2.2.1
theorem dL_law_945 : decode cL_law 945 = .ok (.iaload, 1) := dgL_law_656.2.2.2.2.2.2.2.1
theorem dL_law_946 : decode cL_law 946 = .ok (.invokevirtual 104, 3) := dgL_law_656.2.2.2.2.2.2.2.2.1
theorem dL_law_949 : decode cL_law 949 = .ok (.pop, 1) := dgL_law_656.2.2.2.2.2.2.2.2.2.1
theorem dL_law_950 : decode cL_law 950 = .ok (.goto 369, 3) := dgL_law_656.2.2.2.2.2.2.2.2.2.2.1
theorem dL_law_953 : decode cL_law 953 = .ok (.aload_n 1, 1) := dgL_law_656.2.2.2.2.2.2.2.2.2.2.2.1
theorem dL_law_954 : decode cL_law 954 = .ok (.aload_n 0, 1) := dgL_law_656.2.2.2.2.2.2.2.2.2.2.2.2.1
theorem dL_law_955 : decode cL_law 955 = .ok (.iload_n 3, 1) := dgL_law_656.2.2.2.2.2.2.2.2.2.2.2.2.2.1
theorem dL_law_956 : decode cL_law 956 = .ok (.iconst 1, 1) := dgL_law_656.2.2.2.2.2.2.2.2.2.2.2.2.2.2.1
theorem dL_law_957 : decode cL_law 957 = .ok (.iadd, 1) := dgL_law_656.2.2.2.2.2.2.2.2.2.2.2.2.2.2.2
theorem dgL_law_672 : (decode cL_law 958 = .ok (.iaload, 1)) ∧ (decode cL_law 959 = .ok (.aload_n 0, 1)) ∧ (decode cL_law 960 = .ok (.iload_n 3, 1)) ∧ (decode cL_law 961 = .ok (.iconst 2, 1)) ∧ (decode cL_law 962 = .ok (.iadd, 1)) ∧ (decode cL_law 963 = .ok (.iaload, 1)) ∧ (decode cL_law 964 = .ok (.invokevirtual 105, 3)) ∧ (decode cL_law 967 = .ok (.pop, 1)) ∧ (decode cL_law 968 = .ok (.aload_n 2, 1)) ∧ (decode cL_law 969 = .ok (.aload_n 0, 1)) ∧ (decode cL_law 970 = .ok (.iload_n 3, 1)) ∧ (decode cL_law 971 = .ok (.iconst 1, 1)) ∧ (decode cL_law 972 = .ok (.iadd, 1)) ∧ (decode cL_law 973 = .ok (.iaload, 1)) ∧ (decode cL_law 974 = .ok (.aload_n 0, 1)) ∧ (decode cL_law 975 = .ok (.iload_n 3, 1)) := by decide +kernel
theorem dL_law_958 : decode cL_law 958 = .ok (.iaload, 1) := dgL_law_672.1
theorem dL_law_959 : decode cL_law 959 = .ok (.aload_n 0, 1) := dgL_law_672.2.1
theorem dL_law_960 : decode cL_law 960 = .ok (.iload_n 3, 1) := dgL_law_672.2.2.1
theorem dL_law_961 : decode cL_law 961 = .ok (.iconst 2, 1) := dgL_law_672.2.2.2.1
theorem dL_law_962 : decode cL_law 962 = .ok (.iadd, 1) := dgL_law_672.2.2.2.2.1
theorem dL_law_963 : decode cL_law 963 = .ok (.iaload, 1) := dgL_law_672.2.2.2.2.2.1
theorem dL_law_964 : decode cL_law 964 = .ok (.invokevirtual 105, 3) := dgL_law_672.2.2.2.2.2.2.1
theorem dL_law_967 : decode cL_law 967 = .ok (.pop, 1) := dgL_law_672.2.2.2.2.2.2.2.1
theorem dL_law_968 : decode cL_law 968 = .ok (.aload_n 2, 1) := dgL_law_672.2.2.2.2.2.2.2.2.1
theorem dL_law_969 : decode cL_law 969 = .ok (.aload_n 0, 1) := dgL_law_672.2.2.2.2.2.2.2.2.2.1
theorem dL_law_970 : decode cL_law 970 = .ok (.iload_n 3, 1) := dgL_law_672.2.2.2.2.2.2.2.2.2.2.1
theorem dL_law_971 : decode cL_law 971 = .ok (.iconst 1, 1) := dgL_law_672.2.2.2.2.2.2.2.2.2.2.2.1
theorem dL_law_972 : decode cL_law 972 = .ok (.iadd, 1) := dgL_law_672.2.2.2.2.2.2.2.2.2.2.2.2.1
theorem dL_law_973 : decode cL_law 973 = .ok (.iaload, 1) := dgL_law_672.2.2.2.2.2.2.2.2.2.2.2.2.2.1
theorem dL_law_974 : decode cL_law 974 = .ok (.aload_n 0, 1) := dgL_law_672.2.2.2.2.2.2.2.2.2.2.2.2.2.2.1
theorem dL_law_975 : decode cL_law 975 = .ok (.iload_n 3, 1) := dgL_law_672.2.2.2.2.2.2.2.2.2.2.2.2.2.2.2
theorem dgL_law_688 : (decode cL_law 976 = .ok (.iconst 2, 1)) ∧ (decode cL_law 977 = .ok (.iadd, 1)) ∧ (decode cL_law 978 = .ok (.iaload, 1)) ∧ (decode cL_law 979 = .ok (.invokevirtual 108, 3)) ∧ (decode cL_law 982 = .ok (.pop, 1)) ∧ (decode cL_law 983 = .ok (.goto 336, 3)) ∧ (decode cL_law 986 = .ok (.aload_n 1, 1)) ∧ (decode cL_law 987 = .ok (.aload_n 0, 1)) ∧ (decode cL_law 988 = .ok (.iload_n 3, 1)) ∧ (decode cL_law 989 = .ok (.iconst 1, 1)) ∧ (decode cL_law 990 = .ok (.iadd, 1)) ∧ (decode cL_law 991 = .ok (.iaload, 1)) ∧ (decode cL_law 992 = .ok (.aload_n 0, 1)) ∧ (decode cL_law 993 = .ok (.iload_n 3, 1)) ∧ (decode cL_law 994 = .ok (.iconst 2, 1)) ∧ (decode cL_law 995 = .ok (.iadd, 1)) := by decide +kernel
theorem dL_law_976 : decode cL_law 976 = .ok (.iconst 2, 1) := dgL_law_688.1
theorem dL_law_977 : decode cL_law 977 = .ok (.iadd, 1) := dgL_law_688.2.1
theorem dL_law_978 : decode cL_law 978 = .ok (.iaload, 1) := dgL_law_688.2.2.1
theorem dL_law_979 : decode cL_law 979 = .ok (.invokevirtual 108, 3) := dgL_law_688.2.2.2.1
theorem dL_law_982 : decode cL_law 982 = .ok (.pop, 1) := dgL_law_688.2.2.2.2.1
theorem dL_law_983 : decode cL_law 983 = .ok (.goto 336, 3) := dgL_law_688.2.2.2.2.2.1
theorem dL_law_986 : decode cL_law 986 = .ok (.aload_n 1, 1) := dgL_law_688.2.2.2.2.2.2.1
theorem dL_law_987 : decode cL_law 987 = .ok (.aload_n 0, 1) := dgL_law_688.2.2.2.2.2.2.2.1
theorem dL_law_988 : decode cL_law 988 = .ok (.iload_n 3, 1) := dgL_law_688.2.2.2.2.2.2.2.2.1
theorem dL_law_989 : decode cL_law 989 = .ok (.iconst 1, 1) := dgL_law_688.2.2.2.2.2.2.2.2.2.1
theorem dL_law_990 : decode cL_law 990 = .ok (.iadd, 1) := dgL_law_688.2.2.2.2.2.2.2.2.2.2.1
theorem dL_law_991 : decode cL_law 991 = .ok (.iaload, 1) := dgL_law_688.2.2.2.2.2.2.2.2.2.2.2.1
theorem dL_law_992 : decode cL_law 992 = .ok (.aload_n 0, 1) := dgL_law_688.2.2.2.2.2.2.2.2.2.2.2.2.1
theorem dL_law_993 : decode cL_law 993 = .ok (.iload_n 3, 1) := dgL_law_688.2.2.2.2.2.2.2.2.2.2.2.2.2.1
theorem dL_law_994 : decode cL_law 994 = .ok (.iconst 2, 1) := dgL_law_688.2.2.2.2.2.2.2.2.2.2.2.2.2.2.1
theorem dL_law_995 : decode cL_law 995 = .ok (.iadd, 1) := dgL_law_688.2.2.2.2.2.2.2.2.2.2.2.2.2.2.2
theorem dgL_law_704 : (decode cL_law 996 = .ok (.iaload, 1)) ∧ (decode cL_law 997 = .ok (.aload_n 0, 1)) ∧ (decode cL_law 998 = .ok (.iload_n 3, 1)) ∧ (decode cL_law 999 = .ok (.iconst 3, 1)) ∧ (decode cL_law 1000 = .ok (.iadd, 1)) ∧ (decode cL_law 1001 = .ok (.iaload, 1)) ∧ (decode cL_law 1002 = .ok (.invokevirtual 109, 3)) ∧ (decode cL_law 1005 = .ok (.pop, 1)) ∧ (decode cL_law 1006 = .ok (.aload_n 2, 1)) ∧ (decode cL_law 1007 = .ok (.aload_n 0, 1)) ∧ (decode cL_law 1008 = .ok (.iload_n 3, 1)) ∧ (decode cL_law 1009 = .ok (.iconst 1, 1)) ∧ (decode cL_law 1010 = .ok (.iadd, 1)) ∧ (decode cL_law 1011 = .ok (.iaload, 1)) ∧ (decode cL_law 1012 = .ok (.aload_n 0, 1)) ∧ (decode cL_law 1013 = .ok (.iload_n 3, 1)) := by decide +kernel
theorem dL_law_996 : decode cL_law 996 = .ok (.iaload, 1) := dgL_law_704.1
theorem dL_law_997 : decode cL_law 997 = .ok (.aload_n 0, 1) := dgL_law_704.2.1
theorem dL_law_998 : decode cL_law 998 = .ok (.iload_n 3, 1) := dgL_law_704.2.2.1
theorem dL_law_999 : decode cL_law 999 = .ok (.iconst 3, 1) := dgL_law_704.2.2.2.1
theorem dL_law_1000 : decode cL_law 1000 = .ok (.iadd, 1) := dgL_law_704.2.2.2.2.1
theorem dL_law_1001 : decode cL_law 1001 = .ok (.iaload, 1) := dgL_law_704.2.2.2.2.2.1
theorem dL_law_1002 : decode cL_law 1002 = .ok (.invokevirtual 109, 3) := dgL_law_704.2.2.2.2.2.2.1
theorem dL_law_1005 : decode cL_law 1005 = .ok (.pop, 1) := dgL_law_704.2.2.2.2.2.2.2.1
theorem dL_law_1006 : decode cL_law 1006 = .ok (.aload_n 2, 1) := dgL_law_704.2.2.2.2.2.2.2.2.1
theorem dL_law_1007 : decode cL_law 1007 = .ok (.aload_n 0, 1) := dgL_law_704.2.2.2.2.2.2.2.2.2.1
theorem dL_law_1008 : decode cL_law 1008 = .ok (.iload_n 3, 1) := dgL_law_704.2.2.2.2.2.2.2.2.2.2.1
theorem dL_law_1009 : decode cL_law 1009 = .ok (.iconst 1, 1) := dgL_law_704.2.2.2.2.2.2.2.2.2.2.2.1
theorem dL_law_1010 : decode cL_law 1010 = .ok (.iadd, 1) := dgL_law_704.2.2.2.2.2.2.2.2.2.2.2.2.1
theorem dL_law_1011 : decode cL_law 1011 = .ok (.iaload, 1) := dgL_law_704.2.2.2.2.2.2.2.2.2.2.2.2.2.1
theorem dL_law_1012 : decode cL_law 1012 = .ok (.aload_n 0, 1) := dgL_law_704.2.2.2.2.2.2.2.2.2.2.2.2.2.2.1
theorem dL_law_1013 : decode cL_law 1013 = .ok (.iload_n 3, 1) := dgL_law_704.2.2.2.2.2.2.2.2.2.2.2.2.2.2.2
theorem dgL_law_720 : (decode cL_law 1014 = .ok (.iconst 2, 1)) ∧ (decode cL_law 1015 = .ok (.iadd, 1)) ∧ (decode cL_law 1016 = .ok (.iaload, 1)) ∧ (decode cL_law 1017 = .ok (.aload_n 0, 1)) ∧ (decode cL_law 1018 = .ok (.iload_n 3, 1)) ∧ (decode cL_law 1019 = .ok (.iconst 3, 1)) ∧ (decode cL_law 1020 = .ok (.iadd, 1)) ∧ (decode cL_law 1021 = .ok (.iaload, 1)) ∧ (decode cL_law 1022 = .ok (.invokevirtual 112, 3)) ∧ (decode cL_law 1025 = .ok (.pop, 1)) ∧ (decode cL_law 1026 = .ok (.goto 293, 3)) ∧ (decode cL_law 1029 = .ok (.aload_n 1, 1)) ∧ (decode cL_law 1030 = .ok (.aload_n 0, 1)) ∧ (decode cL_law 1031 = .ok (.iload_n 3, 1)) ∧ (decode cL_law 1032 = .ok (.iconst 1, 1)) ∧ (decode cL_law 1033 = .ok (.iadd, 1)) := by decide +kernel
theorem dL_law_1014 : decode cL_law 1014 = .ok (.iconst 2, 1) := dgL_law_720.1
theorem dL_law_1015 : decode cL_law 1015 = .ok (.iadd, 1) := dgL_law_720.2.1
theorem dL_law_1016 : decode cL_law 1016 = .ok (.iaload, 1) := dgL_law_720.2.2.1
theorem dL_law_1017 : decode cL_law 1017 = .ok (.aload_n 0, 1) := dgL_law_720.2.2.2.1
theorem dL_law_1018 : decode cL_law 1018 = .ok (.iload_n 3, 1) := dgL_law_720.2.2.2.2.1
theorem dL_law_1019 : decode cL_law 1019 = .ok (.iconst 3, 1) := dgL_law_720.2.2.2.2.2.1
theorem dL_law_1020 : decode cL_law 1020 = .ok (.iadd, 1) := dgL_law_720.2.2.2.2.2.2.1
theorem dL_law_1021 : decode cL_law 1021 = .ok (.iaload, 1) := dgL_law_720.2.2.2.2.2.2.2.1
theorem dL_law_1022 : decode cL_law 1022 = .ok (.invokevirtual 112, 3) := dgL_law_720.2.2.2.2.2.2.2.2.1
theorem dL_law_1025 : decode cL_law 1025 = .ok (.pop, 1) := dgL_law_720.2.2.2.2.2.2.2.2.2.1
theorem dL_law_1026 : decode cL_law 1026 = .ok (.goto 293, 3) := dgL_law_720.2.2.2.2.2.2.2.2.2.2.1
theorem dL_law_1029 : decode cL_law 1029 = .ok (.aload_n 1, 1) := dgL_law_720.2.2.2.2.2.2.2.2.2.2.2.1
theorem dL_law_1030 : decode cL_law 1030 = .ok (.aload_n 0, 1) := dgL_law_720.2.2.2.2.2.2.2.2.2.2.2.2.1
theorem dL_law_1031 : decode cL_law 1031 = .ok (.iload_n 3, 1) := dgL_law_720.2.2.2.2.2.2.2.2.2.2.2.2.2.1
theorem dL_law_1032 : decode cL_law 1032 = .ok (.iconst 1, 1) := dgL_law_720.2.2.2.2.2.2.2.2.2.2.2.2.2.2.1
theorem dL_law_1033 : decode cL_law 1033 = .ok (.iadd, 1) := dgL_law_720.2.2.2.2.2.2.2.2.2.2.2.2.2.2.2
theorem dgL_law_736 : (decode cL_law 1034 = .ok (.iaload, 1)) ∧ (decode cL_law 1035 = .ok (.aload_n 0, 1)) ∧ (decode cL_law 1036 = .ok (.iload_n 3, 1)) ∧ (decode cL_law 1037 = .ok (.iconst 2, 1)) ∧ (decode cL_law 1038 = .ok (.iadd, 1)) ∧ (decode cL_law 1039 = .ok (.iaload, 1)) ∧ (decode cL_law 1040 = .ok (.aload_n 0, 1)) ∧ (decode cL_law 1041 = .ok (.iload_n 3, 1)) ∧ (decode cL_law 1042 = .ok (.iconst 3, 1)) ∧ (decode cL_law 1043 = .ok (.iadd, 1)) ∧ (decode cL_law 1044 = .ok (.iaload, 1)) ∧ (decode cL_law 1045 = .ok (.aload_n 0, 1)) ∧ (decode cL_law 1046 = .ok (.iload_n 3, 1)) ∧ (decode cL_law 1047 = .ok (.iconst 4, 1)) ∧ (decode cL_law 1048 = .ok (.iadd, 1)) ∧ (decode cL_law 1049 = .ok (.iaload, 1)) := by decide +kernel
theorem dL_law_1034 : decode cL_law 1034 = .ok (.iaload, 1) := dgL_law_736.1
theorem dL_law_1035 : decode cL_law 1035 = .ok (.aload_n 0, 1) := dgL_law_736.2.1
theorem dL_law_1036 : decode cL_law 1036 = .ok (.iload_n 3, 1) := dgL_law_736.2.2.1
theorem dL_law_1037 : decode cL_law 1037 = .ok (.iconst 2, 1) := dgL_law_736.2.2.2.1
theorem dL_law_1038 : decode cL_law 1038 = .ok (.iadd, 1) := dgL_law_736.2.2.2.2.1
theorem dL_law_1039 : decode cL_law 1039 = .ok (.iaload, 1) := dgL_law_736.2.2.2.2.2.1
theorem dL_law_1040 : decode cL_law 1040 = .ok (.aload_n 0, 1) := dgL_law_736.2.2.2.2.2.2.1
theorem dL_law_1041 : decode cL_law 1041 = .ok (.iload_n 3, 1) := dgL_law_736.2.2.2.2.2.2.2.1
theorem dL_law_1042 : decode cL_law 1042 = .ok (.iconst 3, 1) := dgL_law_736.2.2.2.2.2.2.2.2.1
theorem dL_law_1043 : decode cL_law 1043 = .ok (.iadd, 1) := dgL_law_736.2.2.2.2.2.2.2.2.2.1
theorem dL_law_1044 : decode cL_law 1044 = .ok (.iaload, 1) := dgL_law_736.2.2.2.2.2.2.2.2.2.2.1
theorem dL_law_1045 : decode cL_law 1045 = .ok (.aload_n 0, 1) := dgL_law_736.2.2.2.2.2.2.2.2.2.2.2.1
theorem dL_law_1046 : decode cL_law 1046 = .ok (.iload_n 3, 1) := dgL_law_736.2.2.2.2.2.2.2.2.2.2.2.2.1
theorem dL_law_1047 : decode cL_law 1047 = .ok (.iconst 4, 1) := dgL_law_736.2.2.2.2.2.2.2.2.2.2.2.2.2.1
theorem dL_law_1048 : decode cL_law 1048 = .ok (.iadd, 1) := dgL_law_736.2.2.2.2.2.2.2.2.2.2.2.2.2.2.1
theorem dL_law_1049 : decode cL_law 1049 = .ok (.iaload, 1) := dgL_law_736.2.2.2.2.2.2.2.2.2.2.2.2.2.2.2
theorem dgL_law_752 : (decode cL_law 1050 = .ok (.invokevirtual 113, 3)) ∧ (decode cL_law 1053 = .ok (.pop, 1)) ∧ (decode cL_law 1054 = .ok (.aload_n 2, 1)) ∧ (decode cL_law 1055 = .ok (.aload_n 0, 1)) ∧ (decode cL_law 1056 = .ok (.iload_n 3, 1)) ∧ (decode cL_law 1057 = .ok (.iconst 1, 1)) ∧ (decode cL_law 1058 = .ok (.iadd, 1)) ∧ (decode cL_law 1059 = .ok (.iaload, 1)) ∧ (decode cL_law 1060 = .ok (.aload_n 0, 1)) ∧ (decode cL_law 1061 = .ok (.iload_n 3, 1)) ∧ (decode cL_law 1062 = .ok (.iconst 2, 1)) ∧ (decode cL_law 1063 = .ok (.iadd, 1)) ∧ (decode cL_law 1064 = .ok (.iaload, 1)) ∧ (decode cL_law 1065 = .ok (.aload_n 0, 1)) ∧ (decode cL_law 1066 = .ok (.iload_n 3, 1)) ∧ (decode cL_law 1067 = .ok (.iconst 3, 1)) := by decide +kernel
theorem dL_law_1050 : decode cL_law 1050 = .ok (.invokevirtual 113, 3) := dgL_law_752.1
theorem dL_law_1053 : decode cL_law 1053 = .ok (.pop, 1) := dgL_law_752.2.1
theorem dL_law_1054 : decode cL_law 1054 = .ok (.aload_n 2, 1) := dgL_law_752.2.2.1
theorem dL_law_1055 : decode cL_law 1055 = .ok (.aload_n 0, 1) := dgL_law_752.2.2.2.1
theorem dL_law_1056 : decode cL_law 1056 = .ok (.iload_n 3, 1) := dgL_law_752.2.2.2.2.1
theorem dL_law_1057 : decode cL_law 1057 = .ok (.iconst 1, 1) := dgL_law_752.2.2.2.2.2.1
theorem dL_law_1058 : decode cL_law 1058 = .ok (.iadd, 1) := dgL_law_752.2.2.2.2.2.2.1
theorem dL_law_1059 : decode cL_law 1059 = .ok (.iaload, 1) := dgL_law_752.2.2.2.2.2.2.2.1
theorem dL_law_1060 : decode cL_law 1060 = .ok (.aload_n 0, 1) := dgL_law_752.2.2.2.2.2.2.2.2.1
theorem dL_law_1061 : decode cL_law 1061 = .ok (.iload_n 3, 1) := dgL_law_752.2.2.2.2.2.2.2.2.2.1
theorem dL_law_1062 : decode cL_law 1062 = .ok (.iconst 2, 1) := dgL_law_752.2.2.2.2.2.2.2.2.2.2.1
theorem dL_law_1063 : decode cL_law 1063 = .ok (.iadd, 1) := dgL_law_752.2.2.2.2.2.2.2.2.2.2.2.1
theorem dL_law_1064 : decode cL_law 1064 = .ok (.iaload, 1) := dgL_law_752.2.2.2.2.2.2.2.2.2.2.2.2.1
theorem dL_law_1065 : decode cL_law 1065 = .ok (.aload_n 0, 1) := dgL_law_752.2.2.2.2.2.2.2.2.2.2.2.2.2.1
theorem dL_law_1066 : decode cL_law 1066 = .ok (.iload_n 3, 1) := dgL_law_752.2.2.2.2.2.2.2.2.2.2.2.2.2.2.1
theorem dL_law_1067 : decode cL_law 1067 = .ok (.iconst 3, 1) := dgL_law_752.2.2.2.2.2.2.2.2.2.2.2.2.2.2.2
theorem dgL_law_768 : (decode cL_law 1068 = .ok (.iadd, 1)) ∧ (decode cL_law 1069 = .ok (.iaload, 1)) ∧ (decode cL_law 1070 = .ok (.aload_n 0, 1)) ∧ (decode cL_law 1071 = .ok (.iload_n 3, 1)) ∧ (decode cL_law 1072 = .ok (.iconst 4, 1)) ∧ (decode cL_law 1073 = .ok (.iadd, 1)) ∧ (decode cL_law 1074 = .ok (.iaload, 1)) ∧ (decode cL_law 1075 = .ok (.invokevirtual 117, 3)) ∧ (decode cL_law 1078 = .ok (.pop, 1)) ∧ (decode cL_law 1079 = .ok (.goto 240, 3)) ∧ (decode cL_law 1082 = .ok (.aload_n 1, 1)) ∧ (decode cL_law 1083 = .ok (.aload_n 0, 1)) ∧ (decode cL_law 1084 = .ok (.iload_n 3, 1)) ∧ (decode cL_law 1085 = .ok (.iconst 1, 1)) ∧ (decode cL_law 1086 = .ok (.iadd, 1)) ∧ (decode cL_law 1087 = .ok (.iaload, 1)) := by decide +kernel
theorem dL_law_1068 : decode cL_law 1068 = .ok (.iadd, 1) := dgL_law_768.1
theorem dL_law_1069 : decode cL_law 1069 = .ok (.iaload, 1) := dgL_law_768.2.1
theorem dL_law_1070 : decode cL_law 1070 = .ok (.aload_n 0, 1) := dgL_law_768.2.2.1
theorem dL_law_1071 : decode cL_law 1071 = .ok (.iload_n 3, 1) := dgL_law_768.2.2.2.1
theorem dL_law_1072 : decode cL_law 1072 = .ok (.iconst 4, 1) := dgL_law_768.2.2.2.2.1
theorem dL_law_1073 : decode cL_law 1073 = .ok (.iadd, 1) := dgL_law_768.2.2.2.2.2.1
theorem dL_law_1074 : decode cL_law 1074 = .ok (.iaload, 1) := dgL_law_768.2.2.2.2.2.2.1
theorem dL_law_1075 : decode cL_law 1075 = .ok (.invokevirtual 117, 3) := dgL_law_768.2.2.2.2.2.2.2.1
theorem dL_law_1078 : decode cL_law 1078 = .ok (.pop, 1) := dgL_law_768.2.2.2.2.2.2.2.2.1
theorem dL_law_1079 : decode cL_law 1079 = .ok (.goto 240, 3) := dgL_law_768.2.2.2.2.2.2.2.2.2.1
theorem dL_law_1082 : decode cL_law 1082 = .ok (.aload_n 1, 1) := dgL_law_768.2.2.2.2.2.2.2.2.2.2.1
theorem dL_law_1083 : decode cL_law 1083 = .ok (.aload_n 0, 1) := dgL_law_768.2.2.2.2.2.2.2.2.2.2.2.1
theorem dL_law_1084 : decode cL_law 1084 = .ok (.iload_n 3, 1) := dgL_law_768.2.2.2.2.2.2.2.2.2.2.2.2.1
theorem dL_law_1085 : decode cL_law 1085 = .ok (.iconst 1, 1) := dgL_law_768.2.2.2.2.2.2.2.2.2.2.2.2.2.1
theorem dL_law_1086 : decode cL_law 1086 = .ok (.iadd, 1) := dgL_law_768.2.2.2.2.2.2.2.2.2.2.2.2.2.2.1
theorem dL_law_1087 : decode cL_law 1087 = .ok (.iaload, 1) := dgL_law_768.2.2.2.2.2.2.2.2.2.2.2.2.2.2.2
theorem dgL_law_784 : (decode cL_law 1088 = .ok (.aload_n 0, 1)) ∧ (decode cL_law 1089 = .ok (.iload_n 3, 1)) ∧ (decode cL_law 1090 = .ok (.iconst 2, 1)) ∧ (decode cL_law 1091 = .ok (.iadd, 1)) ∧ (decode cL_law 1092 = .ok (.iaload, 1)) ∧ (decode cL_law 1093 = .ok (.invokevirtual 118, 3)) ∧ (decode cL_law 1096 = .ok (.pop, 1)) ∧ (decode cL_law 1097 = .ok (.aload_n 2, 1)) ∧ (decode cL_law 1098 = .ok (.aload_n 0, 1)) ∧ (decode cL_law 1099 = .ok (.iload_n 3, 1)) ∧ (decode cL_law 1100 = .ok (.iconst 1, 1)) ∧ (decode cL_law 1101 = .ok (.iadd, 1)) ∧ (decode cL_law 1102 = .ok (.iaload, 1)) ∧ (decode cL_law 1103 = .ok (.aload_n 0, 1)) ∧ (decode cL_law 1104 = .ok (.iload_n 3, 1)) ∧ (decode cL_law 1105 = .ok (.iconst 2, 1)) := by decide +kernel
theorem dL_law_1088 : decode cL_law 1088 = .ok (.aload_n 0, 1) := dgL_law_784.1
theorem dL_law_1089 : decode cL_law 1089 = .ok (.iload_n 3, 1) := dgL_law_784.2.1
theorem dL_law_1090 : decode cL_law 1090 = .ok (.iconst 2, 1) := dgL_law_784.2.2.1
theorem dL_law_1091 : decode cL_law 1091 = .ok (.iadd, 1) := dgL_law_784.2.2.2.1
theorem dL_law_1092 : decode cL_law 1092 = .ok (.iaload, 1) := dgL_law_784.2.2.2.2.1
theorem dL_law_1093 : decode cL_law 1093 = .ok (.invokevirtual 118, 3) := dgL_law_784.2.2.2.2.2.1
theorem dL_law_1096 : decode cL_law 1096 = .ok (.pop, 1) := dgL_law_784.2.2.2.2.2.2.1
theorem dL_law_1097 : decode cL_law 1097 = .ok (.aload_n 2, 1) := dgL_law_784.2.2.2.2.2.2.2.1
theorem dL_law_1098 : decode cL_law 1098 = .ok (.aload_n 0, 1) := dgL_law_784.2.2.2.2.2.2.2.2.1
theorem dL_law_1099 : decode cL_law 1099 = .ok (.iload_n 3, 1) := dgL_law_784.2.2.2.2.2.2.2.2.2.1
theorem dL_law_1100 : decode cL_law 1100 = .ok (.iconst 1, 1) := dgL_law_784.2.2.2.2.2.2.2.2.2.2.1
theorem dL_law_1101 : decode cL_law 1101 = .ok (.iadd, 1) := dgL_law_784.2.2.2.2.2.2.2.2.2.2.2.1
theorem dL_law_1102 : decode cL_law 1102 = .ok (.iaload, 1) := dgL_law_784.2.2.2.2.2.2.2.2.2.2.2.2.1
theorem dL_law_1103 : decode cL_law 1103 = .ok (.aload_n 0, 1) := dgL_law_784.2.2.2.2.2.2.2.2.2.2.2.2.2.1
theorem dL_law_1104 : decode cL_law 1104 = .ok (.iload_n 3, 1) := dgL_law_784.2.2.2.2.2.2.2.2.2.2.2.2.2.2.1
theorem dL_law_1105 : decode cL_law 1105 = .ok (.iconst 2, 1) := dgL_law_784.2.2.2.2.2.2.2.2.2.2.2.2.2.2.2
theorem dgL_law_800 : (decode cL_law 1106 = .ok (.iadd, 1)) ∧ (decode cL_law 1107 = .ok (.iaload, 1)) ∧ (decode cL_law 1108 = .ok (.invokevirtual 121, 3)) ∧ (decode cL_law 1111 = .ok (.pop, 1)) ∧ (decode cL_law 1112 = .ok (.goto 207, 3)) ∧ (decode cL_law 1115 = .ok (.aload_n 1, 1)) ∧ (decode cL_law 1116 = .ok (.aload_n 0, 1)) ∧ (decode cL_law 1117 = .ok (.iload_n 3, 1)) ∧ (decode cL_law 1118 = .ok (.iconst 1, 1)) ∧ (decode cL_law 1119 = .ok (.iadd, 1)) ∧ (decode cL_law 1120 = .ok (.iaload, 1)) ∧ (decode cL_law 1121 = .ok (.aload_n 0, 1)) ∧ (decode cL_law 1122 = .ok (.iload_n 3, 1)) ∧ (decode cL_law 1123 = .ok (.iconst 2, 1)) ∧ (decode cL_law 1124 = .ok (.iadd, 1)) ∧ (decode cL_law 1125 = .ok (.iaload, 1)) := by decide +kernel
theorem dL_law_1106 : decode cL_law 1106 = .ok (.iadd, 1) := dgL_law_800.1
theorem dL_law_1107 : decode cL_law 1107 = .ok (.iaload, 1) := dgL_law_800.2.1
theorem dL_law_1108 : decode cL_law 1108 = .ok (.invokevirtual 121, 3) := dgL_law_800.2.2.1
theorem dL_law_1111 : decode cL_law 1111 = .ok (.pop, 1) := dgL_law_800.2.2.2.1
theorem dL_law_1112 : decode cL_law 1112 = .ok (.goto 207, 3) := dgL_law_800.2.2.2.2.1
theorem dL_law_1115 : decode cL_law 1115 = .ok (.aload_n 1, 1) := dgL_law_800.2.2.2.2.2.1
theorem dL_law_1116 : decode cL_law 1116 = .ok (.aload_n 0, 1) := dgL_law_800.2.2.2.2.2.2.1
theorem dL_law_1117 : decode cL_law 1117 = .ok (.iload_n 3, 1) := dgL_law_800.2.2.2.2.2.2.2.1
theorem dL_law_1118 : decode cL_law 1118 = .ok (.iconst 1, 1) := dgL_law_800.2.2.2.2.2.2.2.2.1
theorem dL_law_1119 : decode cL_law 1119 = .ok (.iadd, 1) := dgL_law_800.2.2.2.2.2.2.2.2.2.1
theorem dL_law_1120 : decode cL_law 1120 = .ok (.iaload, 1) := dgL_law_800.2.2.2.2.2.2.2.2.2.2.1
theorem dL_law_1121 : decode cL_law 1121 = .ok (.aload_n 0, 1) := dgL_law_800.2.2.2.2.2.2.2.2.2.2.2.1
theorem dL_law_1122 : decode cL_law 1122 = .ok (.iload_n 3, 1) := dgL_law_800.2.2.2.2.2.2.2.2.2.2.2.2.1
theorem dL_law_1123 : decode cL_law 1123 = .ok (.iconst 2, 1) := dgL_law_800.2.2.2.2.2.2.2.2.2.2.2.2.2.1
theorem dL_law_1124 : decode cL_law 1124 = .ok (.iadd, 1) := dgL_law_800.2.2.2.2.2.2.2.2.2.2.2.2.2.2.1
theorem dL_law_1125 : decode cL_law 1125 = .ok (.iaload, 1) := dgL_law_800.2.2.2.2.2.2.2.2.2.2.2.2.2.2.2
theorem dgL_law_816 : (decode cL_law 1126 = .ok (.aload_n 0, 1)) ∧ (decode cL_law 1127 = .ok (.iload_n 3, 1)) ∧ (decode cL_law 1128 = .ok (.iconst 3, 1)) ∧ (decode cL_law 1129 = .ok (.iadd, 1)) ∧ (decode cL_law 1130 = .ok (.iaload, 1)) ∧ (decode cL_law 1131 = .ok (.invokevirtual 122, 3)) ∧ (decode cL_law 1134 = .ok (.pop, 1)) ∧ (decode cL_law 1135 = .ok (.aload_n 2, 1)) ∧ (decode cL_law 1136 = .ok (.aload_n 0, 1)) ∧ (decode cL_law 1137 = .ok (.iload_n 3, 1)) ∧ (decode cL_law 1138 = .ok (.iconst 1, 1)) ∧ (decode cL_law 1139 = .ok (.iadd, 1)) ∧ (decode cL_law 1140 = .ok (.iaload, 1)) ∧ (decode cL_law 1141 = .ok (.aload_n 0, 1)) ∧ (decode cL_law 1142 = .ok (.iload_n 3, 1)) ∧ (decode cL_law 1143 = .ok (.iconst 2, 1)) := by decide +kernel
theorem dL_law_1126 : decode cL_law 1126 = .ok (.aload_n 0, 1) := dgL_law_816.1
theorem dL_law_1127 : decode cL_law 1127 = .ok (.iload_n 3, 1) := dgL_law_816.2.1
theorem dL_law_1128 : decode cL_law 1128 = .ok (.iconst 3, 1) := dgL_law_816.2.2.1
theorem dL_law_1129 : decode cL_law 1129 = .ok (.iadd, 1) := dgL_law_816.2.2.2.1
theorem dL_law_1130 : decode cL_law 1130 = .ok (.iaload, 1) := dgL_law_816.2.2.2.2.1
theorem dL_law_1131 : decode cL_law 1131 = .ok (.invokevirtual 122, 3) := dgL_law_816.2.2.2.2.2.1
theorem dL_law_1134 : decode cL_law 1134 = .ok (.pop, 1) := dgL_law_816.2.2.2.2.2.2.1
theorem dL_law_1135 : decode cL_law 1135 = .ok (.aload_n 2, 1) := dgL_law_816.2.2.2.2.2.2.2.1
theorem dL_law_1136 : decode cL_law 1136 = .ok (.aload_n 0, 1) := dgL_law_816.2.2.2.2.2.2.2.2.1
theorem dL_law_1137 : decode cL_law 1137 = .ok (.iload_n 3, 1) := dgL_law_816.2.2.2.2.2.2.2.2.2.1
theorem dL_law_1138 : decode cL_law 1138 = .ok (.iconst 1, 1) := dgL_law_816.2.2.2.2.2.2.2.2.2.2.1
theorem dL_law_1139 : decode cL_law 1139 = .ok (.iadd, 1) := dgL_law_816.2.2.2.2.2.2.2.2.2.2.2.1
theorem dL_law_1140 : decode cL_law 1140 = .ok (.iaload, 1) := dgL_law_816.2.2.2.2.2.2.2.2.2.2.2.2.1
theorem dL_law_1141 : decode cL_law 1141 = .ok (.aload_n 0, 1) := dgL_law_816.2.2.2.2.2.2.2.2.2.2.2.2.2.1
theorem dL_law_1142 : decode cL_law 1142 = .ok (.iload_n 3, 1) := dgL_law_816.2.2.2.2.2.2.2.2.2.2.2.2.2.2.1
theorem dL_law_1143 : decode cL_law 1143 = .ok (.iconst 2, 1) := dgL_law_816.2.2.2.2.2.2.2.2.2.2.2.2.2.2.2
theorem dgL_law_832 : (decode cL_law 1144 = .ok (.iadd, 1)) ∧ (decode cL_law 1145 = .ok (.iaload, 1)) ∧ (decode cL_law 1146 = .ok (.aload_n 0, 1)) ∧ (decode cL_law 1147 = .ok (.iload_n 3, 1)) ∧ (decode cL_law 1148 = .ok (.iconst 3, 1)) ∧ (decode cL_law 1149 = .ok (.iadd, 1)) ∧ (decode cL_law 1150 = .ok (.iaload, 1)) ∧ (decode cL_law 1151 = .ok (.invokevirtual 125, 3)) ∧ (decode cL_law 1154 = .ok (.pop, 1)) ∧ (decode cL_law 1155 = .ok (.goto 164, 3)) ∧ (decode cL_law 1158 = .ok (.aload_n 1, 1)) ∧ (decode cL_law 1159 = .ok (.aload_n 0, 1)) ∧ (decode cL_law 1160 = .ok (.iload_n 3, 1)) ∧ (decode cL_law 1161 = .ok (.iconst 1, 1)) ∧ (decode cL_law 1162 = .ok (.iadd, 1)) ∧ (decode cL_law 1163 = .ok (.iaload, 1)) := by decide +kernel
theorem dL_law_1144 : decode cL_law 1144 = .ok (.iadd, 1) := dgL_law_832.1
theorem dL_law_1145 : decode cL_law 1145 = .ok (.iaload, 1) := dgL_law_832.2.1
theorem dL_law_1146 : decode cL_law 1146 = .ok (.aload_n 0, 1) := dgL_law_832.2.2.1
theorem dL_law_1147 : decode cL_law 1147 = .ok (.iload_n 3, 1) := dgL_law_832.2.2.2.1
theorem dL_law_1148 : decode cL_law 1148 = .ok (.iconst 3, 1) := dgL_law_832.2.2.2.2.1
theorem dL_law_1149 : decode cL_law 1149 = .ok (.iadd, 1) := dgL_law_832.2.2.2.2.2.1
theorem dL_law_1150 : decode cL_law 1150 = .ok (.iaload, 1) := dgL_law_832.2.2.2.2.2.2.1
theorem dL_law_1151 : decode cL_law 1151 = .ok (.invokevirtual 125, 3) := dgL_law_832.2.2.2.2.2.2.2.1
theorem dL_law_1154 : decode cL_law 1154 = .ok (.pop, 1) := dgL_law_832.2.2.2.2.2.2.2.2.1
theorem dL_law_1155 : decode cL_law 1155 = .ok (.goto 164, 3) := dgL_law_832.2.2.2.2.2.2.2.2.2.1
theorem dL_law_1158 : decode cL_law 1158 = .ok (.aload_n 1, 1) := dgL_law_832.2.2.2.2.2.2.2.2.2.2.1
theorem dL_law_1159 : decode cL_law 1159 = .ok (.aload_n 0, 1) := dgL_law_832.2.2.2.2.2.2.2.2.2.2.2.1
theorem dL_law_1160 : decode cL_law 1160 = .ok (.iload_n 3, 1) := dgL_law_832.2.2.2.2.2.2.2.2.2.2.2.2.1
theorem dL_law_1161 : decode cL_law 1161 = .ok (.iconst 1, 1) := dgL_law_832.2.2.2.2.2.2.2.2.2.2.2.2.2.1
theorem dL_law_1162 : decode cL_law 1162 = .ok (.iadd, 1) := dgL_law_832.2.2.2.2.2.2.2.2.2.2.2.2.2.2.1
theorem dL_law_1163 : decode cL_law 1163 = .ok (.iaload, 1) := dgL_law_832.2.2.2.2.2.2.2.2.2.2.2.2.2.2.2
theorem dgL_law_848 : (decode cL_law 1164 = .ok (.invokevirtual 126, 3)) ∧ (decode cL_law 1167 = .ok (.pop, 1)) ∧ (decode cL_law 1168 = .ok (.aload_n 2, 1)) ∧ (decode cL_law 1169 = .ok (.aload_n 0, 1)) ∧ (decode cL_law 1170 = .ok (.iload_n 3, 1)) ∧ (decode cL_law 1171 = .ok (.iconst 1, 1)) ∧ (decode cL_law 1172 = .ok (.iadd, 1)) ∧ (decode cL_law 1173 = .ok (.iaload, 1)) ∧ (decode cL_law 1174 = .ok (.invokevirtual 129, 3)) ∧ (decode cL_law 1177 = .ok (.pop, 1)) ∧ (decode cL_law 1178 = .ok (.goto 141, 3)) ∧ (decode cL_law 1181 = .ok (.aload_n 1, 1)) ∧ (decode cL_law 1182 = .ok (.aload_n 0, 1)) ∧ (decode cL_law 1183 = .ok (.iload_n 3, 1)) ∧ (decode cL_law 1184 = .ok (.iconst 1, 1)) ∧ (decode cL_law 1185 = .ok (.iadd, 1)) := by decide +kernel
theorem dL_law_1164 : decode cL_law 1164 = .ok (.invokevirtual 126, 3) := dgL_law_848.1
theorem dL_law_1167 : decode cL_law 1167 = .ok (.pop, 1) := dgL_law_848.2.1
theorem dL_law_1168 : decode cL_law 1168 = .ok (.aload_n 2, 1) := dgL_law_848.2.2.1
theorem dL_law_1169 : decode cL_law 1169 = .ok (.aload_n 0, 1) := dgL_law_848.2.2.2.1
theorem dL_law_1170 : decode cL_law 1170 = .ok (.iload_n 3, 1) := dgL_law_848.2.2.2.2.1
theorem dL_law_1171 : decode cL_law 1171 = .ok (.iconst 1, 1) := dgL_law_848.2.2.2.2.2.1
theorem dL_law_1172 : decode cL_law 1172 = .ok (.iadd, 1) := dgL_law_848.2.2.2.2.2.2.1
theorem dL_law_1173 : decode cL_law 1173 = .ok (.iaload, 1) := dgL_law_848.2.2.2.2.2.2.2.1
theorem dL_law_1174 : decode cL_law 1174 = .ok (.invokevirtual 129, 3) := dgL_law_848.2.2.2.2.2.2.2.2.1
theorem dL_law_1177 : decode cL_law 1177 = .ok (.pop, 1) := dgL_law_848.2.2.2.2.2.2.2.2.2.1
theorem dL_law_1178 : decode cL_law 1178 = .ok (.goto 141, 3) := dgL_law_848.2.2.2.2.2.2.2.2.2.2.1
theorem dL_law_1181 : decode cL_law 1181 = .ok (.aload_n 1, 1) := dgL_law_848.2.2.2.2.2.2.2.2.2.2.2.1
theorem dL_law_1182 : decode cL_law 1182 = .ok (.aload_n 0, 1) := dgL_law_848.2.2.2.2.2.2.2.2.2.2.2.2.1
theorem dL_law_1183 : decode cL_law 1183 = .ok (.iload_n 3, 1) := dgL_law_848.2.2.2.2.2.2.2.2.2.2.2.2.2.1
theorem dL_law_1184 : decode cL_law 1184 = .ok (.iconst 1, 1) := dgL_law_848.2.2.2.2.2.2.2.2.2.2.2.2.2.2.1
theorem dL_law_1185 : decode cL_law 1185 = .ok (.iadd, 1) := dgL_law_848.2.2.2.2.2.2.2.2.2.2.2.2.2.2.2
theorem dgL_law_864 : (decode cL_law 1186 = .ok (.iaload, 1)) ∧ (decode cL_law 1187 = .ok (.ifCond .eq 7, 3)) ∧ (decode cL_law 1190 = .ok (.iconst 1, 1)) ∧ (decode cL_law 1191 = .ok (.goto 4, 3)) ∧ (decode cL_law 1194 = .ok (.iconst 0, 1)) ∧ (decode cL_law 1195 = .ok (.aload_n 0, 1)) ∧ (decode cL_law 1196 = .ok (.iload_n 3, 1)) ∧ (decode cL_law 1197 = .ok (.iconst 2, 1)) ∧ (decode cL_law 1198 = .ok (.iadd, 1)) ∧ (decode cL_law 1199 = .ok (.iaload, 1)) ∧ (decode cL_law 1200 = .ok (.invokevirtual 130, 3)) ∧ (decode cL_law 1203 = .ok (.pop, 1)) ∧ (decode cL_law 1204 = .ok (.aload_n 2, 1)) ∧ (decode cL_law 1205 = .ok (.aload_n 0, 1)) ∧ (decode cL_law 1206 = .ok (.iload_n 3, 1)) ∧ (decode cL_law 1207 = .ok (.iconst 1, 1)) := by decide +kernel
theorem dL_law_1186 : decode cL_law 1186 = .ok (.iaload, 1) := dgL_law_864.1
theorem dL_law_1187 : decode cL_law 1187 = .ok (.ifCond .eq 7, 3) := dgL_law_864.2.1
theorem dL_law_1190 : decode cL_law 1190 = .ok (.iconst 1, 1) := dgL_law_864.2.2.1
theorem dL_law_1191 : decode cL_law 1191 = .ok (.goto 4, 3) := dgL_law_864.2.2.2.1
theorem dL_law_1194 : decode cL_law 1194 = .ok (.iconst 0, 1) := dgL_law_864.2.2.2.2.1
theorem dL_law_1195 : decode cL_law 1195 = .ok (.aload_n 0, 1) := dgL_law_864.2.2.2.2.2.1
theorem dL_law_1196 : decode cL_law 1196 = .ok (.iload_n 3, 1) := dgL_law_864.2.2.2.2.2.2.1
theorem dL_law_1197 : decode cL_law 1197 = .ok (.iconst 2, 1) := dgL_law_864.2.2.2.2.2.2.2.1
theorem dL_law_1198 : decode cL_law 1198 = .ok (.iadd, 1) := dgL_law_864.2.2.2.2.2.2.2.2.1
theorem dL_law_1199 : decode cL_law 1199 = .ok (.iaload, 1) := dgL_law_864.2.2.2.2.2.2.2.2.2.1
theorem dL_law_1200 : decode cL_law 1200 = .ok (.invokevirtual 130, 3) := dgL_law_864.2.2.2.2.2.2.2.2.2.2.1
theorem dL_law_1203 : decode cL_law 1203 = .ok (.pop, 1) := dgL_law_864.2.2.2.2.2.2.2.2.2.2.2.1
theorem dL_law_1204 : decode cL_law 1204 = .ok (.aload_n 2, 1) := dgL_law_864.2.2.2.2.2.2.2.2.2.2.2.2.1
theorem dL_law_1205 : decode cL_law 1205 = .ok (.aload_n 0, 1) := dgL_law_864.2.2.2.2.2.2.2.2.2.2.2.2.2.1
theorem dL_law_1206 : decode cL_law 1206 = .ok (.iload_n 3, 1) := dgL_law_864.2.2.2.2.2.2.2.2.2.2.2.2.2.2.1
theorem dL_law_1207 : decode cL_law 1207 = .ok (.iconst 1, 1) := dgL_law_864.2.2.2.2.2.2.2.2.2.2.2.2.2.2.2
theorem dgL_law_880 : (decode cL_law 1208 = .ok (.iadd, 1)) ∧ (decode cL_law 1209 = .ok (.iaload, 1)) ∧ (decode cL_law 1210 = .ok (.ifCond .eq 7, 3)) ∧ (decode cL_law 1213 = .ok (.iconst 1, 1)) ∧ (decode cL_law 1214 = .ok (.goto 4, 3)) ∧ (decode cL_law 1217 = .ok (.iconst 0, 1)) ∧ (decode cL_law 1218 = .ok (.aload_n 0, 1)) ∧ (decode cL_law 1219 = .ok (.iload_n 3, 1)) ∧ (decode cL_law 1220 = .ok (.iconst 2, 1)) ∧ (decode cL_law 1221 = .ok (.iadd, 1)) ∧ (decode cL_law 1222 = .ok (.iaload, 1)) ∧ (decode cL_law 1223 = .ok (.invokevirtual 134, 3)) ∧ (decode cL_law 1226 = .ok (.pop, 1)) ∧ (decode cL_law 1227 = .ok (.goto 92, 3)) ∧ (decode cL_law 1230 = .ok (.aload_n 1, 1)) ∧ (decode cL_law 1231 = .ok (.aload_n 0, 1)) := by decide +kernel
theorem dL_law_1208 : decode cL_law 1208 = .ok (.iadd, 1) := dgL_law_880.1
theorem dL_law_1209 : decode cL_law 1209 = .ok (.iaload, 1) := dgL_law_880.2.1
theorem dL_law_1210 : decode cL_law 1210 = .ok (.ifCond .eq 7, 3) := dgL_law_880.2.2.1
theorem dL_law_1213 : decode cL_law 1213 = .ok (.iconst 1, 1) := dgL_law_880.2.2.2.1
theorem dL_law_1214 : decode cL_law 1214 = .ok (.goto 4, 3) := dgL_law_880.2.2.2.2.1
theorem dL_law_1217 : decode cL_law 1217 = .ok (.iconst 0, 1) := dgL_law_880.2.2.2.2.2.1
theorem dL_law_1218 : decode cL_law 1218 = .ok (.aload_n 0, 1) := dgL_law_880.2.2.2.2.2.2.1
theorem dL_law_1219 : decode cL_law 1219 = .ok (.iload_n 3, 1) := dgL_law_880.2.2.2.2.2.2.2.1
theorem dL_law_1220 : decode cL_law 1220 = .ok (.iconst 2, 1) := dgL_law_880.2.2.2.2.2.2.2.2.1
theorem dL_law_1221 : decode cL_law 1221 = .ok (.iadd, 1) := dgL_law_880.2.2.2.2.2.2.2.2.2.1
theorem dL_law_1222 : decode cL_law 1222 = .ok (.iaload, 1) := dgL_law_880.2.2.2.2.2.2.2.2.2.2.1
theorem dL_law_1223 : decode cL_law 1223 = .ok (.invokevirtual 134, 3) := dgL_law_880.2.2.2.2.2.2.2.2.2.2.2.1
theorem dL_law_1226 : decode cL_law 1226 = .ok (.pop, 1) := dgL_law_880.2.2.2.2.2.2.2.2.2.2.2.2.1
theorem dL_law_1227 : decode cL_law 1227 = .ok (.goto 92, 3) := dgL_law_880.2.2.2.2.2.2.2.2.2.2.2.2.2.1
theorem dL_law_1230 : decode cL_law 1230 = .ok (.aload_n 1, 1) := dgL_law_880.2.2.2.2.2.2.2.2.2.2.2.2.2.2.1
theorem dL_law_1231 : decode cL_law 1231 = .ok (.aload_n 0, 1) := dgL_law_880.2.2.2.2.2.2.2.2.2.2.2.2.2.2.2
theorem dgL_law_896 : (decode cL_law 1232 = .ok (.iload_n 3, 1)) ∧ (decode cL_law 1233 = .ok (.iconst 1, 1)) ∧ (decode cL_law 1234 = .ok (.iadd, 1)) ∧ (decode cL_law 1235 = .ok (.iaload, 1)) ∧ (decode cL_law 1236 = .ok (.aload_n 0, 1)) ∧ (decode cL_law 1237 = .ok (.iload_n 3, 1)) ∧ (decode cL_law 1238 = .ok (.iconst 2, 1)) ∧ (decode cL_law 1239 = .ok (.iadd, 1)) ∧ (decode cL_law 1240 = .ok (.iaload, 1)) ∧ (decode cL_law 1241 = .ok (.aload_n 0, 1)) ∧ (decode cL_law 1242 = .ok (.iload_n 3, 1)) ∧ (decode cL_law 1243 = .ok (.iconst 3, 1)) ∧ (decode cL_law 1244 = .ok (.iadd, 1)) ∧ (decode cL_law 1245 = .ok (.iaload, 1)) ∧ (decode cL_law 1246 = .ok (.invokevirtual 135, 3)) ∧ (decode cL_law 1249 = .ok (.pop, 1)) := by decide +kernel
theorem dL_law_1232 : decode cL_law 1232 = .ok (.iload_n 3, 1) := dgL_law_896.1
theorem dL_law_1233 : decode cL_law 1233 = .ok (.iconst 1, 1) := dgL_law_896.2.1
theorem dL_law_1234 : decode cL_law 1234 = .ok (.iadd, 1) := dgL_law_896.2.2.1
theorem dL_law_1235 : decode cL_law 1235 = .ok (.iaload, 1) := dgL_law_896.2.2.2.1
theorem dL_law_1236 : decode cL_law 1236 = .ok (.aload_n 0, 1) := dgL_law_896.2.2.2.2.1
theorem dL_law_1237 : decode cL_law 1237 = .ok (.iload_n 3, 1) := dgL_law_896.2.2.2.2.2.1
theorem dL_law_1238 : decode cL_law 1238 = .ok (.iconst 2, 1) := dgL_law_896.2.2.2.2.2.2.1
theorem dL_law_1239 : decode cL_law 1239 = .ok (.iadd, 1) := dgL_law_896.2.2.2.2.2.2.2.1
theorem dL_law_1240 : decode cL_law 1240 = .ok (.iaload, 1) := dgL_law_896.2.2.2.2.2.2.2.2.1
theorem dL_law_1241 : decode cL_law 1241 = .ok (.aload_n 0, 1) := dgL_law_896.2.2.2.2.2.2.2.2.2.1
theorem dL_law_1242 : decode cL_law 1242 = .ok (.iload_n 3, 1) := dgL_law_896.2.2.2.2.2.2.2.2.2.2.1
theorem dL_law_1243 : decode cL_law 1243 = .ok (.iconst 3, 1) := dgL_law_896.2.2.2.2.2.2.2.2.2.2.2.1
theorem dL_law_1244 : decode cL_law 1244 = .ok (.iadd, 1) := dgL_law_896.2.2.2.2.2.2.2.2.2.2.2.2.1
theorem dL_law_1245 : decode cL_law 1245 = .ok (.iaload, 1) := dgL_law_896.2.2.2.2.2.2.2.2.2.2.2.2.2.1
theorem dL_law_1246 : decode cL_law 1246 = .ok (.invokevirtual 135, 3) := dgL_law_896.2.2.2.2.2.2.2.2.2.2.2.2.2.2.1
theorem dL_law_1249 : decode cL_law 1249 = .ok (.pop, 1) := dgL_law_896.2.2.2.2.2.2.2.2.2.2.2.2.2.2.2
theorem dgL_law_912 : (decode cL_law 1250 = .ok (.aload_n 2, 1)) ∧ (decode cL_law 1251 = .ok (.aload_n 0, 1)) ∧ (decode cL_law 1252 = .ok (.iload_n 3, 1)) ∧ (decode cL_law 1253 = .ok (.iconst 1, 1)) ∧ (decode cL_law 1254 = .ok (.iadd, 1)) ∧ (decode cL_law 1255 = .ok (.iaload, 1)) ∧ (decode cL_law 1256 = .ok (.aload_n 0, 1)) ∧ (decode cL_law 1257 = .ok (.iload_n 3, 1)) ∧ (decode cL_law 1258 = .ok (.iconst 2, 1)) ∧ (decode cL_law 1259 = .ok (.iadd, 1)) ∧ (decode cL_law 1260 = .ok (.iaload, 1)) ∧ (decode cL_law 1261 = .ok (.aload_n 0, 1)) ∧ (decode cL_law 1262 = .ok (.iload_n 3, 1)) ∧ (decode cL_law 1263 = .ok (.iconst 3, 1)) ∧ (decode cL_law 1264 = .ok (.iadd, 1)) ∧ (decode cL_law 1265 = .ok (.iaload, 1)) := by decide +kernel
theorem dL_law_1250 : decode cL_law 1250 = .ok (.aload_n 2, 1) := dgL_law_912.1
theorem dL_law_1251 : decode cL_law 1251 = .ok (.aload_n 0, 1) := dgL_law_912.2.1
theorem dL_law_1252 : decode cL_law 1252 = .ok (.iload_n 3, 1) := dgL_law_912.2.2.1
theorem dL_law_1253 : decode cL_law 1253 = .ok (.iconst 1, 1) := dgL_law_912.2.2.2.1
theorem dL_law_1254 : decode cL_law 1254 = .ok (.iadd, 1) := dgL_law_912.2.2.2.2.1
theorem dL_law_1255 : decode cL_law 1255 = .ok (.iaload, 1) := dgL_law_912.2.2.2.2.2.1
theorem dL_law_1256 : decode cL_law 1256 = .ok (.aload_n 0, 1) := dgL_law_912.2.2.2.2.2.2.1
theorem dL_law_1257 : decode cL_law 1257 = .ok (.iload_n 3, 1) := dgL_law_912.2.2.2.2.2.2.2.1
theorem dL_law_1258 : decode cL_law 1258 = .ok (.iconst 2, 1) := dgL_law_912.2.2.2.2.2.2.2.2.1
theorem dL_law_1259 : decode cL_law 1259 = .ok (.iadd, 1) := dgL_law_912.2.2.2.2.2.2.2.2.2.1
theorem dL_law_1260 : decode cL_law 1260 = .ok (.iaload, 1) := dgL_law_912.2.2.2.2.2.2.2.2.2.2.1
theorem dL_law_1261 : decode cL_law 1261 = .ok (.aload_n 0, 1) := dgL_law_912.2.2.2.2.2.2.2.2.2.2.2.1
theorem dL_law_1262 : decode cL_law 1262 = .ok (.iload_n 3, 1) := dgL_law_912.2.2.2.2.2.2.2.2.2.2.2.2.1
theorem dL_law_1263 : decode cL_law 1263 = .ok (.iconst 3, 1) := dgL_law_912.2.2.2.2.2.2.2.2.2.2.2.2.2.1
theorem dL_law_1264 : decode cL_law 1264 = .ok (.iadd, 1) := dgL_law_912.2.2.2.2.2.2.2.2.2.2.2.2.2.2.1
theorem dL_law_1265 : decode cL_law 1265 = .ok (.iaload, 1) := dgL_law_912.2.2.2.2.2.2.2.2.2.2.2.2.2.2.2
theorem dgL_law_928 : (decode cL_law 1266 = .ok (.invokevirtual 138, 3)) ∧ (decode cL_law 1269 = .ok (.pop, 1)) ∧ (decode cL_law 1270 = .ok (.goto 49, 3)) ∧ (decode cL_law 1273 = .ok (.aload_n 1, 1)) ∧ (decode cL_law 1274 = .ok (.aload_n 0, 1)) ∧ (decode cL_law 1275 = .ok (.iload_n 3, 1)) ∧ (decode cL_law 1276 = .ok (.iconst 1, 1)) ∧ (decode cL_law 1277 = .ok (.iadd, 1)) ∧ (decode cL_law 1278 = .ok (.iaload, 1)) ∧ (decode cL_law 1279 = .ok (.invokevirtual 139, 3)) ∧ (decode cL_law 1282 = .ok (.pop, 1)) ∧ (decode cL_law 1283 = .ok (.aload_n 2, 1)) ∧ (decode cL_law 1284 = .ok (.aload_n 0, 1)) ∧ (decode cL_law 1285 = .ok (.iload_n 3, 1)) ∧ (decode cL_law 1286 = .ok (.iconst 1, 1)) ∧ (decode cL_law 1287 = .ok (.iadd, 1)) := by decide +kernel
theorem dL_law_1266 : decode cL_law 1266 = .ok (.invokevirtual 138, 3) := dgL_law_928.1
theorem dL_law_1269 : decode cL_law 1269 = .ok (.pop, 1) := dgL_law_928.2.1
theorem dL_law_1270 : decode cL_law 1270 = .ok (.goto 49, 3) := dgL_law_928.2.2.1
theorem dL_law_1273 : decode cL_law 1273 = .ok (.aload_n 1, 1) := dgL_law_928.2.2.2.1
theorem dL_law_1274 : decode cL_law 1274 = .ok (.aload_n 0, 1) := dgL_law_928.2.2.2.2.1
theorem dL_law_1275 : decode cL_law 1275 = .ok (.iload_n 3, 1) := dgL_law_928.2.2.2.2.2.1
theorem dL_law_1276 : decode cL_law 1276 = .ok (.iconst 1, 1) := dgL_law_928.2.2.2.2.2.2.1
theorem dL_law_1277 : decode cL_law 1277 = .ok (.iadd, 1) := dgL_law_928.2.2.2.2.2.2.2.1
theorem dL_law_1278 : decode cL_law 1278 = .ok (.iaload, 1) := dgL_law_928.2.2.2.2.2.2.2.2.1
theorem dL_law_1279 : decode cL_law 1279 = .ok (.invokevirtual 139, 3) := dgL_law_928.2.2.2.2.2.2.2.2.2.1
theorem dL_law_1282 : decode cL_law 1282 = .ok (.pop, 1) := dgL_law_928.2.2.2.2.2.2.2.2.2.2.1
theorem dL_law_1283 : decode cL_law 1283 = .ok (.aload_n 2, 1) := dgL_law_928.2.2.2.2.2.2.2.2.2.2.2.1
theorem dL_law_1284 : decode cL_law 1284 = .ok (.aload_n 0, 1) := dgL_law_928.2.2.2.2.2.2.2.2.2.2.2.2.1
theorem dL_law_1285 : decode cL_law 1285 = .ok (.iload_n 3, 1) := dgL_law_928.2.2.2.2.2.2.2.2.2.2.2.2.2.1
theorem dL_law_1286 : decode cL_law 1286 = .ok (.iconst 1, 1) := dgL_law_928.2.2.2.2.2.2.2.2.2.2.2.2.2.2.1
theorem dL_law_1287 : decode cL_law 1287 = .ok (.iadd, 1) := dgL_law_928.2.2.2.2.2.2.2.2.2.2.2.2.2.2.2
theorem dgL_law_944 : (decode cL_law 1288 = .ok (.iaload, 1)) ∧ (decode cL_law 1289 = .ok (.invokevirtual 142, 3)) ∧ (decode cL_law 1292 = .ok (.pop, 1)) ∧ (decode cL_law 1293 = .ok (.goto 26, 3)) ∧ (decode cL_law 1296 = .ok (.aload_n 1, 1)) ∧ (decode cL_law 1297 = .ok (.aload_n 0, 1)) ∧ (decode cL_law 1298 = .ok (.iload_n 3, 1)) ∧ (decode cL_law 1299 = .ok (.iconst 1, 1)) ∧ (decode cL_law 1300 = .ok (.iadd, 1)) ∧ (decode cL_law 1301 = .ok (.iaload, 1)) ∧ (decode cL_law 1302 = .ok (.invokevirtual 143, 3)) ∧ (decode cL_law 1305 = .ok (.aload_n 2, 1)) ∧ (decode cL_law 1306 = .ok (.aload_n 0, 1)) ∧ (decode cL_law 1307 = .ok (.iload_n 3, 1)) ∧ (decode cL_law 1308 = .ok (.iconst 1, 1)) ∧ (decode cL_law 1309 = .ok (.iadd, 1)) := by decide +kernel
theorem dL_law_1288 : decode cL_law 1288 = .ok (.iaload, 1) := dgL_law_944.1
theorem dL_law_1289 : decode cL_law 1289 = .ok (.invokevirtual 142, 3) := dgL_law_944.2.1
theorem dL_law_1292 : decode cL_law 1292 = .ok (.pop, 1) := dgL_law_944.2.2.1
theorem dL_law_1293 : decode cL_law 1293 = .ok (.goto 26, 3) := dgL_law_944.2.2.2.1
theorem dL_law_1296 : decode cL_law 1296 = .ok (.aload_n 1, 1) := dgL_law_944.2.2.2.2.1
theorem dL_law_1297 : decode cL_law 1297 = .ok (.aload_n 0, 1) := dgL_law_944.2.2.2.2.2.1
theorem dL_law_1298 : decode cL_law 1298 = .ok (.iload_n 3, 1) := dgL_law_944.2.2.2.2.2.2.1
theorem dL_law_1299 : decode cL_law 1299 = .ok (.iconst 1, 1) := dgL_law_944.2.2.2.2.2.2.2.1
theorem dL_law_1300 : decode cL_law 1300 = .ok (.iadd, 1) := dgL_law_944.2.2.2.2.2.2.2.2.1
theorem dL_law_1301 : decode cL_law 1301 = .ok (.iaload, 1) := dgL_law_944.2.2.2.2.2.2.2.2.2.1
theorem dL_law_1302 : decode cL_law 1302 = .ok (.invokevirtual 143, 3) := dgL_law_944.2.2.2.2.2.2.2.2.2.2.1
theorem dL_law_1305 : decode cL_law 1305 = .ok (.aload_n 2, 1) := dgL_law_944.2.2.2.2.2.2.2.2.2.2.2.1
theorem dL_law_1306 : decode cL_law 1306 = .ok (.aload_n 0, 1) := dgL_law_944.2.2.2.2.2.2.2.2.2.2.2.2.1
theorem dL_law_1307 : decode cL_law 1307 = .ok (.iload_n 3, 1) := dgL_law_944.2.2.2.2.2.2.2.2.2.2.2.2.2.1
theorem dL_law_1308 : decode cL_law 1308 = .ok (.iconst 1, 1) := dgL_law_944.2.2.2.2.2.2.2.2.2.2.2.2.2.2.1
theorem dL_law_1309 : decode cL_law 1309 = .ok (.iadd, 1) := dgL_law_944.2.2.2.2.2.2.2.2.2.2.2.2.2.2.2
theorem dgL_law_960 : (decode cL_law 1310 = .ok (.iaload, 1)) ∧ (decode cL_law 1311 = .ok (.invokevirtual 146, 3)) ∧ (decode cL_law 1314 = .ok (.if_icmp .eq 5, 3)) ∧ (decode cL_law 1317 = .ok (.iconst 0, 1)) ∧ (decode cL_law 1318 = .ok (.ireturn, 1)) ∧ (decode cL_law 1319 = .ok (.iinc 3 7, 3)) ∧ (decode cL_law 1322 = .ok (.goto (-1304), 3)) ∧ (decode cL_law 1325 = .ok (.iconst 1, 1)) ∧ (decode cL_law 1326 = .ok (.ireturn, 1)) := by decide +kernel
theorem dL_law_1310 : decode cL_law 1310 = .ok (.iaload, 1) := dgL_law_960.1
theorem dL_law_1311 : decode cL_law 1311 = .ok (.invokevirtual 146, 3) := dgL_law_960.2.1
theorem dL_law_1314 : decode cL_law 1314 = .ok (.if_icmp .eq 5, 3) := dgL_law_960.2.2.1
theorem dL_law_1317 : decode cL_law 1317 = .ok (.iconst 0, 1) := dgL_law_960.2.2.2.1
theorem dL_law_1318 : decode cL_law 1318 = .ok (.ireturn, 1) := dgL_law_960.2.2.2.2.1
theorem dL_law_1319 : decode cL_law 1319 = .ok (.iinc 3 7, 3) := dgL_law_960.2.2.2.2.2.1
theorem dL_law_1322 : decode cL_law 1322 = .ok (.goto (-1304), 3) := dgL_law_960.2.2.2.2.2.2.1
theorem dL_law_1325 : decode cL_law 1325 = .ok (.iconst 1, 1) := dgL_law_960.2.2.2.2.2.2.2.1
theorem dL_law_1326 : decode cL_law 1326 = .ok (.ireturn, 1) := dgL_law_960.2.2.2.2.2.2.2.2
