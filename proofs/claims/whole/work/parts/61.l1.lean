theorem dL_law_0 : dn code 0 (.new 7) 3 3 := ⟨by decide +kernel, rfl⟩
theorem dL_law_3 : dn code 3 (.dup) 1 4 := ⟨by decide +kernel, rfl⟩
theorem dL_law_4 : dn code 4 (.invokespecial 9) 3 7 := ⟨by decide +kernel, rfl⟩
theorem dL_law_7 : dn code 7 (.astore_n 1) 1 8 := ⟨by decide +kernel, rfl⟩
theorem dL_law_8 : dn code 8 (.new 10) 3 11 := ⟨by decide +kernel, rfl⟩
theorem dL_law_11 : dn code 11 (.dup) 1 12 := ⟨by decide +kernel, rfl⟩
theorem dL_law_12 : dn code 12 (.invokespecial 12) 3 15 := ⟨by decide +kernel, rfl⟩
theorem dL_law_15 : dn code 15 (.astore_n 2) 1 16 := ⟨by decide +kernel, rfl⟩
theorem dL_law_16 : dn code 16 (.iconst 0) 1 17 := ⟨by decide +kernel, rfl⟩
theorem dL_law_17 : dn code 17 (.istore_n 3) 1 18 := ⟨by decide +kernel, rfl⟩
theorem dL_law_18 : dn code 18 (.iload_n 3) 1 19 := ⟨by decide +kernel, rfl⟩
theorem dL_law_19 : dn code 19 (.aload_n 0) 1 20 := ⟨by decide +kernel, rfl⟩
theorem dL_law_20 : dn code 20 (.arraylength) 1 21 := ⟨by decide +kernel, rfl⟩
theorem dL_law_21 : dn code 21 (.iconst 5) 1 22 := ⟨by decide +kernel, rfl⟩
theorem dL_law_22 : dn code 22 (.isub) 1 23 := ⟨by decide +kernel, rfl⟩
theorem dL_law_23 : db code 23 (.if_icmp .gt 868) 3 26 (868) 891 := ⟨by decide +kernel, rfl, rfl⟩
theorem dL_law_26 : dn code 26 (.aload_n 0) 1 27 := ⟨by decide +kernel, rfl⟩
theorem dL_law_27 : dn code 27 (.iload_n 3) 1 28 := ⟨by decide +kernel, rfl⟩
theorem dL_law_28 : dn code 28 (.iaload) 1 29 := ⟨by decide +kernel, rfl⟩
theorem dL_law_29 : dn code 29 (.bipush 31) 2 31 := ⟨by decide +kernel, rfl⟩
theorem dL_law_31 : dn code 31 (.iand) 1 32 := ⟨by decide +kernel, rfl⟩
theorem dL_law_32 : decode code 32 = .ok (.tableswitch 853 0 20 #[100, 133, 186, 209, 242, 295, 318, 351, 384, 417, 450, 493, 546, 589, 632, 675, 718, 741, 784, 807, 830], 100) := by decide +kernel
theorem dL_law_132 : dn code 132 (.aload_n 1) 1 133 := ⟨by decide +kernel, rfl⟩
theorem dL_law_133 : dn code 133 (.aload_n 0) 1 134 := ⟨by decide +kernel, rfl⟩
theorem dL_law_134 : dn code 134 (.iload_n 3) 1 135 := ⟨by decide +kernel, rfl⟩
theorem dL_law_135 : dn code 135 (.iconst 1) 1 136 := ⟨by decide +kernel, rfl⟩
theorem dL_law_136 : dn code 136 (.iadd) 1 137 := ⟨by decide +kernel, rfl⟩
theorem dL_law_137 : dn code 137 (.iaload) 1 138 := ⟨by decide +kernel, rfl⟩
theorem dL_law_138 : dn code 138 (.aload_n 0) 1 139 := ⟨by decide +kernel, rfl⟩
theorem dL_law_139 : dn code 139 (.iload_n 3) 1 140 := ⟨by decide +kernel, rfl⟩
theorem dL_law_140 : dn code 140 (.iconst 2) 1 141 := ⟨by decide +kernel, rfl⟩
theorem dL_law_141 : dn code 141 (.iadd) 1 142 := ⟨by decide +kernel, rfl⟩
theorem dL_law_142 : dn code 142 (.iaload) 1 143 := ⟨by decide +kernel, rfl⟩
theorem dL_law_143 : dn code 143 (.invokevirtual 13) 3 146 := ⟨by decide +kernel, rfl⟩
theorem dL_law_146 : dn code 146 (.aload_n 2) 1 147 := ⟨by decide +kernel, rfl⟩
theorem dL_law_147 : dn code 147 (.aload_n 0) 1 148 := ⟨by decide +kernel, rfl⟩
theorem dL_law_148 : dn code 148 (.iload_n 3) 1 149 := ⟨by decide +kernel, rfl⟩
theorem dL_law_149 : dn code 149 (.iconst 1) 1 150 := ⟨by decide +kernel, rfl⟩
theorem dL_law_150 : dn code 150 (.iadd) 1 151 := ⟨by decide +kernel, rfl⟩
theorem dL_law_151 : dn code 151 (.iaload) 1 152 := ⟨by decide +kernel, rfl⟩
theorem dL_law_152 : dn code 152 (.aload_n 0) 1 153 := ⟨by decide +kernel, rfl⟩
theorem dL_law_153 : dn code 153 (.iload_n 3) 1 154 := ⟨by decide +kernel, rfl⟩
theorem dL_law_154 : dn code 154 (.iconst 2) 1 155 := ⟨by decide +kernel, rfl⟩
theorem dL_law_155 : dn code 155 (.iadd) 1 156 := ⟨by decide +kernel, rfl⟩
theorem dL_law_156 : dn code 156 (.iaload) 1 157 := ⟨by decide +kernel, rfl⟩
theorem dL_law_157 : dn code 157 (.invokevirtual 17) 3 160 := ⟨by decide +kernel, rfl⟩
theorem dL_law_160 : db code 160 (.if_icmp .eq 725) 3 163 (725) 885 := ⟨by decide +kernel, rfl, rfl⟩
theorem dL_law_163 : dn code 163 (.iconst 0) 1 164 := ⟨by decide +kernel, rfl⟩
theorem dL_law_164 : dn code 164 (.ireturn) 1 165 := ⟨by decide +kernel, rfl⟩
theorem dL_law_165 : dn code 165 (.aload_n 1) 1 166 := ⟨by decide +kernel, rfl⟩
theorem dL_law_166 : dn code 166 (.aload_n 0) 1 167 := ⟨by decide +kernel, rfl⟩
theorem dL_law_167 : dn code 167 (.iload_n 3) 1 168 := ⟨by decide +kernel, rfl⟩
theorem dL_law_168 : dn code 168 (.iconst 1) 1 169 := ⟨by decide +kernel, rfl⟩
theorem dL_law_169 : dn code 169 (.iadd) 1 170 := ⟨by decide +kernel, rfl⟩
theorem dL_law_170 : dn code 170 (.iaload) 1 171 := ⟨by decide +kernel, rfl⟩
theorem dL_law_171 : dn code 171 (.aload_n 0) 1 172 := ⟨by decide +kernel, rfl⟩
theorem dL_law_172 : dn code 172 (.iload_n 3) 1 173 := ⟨by decide +kernel, rfl⟩
theorem dL_law_173 : dn code 173 (.iconst 2) 1 174 := ⟨by decide +kernel, rfl⟩
theorem dL_law_174 : dn code 174 (.iadd) 1 175 := ⟨by decide +kernel, rfl⟩
theorem dL_law_175 : dn code 175 (.iaload) 1 176 := ⟨by decide +kernel, rfl⟩
theorem dL_law_176 : dn code 176 (.aload_n 0) 1 177 := ⟨by decide +kernel, rfl⟩
theorem dL_law_177 : dn code 177 (.iload_n 3) 1 178 := ⟨by decide +kernel, rfl⟩
theorem dL_law_178 : dn code 178 (.iconst 3) 1 179 := ⟨by decide +kernel, rfl⟩
theorem dL_law_179 : dn code 179 (.iadd) 1 180 := ⟨by decide +kernel, rfl⟩
theorem dL_law_180 : dn code 180 (.iaload) 1 181 := ⟨by decide +kernel, rfl⟩
theorem dL_law_181 : dn code 181 (.aload_n 0) 1 182 := ⟨by decide +kernel, rfl⟩
theorem dL_law_182 : dn code 182 (.iload_n 3) 1 183 := ⟨by decide +kernel, rfl⟩
theorem dL_law_183 : dn code 183 (.iconst 4) 1 184 := ⟨by decide +kernel, rfl⟩
theorem dL_law_184 : dn code 184 (.iadd) 1 185 := ⟨by decide +kernel, rfl⟩
theorem dL_law_185 : dn code 185 (.iaload) 1 186 := ⟨by decide +kernel, rfl⟩
theorem dL_law_186 : dn code 186 (.invokevirtual 18) 3 189 := ⟨by decide +kernel, rfl⟩
theorem dL_law_189 : dn code 189 (.aload_n 2) 1 190 := ⟨by decide +kernel, rfl⟩
theorem dL_law_190 : dn code 190 (.aload_n 0) 1 191 := ⟨by decide +kernel, rfl⟩
theorem dL_law_191 : dn code 191 (.iload_n 3) 1 192 := ⟨by decide +kernel, rfl⟩
theorem dL_law_192 : dn code 192 (.iconst 1) 1 193 := ⟨by decide +kernel, rfl⟩
theorem dL_law_193 : dn code 193 (.iadd) 1 194 := ⟨by decide +kernel, rfl⟩
theorem dL_law_194 : dn code 194 (.iaload) 1 195 := ⟨by decide +kernel, rfl⟩
theorem dL_law_195 : dn code 195 (.aload_n 0) 1 196 := ⟨by decide +kernel, rfl⟩
theorem dL_law_196 : dn code 196 (.iload_n 3) 1 197 := ⟨by decide +kernel, rfl⟩
theorem dL_law_197 : dn code 197 (.iconst 2) 1 198 := ⟨by decide +kernel, rfl⟩
theorem dL_law_198 : dn code 198 (.iadd) 1 199 := ⟨by decide +kernel, rfl⟩
theorem dL_law_199 : dn code 199 (.iaload) 1 200 := ⟨by decide +kernel, rfl⟩
theorem dL_law_200 : dn code 200 (.aload_n 0) 1 201 := ⟨by decide +kernel, rfl⟩
theorem dL_law_201 : dn code 201 (.iload_n 3) 1 202 := ⟨by decide +kernel, rfl⟩
theorem dL_law_202 : dn code 202 (.iconst 3) 1 203 := ⟨by decide +kernel, rfl⟩
theorem dL_law_203 : dn code 203 (.iadd) 1 204 := ⟨by decide +kernel, rfl⟩
theorem dL_law_204 : dn code 204 (.iaload) 1 205 := ⟨by decide +kernel, rfl⟩
theorem dL_law_205 : dn code 205 (.aload_n 0) 1 206 := ⟨by decide +kernel, rfl⟩
theorem dL_law_206 : dn code 206 (.iload_n 3) 1 207 := ⟨by decide +kernel, rfl⟩
theorem dL_law_207 : dn code 207 (.iconst 4) 1 208 := ⟨by decide +kernel, rfl⟩
theorem dL_law_208 : dn code 208 (.iadd) 1 209 := ⟨by decide +kernel, rfl⟩
theorem dL_law_209 : dn code 209 (.iaload) 1 210 := ⟨by decide +kernel, rfl⟩
theorem dL_law_210 : dn code 210 (.invokevirtual 22) 3 213 := ⟨by decide +kernel, rfl⟩
theorem dL_law_213 : db code 213 (.if_icmp .eq 672) 3 216 (672) 885 := ⟨by decide +kernel, rfl, rfl⟩
theorem dL_law_216 : dn code 216 (.iconst 0) 1 217 := ⟨by decide +kernel, rfl⟩
theorem dL_law_217 : dn code 217 (.ireturn) 1 218 := ⟨by decide +kernel, rfl⟩
theorem dL_law_218 : dn code 218 (.aload_n 1) 1 219 := ⟨by decide +kernel, rfl⟩
theorem dL_law_219 : dn code 219 (.aload_n 0) 1 220 := ⟨by decide +kernel, rfl⟩
theorem dL_law_220 : dn code 220 (.iload_n 3) 1 221 := ⟨by decide +kernel, rfl⟩
theorem dL_law_221 : dn code 221 (.iconst 1) 1 222 := ⟨by decide +kernel, rfl⟩
theorem dL_law_222 : dn code 222 (.iadd) 1 223 := ⟨by decide +kernel, rfl⟩
theorem dL_law_223 : dn code 223 (.iaload) 1 224 := ⟨by decide +kernel, rfl⟩
theorem dL_law_224 : dn code 224 (.invokevirtual 23) 3 227 := ⟨by decide +kernel, rfl⟩
theorem dL_law_227 : dn code 227 (.aload_n 2) 1 228 := ⟨by decide +kernel, rfl⟩
theorem dL_law_228 : dn code 228 (.aload_n 0) 1 229 := ⟨by decide +kernel, rfl⟩
theorem dL_law_229 : dn code 229 (.iload_n 3) 1 230 := ⟨by decide +kernel, rfl⟩
theorem dL_law_230 : dn code 230 (.iconst 1) 1 231 := ⟨by decide +kernel, rfl⟩
theorem dL_law_231 : dn code 231 (.iadd) 1 232 := ⟨by decide +kernel, rfl⟩
theorem dL_law_232 : dn code 232 (.iaload) 1 233 := ⟨by decide +kernel, rfl⟩
theorem dL_law_233 : dn code 233 (.invokevirtual 27) 3 236 := ⟨by decide +kernel, rfl⟩
theorem dL_law_236 : db code 236 (.if_icmp .eq 649) 3 239 (649) 885 := ⟨by decide +kernel, rfl, rfl⟩
theorem dL_law_239 : dn code 239 (.iconst 0) 1 240 := ⟨by decide +kernel, rfl⟩
theorem dL_law_240 : dn code 240 (.ireturn) 1 241 := ⟨by decide +kernel, rfl⟩
theorem dL_law_241 : dn code 241 (.aload_n 1) 1 242 := ⟨by decide +kernel, rfl⟩
theorem dL_law_242 : dn code 242 (.aload_n 0) 1 243 := ⟨by decide +kernel, rfl⟩
theorem dL_law_243 : dn code 243 (.iload_n 3) 1 244 := ⟨by decide +kernel, rfl⟩
theorem dL_law_244 : dn code 244 (.iconst 1) 1 245 := ⟨by decide +kernel, rfl⟩
theorem dL_law_245 : dn code 245 (.iadd) 1 246 := ⟨by decide +kernel, rfl⟩
theorem dL_law_246 : dn code 246 (.iaload) 1 247 := ⟨by decide +kernel, rfl⟩
theorem dL_law_247 : dn code 247 (.aload_n 0) 1 248 := ⟨by decide +kernel, rfl⟩
theorem dL_law_248 : dn code 248 (.iload_n 3) 1 249 := ⟨by decide +kernel, rfl⟩
theorem dL_law_249 : dn code 249 (.iconst 2) 1 250 := ⟨by decide +kernel, rfl⟩
theorem dL_law_250 : dn code 250 (.iadd) 1 251 := ⟨by decide +kernel, rfl⟩
theorem dL_law_251 : dn code 251 (.iaload) 1 252 := ⟨by decide +kernel, rfl⟩
theorem dL_law_252 : dn code 252 (.invokevirtual 28) 3 255 := ⟨by decide +kernel, rfl⟩
theorem dL_law_255 : dn code 255 (.aload_n 2) 1 256 := ⟨by decide +kernel, rfl⟩
theorem dL_law_256 : dn code 256 (.aload_n 0) 1 257 := ⟨by decide +kernel, rfl⟩
theorem dL_law_257 : dn code 257 (.iload_n 3) 1 258 := ⟨by decide +kernel, rfl⟩
theorem dL_law_258 : dn code 258 (.iconst 1) 1 259 := ⟨by decide +kernel, rfl⟩
theorem dL_law_259 : dn code 259 (.iadd) 1 260 := ⟨by decide +kernel, rfl⟩
theorem dL_law_260 : dn code 260 (.iaload) 1 261 := ⟨by decide +kernel, rfl⟩
theorem dL_law_261 : dn code 261 (.aload_n 0) 1 262 := ⟨by decide +kernel, rfl⟩
theorem dL_law_262 : dn code 262 (.iload_n 3) 1 263 := ⟨by decide +kernel, rfl⟩
theorem dL_law_263 : dn code 263 (.iconst 2) 1 264 := ⟨by decide +kernel, rfl⟩
theorem dL_law_264 : dn code 264 (.iadd) 1 265 := ⟨by decide +kernel, rfl⟩
theorem dL_law_265 : dn code 265 (.iaload) 1 266 := ⟨by decide +kernel, rfl⟩
theorem dL_law_266 : dn code 266 (.invokevirtual 31) 3 269 := ⟨by decide +kernel, rfl⟩
theorem dL_law_269 : db code 269 (.if_icmp .eq 616) 3 272 (616) 885 := ⟨by decide +kernel, rfl, rfl⟩
theorem dL_law_272 : dn code 272 (.iconst 0) 1 273 := ⟨by decide +kernel, rfl⟩
theorem dL_law_273 : dn code 273 (.ireturn) 1 274 := ⟨by decide +kernel, rfl⟩
theorem dL_law_274 : dn code 274 (.aload_n 1) 1 275 := ⟨by decide +kernel, rfl⟩
theorem dL_law_275 : dn code 275 (.aload_n 0) 1 276 := ⟨by decide +kernel, rfl⟩
theorem dL_law_276 : dn code 276 (.iload_n 3) 1 277 := ⟨by decide +kernel, rfl⟩
theorem dL_law_277 : dn code 277 (.iconst 1) 1 278 := ⟨by decide +kernel, rfl⟩
theorem dL_law_278 : dn code 278 (.iadd) 1 279 := ⟨by decide +kernel, rfl⟩
theorem dL_law_279 : dn code 279 (.iaload) 1 280 := ⟨by decide +kernel, rfl⟩
theorem dL_law_280 : dn code 280 (.aload_n 0) 1 281 := ⟨by decide +kernel, rfl⟩
theorem dL_law_281 : dn code 281 (.iload_n 3) 1 282 := ⟨by decide +kernel, rfl⟩
theorem dL_law_282 : dn code 282 (.iconst 2) 1 283 := ⟨by decide +kernel, rfl⟩
theorem dL_law_283 : dn code 283 (.iadd) 1 284 := ⟨by decide +kernel, rfl⟩
theorem dL_law_284 : dn code 284 (.iaload) 1 285 := ⟨by decide +kernel, rfl⟩
theorem dL_law_285 : dn code 285 (.aload_n 0) 1 286 := ⟨by decide +kernel, rfl⟩
theorem dL_law_286 : dn code 286 (.iload_n 3) 1 287 := ⟨by decide +kernel, rfl⟩
theorem dL_law_287 : dn code 287 (.iconst 3) 1 288 := ⟨by decide +kernel, rfl⟩
theorem dL_law_288 : dn code 288 (.iadd) 1 289 := ⟨by decide +kernel, rfl⟩
theorem dL_law_289 : dn code 289 (.iaload) 1 290 := ⟨by decide +kernel, rfl⟩
theorem dL_law_290 : dn code 290 (.aload_n 0) 1 291 := ⟨by decide +kernel, rfl⟩
theorem dL_law_291 : dn code 291 (.iload_n 3) 1 292 := ⟨by decide +kernel, rfl⟩
theorem dL_law_292 : dn code 292 (.iconst 4) 1 293 := ⟨by decide +kernel, rfl⟩
theorem dL_law_293 : dn code 293 (.iadd) 1 294 := ⟨by decide +kernel, rfl⟩
theorem dL_law_294 : dn code 294 (.iaload) 1 295 := ⟨by decide +kernel, rfl⟩
theorem dL_law_295 : dn code 295 (.invokevirtual 32) 3 298 := ⟨by decide +kernel, rfl⟩
theorem dL_law_298 : dn code 298 (.aload_n 2) 1 299 := ⟨by decide +kernel, rfl⟩
theorem dL_law_299 : dn code 299 (.aload_n 0) 1 300 := ⟨by decide +kernel, rfl⟩
theorem dL_law_300 : dn code 300 (.iload_n 3) 1 301 := ⟨by decide +kernel, rfl⟩
theorem dL_law_301 : dn code 301 (.iconst 1) 1 302 := ⟨by decide +kernel, rfl⟩
theorem dL_law_302 : dn code 302 (.iadd) 1 303 := ⟨by decide +kernel, rfl⟩
theorem dL_law_303 : dn code 303 (.iaload) 1 304 := ⟨by decide +kernel, rfl⟩
theorem dL_law_304 : dn code 304 (.aload_n 0) 1 305 := ⟨by decide +kernel, rfl⟩
theorem dL_law_305 : dn code 305 (.iload_n 3) 1 306 := ⟨by decide +kernel, rfl⟩
theorem dL_law_306 : dn code 306 (.iconst 2) 1 307 := ⟨by decide +kernel, rfl⟩
theorem dL_law_307 : dn code 307 (.iadd) 1 308 := ⟨by decide +kernel, rfl⟩
theorem dL_law_308 : dn code 308 (.iaload) 1 309 := ⟨by decide +kernel, rfl⟩
theorem dL_law_309 : dn code 309 (.aload_n 0) 1 310 := ⟨by decide +kernel, rfl⟩
theorem dL_law_310 : dn code 310 (.iload_n 3) 1 311 := ⟨by decide +kernel, rfl⟩
theorem dL_law_311 : dn code 311 (.iconst 3) 1 312 := ⟨by decide +kernel, rfl⟩
theorem dL_law_312 : dn code 312 (.iadd) 1 313 := ⟨by decide +kernel, rfl⟩
theorem dL_law_313 : dn code 313 (.iaload) 1 314 := ⟨by decide +kernel, rfl⟩
theorem dL_law_314 : dn code 314 (.aload_n 0) 1 315 := ⟨by decide +kernel, rfl⟩
theorem dL_law_315 : dn code 315 (.iload_n 3) 1 316 := ⟨by decide +kernel, rfl⟩
theorem dL_law_316 : dn code 316 (.iconst 4) 1 317 := ⟨by decide +kernel, rfl⟩
theorem dL_law_317 : dn code 317 (.iadd) 1 318 := ⟨by decide +kernel, rfl⟩
theorem dL_law_318 : dn code 318 (.iaload) 1 319 := ⟨by decide +kernel, rfl⟩
theorem dL_law_319 : dn code 319 (.invokevirtual 35) 3 322 := ⟨by decide +kernel, rfl⟩
theorem dL_law_322 : db code 322 (.if_icmp .eq 563) 3 325 (563) 885 := ⟨by decide +kernel, rfl, rfl⟩
theorem dL_law_325 : dn code 325 (.iconst 0) 1 326 := ⟨by decide +kernel, rfl⟩
theorem dL_law_326 : dn code 326 (.ireturn) 1 327 := ⟨by decide +kernel, rfl⟩
theorem dL_law_327 : dn code 327 (.aload_n 1) 1 328 := ⟨by decide +kernel, rfl⟩
theorem dL_law_328 : dn code 328 (.aload_n 0) 1 329 := ⟨by decide +kernel, rfl⟩
theorem dL_law_329 : dn code 329 (.iload_n 3) 1 330 := ⟨by decide +kernel, rfl⟩
theorem dL_law_330 : dn code 330 (.iconst 1) 1 331 := ⟨by decide +kernel, rfl⟩
theorem dL_law_331 : dn code 331 (.iadd) 1 332 := ⟨by decide +kernel, rfl⟩
theorem dL_law_332 : dn code 332 (.iaload) 1 333 := ⟨by decide +kernel, rfl⟩
theorem dL_law_333 : dn code 333 (.invokevirtual 36) 3 336 := ⟨by decide +kernel, rfl⟩
theorem dL_law_336 : dn code 336 (.aload_n 2) 1 337 := ⟨by decide +kernel, rfl⟩
theorem dL_law_337 : dn code 337 (.aload_n 0) 1 338 := ⟨by decide +kernel, rfl⟩
theorem dL_law_338 : dn code 338 (.iload_n 3) 1 339 := ⟨by decide +kernel, rfl⟩
theorem dL_law_339 : dn code 339 (.iconst 1) 1 340 := ⟨by decide +kernel, rfl⟩
theorem dL_law_340 : dn code 340 (.iadd) 1 341 := ⟨by decide +kernel, rfl⟩
theorem dL_law_341 : dn code 341 (.iaload) 1 342 := ⟨by decide +kernel, rfl⟩
theorem dL_law_342 : dn code 342 (.invokevirtual 39) 3 345 := ⟨by decide +kernel, rfl⟩
theorem dL_law_345 : db code 345 (.if_icmp .eq 540) 3 348 (540) 885 := ⟨by decide +kernel, rfl, rfl⟩
theorem dL_law_348 : dn code 348 (.iconst 0) 1 349 := ⟨by decide +kernel, rfl⟩
theorem dL_law_349 : dn code 349 (.ireturn) 1 350 := ⟨by decide +kernel, rfl⟩
theorem dL_law_350 : dn code 350 (.aload_n 1) 1 351 := ⟨by decide +kernel, rfl⟩
theorem dL_law_351 : dn code 351 (.aload_n 0) 1 352 := ⟨by decide +kernel, rfl⟩
theorem dL_law_352 : dn code 352 (.iload_n 3) 1 353 := ⟨by decide +kernel, rfl⟩
theorem dL_law_353 : dn code 353 (.iconst 1) 1 354 := ⟨by decide +kernel, rfl⟩
theorem dL_law_354 : dn code 354 (.iadd) 1 355 := ⟨by decide +kernel, rfl⟩
theorem dL_law_355 : dn code 355 (.iaload) 1 356 := ⟨by decide +kernel, rfl⟩
theorem dL_law_356 : dn code 356 (.aload_n 0) 1 357 := ⟨by decide +kernel, rfl⟩
theorem dL_law_357 : dn code 357 (.iload_n 3) 1 358 := ⟨by decide +kernel, rfl⟩
theorem dL_law_358 : dn code 358 (.iconst 2) 1 359 := ⟨by decide +kernel, rfl⟩
theorem dL_law_359 : dn code 359 (.iadd) 1 360 := ⟨by decide +kernel, rfl⟩
theorem dL_law_360 : dn code 360 (.iaload) 1 361 := ⟨by decide +kernel, rfl⟩
theorem dL_law_361 : dn code 361 (.invokevirtual 40) 3 364 := ⟨by decide +kernel, rfl⟩
theorem dL_law_364 : dn code 364 (.aload_n 2) 1 365 := ⟨by decide +kernel, rfl⟩
theorem dL_law_365 : dn code 365 (.aload_n 0) 1 366 := ⟨by decide +kernel, rfl⟩
theorem dL_law_366 : dn code 366 (.iload_n 3) 1 367 := ⟨by decide +kernel, rfl⟩
theorem dL_law_367 : dn code 367 (.iconst 1) 1 368 := ⟨by decide +kernel, rfl⟩
theorem dL_law_368 : dn code 368 (.iadd) 1 369 := ⟨by decide +kernel, rfl⟩
theorem dL_law_369 : dn code 369 (.iaload) 1 370 := ⟨by decide +kernel, rfl⟩
theorem dL_law_370 : dn code 370 (.aload_n 0) 1 371 := ⟨by decide +kernel, rfl⟩
theorem dL_law_371 : dn code 371 (.iload_n 3) 1 372 := ⟨by decide +kernel, rfl⟩
theorem dL_law_372 : dn code 372 (.iconst 2) 1 373 := ⟨by decide +kernel, rfl⟩
theorem dL_law_373 : dn code 373 (.iadd) 1 374 := ⟨by decide +kernel, rfl⟩
theorem dL_law_374 : dn code 374 (.iaload) 1 375 := ⟨by decide +kernel, rfl⟩
theorem dL_law_375 : dn code 375 (.invokevirtual 43) 3 378 := ⟨by decide +kernel, rfl⟩
theorem dL_law_378 : db code 378 (.if_icmp .eq 507) 3 381 (507) 885 := ⟨by decide +kernel, rfl, rfl⟩
theorem dL_law_381 : dn code 381 (.iconst 0) 1 382 := ⟨by decide +kernel, rfl⟩
theorem dL_law_382 : dn code 382 (.ireturn) 1 383 := ⟨by decide +kernel, rfl⟩
theorem dL_law_383 : dn code 383 (.aload_n 1) 1 384 := ⟨by decide +kernel, rfl⟩
theorem dL_law_384 : dn code 384 (.aload_n 0) 1 385 := ⟨by decide +kernel, rfl⟩
theorem dL_law_385 : dn code 385 (.iload_n 3) 1 386 := ⟨by decide +kernel, rfl⟩
theorem dL_law_386 : dn code 386 (.iconst 1) 1 387 := ⟨by decide +kernel, rfl⟩
theorem dL_law_387 : dn code 387 (.iadd) 1 388 := ⟨by decide +kernel, rfl⟩
theorem dL_law_388 : dn code 388 (.iaload) 1 389 := ⟨by decide +kernel, rfl⟩
theorem dL_law_389 : dn code 389 (.aload_n 0) 1 390 := ⟨by decide +kernel, rfl⟩
theorem dL_law_390 : dn code 390 (.iload_n 3) 1 391 := ⟨by decide +kernel, rfl⟩
theorem dL_law_391 : dn code 391 (.iconst 2) 1 392 := ⟨by decide +kernel, rfl⟩
theorem dL_law_392 : dn code 392 (.iadd) 1 393 := ⟨by decide +kernel, rfl⟩
theorem dL_law_393 : dn code 393 (.iaload) 1 394 := ⟨by decide +kernel, rfl⟩
theorem dL_law_394 : dn code 394 (.invokevirtual 44) 3 397 := ⟨by decide +kernel, rfl⟩
theorem dL_law_397 : dn code 397 (.aload_n 2) 1 398 := ⟨by decide +kernel, rfl⟩
theorem dL_law_398 : dn code 398 (.aload_n 0) 1 399 := ⟨by decide +kernel, rfl⟩
theorem dL_law_399 : dn code 399 (.iload_n 3) 1 400 := ⟨by decide +kernel, rfl⟩
theorem dL_law_400 : dn code 400 (.iconst 1) 1 401 := ⟨by decide +kernel, rfl⟩
theorem dL_law_401 : dn code 401 (.iadd) 1 402 := ⟨by decide +kernel, rfl⟩
theorem dL_law_402 : dn code 402 (.iaload) 1 403 := ⟨by decide +kernel, rfl⟩
theorem dL_law_403 : dn code 403 (.aload_n 0) 1 404 := ⟨by decide +kernel, rfl⟩
theorem dL_law_404 : dn code 404 (.iload_n 3) 1 405 := ⟨by decide +kernel, rfl⟩
theorem dL_law_405 : dn code 405 (.iconst 2) 1 406 := ⟨by decide +kernel, rfl⟩
theorem dL_law_406 : dn code 406 (.iadd) 1 407 := ⟨by decide +kernel, rfl⟩
theorem dL_law_407 : dn code 407 (.iaload) 1 408 := ⟨by decide +kernel, rfl⟩
theorem dL_law_408 : dn code 408 (.invokevirtual 47) 3 411 := ⟨by decide +kernel, rfl⟩
theorem dL_law_411 : db code 411 (.if_icmp .eq 474) 3 414 (474) 885 := ⟨by decide +kernel, rfl, rfl⟩
theorem dL_law_414 : dn code 414 (.iconst 0) 1 415 := ⟨by decide +kernel, rfl⟩
theorem dL_law_415 : dn code 415 (.ireturn) 1 416 := ⟨by decide +kernel, rfl⟩
theorem dL_law_416 : dn code 416 (.aload_n 1) 1 417 := ⟨by decide +kernel, rfl⟩
theorem dL_law_417 : dn code 417 (.aload_n 0) 1 418 := ⟨by decide +kernel, rfl⟩
theorem dL_law_418 : dn code 418 (.iload_n 3) 1 419 := ⟨by decide +kernel, rfl⟩
theorem dL_law_419 : dn code 419 (.iconst 1) 1 420 := ⟨by decide +kernel, rfl⟩
theorem dL_law_420 : dn code 420 (.iadd) 1 421 := ⟨by decide +kernel, rfl⟩
theorem dL_law_421 : dn code 421 (.iaload) 1 422 := ⟨by decide +kernel, rfl⟩
theorem dL_law_422 : dn code 422 (.aload_n 0) 1 423 := ⟨by decide +kernel, rfl⟩
theorem dL_law_423 : dn code 423 (.iload_n 3) 1 424 := ⟨by decide +kernel, rfl⟩
theorem dL_law_424 : dn code 424 (.iconst 2) 1 425 := ⟨by decide +kernel, rfl⟩
theorem dL_law_425 : dn code 425 (.iadd) 1 426 := ⟨by decide +kernel, rfl⟩
theorem dL_law_426 : dn code 426 (.iaload) 1 427 := ⟨by decide +kernel, rfl⟩
theorem dL_law_427 : dn code 427 (.invokevirtual 48) 3 430 := ⟨by decide +kernel, rfl⟩
theorem dL_law_430 : dn code 430 (.aload_n 2) 1 431 := ⟨by decide +kernel, rfl⟩
theorem dL_law_431 : dn code 431 (.aload_n 0) 1 432 := ⟨by decide +kernel, rfl⟩
theorem dL_law_432 : dn code 432 (.iload_n 3) 1 433 := ⟨by decide +kernel, rfl⟩
theorem dL_law_433 : dn code 433 (.iconst 1) 1 434 := ⟨by decide +kernel, rfl⟩
theorem dL_law_434 : dn code 434 (.iadd) 1 435 := ⟨by decide +kernel, rfl⟩
theorem dL_law_435 : dn code 435 (.iaload) 1 436 := ⟨by decide +kernel, rfl⟩
theorem dL_law_436 : dn code 436 (.aload_n 0) 1 437 := ⟨by decide +kernel, rfl⟩
theorem dL_law_437 : dn code 437 (.iload_n 3) 1 438 := ⟨by decide +kernel, rfl⟩
theorem dL_law_438 : dn code 438 (.iconst 2) 1 439 := ⟨by decide +kernel, rfl⟩
theorem dL_law_439 : dn code 439 (.iadd) 1 440 := ⟨by decide +kernel, rfl⟩
theorem dL_law_440 : dn code 440 (.iaload) 1 441 := ⟨by decide +kernel, rfl⟩
theorem dL_law_441 : dn code 441 (.invokevirtual 51) 3 444 := ⟨by decide +kernel, rfl⟩
theorem dL_law_444 : db code 444 (.if_icmp .eq 441) 3 447 (441) 885 := ⟨by decide +kernel, rfl, rfl⟩
theorem dL_law_447 : dn code 447 (.iconst 0) 1 448 := ⟨by decide +kernel, rfl⟩
theorem dL_law_448 : dn code 448 (.ireturn) 1 449 := ⟨by decide +kernel, rfl⟩
theorem dL_law_449 : dn code 449 (.aload_n 1) 1 450 := ⟨by decide +kernel, rfl⟩
theorem dL_law_450 : dn code 450 (.aload_n 0) 1 451 := ⟨by decide +kernel, rfl⟩
theorem dL_law_451 : dn code 451 (.iload_n 3) 1 452 := ⟨by decide +kernel, rfl⟩
theorem dL_law_452 : dn code 452 (.iconst 1) 1 453 := ⟨by decide +kernel, rfl⟩
theorem dL_law_453 : dn code 453 (.iadd) 1 454 := ⟨by decide +kernel, rfl⟩
theorem dL_law_454 : dn code 454 (.iaload) 1 455 := ⟨by decide +kernel, rfl⟩
theorem dL_law_455 : dn code 455 (.aload_n 0) 1 456 := ⟨by decide +kernel, rfl⟩
theorem dL_law_456 : dn code 456 (.iload_n 3) 1 457 := ⟨by decide +kernel, rfl⟩
theorem dL_law_457 : dn code 457 (.iconst 2) 1 458 := ⟨by decide +kernel, rfl⟩
theorem dL_law_458 : dn code 458 (.iadd) 1 459 := ⟨by decide +kernel, rfl⟩
theorem dL_law_459 : dn code 459 (.iaload) 1 460 := ⟨by decide +kernel, rfl⟩
theorem dL_law_460 : dn code 460 (.invokevirtual 52) 3 463 := ⟨by decide +kernel, rfl⟩
theorem dL_law_463 : dn code 463 (.aload_n 2) 1 464 := ⟨by decide +kernel, rfl⟩
theorem dL_law_464 : dn code 464 (.aload_n 0) 1 465 := ⟨by decide +kernel, rfl⟩
theorem dL_law_465 : dn code 465 (.iload_n 3) 1 466 := ⟨by decide +kernel, rfl⟩
theorem dL_law_466 : dn code 466 (.iconst 1) 1 467 := ⟨by decide +kernel, rfl⟩
theorem dL_law_467 : dn code 467 (.iadd) 1 468 := ⟨by decide +kernel, rfl⟩
theorem dL_law_468 : dn code 468 (.iaload) 1 469 := ⟨by decide +kernel, rfl⟩
theorem dL_law_469 : dn code 469 (.aload_n 0) 1 470 := ⟨by decide +kernel, rfl⟩
theorem dL_law_470 : dn code 470 (.iload_n 3) 1 471 := ⟨by decide +kernel, rfl⟩
theorem dL_law_471 : dn code 471 (.iconst 2) 1 472 := ⟨by decide +kernel, rfl⟩
theorem dL_law_472 : dn code 472 (.iadd) 1 473 := ⟨by decide +kernel, rfl⟩
theorem dL_law_473 : dn code 473 (.iaload) 1 474 := ⟨by decide +kernel, rfl⟩
theorem dL_law_474 : dn code 474 (.invokevirtual 55) 3 477 := ⟨by decide +kernel, rfl⟩
theorem dL_law_477 : db code 477 (.if_icmp .eq 408) 3 480 (408) 885 := ⟨by decide +kernel, rfl, rfl⟩
theorem dL_law_480 : dn code 480 (.iconst 0) 1 481 := ⟨by decide +kernel, rfl⟩
theorem dL_law_481 : dn code 481 (.ireturn) 1 482 := ⟨by decide +kernel, rfl⟩
theorem dL_law_482 : dn code 482 (.aload_n 1) 1 483 := ⟨by decide +kernel, rfl⟩
theorem dL_law_483 : dn code 483 (.aload_n 0) 1 484 := ⟨by decide +kernel, rfl⟩
theorem dL_law_484 : dn code 484 (.iload_n 3) 1 485 := ⟨by decide +kernel, rfl⟩
theorem dL_law_485 : dn code 485 (.iconst 1) 1 486 := ⟨by decide +kernel, rfl⟩
theorem dL_law_486 : dn code 486 (.iadd) 1 487 := ⟨by decide +kernel, rfl⟩
theorem dL_law_487 : dn code 487 (.iaload) 1 488 := ⟨by decide +kernel, rfl⟩
theorem dL_law_488 : dn code 488 (.aload_n 0) 1 489 := ⟨by decide +kernel, rfl⟩
theorem dL_law_489 : dn code 489 (.iload_n 3) 1 490 := ⟨by decide +kernel, rfl⟩
theorem dL_law_490 : dn code 490 (.iconst 2) 1 491 := ⟨by decide +kernel, rfl⟩
theorem dL_law_491 : dn code 491 (.iadd) 1 492 := ⟨by decide +kernel, rfl⟩
theorem dL_law_492 : dn code 492 (.iaload) 1 493 := ⟨by decide +kernel, rfl⟩
theorem dL_law_493 : dn code 493 (.aload_n 0) 1 494 := ⟨by decide +kernel, rfl⟩
theorem dL_law_494 : dn code 494 (.iload_n 3) 1 495 := ⟨by decide +kernel, rfl⟩
theorem dL_law_495 : dn code 495 (.iconst 3) 1 496 := ⟨by decide +kernel, rfl⟩
theorem dL_law_496 : dn code 496 (.iadd) 1 497 := ⟨by decide +kernel, rfl⟩
theorem dL_law_497 : dn code 497 (.iaload) 1 498 := ⟨by decide +kernel, rfl⟩
theorem dL_law_498 : dn code 498 (.invokevirtual 56) 3 501 := ⟨by decide +kernel, rfl⟩
theorem dL_law_501 : dn code 501 (.aload_n 2) 1 502 := ⟨by decide +kernel, rfl⟩
theorem dL_law_502 : dn code 502 (.aload_n 0) 1 503 := ⟨by decide +kernel, rfl⟩
theorem dL_law_503 : dn code 503 (.iload_n 3) 1 504 := ⟨by decide +kernel, rfl⟩
theorem dL_law_504 : dn code 504 (.iconst 1) 1 505 := ⟨by decide +kernel, rfl⟩
theorem dL_law_505 : dn code 505 (.iadd) 1 506 := ⟨by decide +kernel, rfl⟩
theorem dL_law_506 : dn code 506 (.iaload) 1 507 := ⟨by decide +kernel, rfl⟩
theorem dL_law_507 : dn code 507 (.aload_n 0) 1 508 := ⟨by decide +kernel, rfl⟩
theorem dL_law_508 : dn code 508 (.iload_n 3) 1 509 := ⟨by decide +kernel, rfl⟩
theorem dL_law_509 : dn code 509 (.iconst 2) 1 510 := ⟨by decide +kernel, rfl⟩
theorem dL_law_510 : dn code 510 (.iadd) 1 511 := ⟨by decide +kernel, rfl⟩
theorem dL_law_511 : dn code 511 (.iaload) 1 512 := ⟨by decide +kernel, rfl⟩
theorem dL_law_512 : dn code 512 (.aload_n 0) 1 513 := ⟨by decide +kernel, rfl⟩
theorem dL_law_513 : dn code 513 (.iload_n 3) 1 514 := ⟨by decide +kernel, rfl⟩
theorem dL_law_514 : dn code 514 (.iconst 3) 1 515 := ⟨by decide +kernel, rfl⟩
theorem dL_law_515 : dn code 515 (.iadd) 1 516 := ⟨by decide +kernel, rfl⟩
theorem dL_law_516 : dn code 516 (.iaload) 1 517 := ⟨by decide +kernel, rfl⟩
theorem dL_law_517 : dn code 517 (.invokevirtual 60) 3 520 := ⟨by decide +kernel, rfl⟩
theorem dL_law_520 : db code 520 (.if_icmp .eq 365) 3 523 (365) 885 := ⟨by decide +kernel, rfl, rfl⟩
theorem dL_law_523 : dn code 523 (.iconst 0) 1 524 := ⟨by decide +kernel, rfl⟩
theorem dL_law_524 : dn code 524 (.ireturn) 1 525 := ⟨by decide +kernel, rfl⟩
theorem dL_law_525 : dn code 525 (.aload_n 1) 1 526 := ⟨by decide +kernel, rfl⟩
theorem dL_law_526 : dn code 526 (.aload_n 0) 1 527 := ⟨by decide +kernel, rfl⟩
theorem dL_law_527 : dn code 527 (.iload_n 3) 1 528 := ⟨by decide +kernel, rfl⟩
theorem dL_law_528 : dn code 528 (.iconst 1) 1 529 := ⟨by decide +kernel, rfl⟩
theorem dL_law_529 : dn code 529 (.iadd) 1 530 := ⟨by decide +kernel, rfl⟩
theorem dL_law_530 : dn code 530 (.iaload) 1 531 := ⟨by decide +kernel, rfl⟩
theorem dL_law_531 : dn code 531 (.aload_n 0) 1 532 := ⟨by decide +kernel, rfl⟩
theorem dL_law_532 : dn code 532 (.iload_n 3) 1 533 := ⟨by decide +kernel, rfl⟩
theorem dL_law_533 : dn code 533 (.iconst 2) 1 534 := ⟨by decide +kernel, rfl⟩
theorem dL_law_534 : dn code 534 (.iadd) 1 535 := ⟨by decide +kernel, rfl⟩
theorem dL_law_535 : dn code 535 (.iaload) 1 536 := ⟨by decide +kernel, rfl⟩
theorem dL_law_536 : dn code 536 (.aload_n 0) 1 537 := ⟨by decide +kernel, rfl⟩
theorem dL_law_537 : dn code 537 (.iload_n 3) 1 538 := ⟨by decide +kernel, rfl⟩
theorem dL_law_538 : dn code 538 (.iconst 3) 1 539 := ⟨by decide +kernel, rfl⟩
theorem dL_law_539 : dn code 539 (.iadd) 1 540 := ⟨by decide +kernel, rfl⟩
theorem dL_law_540 : dn code 540 (.iaload) 1 541 := ⟨by decide +kernel, rfl⟩
theorem dL_law_541 : dn code 541 (.aload_n 0) 1 542 := ⟨by decide +kernel, rfl⟩
theorem dL_law_542 : dn code 542 (.iload_n 3) 1 543 := ⟨by decide +kernel, rfl⟩
theorem dL_law_543 : dn code 543 (.iconst 4) 1 544 := ⟨by decide +kernel, rfl⟩
theorem dL_law_544 : dn code 544 (.iadd) 1 545 := ⟨by decide +kernel, rfl⟩
theorem dL_law_545 : dn code 545 (.iaload) 1 546 := ⟨by decide +kernel, rfl⟩
theorem dL_law_546 : dn code 546 (.invokevirtual 61) 3 549 := ⟨by decide +kernel, rfl⟩
theorem dL_law_549 : dn code 549 (.aload_n 2) 1 550 := ⟨by decide +kernel, rfl⟩
theorem dL_law_550 : dn code 550 (.aload_n 0) 1 551 := ⟨by decide +kernel, rfl⟩
theorem dL_law_551 : dn code 551 (.iload_n 3) 1 552 := ⟨by decide +kernel, rfl⟩
theorem dL_law_552 : dn code 552 (.iconst 1) 1 553 := ⟨by decide +kernel, rfl⟩
theorem dL_law_553 : dn code 553 (.iadd) 1 554 := ⟨by decide +kernel, rfl⟩
theorem dL_law_554 : dn code 554 (.iaload) 1 555 := ⟨by decide +kernel, rfl⟩
theorem dL_law_555 : dn code 555 (.aload_n 0) 1 556 := ⟨by decide +kernel, rfl⟩
theorem dL_law_556 : dn code 556 (.iload_n 3) 1 557 := ⟨by decide +kernel, rfl⟩
theorem dL_law_557 : dn code 557 (.iconst 2) 1 558 := ⟨by decide +kernel, rfl⟩
theorem dL_law_558 : dn code 558 (.iadd) 1 559 := ⟨by decide +kernel, rfl⟩
theorem dL_law_559 : dn code 559 (.iaload) 1 560 := ⟨by decide +kernel, rfl⟩
theorem dL_law_560 : dn code 560 (.aload_n 0) 1 561 := ⟨by decide +kernel, rfl⟩
theorem dL_law_561 : dn code 561 (.iload_n 3) 1 562 := ⟨by decide +kernel, rfl⟩
theorem dL_law_562 : dn code 562 (.iconst 3) 1 563 := ⟨by decide +kernel, rfl⟩
theorem dL_law_563 : dn code 563 (.iadd) 1 564 := ⟨by decide +kernel, rfl⟩
theorem dL_law_564 : dn code 564 (.iaload) 1 565 := ⟨by decide +kernel, rfl⟩
theorem dL_law_565 : dn code 565 (.aload_n 0) 1 566 := ⟨by decide +kernel, rfl⟩
theorem dL_law_566 : dn code 566 (.iload_n 3) 1 567 := ⟨by decide +kernel, rfl⟩
theorem dL_law_567 : dn code 567 (.iconst 4) 1 568 := ⟨by decide +kernel, rfl⟩
theorem dL_law_568 : dn code 568 (.iadd) 1 569 := ⟨by decide +kernel, rfl⟩
theorem dL_law_569 : dn code 569 (.iaload) 1 570 := ⟨by decide +kernel, rfl⟩
theorem dL_law_570 : dn code 570 (.invokevirtual 64) 3 573 := ⟨by decide +kernel, rfl⟩
theorem dL_law_573 : db code 573 (.if_icmp .eq 312) 3 576 (312) 885 := ⟨by decide +kernel, rfl, rfl⟩
theorem dL_law_576 : dn code 576 (.iconst 0) 1 577 := ⟨by decide +kernel, rfl⟩
theorem dL_law_577 : dn code 577 (.ireturn) 1 578 := ⟨by decide +kernel, rfl⟩
theorem dL_law_578 : dn code 578 (.aload_n 1) 1 579 := ⟨by decide +kernel, rfl⟩
theorem dL_law_579 : dn code 579 (.aload_n 0) 1 580 := ⟨by decide +kernel, rfl⟩
theorem dL_law_580 : dn code 580 (.iload_n 3) 1 581 := ⟨by decide +kernel, rfl⟩
theorem dL_law_581 : dn code 581 (.iconst 1) 1 582 := ⟨by decide +kernel, rfl⟩
theorem dL_law_582 : dn code 582 (.iadd) 1 583 := ⟨by decide +kernel, rfl⟩
theorem dL_law_583 : dn code 583 (.iaload) 1 584 := ⟨by decide +kernel, rfl⟩
theorem dL_law_584 : dn code 584 (.aload_n 0) 1 585 := ⟨by decide +kernel, rfl⟩
theorem dL_law_585 : dn code 585 (.iload_n 3) 1 586 := ⟨by decide +kernel, rfl⟩
theorem dL_law_586 : dn code 586 (.iconst 2) 1 587 := ⟨by decide +kernel, rfl⟩
theorem dL_law_587 : dn code 587 (.iadd) 1 588 := ⟨by decide +kernel, rfl⟩
theorem dL_law_588 : dn code 588 (.iaload) 1 589 := ⟨by decide +kernel, rfl⟩
theorem dL_law_589 : dn code 589 (.aload_n 0) 1 590 := ⟨by decide +kernel, rfl⟩
theorem dL_law_590 : dn code 590 (.iload_n 3) 1 591 := ⟨by decide +kernel, rfl⟩
theorem dL_law_591 : dn code 591 (.iconst 3) 1 592 := ⟨by decide +kernel, rfl⟩
theorem dL_law_592 : dn code 592 (.iadd) 1 593 := ⟨by decide +kernel, rfl⟩
theorem dL_law_593 : dn code 593 (.iaload) 1 594 := ⟨by decide +kernel, rfl⟩
theorem dL_law_594 : dn code 594 (.invokevirtual 65) 3 597 := ⟨by decide +kernel, rfl⟩
theorem dL_law_597 : dn code 597 (.aload_n 2) 1 598 := ⟨by decide +kernel, rfl⟩
theorem dL_law_598 : dn code 598 (.aload_n 0) 1 599 := ⟨by decide +kernel, rfl⟩
theorem dL_law_599 : dn code 599 (.iload_n 3) 1 600 := ⟨by decide +kernel, rfl⟩
theorem dL_law_600 : dn code 600 (.iconst 1) 1 601 := ⟨by decide +kernel, rfl⟩
theorem dL_law_601 : dn code 601 (.iadd) 1 602 := ⟨by decide +kernel, rfl⟩
theorem dL_law_602 : dn code 602 (.iaload) 1 603 := ⟨by decide +kernel, rfl⟩
theorem dL_law_603 : dn code 603 (.aload_n 0) 1 604 := ⟨by decide +kernel, rfl⟩
theorem dL_law_604 : dn code 604 (.iload_n 3) 1 605 := ⟨by decide +kernel, rfl⟩
theorem dL_law_605 : dn code 605 (.iconst 2) 1 606 := ⟨by decide +kernel, rfl⟩
theorem dL_law_606 : dn code 606 (.iadd) 1 607 := ⟨by decide +kernel, rfl⟩
theorem dL_law_607 : dn code 607 (.iaload) 1 608 := ⟨by decide +kernel, rfl⟩
theorem dL_law_608 : dn code 608 (.aload_n 0) 1 609 := ⟨by decide +kernel, rfl⟩
theorem dL_law_609 : dn code 609 (.iload_n 3) 1 610 := ⟨by decide +kernel, rfl⟩
theorem dL_law_610 : dn code 610 (.iconst 3) 1 611 := ⟨by decide +kernel, rfl⟩
theorem dL_law_611 : dn code 611 (.iadd) 1 612 := ⟨by decide +kernel, rfl⟩
theorem dL_law_612 : dn code 612 (.iaload) 1 613 := ⟨by decide +kernel, rfl⟩
theorem dL_law_613 : dn code 613 (.invokevirtual 68) 3 616 := ⟨by decide +kernel, rfl⟩
theorem dL_law_616 : db code 616 (.if_icmp .eq 269) 3 619 (269) 885 := ⟨by decide +kernel, rfl, rfl⟩
theorem dL_law_619 : dn code 619 (.iconst 0) 1 620 := ⟨by decide +kernel, rfl⟩
theorem dL_law_620 : dn code 620 (.ireturn) 1 621 := ⟨by decide +kernel, rfl⟩
theorem dL_law_621 : dn code 621 (.aload_n 1) 1 622 := ⟨by decide +kernel, rfl⟩
theorem dL_law_622 : dn code 622 (.aload_n 0) 1 623 := ⟨by decide +kernel, rfl⟩
theorem dL_law_623 : dn code 623 (.iload_n 3) 1 624 := ⟨by decide +kernel, rfl⟩
theorem dL_law_624 : dn code 624 (.iconst 1) 1 625 := ⟨by decide +kernel, rfl⟩
theorem dL_law_625 : dn code 625 (.iadd) 1 626 := ⟨by decide +kernel, rfl⟩
theorem dL_law_626 : dn code 626 (.iaload) 1 627 := ⟨by decide +kernel, rfl⟩
theorem dL_law_627 : dn code 627 (.aload_n 0) 1 628 := ⟨by decide +kernel, rfl⟩
theorem dL_law_628 : dn code 628 (.iload_n 3) 1 629 := ⟨by decide +kernel, rfl⟩
theorem dL_law_629 : dn code 629 (.iconst 2) 1 630 := ⟨by decide +kernel, rfl⟩
theorem dL_law_630 : dn code 630 (.iadd) 1 631 := ⟨by decide +kernel, rfl⟩
theorem dL_law_631 : dn code 631 (.iaload) 1 632 := ⟨by decide +kernel, rfl⟩
theorem dL_law_632 : dn code 632 (.aload_n 0) 1 633 := ⟨by decide +kernel, rfl⟩
theorem dL_law_633 : dn code 633 (.iload_n 3) 1 634 := ⟨by decide +kernel, rfl⟩
theorem dL_law_634 : dn code 634 (.iconst 3) 1 635 := ⟨by decide +kernel, rfl⟩
theorem dL_law_635 : dn code 635 (.iadd) 1 636 := ⟨by decide +kernel, rfl⟩
theorem dL_law_636 : dn code 636 (.iaload) 1 637 := ⟨by decide +kernel, rfl⟩
theorem dL_law_637 : dn code 637 (.invokevirtual 69) 3 640 := ⟨by decide +kernel, rfl⟩
theorem dL_law_640 : dn code 640 (.aload_n 2) 1 641 := ⟨by decide +kernel, rfl⟩
theorem dL_law_641 : dn code 641 (.aload_n 0) 1 642 := ⟨by decide +kernel, rfl⟩
theorem dL_law_642 : dn code 642 (.iload_n 3) 1 643 := ⟨by decide +kernel, rfl⟩
theorem dL_law_643 : dn code 643 (.iconst 1) 1 644 := ⟨by decide +kernel, rfl⟩
theorem dL_law_644 : dn code 644 (.iadd) 1 645 := ⟨by decide +kernel, rfl⟩
theorem dL_law_645 : dn code 645 (.iaload) 1 646 := ⟨by decide +kernel, rfl⟩
theorem dL_law_646 : dn code 646 (.aload_n 0) 1 647 := ⟨by decide +kernel, rfl⟩
theorem dL_law_647 : dn code 647 (.iload_n 3) 1 648 := ⟨by decide +kernel, rfl⟩
theorem dL_law_648 : dn code 648 (.iconst 2) 1 649 := ⟨by decide +kernel, rfl⟩
theorem dL_law_649 : dn code 649 (.iadd) 1 650 := ⟨by decide +kernel, rfl⟩
theorem dL_law_650 : dn code 650 (.iaload) 1 651 := ⟨by decide +kernel, rfl⟩
theorem dL_law_651 : dn code 651 (.aload_n 0) 1 652 := ⟨by decide +kernel, rfl⟩
theorem dL_law_652 : dn code 652 (.iload_n 3) 1 653 := ⟨by decide +kernel, rfl⟩
theorem dL_law_653 : dn code 653 (.iconst 3) 1 654 := ⟨by decide +kernel, rfl⟩
theorem dL_law_654 : dn code 654 (.iadd) 1 655 := ⟨by decide +kernel, rfl⟩
theorem dL_law_655 : dn code 655 (.iaload) 1 656 := ⟨by decide +kernel, rfl⟩
theorem dL_law_656 : dn code 656 (.invokevirtual 72) 3 659 := ⟨by decide +kernel, rfl⟩
theorem dL_law_659 : db code 659 (.if_icmp .eq 226) 3 662 (226) 885 := ⟨by decide +kernel, rfl, rfl⟩
theorem dL_law_662 : dn code 662 (.iconst 0) 1 663 := ⟨by decide +kernel, rfl⟩
theorem dL_law_663 : dn code 663 (.ireturn) 1 664 := ⟨by decide +kernel, rfl⟩
theorem dL_law_664 : dn code 664 (.aload_n 1) 1 665 := ⟨by decide +kernel, rfl⟩
theorem dL_law_665 : dn code 665 (.aload_n 0) 1 666 := ⟨by decide +kernel, rfl⟩
theorem dL_law_666 : dn code 666 (.iload_n 3) 1 667 := ⟨by decide +kernel, rfl⟩
theorem dL_law_667 : dn code 667 (.iconst 1) 1 668 := ⟨by decide +kernel, rfl⟩
theorem dL_law_668 : dn code 668 (.iadd) 1 669 := ⟨by decide +kernel, rfl⟩
theorem dL_law_669 : dn code 669 (.iaload) 1 670 := ⟨by decide +kernel, rfl⟩
theorem dL_law_670 : dn code 670 (.aload_n 0) 1 671 := ⟨by decide +kernel, rfl⟩
theorem dL_law_671 : dn code 671 (.iload_n 3) 1 672 := ⟨by decide +kernel, rfl⟩
theorem dL_law_672 : dn code 672 (.iconst 2) 1 673 := ⟨by decide +kernel, rfl⟩
theorem dL_law_673 : dn code 673 (.iadd) 1 674 := ⟨by decide +kernel, rfl⟩
theorem dL_law_674 : dn code 674 (.iaload) 1 675 := ⟨by decide +kernel, rfl⟩
theorem dL_law_675 : dn code 675 (.aload_n 0) 1 676 := ⟨by decide +kernel, rfl⟩
theorem dL_law_676 : dn code 676 (.iload_n 3) 1 677 := ⟨by decide +kernel, rfl⟩
theorem dL_law_677 : dn code 677 (.iconst 3) 1 678 := ⟨by decide +kernel, rfl⟩
theorem dL_law_678 : dn code 678 (.iadd) 1 679 := ⟨by decide +kernel, rfl⟩
theorem dL_law_679 : dn code 679 (.iaload) 1 680 := ⟨by decide +kernel, rfl⟩
theorem dL_law_680 : dn code 680 (.invokevirtual 73) 3 683 := ⟨by decide +kernel, rfl⟩
theorem dL_law_683 : dn code 683 (.aload_n 2) 1 684 := ⟨by decide +kernel, rfl⟩
theorem dL_law_684 : dn code 684 (.aload_n 0) 1 685 := ⟨by decide +kernel, rfl⟩
theorem dL_law_685 : dn code 685 (.iload_n 3) 1 686 := ⟨by decide +kernel, rfl⟩
theorem dL_law_686 : dn code 686 (.iconst 1) 1 687 := ⟨by decide +kernel, rfl⟩
theorem dL_law_687 : dn code 687 (.iadd) 1 688 := ⟨by decide +kernel, rfl⟩
theorem dL_law_688 : dn code 688 (.iaload) 1 689 := ⟨by decide +kernel, rfl⟩
theorem dL_law_689 : dn code 689 (.aload_n 0) 1 690 := ⟨by decide +kernel, rfl⟩
theorem dL_law_690 : dn code 690 (.iload_n 3) 1 691 := ⟨by decide +kernel, rfl⟩
theorem dL_law_691 : dn code 691 (.iconst 2) 1 692 := ⟨by decide +kernel, rfl⟩
theorem dL_law_692 : dn code 692 (.iadd) 1 693 := ⟨by decide +kernel, rfl⟩
theorem dL_law_693 : dn code 693 (.iaload) 1 694 := ⟨by decide +kernel, rfl⟩
theorem dL_law_694 : dn code 694 (.aload_n 0) 1 695 := ⟨by decide +kernel, rfl⟩
theorem dL_law_695 : dn code 695 (.iload_n 3) 1 696 := ⟨by decide +kernel, rfl⟩
theorem dL_law_696 : dn code 696 (.iconst 3) 1 697 := ⟨by decide +kernel, rfl⟩
theorem dL_law_697 : dn code 697 (.iadd) 1 698 := ⟨by decide +kernel, rfl⟩
theorem dL_law_698 : dn code 698 (.iaload) 1 699 := ⟨by decide +kernel, rfl⟩
theorem dL_law_699 : dn code 699 (.invokevirtual 76) 3 702 := ⟨by decide +kernel, rfl⟩
theorem dL_law_702 : db code 702 (.if_icmp .eq 183) 3 705 (183) 885 := ⟨by decide +kernel, rfl, rfl⟩
theorem dL_law_705 : dn code 705 (.iconst 0) 1 706 := ⟨by decide +kernel, rfl⟩
theorem dL_law_706 : dn code 706 (.ireturn) 1 707 := ⟨by decide +kernel, rfl⟩
theorem dL_law_707 : dn code 707 (.aload_n 1) 1 708 := ⟨by decide +kernel, rfl⟩
theorem dL_law_708 : dn code 708 (.aload_n 0) 1 709 := ⟨by decide +kernel, rfl⟩
theorem dL_law_709 : dn code 709 (.iload_n 3) 1 710 := ⟨by decide +kernel, rfl⟩
theorem dL_law_710 : dn code 710 (.iconst 1) 1 711 := ⟨by decide +kernel, rfl⟩
theorem dL_law_711 : dn code 711 (.iadd) 1 712 := ⟨by decide +kernel, rfl⟩
theorem dL_law_712 : dn code 712 (.iaload) 1 713 := ⟨by decide +kernel, rfl⟩
theorem dL_law_713 : dn code 713 (.aload_n 0) 1 714 := ⟨by decide +kernel, rfl⟩
theorem dL_law_714 : dn code 714 (.iload_n 3) 1 715 := ⟨by decide +kernel, rfl⟩
theorem dL_law_715 : dn code 715 (.iconst 2) 1 716 := ⟨by decide +kernel, rfl⟩
theorem dL_law_716 : dn code 716 (.iadd) 1 717 := ⟨by decide +kernel, rfl⟩
theorem dL_law_717 : dn code 717 (.iaload) 1 718 := ⟨by decide +kernel, rfl⟩
theorem dL_law_718 : dn code 718 (.aload_n 0) 1 719 := ⟨by decide +kernel, rfl⟩
theorem dL_law_719 : dn code 719 (.iload_n 3) 1 720 := ⟨by decide +kernel, rfl⟩
theorem dL_law_720 : dn code 720 (.iconst 3) 1 721 := ⟨by decide +kernel, rfl⟩
theorem dL_law_721 : dn code 721 (.iadd) 1 722 := ⟨by decide +kernel, rfl⟩
theorem dL_law_722 : dn code 722 (.iaload) 1 723 := ⟨by decide +kernel, rfl⟩
theorem dL_law_723 : dn code 723 (.invokevirtual 77) 3 726 := ⟨by decide +kernel, rfl⟩
theorem dL_law_726 : dn code 726 (.aload_n 2) 1 727 := ⟨by decide +kernel, rfl⟩
theorem dL_law_727 : dn code 727 (.aload_n 0) 1 728 := ⟨by decide +kernel, rfl⟩
theorem dL_law_728 : dn code 728 (.iload_n 3) 1 729 := ⟨by decide +kernel, rfl⟩
theorem dL_law_729 : dn code 729 (.iconst 1) 1 730 := ⟨by decide +kernel, rfl⟩
theorem dL_law_730 : dn code 730 (.iadd) 1 731 := ⟨by decide +kernel, rfl⟩
theorem dL_law_731 : dn code 731 (.iaload) 1 732 := ⟨by decide +kernel, rfl⟩
theorem dL_law_732 : dn code 732 (.aload_n 0) 1 733 := ⟨by decide +kernel, rfl⟩
theorem dL_law_733 : dn code 733 (.iload_n 3) 1 734 := ⟨by decide +kernel, rfl⟩
theorem dL_law_734 : dn code 734 (.iconst 2) 1 735 := ⟨by decide +kernel, rfl⟩
theorem dL_law_735 : dn code 735 (.iadd) 1 736 := ⟨by decide +kernel, rfl⟩
theorem dL_law_736 : dn code 736 (.iaload) 1 737 := ⟨by decide +kernel, rfl⟩
theorem dL_law_737 : dn code 737 (.aload_n 0) 1 738 := ⟨by decide +kernel, rfl⟩
theorem dL_law_738 : dn code 738 (.iload_n 3) 1 739 := ⟨by decide +kernel, rfl⟩
theorem dL_law_739 : dn code 739 (.iconst 3) 1 740 := ⟨by decide +kernel, rfl⟩
theorem dL_law_740 : dn code 740 (.iadd) 1 741 := ⟨by decide +kernel, rfl⟩
theorem dL_law_741 : dn code 741 (.iaload) 1 742 := ⟨by decide +kernel, rfl⟩
theorem dL_law_742 : dn code 742 (.invokevirtual 80) 3 745 := ⟨by decide +kernel, rfl⟩
theorem dL_law_745 : db code 745 (.if_icmp .eq 140) 3 748 (140) 885 := ⟨by decide +kernel, rfl, rfl⟩
theorem dL_law_748 : dn code 748 (.iconst 0) 1 749 := ⟨by decide +kernel, rfl⟩
theorem dL_law_749 : dn code 749 (.ireturn) 1 750 := ⟨by decide +kernel, rfl⟩
theorem dL_law_750 : dn code 750 (.aload_n 1) 1 751 := ⟨by decide +kernel, rfl⟩
theorem dL_law_751 : dn code 751 (.aload_n 0) 1 752 := ⟨by decide +kernel, rfl⟩
theorem dL_law_752 : dn code 752 (.iload_n 3) 1 753 := ⟨by decide +kernel, rfl⟩
theorem dL_law_753 : dn code 753 (.iconst 1) 1 754 := ⟨by decide +kernel, rfl⟩
theorem dL_law_754 : dn code 754 (.iadd) 1 755 := ⟨by decide +kernel, rfl⟩
theorem dL_law_755 : dn code 755 (.iaload) 1 756 := ⟨by decide +kernel, rfl⟩
theorem dL_law_756 : dn code 756 (.invokevirtual 81) 3 759 := ⟨by decide +kernel, rfl⟩
theorem dL_law_759 : dn code 759 (.aload_n 2) 1 760 := ⟨by decide +kernel, rfl⟩
theorem dL_law_760 : dn code 760 (.aload_n 0) 1 761 := ⟨by decide +kernel, rfl⟩
theorem dL_law_761 : dn code 761 (.iload_n 3) 1 762 := ⟨by decide +kernel, rfl⟩
theorem dL_law_762 : dn code 762 (.iconst 1) 1 763 := ⟨by decide +kernel, rfl⟩
theorem dL_law_763 : dn code 763 (.iadd) 1 764 := ⟨by decide +kernel, rfl⟩
theorem dL_law_764 : dn code 764 (.iaload) 1 765 := ⟨by decide +kernel, rfl⟩
theorem dL_law_765 : dn code 765 (.invokevirtual 84) 3 768 := ⟨by decide +kernel, rfl⟩
theorem dL_law_768 : db code 768 (.if_icmp .eq 117) 3 771 (117) 885 := ⟨by decide +kernel, rfl, rfl⟩
theorem dL_law_771 : dn code 771 (.iconst 0) 1 772 := ⟨by decide +kernel, rfl⟩
theorem dL_law_772 : dn code 772 (.ireturn) 1 773 := ⟨by decide +kernel, rfl⟩
theorem dL_law_773 : dn code 773 (.aload_n 1) 1 774 := ⟨by decide +kernel, rfl⟩
theorem dL_law_774 : dn code 774 (.aload_n 0) 1 775 := ⟨by decide +kernel, rfl⟩
theorem dL_law_775 : dn code 775 (.iload_n 3) 1 776 := ⟨by decide +kernel, rfl⟩
theorem dL_law_776 : dn code 776 (.iconst 1) 1 777 := ⟨by decide +kernel, rfl⟩
theorem dL_law_777 : dn code 777 (.iadd) 1 778 := ⟨by decide +kernel, rfl⟩
theorem dL_law_778 : dn code 778 (.iaload) 1 779 := ⟨by decide +kernel, rfl⟩
theorem dL_law_779 : dn code 779 (.aload_n 0) 1 780 := ⟨by decide +kernel, rfl⟩
theorem dL_law_780 : dn code 780 (.iload_n 3) 1 781 := ⟨by decide +kernel, rfl⟩
theorem dL_law_781 : dn code 781 (.iconst 2) 1 782 := ⟨by decide +kernel, rfl⟩
theorem dL_law_782 : dn code 782 (.iadd) 1 783 := ⟨by decide +kernel, rfl⟩
theorem dL_law_783 : dn code 783 (.iaload) 1 784 := ⟨by decide +kernel, rfl⟩
theorem dL_law_784 : dn code 784 (.aload_n 0) 1 785 := ⟨by decide +kernel, rfl⟩
theorem dL_law_785 : dn code 785 (.iload_n 3) 1 786 := ⟨by decide +kernel, rfl⟩
theorem dL_law_786 : dn code 786 (.iconst 3) 1 787 := ⟨by decide +kernel, rfl⟩
theorem dL_law_787 : dn code 787 (.iadd) 1 788 := ⟨by decide +kernel, rfl⟩
theorem dL_law_788 : dn code 788 (.iaload) 1 789 := ⟨by decide +kernel, rfl⟩
theorem dL_law_789 : dn code 789 (.invokevirtual 85) 3 792 := ⟨by decide +kernel, rfl⟩
theorem dL_law_792 : dn code 792 (.aload_n 2) 1 793 := ⟨by decide +kernel, rfl⟩
theorem dL_law_793 : dn code 793 (.aload_n 0) 1 794 := ⟨by decide +kernel, rfl⟩
theorem dL_law_794 : dn code 794 (.iload_n 3) 1 795 := ⟨by decide +kernel, rfl⟩
theorem dL_law_795 : dn code 795 (.iconst 1) 1 796 := ⟨by decide +kernel, rfl⟩
theorem dL_law_796 : dn code 796 (.iadd) 1 797 := ⟨by decide +kernel, rfl⟩
theorem dL_law_797 : dn code 797 (.iaload) 1 798 := ⟨by decide +kernel, rfl⟩
theorem dL_law_798 : dn code 798 (.aload_n 0) 1 799 := ⟨by decide +kernel, rfl⟩
theorem dL_law_799 : dn code 799 (.iload_n 3) 1 800 := ⟨by decide +kernel, rfl⟩
theorem dL_law_800 : dn code 800 (.iconst 2) 1 801 := ⟨by decide +kernel, rfl⟩
theorem dL_law_801 : dn code 801 (.iadd) 1 802 := ⟨by decide +kernel, rfl⟩
theorem dL_law_802 : dn code 802 (.iaload) 1 803 := ⟨by decide +kernel, rfl⟩
theorem dL_law_803 : dn code 803 (.aload_n 0) 1 804 := ⟨by decide +kernel, rfl⟩
theorem dL_law_804 : dn code 804 (.iload_n 3) 1 805 := ⟨by decide +kernel, rfl⟩
theorem dL_law_805 : dn code 805 (.iconst 3) 1 806 := ⟨by decide +kernel, rfl⟩
theorem dL_law_806 : dn code 806 (.iadd) 1 807 := ⟨by decide +kernel, rfl⟩
theorem dL_law_807 : dn code 807 (.iaload) 1 808 := ⟨by decide +kernel, rfl⟩
theorem dL_law_808 : dn code 808 (.invokevirtual 88) 3 811 := ⟨by decide +kernel, rfl⟩
theorem dL_law_811 : db code 811 (.if_icmp .eq 74) 3 814 (74) 885 := ⟨by decide +kernel, rfl, rfl⟩
theorem dL_law_814 : dn code 814 (.iconst 0) 1 815 := ⟨by decide +kernel, rfl⟩
theorem dL_law_815 : dn code 815 (.ireturn) 1 816 := ⟨by decide +kernel, rfl⟩
theorem dL_law_816 : dn code 816 (.aload_n 1) 1 817 := ⟨by decide +kernel, rfl⟩
theorem dL_law_817 : dn code 817 (.aload_n 0) 1 818 := ⟨by decide +kernel, rfl⟩
theorem dL_law_818 : dn code 818 (.iload_n 3) 1 819 := ⟨by decide +kernel, rfl⟩
theorem dL_law_819 : dn code 819 (.iconst 1) 1 820 := ⟨by decide +kernel, rfl⟩
theorem dL_law_820 : dn code 820 (.iadd) 1 821 := ⟨by decide +kernel, rfl⟩
theorem dL_law_821 : dn code 821 (.iaload) 1 822 := ⟨by decide +kernel, rfl⟩
theorem dL_law_822 : dn code 822 (.invokevirtual 89) 3 825 := ⟨by decide +kernel, rfl⟩
theorem dL_law_825 : dn code 825 (.aload_n 2) 1 826 := ⟨by decide +kernel, rfl⟩
theorem dL_law_826 : dn code 826 (.aload_n 0) 1 827 := ⟨by decide +kernel, rfl⟩
theorem dL_law_827 : dn code 827 (.iload_n 3) 1 828 := ⟨by decide +kernel, rfl⟩
theorem dL_law_828 : dn code 828 (.iconst 1) 1 829 := ⟨by decide +kernel, rfl⟩
theorem dL_law_829 : dn code 829 (.iadd) 1 830 := ⟨by decide +kernel, rfl⟩
theorem dL_law_830 : dn code 830 (.iaload) 1 831 := ⟨by decide +kernel, rfl⟩
theorem dL_law_831 : dn code 831 (.invokevirtual 92) 3 834 := ⟨by decide +kernel, rfl⟩
theorem dL_law_834 : db code 834 (.if_icmp .eq 51) 3 837 (51) 885 := ⟨by decide +kernel, rfl, rfl⟩
theorem dL_law_837 : dn code 837 (.iconst 0) 1 838 := ⟨by decide +kernel, rfl⟩
theorem dL_law_838 : dn code 838 (.ireturn) 1 839 := ⟨by decide +kernel, rfl⟩
theorem dL_law_839 : dn code 839 (.aload_n 1) 1 840 := ⟨by decide +kernel, rfl⟩
theorem dL_law_840 : dn code 840 (.aload_n 0) 1 841 := ⟨by decide +kernel, rfl⟩
theorem dL_law_841 : dn code 841 (.iload_n 3) 1 842 := ⟨by decide +kernel, rfl⟩
theorem dL_law_842 : dn code 842 (.iconst 1) 1 843 := ⟨by decide +kernel, rfl⟩
theorem dL_law_843 : dn code 843 (.iadd) 1 844 := ⟨by decide +kernel, rfl⟩
theorem dL_law_844 : dn code 844 (.iaload) 1 845 := ⟨by decide +kernel, rfl⟩
theorem dL_law_845 : dn code 845 (.invokevirtual 93) 3 848 := ⟨by decide +kernel, rfl⟩
theorem dL_law_848 : dn code 848 (.aload_n 2) 1 849 := ⟨by decide +kernel, rfl⟩
theorem dL_law_849 : dn code 849 (.aload_n 0) 1 850 := ⟨by decide +kernel, rfl⟩
theorem dL_law_850 : dn code 850 (.iload_n 3) 1 851 := ⟨by decide +kernel, rfl⟩
theorem dL_law_851 : dn code 851 (.iconst 1) 1 852 := ⟨by decide +kernel, rfl⟩
theorem dL_law_852 : dn code 852 (.iadd) 1 853 := ⟨by decide +kernel, rfl⟩
theorem dL_law_853 : dn code 853 (.iaload) 1 854 := ⟨by decide +kernel, rfl⟩
theorem dL_law_854 : dn code 854 (.invokevirtual 96) 3 857 := ⟨by decide +kernel, rfl⟩
theorem dL_law_857 : db code 857 (.if_icmp .eq 28) 3 860 (28) 885 := ⟨by decide +kernel, rfl, rfl⟩
theorem dL_law_860 : dn code 860 (.iconst 0) 1 861 := ⟨by decide +kernel, rfl⟩
theorem dL_law_861 : dn code 861 (.ireturn) 1 862 := ⟨by decide +kernel, rfl⟩
theorem dL_law_862 : dn code 862 (.aload_n 1) 1 863 := ⟨by decide +kernel, rfl⟩
theorem dL_law_863 : dn code 863 (.aload_n 0) 1 864 := ⟨by decide +kernel, rfl⟩
theorem dL_law_864 : dn code 864 (.iload_n 3) 1 865 := ⟨by decide +kernel, rfl⟩
theorem dL_law_865 : dn code 865 (.iconst 1) 1 866 := ⟨by decide +kernel, rfl⟩
theorem dL_law_866 : dn code 866 (.iadd) 1 867 := ⟨by decide +kernel, rfl⟩
theorem dL_law_867 : dn code 867 (.iaload) 1 868 := ⟨by decide +kernel, rfl⟩
theorem dL_law_868 : dn code 868 (.invokevirtual 97) 3 871 := ⟨by decide +kernel, rfl⟩
theorem dL_law_871 : dn code 871 (.aload_n 2) 1 872 := ⟨by decide +kernel, rfl⟩
theorem dL_law_872 : dn code 872 (.aload_n 0) 1 873 := ⟨by decide +kernel, rfl⟩
theorem dL_law_873 : dn code 873 (.iload_n 3) 1 874 := ⟨by decide +kernel, rfl⟩
theorem dL_law_874 : dn code 874 (.iconst 1) 1 875 := ⟨by decide +kernel, rfl⟩
theorem dL_law_875 : dn code 875 (.iadd) 1 876 := ⟨by decide +kernel, rfl⟩
theorem dL_law_876 : dn code 876 (.iaload) 1 877 := ⟨by decide +kernel, rfl⟩
theorem dL_law_877 : dn code 877 (.invokevirtual 100) 3 880 := ⟨by decide +kernel, rfl⟩
theorem dL_law_880 : db code 880 (.if_icmp .eq 5) 3 883 (5) 885 := ⟨by decide +kernel, rfl, rfl⟩
theorem dL_law_883 : dn code 883 (.iconst 0) 1 884 := ⟨by decide +kernel, rfl⟩
theorem dL_law_884 : dn code 884 (.ireturn) 1 885 := ⟨by decide +kernel, rfl⟩
theorem dL_law_885 : dn code 885 (.iinc 3 5) 3 888 := ⟨by decide +kernel, rfl⟩
theorem dL_law_888 : db code 888 (.goto (-870)) 3 891 (-870) 18 := ⟨by decide +kernel, rfl, rfl⟩
theorem dL_law_891 : dn code 891 (.iconst 1) 1 892 := ⟨by decide +kernel, rfl⟩
theorem dL_law_892 : dn code 892 (.ireturn) 1 893 := ⟨by decide +kernel, rfl⟩
theorem kL_13 : Cond.methodLink R_law9 13 yX9_set ∈ wtb := wt (List.mem_of_getElem? (i := 365) (by decide +kernel)) rfl
theorem kL_18 : Cond.methodLink R_law9 18 yX9_draw ∈ wtb := wt (List.mem_of_getElem? (i := 371) (by decide +kernel)) rfl
theorem kL_23 : Cond.methodLink R_law9 23 yX9_erase ∈ wtb := wt (List.mem_of_getElem? (i := 393) (by decide +kernel)) rfl
theorem kL_28 : Cond.methodLink R_law9 28 yX9_piece ∈ wtb := wt (List.mem_of_getElem? (i := 406) (by decide +kernel)) rfl
theorem kL_32 : Cond.methodLink R_law9 32 yX9_write ∈ wtb := wt (List.mem_of_getElem? (i := 639) (by decide +kernel)) rfl
theorem kL_36 : Cond.methodLink R_law9 36 yX9_strike ∈ wtb := wt (List.mem_of_getElem? (i := 643) (by decide +kernel)) rfl
theorem kL_40 : Cond.methodLink R_law9 40 yX9_word ∈ wtb := wt (List.mem_of_getElem? (i := 647) (by decide +kernel)) rfl
theorem kL_44 : Cond.methodLink R_law9 44 yX9_rule ∈ wtb := wt (List.mem_of_getElem? (i := 651) (by decide +kernel)) rfl
theorem kL_48 : Cond.methodLink R_law9 48 yX9_cross ∈ wtb := wt (List.mem_of_getElem? (i := 663) (by decide +kernel)) rfl
theorem kL_52 : Cond.methodLink R_law9 52 yX9_table ∈ wtb := wt (List.mem_of_getElem? (i := 668) (by decide +kernel)) rfl
theorem kL_56 : Cond.methodLink R_law9 56 yX9_edge ∈ wtb := wt (List.mem_of_getElem? (i := 684) (by decide +kernel)) rfl
theorem kL_61 : Cond.methodLink R_law9 61 yX9_ruled ∈ wtb := wt (List.mem_of_getElem? (i := 689) (by decide +kernel)) rfl
theorem kL_65 : Cond.methodLink R_law9 65 yX9_at ∈ wtb := wt (List.mem_of_getElem? (i := 695) (by decide +kernel)) rfl
theorem kL_69 : Cond.methodLink R_law9 69 yX9_cell ∈ wtb := wt (List.mem_of_getElem? (i := 700) (by decide +kernel)) rfl
theorem kL_73 : Cond.methodLink R_law9 73 yX9_read ∈ wtb := wt (List.mem_of_getElem? (i := 705) (by decide +kernel)) rfl
theorem kL_77 : Cond.methodLink R_law9 77 yX9_missed ∈ wtb := wt (List.mem_of_getElem? (i := 713) (by decide +kernel)) rfl
theorem kL_81 : Cond.methodLink R_law9 81 yX9_mend ∈ wtb := wt (List.mem_of_getElem? (i := 717) (by decide +kernel)) rfl
theorem kL_85 : Cond.methodLink R_law9 85 yX9_heading ∈ wtb := wt (List.mem_of_getElem? (i := 726) (by decide +kernel)) rfl
theorem kL_89 : Cond.methodLink R_law9 89 yX9_image ∈ wtb := wt (List.mem_of_getElem? (i := 738) (by decide +kernel)) rfl
theorem kL_93 : Cond.methodLink R_law9 93 yX9_restore ∈ wtb := wt (List.mem_of_getElem? (i := 750) (by decide +kernel)) rfl
theorem kL_97 : Cond.methodLink R_law9 97 yX9_told ∈ wtb := wt (List.mem_of_getElem? (i := 754) (by decide +kernel)) rfl
theorem kL_17 : Cond.methodLink R_law9 17 yX10_set ∈ wtb := wt (List.mem_of_getElem? (i := 849) (by decide +kernel)) rfl
theorem kL_22 : Cond.methodLink R_law9 22 yX10_draw ∈ wtb := wt (List.mem_of_getElem? (i := 860) (by decide +kernel)) rfl
theorem kL_27 : Cond.methodLink R_law9 27 yX10_erase ∈ wtb := wt (List.mem_of_getElem? (i := 872) (by decide +kernel)) rfl
theorem kL_35 : Cond.methodLink R_law9 35 yX10_write ∈ wtb := wt (List.mem_of_getElem? (i := 876) (by decide +kernel)) rfl
theorem kL_39 : Cond.methodLink R_law9 39 yX10_strike ∈ wtb := wt (List.mem_of_getElem? (i := 880) (by decide +kernel)) rfl
theorem kL_31 : Cond.methodLink R_law9 31 yX10_piece ∈ wtb := wt (List.mem_of_getElem? (i := 884) (by decide +kernel)) rfl
theorem kL_43 : Cond.methodLink R_law9 43 yX10_word ∈ wtb := wt (List.mem_of_getElem? (i := 1003) (by decide +kernel)) rfl
theorem kL_47 : Cond.methodLink R_law9 47 yX10_rule ∈ wtb := wt (List.mem_of_getElem? (i := 1007) (by decide +kernel)) rfl
theorem kL_51 : Cond.methodLink R_law9 51 yX10_cross ∈ wtb := wt (List.mem_of_getElem? (i := 1016) (by decide +kernel)) rfl
theorem kL_80 : Cond.methodLink R_law9 80 yX10_missed ∈ wtb := wt (List.mem_of_getElem? (i := 1020) (by decide +kernel)) rfl
theorem kL_84 : Cond.methodLink R_law9 84 yX10_mend ∈ wtb := wt (List.mem_of_getElem? (i := 1040) (by decide +kernel)) rfl
theorem kL_55 : Cond.methodLink R_law9 55 yX10_table ∈ wtb := wt (List.mem_of_getElem? (i := 1048) (by decide +kernel)) rfl
theorem kL_60 : Cond.methodLink R_law9 60 yX10_edge ∈ wtb := wt (List.mem_of_getElem? (i := 1072) (by decide +kernel)) rfl
theorem kL_64 : Cond.methodLink R_law9 64 yX10_ruled ∈ wtb := wt (List.mem_of_getElem? (i := 1076) (by decide +kernel)) rfl
theorem kL_68 : Cond.methodLink R_law9 68 yX10_at ∈ wtb := wt (List.mem_of_getElem? (i := 1084) (by decide +kernel)) rfl
theorem kL_72 : Cond.methodLink R_law9 72 yX10_cell ∈ wtb := wt (List.mem_of_getElem? (i := 1088) (by decide +kernel)) rfl
theorem kL_76 : Cond.methodLink R_law9 76 yX10_read ∈ wtb := wt (List.mem_of_getElem? (i := 1101) (by decide +kernel)) rfl
theorem kL_88 : Cond.methodLink R_law9 88 yX10_heading ∈ wtb := wt (List.mem_of_getElem? (i := 1113) (by decide +kernel)) rfl
theorem kL_92 : Cond.methodLink R_law9 92 yX10_image ∈ wtb := wt (List.mem_of_getElem? (i := 1118) (by decide +kernel)) rfl
theorem kL_96 : Cond.methodLink R_law9 96 yX10_restore ∈ wtb := wt (List.mem_of_getElem? (i := 1134) (by decide +kernel)) rfl
theorem kL_100 : Cond.methodLink R_law9 100 yX10_told ∈ wtb := wt (List.mem_of_getElem? (i := 1138) (by decide +kernel)) rfl
def lw_Q (_ : Array Value) (s : State) (o : Outcome) (t : State) : Prop := o = .returned (some (.int 1)) ∧ Framed s o t [] 600000 7302249
def lw_Z (below : List Frame) (a : Array Value) (s : State) : State → Prop := fun t => ∃ o, t.status = .running ∧ Ended t below o ∧ lw_Q a s o t
/-- the law's own end, with 1 on the stack -/
theorem lw_ret {p : Program} {l : Launch} {e : Env} {s : State} {m : MethodId} {below : List Frame} {meth : Method} {c : Code} {b : Nat} (hx : p.tables.exec = Jvm.exec) (hb : c.code = code) (hr : meth.sig.returnType = ret) (hlocks : meth.locks = false) {pc : Nat} {H : Heap} {ls : Array Slot} (hdg : decode code pc = .ok (.ireturn, 1)) : W p l e room_1 s m #[Value.ref b] below meth c H [] 600000 7302249 (lw_Z below #[Value.ref b] s) (F0 m pc ls [.int 1]) := by
  intro T hT X
  obtain ⟨fs, hret, hrun, hended, hW, hframe⟩ := X.leave (v := some (.int 1)) (hlocks := hlocks) (fun h => by rw [hr] at h; cases h)
  have hmeth' : T.vm.method? m = some meth := X.method'
  refine ⟨T.setFrames fs, ?_, .returned (some (.int 1)), hrun, hended, rfl, ⟨_, rfl⟩, hW, hframe⟩
  jvm_step X.here [X.here.top, hx, hb, hdg, hmeth', hr, ret, narrow_b1]
  (try refine ⟨rfl, ?_⟩); (try refine ⟨rfl, ?_⟩)
  first | (intro acts; rw [hret _ acts rfl rfl rfl]) | rw [hret _ _ rfl rfl rfl]
  exact Steps.refl _
/-- the law goes on from here, over the whole world σ, to its end with true -/
def LW (g : GG) (b L : Nat) (xs : Nat → Int32) (CU SU pc : Nat) (lv : List (Option Value)) (st : List Value) (σ : SG) : Prop :=
  ∀ (p : Program) (e : Env) (s : State) (m : MethodId) (args : Array Value) (below : List Frame) (meth : Method) (c : Code) (H : Heap) (locs : List Loc) (ls : Array Slot),
    Fx g p s m args meth c code 4 ret R_law9 → (args = #[.ref b] ∧ va_X b L xs s s.heap ∧ b < s.heap.size ∧ g.2.1 = s.heap.size) → va_P (gD g) vwCl (wsOf g σ) H → va_S (reg g) s.heap H locs → lvp ls 4 lv →
    W p g.1 e room_1 s m args below meth c H locs CU SU (lw_Z below args s) (F0 m pc ls st)
section LWr
variable {g : GG} {b L : Nat} {xs : Nat → Int32} {CU SU : Nat} {pc pc' tgt : Nat} {lv : List (Option Value)} {st : List Value} {σ : SG}
theorem lw_iconst {n : Int} (hd : dn code pc (.iconst n) 1 pc') (k : LW g b L xs CU SU pc' lv (.int (Int32.ofInt n) :: st) σ) : LW g b L xs CU SU pc lv st σ := by
  obtain ⟨hd, rfl⟩ := hd
  intro p e s m args below meth c H locs ls F hY hP hS hl
  exact lv_iconst F.1 F.2.1 hd rfl (k p e s m args below meth c H locs ls F hY hP hS hl)
theorem lw_bipush {n : Int} (hd : dn code pc (.bipush n) 2 pc') (k : LW g b L xs CU SU pc' lv (.int ((Int8.ofInt n).toInt32) :: st) σ) : LW g b L xs CU SU pc lv st σ := by
  obtain ⟨hd, rfl⟩ := hd
  intro p e s m args below meth c H locs ls F hY hP hS hl
  exact lv_bipush F.1 F.2.1 hd rfl (k p e s m args below meth c H locs ls F hY hP hS hl)
theorem lw_iadd {x y : Int32} (hd : dn code pc .iadd 1 pc') (k : LW g b L xs CU SU pc' lv (.int (x + y) :: st) σ) : LW g b L xs CU SU pc lv (.int y :: .int x :: st) σ := by
  obtain ⟨hd, rfl⟩ := hd
  intro p e s m args below meth c H locs ls F hY hP hS hl
  exact lv_iadd F.1 F.2.1 hd  (k p e s m args below meth c H locs ls F hY hP hS hl)
theorem lw_isub {x y : Int32} (hd : dn code pc .isub 1 pc') (k : LW g b L xs CU SU pc' lv (.int (x - y) :: st) σ) : LW g b L xs CU SU pc lv (.int y :: .int x :: st) σ := by
  obtain ⟨hd, rfl⟩ := hd
  intro p e s m args below meth c H locs ls F hY hP hS hl
  exact lv_isub F.1 F.2.1 hd  (k p e s m args below meth c H locs ls F hY hP hS hl)
theorem lw_iand {x y : Int32} (hd : dn code pc .iand 1 pc') (k : LW g b L xs CU SU pc' lv (.int (x &&& y) :: st) σ) : LW g b L xs CU SU pc lv (.int y :: .int x :: st) σ := by
  obtain ⟨hd, rfl⟩ := hd
  intro p e s m args below meth c H locs ls F hY hP hS hl
  exact lv_iand F.1 F.2.1 hd  (k p e s m args below meth c H locs ls F hY hP hS hl)
theorem lw_aload_n {i : Fin 4} {x : Nat} (hd : dn code pc (.aload_n i) 1 pc') (hx : lv[(i : Nat)]? = some (some (.ref x))) (k : LW g b L xs CU SU pc' lv (.ref x :: st) σ) : LW g b L xs CU SU pc lv st σ := by
  obtain ⟨hd, rfl⟩ := hd
  intro p e s m args below meth c H locs ls F hY hP hS hl
  exact lv_aload_n F.1 F.2.1 hd rfl (hl.2.2 _ _ hx).1 (k p e s m args below meth c H locs ls F hY hP hS hl)
theorem lw_iload_n {i : Fin 4} {x : Int32} (hd : dn code pc (.iload_n i) 1 pc') (hx : lv[(i : Nat)]? = some (some (.int x))) (k : LW g b L xs CU SU pc' lv (.int x :: st) σ) : LW g b L xs CU SU pc lv st σ := by
  obtain ⟨hd, rfl⟩ := hd
  intro p e s m args below meth c H locs ls F hY hP hS hl
  exact lv_iload_n F.1 F.2.1 hd rfl (hl.2.2 _ _ hx).1 (k p e s m args below meth c H locs ls F hY hP hS hl)
theorem lw_iinc {i : Nat} {n : Int} {x : Int32} (hd : dn code pc (.iinc i n) 3 pc') (hx : lv[i]? = some (some (.int x))) (hn : i < 4) (k : LW g b L xs CU SU pc' (lv.set i (some (.int (x + Int32.ofInt n)))) st σ) : LW g b L xs CU SU pc lv st σ := by
  obtain ⟨hd, rfl⟩ := hd
  intro p e s m args below meth c H locs ls F hY hP hS hl
  obtain ⟨j, hj⟩ := List.getElem?_of_mem (lvL_mem (q := (i, .int x)).mpr hx)
  exact lv_iinc F.1 F.2.1 hd hl.has hj rfl hn rfl (fun ls' h' => k p e s m args below meth c H locs ls' F hY hP hS (hl.set rfl h'))
theorem lw_goto {off : Int} (hd : db code pc (.goto off) 3 pc' off tgt) (k : LW g b L xs CU SU tgt lv st σ) : LW g b L xs CU SU pc lv st σ := by
  obtain ⟨hd, rfl, ht⟩ := hd
  intro p e s m args below meth c H locs ls F hY hP hS hl
  exact lv_goto F.1 F.2.1 hd ht (k p e s m args below meth c H locs ls F hY hP hS hl)
theorem lw_icmp_gt {x y : Int32} {off : Int} (hd : db code pc (.if_icmp .gt off) 3 pc' off tgt) (kt : y < x → LW g b L xs CU SU tgt lv st σ) (kf : ¬ y < x → LW g b L xs CU SU pc' lv st σ) : LW g b L xs CU SU pc lv (.int y :: .int x :: st) σ := by
  obtain ⟨hd, rfl, ht⟩ := hd
  intro p e s m args below meth c H locs ls F hY hP hS hl
  exact lv_icmp_gt F.1 F.2.1 hd ht (fun q => kt q p e s m args below meth c H locs ls F hY hP hS hl) (fun q => kf q p e s m args below meth c H locs ls F hY hP hS hl)
theorem lw_icmp_eq {x y : Int32} {off : Int} (hd : db code pc (.if_icmp .eq off) 3 pc' off tgt) (kt : x = y → LW g b L xs CU SU tgt lv st σ) (kf : ¬ x = y → LW g b L xs CU SU pc' lv st σ) : LW g b L xs CU SU pc lv (.int y :: .int x :: st) σ := by
  obtain ⟨hd, rfl, ht⟩ := hd
  intro p e s m args below meth c H locs ls F hY hP hS hl
  exact lv_icmp_eq F.1 F.2.1 hd ht (fun q => kt q p e s m args below meth c H locs ls F hY hP hS hl) (fun q => kf q p e s m args below meth c H locs ls F hY hP hS hl)
theorem lw_tout {dflt lo hi : Int} {offs : Array Int} {len : Nat} {x : Int32} (hd : decode code pc = .ok (.tableswitch dflt lo hi offs, len)) (h : x.toInt < lo ∨ hi < x.toInt) (ht : (pc : Int) + dflt = (tgt : Int)) (k : LW g b L xs CU SU tgt lv st σ) : LW g b L xs CU SU pc lv (.int x :: st) σ := by
  intro p e s m args below meth c H locs ls F hY hP hS hl
  exact lv_tableOut F.1 F.2.1 hd h ht (k p e s m args below meth c H locs ls F hY hP hS hl)
theorem lw_tin {dflt lo hi : Int} {offs : Array Int} {len : Nat} {x : Int32} {off : Int} (hd : decode code pc = .ok (.tableswitch dflt lo hi offs, len)) (h1 : ¬ x.toInt < lo) (h2 : ¬ hi < x.toInt) (ho : offs[(x.toInt - lo).toNat]? = some off) (ht : (pc : Int) + off = (tgt : Int)) (k : LW g b L xs CU SU tgt lv st σ) : LW g b L xs CU SU pc lv (.int x :: st) σ := by
  intro p e s m args below meth c H locs ls F hY hP hS hl
  exact lv_tableIn F.1 F.2.1 hd h1 h2 ho ht (k p e s m args below meth c H locs ls F hY hP hS hl)
theorem lw_eq {x y : Int32} (h : x = y) (k : LW g b L xs CU SU pc lv (.int y :: st) σ) : LW g b L xs CU SU pc lv (.int x :: st) σ := h ▸ k
theorem lw_ic {n : Int} (v : Int32) (hd : dn code pc (.iconst n) 1 pc') (hv : Int32.ofInt n = v) (k : LW g b L xs CU SU pc' lv (.int v :: st) σ) : LW g b L xs CU SU pc lv st σ := lw_iconst hd (hv ▸ k)
theorem lw_bi {n : Int} (v : Int32) (hd : dn code pc (.bipush n) 2 pc') (hv : (Int8.ofInt n).toInt32 = v) (k : LW g b L xs CU SU pc' lv (.int v :: st) σ) : LW g b L xs CU SU pc lv st σ := lw_bipush hd (hv ▸ k)
theorem lw_inc {i : Nat} {n : Int} {x : Int32} (v : Int32) (hd : dn code pc (.iinc i n) 3 pc') (hx : lv[i]? = some (some (.int x))) (hn : i < 4) (hv : x + Int32.ofInt n = v) (k : LW g b L xs CU SU pc' (lv.set i (some (.int v))) st σ) : LW g b L xs CU SU pc lv st σ := lw_iinc hd hx hn (hv ▸ k)
theorem lw_calli {y : MethodName} {cy : ByteArray} {ny n idx o : Nat} {ry : Option FieldType} {rm : Room} {As rest : List Value} (hC : CU ≤ 600000 ∧ SU ≤ 7302249) {ci : Nat} {q : vw_C} {post : Int32 → SG → Prop} {st : List Value} (hd : dn code pc (.invokevirtual idx) 3 pc') (hl : Cond.methodLink R_law9 idx y ∈ wtb) (ok : okV y cy ny ry n) (hc : vwCl[ci]? = some q) (hq : q.1 = y.cls) (hci : ci < 11) (hk : kd o = ci) (hst : st = As.reverse ++ .ref (ad g o) :: rest) (hn : As.length = n) (hW : (rest.map fun v => v.category).sum ≤ 8) (hR : rm.frames + 1 ≤ room_1.frames ∧ 8 + (ny + 11) + rm.locals ≤ room_1.locals) (hrc : rm.cells = 0) (hrs : rm.slots = 0) (hM : Cti g y cy ny ry rm (.ref (ad g o) :: As) σ post) (kk : ∀ r σ', post r σ' → LW g b L xs CU SU pc' lv (.int r :: rest) σ') : LW g b L xs CU SU pc lv st σ := by
  obtain ⟨hd, rfl⟩ := hd
  subst hst
  intro p e s m args below meth c H locs ls F hY hP hS hlv
  have hl9 := hl
  refine va_calli (va_runV (As := As) (rest := rest) (b := ad g o) ⟨F.1, F.2.1, F.2.2.2.1, F.2.2.2.2.1, F.2.2.2.2.2.1⟩ hM (cV F.2.2.2.2.2.1 hl9 ok hR hrc hrs) ⟨wd_blind, by rw [← hq]; exact recv (fs := []) F.2.2.2.2.2.2.2.1 hP hc hk hci, fun U hU hW9 => ⟨rfl, F.wd hP hS hU hW9⟩⟩ rfl hn hlv.1 rfl (lv_room hW) hd ⟨hC.1, hC.2⟩) hS (fun q _ h => h) (fun q h => h) (fun r u t H1 locs1 ht hvm hw hB hz1 hk1 hS1 => ?_)
  have hl := hlv
  exact kk r u hw p e s m args below meth c H1 locs1 ls F hY (by rw [← ht]; exact hB.1) hS1 hl
theorem lw_sld {i : Int32} (j : Nat) (hd : dn code pc .iaload 1 pc') (e9 : i = nI j) (hj : j < L) (hL : L < 2 ^ 31) (k : LW g b L xs CU SU pc' lv (.int (xs j) :: st) σ) : LW g b L xs CU SU pc lv (.int i :: .ref b :: st) σ := by
  obtain ⟨hd, rfl⟩ := hd
  subst e9
  intro p e s m args below meth c H locs ls F hY hP hS hl
  have := va_sld F.1 F.2.1 hY.2.1 hY.2.2.1 (fun z => by have : g.2.1 ≤ b := z; have := hY.2.2.1; have := hY.2.2.2; omega) hS (i := nI j) (vp_in_nI hj hL) hd (rest := st) (Q := lw_Z below args s) (p := p) (l := g.1) (e := e) (R := room_1) (m := m) (args := args) (below := below) (meth := meth) (cells := CU) (slots := SU) (ls := ls)
  refine this ?_
  rw [tnN (by omega)]
  exact k p e s m args below meth c H locs ls F hY hP hS hl
theorem lw_slen (hd : dn code pc .arraylength 1 pc') (k : LW g b L xs CU SU pc' lv (.int (nI L) :: st) σ) : LW g b L xs CU SU pc lv (.ref b :: st) σ := by
  obtain ⟨hd, rfl⟩ := hd
  intro p e s m args below meth c H locs ls F hY hP hS hl
  exact va_slen F.1 F.2.1 hY.2.1 hY.2.2.1 (fun z => by have : g.2.1 ≤ b := z; have := hY.2.2.1; have := hY.2.2.2; omega) hS hd (k p e s m args below meth c H locs ls F hY hP hS hl)
theorem lw_true (hC : CU ≤ 600000 ∧ SU ≤ 7302249) (hd : dn code pc .ireturn 1 pc') : LW g b L xs CU SU pc lv [.int 1] σ := by
  obtain ⟨hd, -⟩ := hd
  intro p e s m args below meth c H locs ls F hY hP hS hl
  obtain ⟨rfl, -, -, hg⟩ := hY
  refine va_forget (fun q hq => by have : g.2.1 ≤ q.base := hS.2.2 q hq; omega) ?_
  refine W.widen (k := 600000) (n := 7302249) hC.1 hC.2 ?_
  exact lw_ret F.1 F.2.1 F.2.2.1 F.2.2.2.2.2.2.1 hd
theorem lw_wf (P : Nat → SG → List (Option Value) → Prop) (step : ∀ n σ lv, P n σ lv → (∀ m σ' lv', m < n → P m σ' lv' → LW g b L xs CU SU pc lv' st σ') → LW g b L xs CU SU pc lv st σ) : ∀ n σ lv, P n σ lv → LW g b L xs CU SU pc lv st σ := by
  intro n
  induction n using Nat.strongRecOn with
  | ind n ih => exact fun σ lv h => step n σ lv h (fun m σ' lv' hm h' => ih m hm σ' lv' h')
end LWr
theorem sw21 (x : Int32) : (x.toInt < 0 ∨ 20 < x.toInt) ∨ ∃ k : Nat, k < 21 ∧ x = nI k := by
  by_cases h : x.toInt < 0 ∨ 20 < x.toInt
  · exact Or.inl h
  · refine Or.inr ⟨x.toInt.toNat, by omega, ?_⟩
    apply Int32.toInt_inj.mp
    rw [nI_toInt (by omega)]
    omega
section LWc
variable {g : GG} {b L : Nat} {xs : Nat → Int32} {CU SU : Nat}
set_option maxHeartbeats 4000000 in
set_option maxRecDepth 100000 in
theorem lc_set {i : Nat} (hi : i + 5 ≤ L) (hL : L ≤ 2560) (hC : CU ≤ 600000 ∧ SU ≤ 7302249) {σ : SG} {S : Sp} (hC1 : InvC σ S) (hM1 : InvM σ S) (kk : ∀ σ' S', InvC σ' S' → InvM σ' S' → LW g b L xs CU SU 885 [some (.ref b), some (.ref (ad g 0)), some (.ref (ad g 176)), some (.int (nI i))] [] σ') : LW g b L xs CU SU 132 [some (.ref b), some (.ref (ad g 0)), some (.ref (ad g 176)), some (.int (nI i))] [] σ := by
  refine lw_aload_n dL_law_132 rfl ?_
  refine lw_aload_n dL_law_133 rfl ?_
  refine lw_iload_n dL_law_134 rfl ?_
  refine lw_ic (nI 1) dL_law_135 (by decide) ?_
  refine lw_iadd dL_law_136 ?_
  refine lw_sld (i + 1) dL_law_137 (nI_add _ _) (by omega) (by omega) ?_
  refine lw_aload_n dL_law_138 rfl ?_
  refine lw_iload_n dL_law_139 rfl ?_
  refine lw_ic (nI 2) dL_law_140 (by decide) ?_
  refine lw_iadd dL_law_141 ?_
  refine lw_sld (i + 2) dL_law_142 (nI_add _ _) (by omega) (by omega) ?_
  refine lw_calli (As := [.int (xs (i + 1)), .int (xs (i + 2))]) (ci := 9) hC dL_law_143 kL_13 ok_X9_set rfl rfl (by decide) k_0 rfl rfl (Nat.le_of_ble_eq_true rfl) ⟨Nat.le_of_ble_eq_true rfl, Nat.le_of_ble_eq_true rfl⟩ rfl rfl (ct_set hC1 (xs (i + 1)) (xs (i + 2))) (fun r1 σ1 q1 => ?_)
  obtain ⟨e1, hC2, hF1⟩ := q1
  have hM2 := hM1.fr hF1
  refine lw_aload_n dL_law_146 rfl ?_
  refine lw_aload_n dL_law_147 rfl ?_
  refine lw_iload_n dL_law_148 rfl ?_
  refine lw_ic (nI 1) dL_law_149 (by decide) ?_
  refine lw_iadd dL_law_150 ?_
  refine lw_sld (i + 1) dL_law_151 (nI_add _ _) (by omega) (by omega) ?_
  refine lw_aload_n dL_law_152 rfl ?_
  refine lw_iload_n dL_law_153 rfl ?_
  refine lw_ic (nI 2) dL_law_154 (by decide) ?_
  refine lw_iadd dL_law_155 ?_
  refine lw_sld (i + 2) dL_law_156 (nI_add _ _) (by omega) (by omega) ?_
  refine lw_calli (As := [.int (xs (i + 1)), .int (xs (i + 2))]) (ci := 10) hC dL_law_157 kL_17 ok_X10_set rfl rfl (by decide) k_176 rfl rfl (Nat.le_of_ble_eq_true rfl) ⟨Nat.le_of_ble_eq_true rfl, Nat.le_of_ble_eq_true rfl⟩ rfl rfl (ctM_set hM2 (xs (i + 1)) (xs (i + 2))) (fun r2 σ2 q2 => ?_)
  obtain ⟨e2, hM3, hF2⟩ := q2
  have hC3 := hC2.fr hF2
  refine lw_icmp_eq dL_law_160 (fun _ => ?_) (fun h => absurd (e1.trans e2.symm) h)
  exact kk _ _ hC3 hM3
set_option maxHeartbeats 4000000 in
set_option maxRecDepth 100000 in
theorem lc_draw {i : Nat} (hi : i + 5 ≤ L) (hL : L ≤ 2560) (hC : CU ≤ 600000 ∧ SU ≤ 7302249) {σ : SG} {S : Sp} (hC1 : InvC σ S) (hM1 : InvM σ S) (kk : ∀ σ' S', InvC σ' S' → InvM σ' S' → LW g b L xs CU SU 885 [some (.ref b), some (.ref (ad g 0)), some (.ref (ad g 176)), some (.int (nI i))] [] σ') : LW g b L xs CU SU 165 [some (.ref b), some (.ref (ad g 0)), some (.ref (ad g 176)), some (.int (nI i))] [] σ := by
  refine lw_aload_n dL_law_165 rfl ?_
  refine lw_aload_n dL_law_166 rfl ?_
  refine lw_iload_n dL_law_167 rfl ?_
  refine lw_ic (nI 1) dL_law_168 (by decide) ?_
  refine lw_iadd dL_law_169 ?_
  refine lw_sld (i + 1) dL_law_170 (nI_add _ _) (by omega) (by omega) ?_
  refine lw_aload_n dL_law_171 rfl ?_
  refine lw_iload_n dL_law_172 rfl ?_
  refine lw_ic (nI 2) dL_law_173 (by decide) ?_
  refine lw_iadd dL_law_174 ?_
  refine lw_sld (i + 2) dL_law_175 (nI_add _ _) (by omega) (by omega) ?_
  refine lw_aload_n dL_law_176 rfl ?_
  refine lw_iload_n dL_law_177 rfl ?_
  refine lw_ic (nI 3) dL_law_178 (by decide) ?_
  refine lw_iadd dL_law_179 ?_
  refine lw_sld (i + 3) dL_law_180 (nI_add _ _) (by omega) (by omega) ?_
  refine lw_aload_n dL_law_181 rfl ?_
  refine lw_iload_n dL_law_182 rfl ?_
  refine lw_ic (nI 4) dL_law_183 (by decide) ?_
  refine lw_iadd dL_law_184 ?_
  refine lw_sld (i + 4) dL_law_185 (nI_add _ _) (by omega) (by omega) ?_
  refine lw_calli (As := [.int (xs (i + 1)), .int (xs (i + 2)), .int (xs (i + 3)), .int (xs (i + 4))]) (ci := 9) hC dL_law_186 kL_18 ok_X9_draw rfl rfl (by decide) k_0 rfl rfl (Nat.le_of_ble_eq_true rfl) ⟨Nat.le_of_ble_eq_true rfl, Nat.le_of_ble_eq_true rfl⟩ rfl rfl (ct_draw hC1 (xs (i + 1)) (xs (i + 2)) (xs (i + 3)) (xs (i + 4))) (fun r1 σ1 q1 => ?_)
  obtain ⟨e1, hC2, hF1⟩ := q1
  have hM2 := hM1.fr hF1
  refine lw_aload_n dL_law_189 rfl ?_
  refine lw_aload_n dL_law_190 rfl ?_
  refine lw_iload_n dL_law_191 rfl ?_
  refine lw_ic (nI 1) dL_law_192 (by decide) ?_
  refine lw_iadd dL_law_193 ?_
  refine lw_sld (i + 1) dL_law_194 (nI_add _ _) (by omega) (by omega) ?_
  refine lw_aload_n dL_law_195 rfl ?_
  refine lw_iload_n dL_law_196 rfl ?_
  refine lw_ic (nI 2) dL_law_197 (by decide) ?_
  refine lw_iadd dL_law_198 ?_
  refine lw_sld (i + 2) dL_law_199 (nI_add _ _) (by omega) (by omega) ?_
  refine lw_aload_n dL_law_200 rfl ?_
  refine lw_iload_n dL_law_201 rfl ?_
  refine lw_ic (nI 3) dL_law_202 (by decide) ?_
  refine lw_iadd dL_law_203 ?_
  refine lw_sld (i + 3) dL_law_204 (nI_add _ _) (by omega) (by omega) ?_
  refine lw_aload_n dL_law_205 rfl ?_
  refine lw_iload_n dL_law_206 rfl ?_
  refine lw_ic (nI 4) dL_law_207 (by decide) ?_
  refine lw_iadd dL_law_208 ?_
  refine lw_sld (i + 4) dL_law_209 (nI_add _ _) (by omega) (by omega) ?_
  refine lw_calli (As := [.int (xs (i + 1)), .int (xs (i + 2)), .int (xs (i + 3)), .int (xs (i + 4))]) (ci := 10) hC dL_law_210 kL_22 ok_X10_draw rfl rfl (by decide) k_176 rfl rfl (Nat.le_of_ble_eq_true rfl) ⟨Nat.le_of_ble_eq_true rfl, Nat.le_of_ble_eq_true rfl⟩ rfl rfl (ctM_draw hM2 (xs (i + 1)) (xs (i + 2)) (xs (i + 3)) (xs (i + 4))) (fun r2 σ2 q2 => ?_)
  obtain ⟨e2, hM3, hF2⟩ := q2
  have hC3 := hC2.fr hF2
  refine lw_icmp_eq dL_law_213 (fun _ => ?_) (fun h => absurd (e1.trans e2.symm) h)
  exact kk _ _ hC3 hM3
set_option maxHeartbeats 4000000 in
set_option maxRecDepth 100000 in
theorem lc_erase {i : Nat} (hi : i + 5 ≤ L) (hL : L ≤ 2560) (hC : CU ≤ 600000 ∧ SU ≤ 7302249) {σ : SG} {S : Sp} (hC1 : InvC σ S) (hM1 : InvM σ S) (kk : ∀ σ' S', InvC σ' S' → InvM σ' S' → LW g b L xs CU SU 885 [some (.ref b), some (.ref (ad g 0)), some (.ref (ad g 176)), some (.int (nI i))] [] σ') : LW g b L xs CU SU 218 [some (.ref b), some (.ref (ad g 0)), some (.ref (ad g 176)), some (.int (nI i))] [] σ := by
  refine lw_aload_n dL_law_218 rfl ?_
  refine lw_aload_n dL_law_219 rfl ?_
  refine lw_iload_n dL_law_220 rfl ?_
  refine lw_ic (nI 1) dL_law_221 (by decide) ?_
  refine lw_iadd dL_law_222 ?_
  refine lw_sld (i + 1) dL_law_223 (nI_add _ _) (by omega) (by omega) ?_
  refine lw_calli (As := [.int (xs (i + 1))]) (ci := 9) hC dL_law_224 kL_23 ok_X9_erase rfl rfl (by decide) k_0 rfl rfl (Nat.le_of_ble_eq_true rfl) ⟨Nat.le_of_ble_eq_true rfl, Nat.le_of_ble_eq_true rfl⟩ rfl rfl (ct_erase hC1 (xs (i + 1))) (fun r1 σ1 q1 => ?_)
  obtain ⟨e1, hC2, hF1⟩ := q1
  have hM2 := hM1.fr hF1
  refine lw_aload_n dL_law_227 rfl ?_
  refine lw_aload_n dL_law_228 rfl ?_
  refine lw_iload_n dL_law_229 rfl ?_
  refine lw_ic (nI 1) dL_law_230 (by decide) ?_
  refine lw_iadd dL_law_231 ?_
  refine lw_sld (i + 1) dL_law_232 (nI_add _ _) (by omega) (by omega) ?_
  refine lw_calli (As := [.int (xs (i + 1))]) (ci := 10) hC dL_law_233 kL_27 ok_X10_erase rfl rfl (by decide) k_176 rfl rfl (Nat.le_of_ble_eq_true rfl) ⟨Nat.le_of_ble_eq_true rfl, Nat.le_of_ble_eq_true rfl⟩ rfl rfl (ctM_erase hM2 (xs (i + 1))) (fun r2 σ2 q2 => ?_)
  obtain ⟨e2, hM3, hF2⟩ := q2
  have hC3 := hC2.fr hF2
  refine lw_icmp_eq dL_law_236 (fun _ => ?_) (fun h => absurd (e1.trans e2.symm) h)
  exact kk _ _ hC3 hM3
set_option maxHeartbeats 4000000 in
set_option maxRecDepth 100000 in
theorem lc_piece {i : Nat} (hi : i + 5 ≤ L) (hL : L ≤ 2560) (hC : CU ≤ 600000 ∧ SU ≤ 7302249) {σ : SG} {S : Sp} (hC1 : InvC σ S) (hM1 : InvM σ S) (kk : ∀ σ' S', InvC σ' S' → InvM σ' S' → LW g b L xs CU SU 885 [some (.ref b), some (.ref (ad g 0)), some (.ref (ad g 176)), some (.int (nI i))] [] σ') : LW g b L xs CU SU 241 [some (.ref b), some (.ref (ad g 0)), some (.ref (ad g 176)), some (.int (nI i))] [] σ := by
  refine lw_aload_n dL_law_241 rfl ?_
  refine lw_aload_n dL_law_242 rfl ?_
  refine lw_iload_n dL_law_243 rfl ?_
  refine lw_ic (nI 1) dL_law_244 (by decide) ?_
  refine lw_iadd dL_law_245 ?_
  refine lw_sld (i + 1) dL_law_246 (nI_add _ _) (by omega) (by omega) ?_
  refine lw_aload_n dL_law_247 rfl ?_
  refine lw_iload_n dL_law_248 rfl ?_
  refine lw_ic (nI 2) dL_law_249 (by decide) ?_
  refine lw_iadd dL_law_250 ?_
  refine lw_sld (i + 2) dL_law_251 (nI_add _ _) (by omega) (by omega) ?_
  refine lw_calli (As := [.int (xs (i + 1)), .int (xs (i + 2))]) (ci := 9) hC dL_law_252 kL_28 ok_X9_piece rfl rfl (by decide) k_0 rfl rfl (Nat.le_of_ble_eq_true rfl) ⟨Nat.le_of_ble_eq_true rfl, Nat.le_of_ble_eq_true rfl⟩ rfl rfl (ct_piece FOK_all hC1 (xs (i + 1)) (xs (i + 2))) (fun r1 σ1 q1 => ?_)
  obtain ⟨e1, hC2, hF1⟩ := q1
  have hM2 := hM1.fr hF1
  refine lw_aload_n dL_law_255 rfl ?_
  refine lw_aload_n dL_law_256 rfl ?_
  refine lw_iload_n dL_law_257 rfl ?_
  refine lw_ic (nI 1) dL_law_258 (by decide) ?_
  refine lw_iadd dL_law_259 ?_
  refine lw_sld (i + 1) dL_law_260 (nI_add _ _) (by omega) (by omega) ?_
  refine lw_aload_n dL_law_261 rfl ?_
  refine lw_iload_n dL_law_262 rfl ?_
  refine lw_ic (nI 2) dL_law_263 (by decide) ?_
  refine lw_iadd dL_law_264 ?_
  refine lw_sld (i + 2) dL_law_265 (nI_add _ _) (by omega) (by omega) ?_
  refine lw_calli (As := [.int (xs (i + 1)), .int (xs (i + 2))]) (ci := 10) hC dL_law_266 kL_31 ok_X10_piece rfl rfl (by decide) k_176 rfl rfl (Nat.le_of_ble_eq_true rfl) ⟨Nat.le_of_ble_eq_true rfl, Nat.le_of_ble_eq_true rfl⟩ rfl rfl (ctM_piece FOK_all hM2 (xs (i + 1)) (xs (i + 2))) (fun r2 σ2 q2 => ?_)
  obtain ⟨e2, hM3, hF2⟩ := q2
  have hC3 := hC2.fr hF2
  refine lw_icmp_eq dL_law_269 (fun _ => ?_) (fun h => absurd (e1.trans e2.symm) h)
  exact kk _ _ hC3 hM3
set_option maxHeartbeats 4000000 in
set_option maxRecDepth 100000 in
theorem lc_write {i : Nat} (hi : i + 5 ≤ L) (hL : L ≤ 2560) (hC : CU ≤ 600000 ∧ SU ≤ 7302249) {σ : SG} {S : Sp} (hC1 : InvC σ S) (hM1 : InvM σ S) (kk : ∀ σ' S', InvC σ' S' → InvM σ' S' → LW g b L xs CU SU 885 [some (.ref b), some (.ref (ad g 0)), some (.ref (ad g 176)), some (.int (nI i))] [] σ') : LW g b L xs CU SU 274 [some (.ref b), some (.ref (ad g 0)), some (.ref (ad g 176)), some (.int (nI i))] [] σ := by
  refine lw_aload_n dL_law_274 rfl ?_
  refine lw_aload_n dL_law_275 rfl ?_
  refine lw_iload_n dL_law_276 rfl ?_
  refine lw_ic (nI 1) dL_law_277 (by decide) ?_
  refine lw_iadd dL_law_278 ?_
  refine lw_sld (i + 1) dL_law_279 (nI_add _ _) (by omega) (by omega) ?_
  refine lw_aload_n dL_law_280 rfl ?_
  refine lw_iload_n dL_law_281 rfl ?_
  refine lw_ic (nI 2) dL_law_282 (by decide) ?_
  refine lw_iadd dL_law_283 ?_
  refine lw_sld (i + 2) dL_law_284 (nI_add _ _) (by omega) (by omega) ?_
  refine lw_aload_n dL_law_285 rfl ?_
  refine lw_iload_n dL_law_286 rfl ?_
  refine lw_ic (nI 3) dL_law_287 (by decide) ?_
  refine lw_iadd dL_law_288 ?_
  refine lw_sld (i + 3) dL_law_289 (nI_add _ _) (by omega) (by omega) ?_
  refine lw_aload_n dL_law_290 rfl ?_
  refine lw_iload_n dL_law_291 rfl ?_
  refine lw_ic (nI 4) dL_law_292 (by decide) ?_
  refine lw_iadd dL_law_293 ?_
  refine lw_sld (i + 4) dL_law_294 (nI_add _ _) (by omega) (by omega) ?_
  refine lw_calli (As := [.int (xs (i + 1)), .int (xs (i + 2)), .int (xs (i + 3)), .int (xs (i + 4))]) (ci := 9) hC dL_law_295 kL_32 ok_X9_write rfl rfl (by decide) k_0 rfl rfl (Nat.le_of_ble_eq_true rfl) ⟨Nat.le_of_ble_eq_true rfl, Nat.le_of_ble_eq_true rfl⟩ rfl rfl (ct_write hC1 (xs (i + 1)) (xs (i + 2)) (xs (i + 3)) (xs (i + 4))) (fun r1 σ1 q1 => ?_)
  obtain ⟨e1, hC2, hF1⟩ := q1
  have hM2 := hM1.fr hF1
  refine lw_aload_n dL_law_298 rfl ?_
  refine lw_aload_n dL_law_299 rfl ?_
  refine lw_iload_n dL_law_300 rfl ?_
  refine lw_ic (nI 1) dL_law_301 (by decide) ?_
  refine lw_iadd dL_law_302 ?_
  refine lw_sld (i + 1) dL_law_303 (nI_add _ _) (by omega) (by omega) ?_
  refine lw_aload_n dL_law_304 rfl ?_
  refine lw_iload_n dL_law_305 rfl ?_
  refine lw_ic (nI 2) dL_law_306 (by decide) ?_
  refine lw_iadd dL_law_307 ?_
  refine lw_sld (i + 2) dL_law_308 (nI_add _ _) (by omega) (by omega) ?_
  refine lw_aload_n dL_law_309 rfl ?_
  refine lw_iload_n dL_law_310 rfl ?_
  refine lw_ic (nI 3) dL_law_311 (by decide) ?_
  refine lw_iadd dL_law_312 ?_
  refine lw_sld (i + 3) dL_law_313 (nI_add _ _) (by omega) (by omega) ?_
  refine lw_aload_n dL_law_314 rfl ?_
  refine lw_iload_n dL_law_315 rfl ?_
  refine lw_ic (nI 4) dL_law_316 (by decide) ?_
  refine lw_iadd dL_law_317 ?_
  refine lw_sld (i + 4) dL_law_318 (nI_add _ _) (by omega) (by omega) ?_
  refine lw_calli (As := [.int (xs (i + 1)), .int (xs (i + 2)), .int (xs (i + 3)), .int (xs (i + 4))]) (ci := 10) hC dL_law_319 kL_35 ok_X10_write rfl rfl (by decide) k_176 rfl rfl (Nat.le_of_ble_eq_true rfl) ⟨Nat.le_of_ble_eq_true rfl, Nat.le_of_ble_eq_true rfl⟩ rfl rfl (ctM_write hM2 (xs (i + 1)) (xs (i + 2)) (xs (i + 3)) (xs (i + 4))) (fun r2 σ2 q2 => ?_)
  obtain ⟨e2, hM3, hF2⟩ := q2
  have hC3 := hC2.fr hF2
  refine lw_icmp_eq dL_law_322 (fun _ => ?_) (fun h => absurd (e1.trans e2.symm) h)
  exact kk _ _ hC3 hM3
set_option maxHeartbeats 4000000 in
set_option maxRecDepth 100000 in
theorem lc_strike {i : Nat} (hi : i + 5 ≤ L) (hL : L ≤ 2560) (hC : CU ≤ 600000 ∧ SU ≤ 7302249) {σ : SG} {S : Sp} (hC1 : InvC σ S) (hM1 : InvM σ S) (kk : ∀ σ' S', InvC σ' S' → InvM σ' S' → LW g b L xs CU SU 885 [some (.ref b), some (.ref (ad g 0)), some (.ref (ad g 176)), some (.int (nI i))] [] σ') : LW g b L xs CU SU 327 [some (.ref b), some (.ref (ad g 0)), some (.ref (ad g 176)), some (.int (nI i))] [] σ := by
  refine lw_aload_n dL_law_327 rfl ?_
  refine lw_aload_n dL_law_328 rfl ?_
  refine lw_iload_n dL_law_329 rfl ?_
  refine lw_ic (nI 1) dL_law_330 (by decide) ?_
  refine lw_iadd dL_law_331 ?_
  refine lw_sld (i + 1) dL_law_332 (nI_add _ _) (by omega) (by omega) ?_
  refine lw_calli (As := [.int (xs (i + 1))]) (ci := 9) hC dL_law_333 kL_36 ok_X9_strike rfl rfl (by decide) k_0 rfl rfl (Nat.le_of_ble_eq_true rfl) ⟨Nat.le_of_ble_eq_true rfl, Nat.le_of_ble_eq_true rfl⟩ rfl rfl (ct_strike hC1 (xs (i + 1))) (fun r1 σ1 q1 => ?_)
  obtain ⟨e1, hC2, hF1⟩ := q1
  have hM2 := hM1.fr hF1
  refine lw_aload_n dL_law_336 rfl ?_
  refine lw_aload_n dL_law_337 rfl ?_
  refine lw_iload_n dL_law_338 rfl ?_
  refine lw_ic (nI 1) dL_law_339 (by decide) ?_
  refine lw_iadd dL_law_340 ?_
  refine lw_sld (i + 1) dL_law_341 (nI_add _ _) (by omega) (by omega) ?_
  refine lw_calli (As := [.int (xs (i + 1))]) (ci := 10) hC dL_law_342 kL_39 ok_X10_strike rfl rfl (by decide) k_176 rfl rfl (Nat.le_of_ble_eq_true rfl) ⟨Nat.le_of_ble_eq_true rfl, Nat.le_of_ble_eq_true rfl⟩ rfl rfl (ctM_strike hM2 (xs (i + 1))) (fun r2 σ2 q2 => ?_)
  obtain ⟨e2, hM3, hF2⟩ := q2
  have hC3 := hC2.fr hF2
  refine lw_icmp_eq dL_law_345 (fun _ => ?_) (fun h => absurd (e1.trans e2.symm) h)
  exact kk _ _ hC3 hM3
set_option maxHeartbeats 4000000 in
set_option maxRecDepth 100000 in
theorem lc_word {i : Nat} (hi : i + 5 ≤ L) (hL : L ≤ 2560) (hC : CU ≤ 600000 ∧ SU ≤ 7302249) {σ : SG} {S : Sp} (hC1 : InvC σ S) (hM1 : InvM σ S) (kk : ∀ σ' S', InvC σ' S' → InvM σ' S' → LW g b L xs CU SU 885 [some (.ref b), some (.ref (ad g 0)), some (.ref (ad g 176)), some (.int (nI i))] [] σ') : LW g b L xs CU SU 350 [some (.ref b), some (.ref (ad g 0)), some (.ref (ad g 176)), some (.int (nI i))] [] σ := by
  refine lw_aload_n dL_law_350 rfl ?_
  refine lw_aload_n dL_law_351 rfl ?_
  refine lw_iload_n dL_law_352 rfl ?_
  refine lw_ic (nI 1) dL_law_353 (by decide) ?_
  refine lw_iadd dL_law_354 ?_
  refine lw_sld (i + 1) dL_law_355 (nI_add _ _) (by omega) (by omega) ?_
  refine lw_aload_n dL_law_356 rfl ?_
  refine lw_iload_n dL_law_357 rfl ?_
  refine lw_ic (nI 2) dL_law_358 (by decide) ?_
  refine lw_iadd dL_law_359 ?_
  refine lw_sld (i + 2) dL_law_360 (nI_add _ _) (by omega) (by omega) ?_
  refine lw_calli (As := [.int (xs (i + 1)), .int (xs (i + 2))]) (ci := 9) hC dL_law_361 kL_40 ok_X9_word rfl rfl (by decide) k_0 rfl rfl (Nat.le_of_ble_eq_true rfl) ⟨Nat.le_of_ble_eq_true rfl, Nat.le_of_ble_eq_true rfl⟩ rfl rfl (ct_word FOK_all hC1 (xs (i + 1)) (xs (i + 2))) (fun r1 σ1 q1 => ?_)
  obtain ⟨e1, hC2, hF1⟩ := q1
  have hM2 := hM1.fr hF1
  refine lw_aload_n dL_law_364 rfl ?_
  refine lw_aload_n dL_law_365 rfl ?_
  refine lw_iload_n dL_law_366 rfl ?_
  refine lw_ic (nI 1) dL_law_367 (by decide) ?_
  refine lw_iadd dL_law_368 ?_
  refine lw_sld (i + 1) dL_law_369 (nI_add _ _) (by omega) (by omega) ?_
  refine lw_aload_n dL_law_370 rfl ?_
  refine lw_iload_n dL_law_371 rfl ?_
  refine lw_ic (nI 2) dL_law_372 (by decide) ?_
  refine lw_iadd dL_law_373 ?_
  refine lw_sld (i + 2) dL_law_374 (nI_add _ _) (by omega) (by omega) ?_
  refine lw_calli (As := [.int (xs (i + 1)), .int (xs (i + 2))]) (ci := 10) hC dL_law_375 kL_43 ok_X10_word rfl rfl (by decide) k_176 rfl rfl (Nat.le_of_ble_eq_true rfl) ⟨Nat.le_of_ble_eq_true rfl, Nat.le_of_ble_eq_true rfl⟩ rfl rfl (ctM_word FOK_all hM2 (xs (i + 1)) (xs (i + 2))) (fun r2 σ2 q2 => ?_)
  obtain ⟨e2, hM3, hF2⟩ := q2
  have hC3 := hC2.fr hF2
  refine lw_icmp_eq dL_law_378 (fun _ => ?_) (fun h => absurd (e1.trans e2.symm) h)
  exact kk _ _ hC3 hM3
set_option maxHeartbeats 4000000 in
set_option maxRecDepth 100000 in
theorem lc_rule {i : Nat} (hi : i + 5 ≤ L) (hL : L ≤ 2560) (hC : CU ≤ 600000 ∧ SU ≤ 7302249) {σ : SG} {S : Sp} (hC1 : InvC σ S) (hM1 : InvM σ S) (kk : ∀ σ' S', InvC σ' S' → InvM σ' S' → LW g b L xs CU SU 885 [some (.ref b), some (.ref (ad g 0)), some (.ref (ad g 176)), some (.int (nI i))] [] σ') : LW g b L xs CU SU 383 [some (.ref b), some (.ref (ad g 0)), some (.ref (ad g 176)), some (.int (nI i))] [] σ := by
  refine lw_aload_n dL_law_383 rfl ?_
  refine lw_aload_n dL_law_384 rfl ?_
  refine lw_iload_n dL_law_385 rfl ?_
  refine lw_ic (nI 1) dL_law_386 (by decide) ?_
  refine lw_iadd dL_law_387 ?_
  refine lw_sld (i + 1) dL_law_388 (nI_add _ _) (by omega) (by omega) ?_
  refine lw_aload_n dL_law_389 rfl ?_
  refine lw_iload_n dL_law_390 rfl ?_
  refine lw_ic (nI 2) dL_law_391 (by decide) ?_
  refine lw_iadd dL_law_392 ?_
  refine lw_sld (i + 2) dL_law_393 (nI_add _ _) (by omega) (by omega) ?_
  refine lw_calli (As := [.int (xs (i + 1)), .int (xs (i + 2))]) (ci := 9) hC dL_law_394 kL_44 ok_X9_rule rfl rfl (by decide) k_0 rfl rfl (Nat.le_of_ble_eq_true rfl) ⟨Nat.le_of_ble_eq_true rfl, Nat.le_of_ble_eq_true rfl⟩ rfl rfl (ct_rule FOK_all hC1 (xs (i + 1)) (xs (i + 2))) (fun r1 σ1 q1 => ?_)
  obtain ⟨e1, hC2, hF1⟩ := q1
  have hM2 := hM1.fr hF1
  refine lw_aload_n dL_law_397 rfl ?_
  refine lw_aload_n dL_law_398 rfl ?_
  refine lw_iload_n dL_law_399 rfl ?_
  refine lw_ic (nI 1) dL_law_400 (by decide) ?_
  refine lw_iadd dL_law_401 ?_
  refine lw_sld (i + 1) dL_law_402 (nI_add _ _) (by omega) (by omega) ?_
  refine lw_aload_n dL_law_403 rfl ?_
  refine lw_iload_n dL_law_404 rfl ?_
  refine lw_ic (nI 2) dL_law_405 (by decide) ?_
  refine lw_iadd dL_law_406 ?_
  refine lw_sld (i + 2) dL_law_407 (nI_add _ _) (by omega) (by omega) ?_
  refine lw_calli (As := [.int (xs (i + 1)), .int (xs (i + 2))]) (ci := 10) hC dL_law_408 kL_47 ok_X10_rule rfl rfl (by decide) k_176 rfl rfl (Nat.le_of_ble_eq_true rfl) ⟨Nat.le_of_ble_eq_true rfl, Nat.le_of_ble_eq_true rfl⟩ rfl rfl (ctM_rule FOK_all hM2 (xs (i + 1)) (xs (i + 2))) (fun r2 σ2 q2 => ?_)
  obtain ⟨e2, hM3, hF2⟩ := q2
  have hC3 := hC2.fr hF2
  refine lw_icmp_eq dL_law_411 (fun _ => ?_) (fun h => absurd (e1.trans e2.symm) h)
  exact kk _ _ hC3 hM3
set_option maxHeartbeats 4000000 in
set_option maxRecDepth 100000 in
theorem lc_cross {i : Nat} (hi : i + 5 ≤ L) (hL : L ≤ 2560) (hC : CU ≤ 600000 ∧ SU ≤ 7302249) {σ : SG} {S : Sp} (hC1 : InvC σ S) (hM1 : InvM σ S) (kk : ∀ σ' S', InvC σ' S' → InvM σ' S' → LW g b L xs CU SU 885 [some (.ref b), some (.ref (ad g 0)), some (.ref (ad g 176)), some (.int (nI i))] [] σ') : LW g b L xs CU SU 416 [some (.ref b), some (.ref (ad g 0)), some (.ref (ad g 176)), some (.int (nI i))] [] σ := by
  refine lw_aload_n dL_law_416 rfl ?_
  refine lw_aload_n dL_law_417 rfl ?_
  refine lw_iload_n dL_law_418 rfl ?_
  refine lw_ic (nI 1) dL_law_419 (by decide) ?_
  refine lw_iadd dL_law_420 ?_
  refine lw_sld (i + 1) dL_law_421 (nI_add _ _) (by omega) (by omega) ?_
  refine lw_aload_n dL_law_422 rfl ?_
  refine lw_iload_n dL_law_423 rfl ?_
  refine lw_ic (nI 2) dL_law_424 (by decide) ?_
  refine lw_iadd dL_law_425 ?_
  refine lw_sld (i + 2) dL_law_426 (nI_add _ _) (by omega) (by omega) ?_
  refine lw_calli (As := [.int (xs (i + 1)), .int (xs (i + 2))]) (ci := 9) hC dL_law_427 kL_48 ok_X9_cross rfl rfl (by decide) k_0 rfl rfl (Nat.le_of_ble_eq_true rfl) ⟨Nat.le_of_ble_eq_true rfl, Nat.le_of_ble_eq_true rfl⟩ rfl rfl (ct_cross FOK_all hC1 (xs (i + 1)) (xs (i + 2))) (fun r1 σ1 q1 => ?_)
  obtain ⟨e1, hC2, hF1⟩ := q1
  have hM2 := hM1.fr hF1
  refine lw_aload_n dL_law_430 rfl ?_
  refine lw_aload_n dL_law_431 rfl ?_
  refine lw_iload_n dL_law_432 rfl ?_
  refine lw_ic (nI 1) dL_law_433 (by decide) ?_
  refine lw_iadd dL_law_434 ?_
  refine lw_sld (i + 1) dL_law_435 (nI_add _ _) (by omega) (by omega) ?_
  refine lw_aload_n dL_law_436 rfl ?_
  refine lw_iload_n dL_law_437 rfl ?_
  refine lw_ic (nI 2) dL_law_438 (by decide) ?_
  refine lw_iadd dL_law_439 ?_
  refine lw_sld (i + 2) dL_law_440 (nI_add _ _) (by omega) (by omega) ?_
  refine lw_calli (As := [.int (xs (i + 1)), .int (xs (i + 2))]) (ci := 10) hC dL_law_441 kL_51 ok_X10_cross rfl rfl (by decide) k_176 rfl rfl (Nat.le_of_ble_eq_true rfl) ⟨Nat.le_of_ble_eq_true rfl, Nat.le_of_ble_eq_true rfl⟩ rfl rfl (ctM_cross FOK_all hM2 (xs (i + 1)) (xs (i + 2))) (fun r2 σ2 q2 => ?_)
  obtain ⟨e2, hM3, hF2⟩ := q2
  have hC3 := hC2.fr hF2
  refine lw_icmp_eq dL_law_444 (fun _ => ?_) (fun h => absurd (e1.trans e2.symm) h)
  exact kk _ _ hC3 hM3
set_option maxHeartbeats 4000000 in
set_option maxRecDepth 100000 in
theorem lc_table {i : Nat} (hi : i + 5 ≤ L) (hL : L ≤ 2560) (hC : CU ≤ 600000 ∧ SU ≤ 7302249) {σ : SG} {S : Sp} (hC1 : InvC σ S) (hM1 : InvM σ S) (kk : ∀ σ' S', InvC σ' S' → InvM σ' S' → LW g b L xs CU SU 885 [some (.ref b), some (.ref (ad g 0)), some (.ref (ad g 176)), some (.int (nI i))] [] σ') : LW g b L xs CU SU 449 [some (.ref b), some (.ref (ad g 0)), some (.ref (ad g 176)), some (.int (nI i))] [] σ := by
  refine lw_aload_n dL_law_449 rfl ?_
  refine lw_aload_n dL_law_450 rfl ?_
  refine lw_iload_n dL_law_451 rfl ?_
  refine lw_ic (nI 1) dL_law_452 (by decide) ?_
  refine lw_iadd dL_law_453 ?_
  refine lw_sld (i + 1) dL_law_454 (nI_add _ _) (by omega) (by omega) ?_
  refine lw_aload_n dL_law_455 rfl ?_
  refine lw_iload_n dL_law_456 rfl ?_
  refine lw_ic (nI 2) dL_law_457 (by decide) ?_
  refine lw_iadd dL_law_458 ?_
  refine lw_sld (i + 2) dL_law_459 (nI_add _ _) (by omega) (by omega) ?_
  refine lw_calli (As := [.int (xs (i + 1)), .int (xs (i + 2))]) (ci := 9) hC dL_law_460 kL_52 ok_X9_table rfl rfl (by decide) k_0 rfl rfl (Nat.le_of_ble_eq_true rfl) ⟨Nat.le_of_ble_eq_true rfl, Nat.le_of_ble_eq_true rfl⟩ rfl rfl (ct_table FOK_all hC1 (xs (i + 1)) (xs (i + 2))) (fun r1 σ1 q1 => ?_)
  obtain ⟨e1, hC2, hF1⟩ := q1
  have hM2 := hM1.fr hF1
  refine lw_aload_n dL_law_463 rfl ?_
  refine lw_aload_n dL_law_464 rfl ?_
  refine lw_iload_n dL_law_465 rfl ?_
  refine lw_ic (nI 1) dL_law_466 (by decide) ?_
  refine lw_iadd dL_law_467 ?_
  refine lw_sld (i + 1) dL_law_468 (nI_add _ _) (by omega) (by omega) ?_
  refine lw_aload_n dL_law_469 rfl ?_
  refine lw_iload_n dL_law_470 rfl ?_
  refine lw_ic (nI 2) dL_law_471 (by decide) ?_
  refine lw_iadd dL_law_472 ?_
  refine lw_sld (i + 2) dL_law_473 (nI_add _ _) (by omega) (by omega) ?_
  refine lw_calli (As := [.int (xs (i + 1)), .int (xs (i + 2))]) (ci := 10) hC dL_law_474 kL_55 ok_X10_table rfl rfl (by decide) k_176 rfl rfl (Nat.le_of_ble_eq_true rfl) ⟨Nat.le_of_ble_eq_true rfl, Nat.le_of_ble_eq_true rfl⟩ rfl rfl (ctM_table FOK_all hM2 (xs (i + 1)) (xs (i + 2))) (fun r2 σ2 q2 => ?_)
  obtain ⟨e2, hM3, hF2⟩ := q2
  have hC3 := hC2.fr hF2
  refine lw_icmp_eq dL_law_477 (fun _ => ?_) (fun h => absurd (e1.trans e2.symm) h)
  exact kk _ _ hC3 hM3
set_option maxHeartbeats 4000000 in
set_option maxRecDepth 100000 in
theorem lc_edge {i : Nat} (hi : i + 5 ≤ L) (hL : L ≤ 2560) (hC : CU ≤ 600000 ∧ SU ≤ 7302249) {σ : SG} {S : Sp} (hC1 : InvC σ S) (hM1 : InvM σ S) (kk : ∀ σ' S', InvC σ' S' → InvM σ' S' → LW g b L xs CU SU 885 [some (.ref b), some (.ref (ad g 0)), some (.ref (ad g 176)), some (.int (nI i))] [] σ') : LW g b L xs CU SU 482 [some (.ref b), some (.ref (ad g 0)), some (.ref (ad g 176)), some (.int (nI i))] [] σ := by
  refine lw_aload_n dL_law_482 rfl ?_
  refine lw_aload_n dL_law_483 rfl ?_
  refine lw_iload_n dL_law_484 rfl ?_
  refine lw_ic (nI 1) dL_law_485 (by decide) ?_
  refine lw_iadd dL_law_486 ?_
  refine lw_sld (i + 1) dL_law_487 (nI_add _ _) (by omega) (by omega) ?_
  refine lw_aload_n dL_law_488 rfl ?_
  refine lw_iload_n dL_law_489 rfl ?_
  refine lw_ic (nI 2) dL_law_490 (by decide) ?_
  refine lw_iadd dL_law_491 ?_
  refine lw_sld (i + 2) dL_law_492 (nI_add _ _) (by omega) (by omega) ?_
  refine lw_aload_n dL_law_493 rfl ?_
  refine lw_iload_n dL_law_494 rfl ?_
  refine lw_ic (nI 3) dL_law_495 (by decide) ?_
  refine lw_iadd dL_law_496 ?_
  refine lw_sld (i + 3) dL_law_497 (nI_add _ _) (by omega) (by omega) ?_
  refine lw_calli (As := [.int (xs (i + 1)), .int (xs (i + 2)), .int (xs (i + 3))]) (ci := 9) hC dL_law_498 kL_56 ok_X9_edge rfl rfl (by decide) k_0 rfl rfl (Nat.le_of_ble_eq_true rfl) ⟨Nat.le_of_ble_eq_true rfl, Nat.le_of_ble_eq_true rfl⟩ rfl rfl (ct_edge FOK_all hC1 (xs (i + 1)) (xs (i + 2)) (xs (i + 3))) (fun r1 σ1 q1 => ?_)
  obtain ⟨e1, hC2, hF1⟩ := q1
  have hM2 := hM1.fr hF1
  refine lw_aload_n dL_law_501 rfl ?_
  refine lw_aload_n dL_law_502 rfl ?_
  refine lw_iload_n dL_law_503 rfl ?_
  refine lw_ic (nI 1) dL_law_504 (by decide) ?_
  refine lw_iadd dL_law_505 ?_
  refine lw_sld (i + 1) dL_law_506 (nI_add _ _) (by omega) (by omega) ?_
  refine lw_aload_n dL_law_507 rfl ?_
  refine lw_iload_n dL_law_508 rfl ?_
  refine lw_ic (nI 2) dL_law_509 (by decide) ?_
  refine lw_iadd dL_law_510 ?_
  refine lw_sld (i + 2) dL_law_511 (nI_add _ _) (by omega) (by omega) ?_
  refine lw_aload_n dL_law_512 rfl ?_
  refine lw_iload_n dL_law_513 rfl ?_
  refine lw_ic (nI 3) dL_law_514 (by decide) ?_
  refine lw_iadd dL_law_515 ?_
  refine lw_sld (i + 3) dL_law_516 (nI_add _ _) (by omega) (by omega) ?_
  refine lw_calli (As := [.int (xs (i + 1)), .int (xs (i + 2)), .int (xs (i + 3))]) (ci := 10) hC dL_law_517 kL_60 ok_X10_edge rfl rfl (by decide) k_176 rfl rfl (Nat.le_of_ble_eq_true rfl) ⟨Nat.le_of_ble_eq_true rfl, Nat.le_of_ble_eq_true rfl⟩ rfl rfl (ctM_edge FOK_all hM2 (xs (i + 1)) (xs (i + 2)) (xs (i + 3))) (fun r2 σ2 q2 => ?_)
  obtain ⟨e2, hM3, hF2⟩ := q2
  have hC3 := hC2.fr hF2
  refine lw_icmp_eq dL_law_520 (fun _ => ?_) (fun h => absurd (e1.trans e2.symm) h)
  exact kk _ _ hC3 hM3
set_option maxHeartbeats 4000000 in
set_option maxRecDepth 100000 in
theorem lc_ruled {i : Nat} (hi : i + 5 ≤ L) (hL : L ≤ 2560) (hC : CU ≤ 600000 ∧ SU ≤ 7302249) {σ : SG} {S : Sp} (hC1 : InvC σ S) (hM1 : InvM σ S) (kk : ∀ σ' S', InvC σ' S' → InvM σ' S' → LW g b L xs CU SU 885 [some (.ref b), some (.ref (ad g 0)), some (.ref (ad g 176)), some (.int (nI i))] [] σ') : LW g b L xs CU SU 525 [some (.ref b), some (.ref (ad g 0)), some (.ref (ad g 176)), some (.int (nI i))] [] σ := by
  refine lw_aload_n dL_law_525 rfl ?_
  refine lw_aload_n dL_law_526 rfl ?_
  refine lw_iload_n dL_law_527 rfl ?_
  refine lw_ic (nI 1) dL_law_528 (by decide) ?_
  refine lw_iadd dL_law_529 ?_
  refine lw_sld (i + 1) dL_law_530 (nI_add _ _) (by omega) (by omega) ?_
  refine lw_aload_n dL_law_531 rfl ?_
  refine lw_iload_n dL_law_532 rfl ?_
  refine lw_ic (nI 2) dL_law_533 (by decide) ?_
  refine lw_iadd dL_law_534 ?_
  refine lw_sld (i + 2) dL_law_535 (nI_add _ _) (by omega) (by omega) ?_
  refine lw_aload_n dL_law_536 rfl ?_
  refine lw_iload_n dL_law_537 rfl ?_
  refine lw_ic (nI 3) dL_law_538 (by decide) ?_
  refine lw_iadd dL_law_539 ?_
  refine lw_sld (i + 3) dL_law_540 (nI_add _ _) (by omega) (by omega) ?_
  refine lw_aload_n dL_law_541 rfl ?_
  refine lw_iload_n dL_law_542 rfl ?_
  refine lw_ic (nI 4) dL_law_543 (by decide) ?_
  refine lw_iadd dL_law_544 ?_
  refine lw_sld (i + 4) dL_law_545 (nI_add _ _) (by omega) (by omega) ?_
  refine lw_calli (As := [.int (xs (i + 1)), .int (xs (i + 2)), .int (xs (i + 3)), .int (xs (i + 4))]) (ci := 9) hC dL_law_546 kL_61 ok_X9_ruled rfl rfl (by decide) k_0 rfl rfl (Nat.le_of_ble_eq_true rfl) ⟨Nat.le_of_ble_eq_true rfl, Nat.le_of_ble_eq_true rfl⟩ rfl rfl (ct_ruled FOK_all hC1 (xs (i + 1)) (xs (i + 2)) (xs (i + 3)) (xs (i + 4))) (fun r1 σ1 q1 => ?_)
  obtain ⟨e1, hC2, hF1⟩ := q1
  have hM2 := hM1.fr hF1
  refine lw_aload_n dL_law_549 rfl ?_
  refine lw_aload_n dL_law_550 rfl ?_
  refine lw_iload_n dL_law_551 rfl ?_
  refine lw_ic (nI 1) dL_law_552 (by decide) ?_
  refine lw_iadd dL_law_553 ?_
  refine lw_sld (i + 1) dL_law_554 (nI_add _ _) (by omega) (by omega) ?_
  refine lw_aload_n dL_law_555 rfl ?_
  refine lw_iload_n dL_law_556 rfl ?_
  refine lw_ic (nI 2) dL_law_557 (by decide) ?_
  refine lw_iadd dL_law_558 ?_
  refine lw_sld (i + 2) dL_law_559 (nI_add _ _) (by omega) (by omega) ?_
  refine lw_aload_n dL_law_560 rfl ?_
  refine lw_iload_n dL_law_561 rfl ?_
  refine lw_ic (nI 3) dL_law_562 (by decide) ?_
  refine lw_iadd dL_law_563 ?_
  refine lw_sld (i + 3) dL_law_564 (nI_add _ _) (by omega) (by omega) ?_
  refine lw_aload_n dL_law_565 rfl ?_
  refine lw_iload_n dL_law_566 rfl ?_
  refine lw_ic (nI 4) dL_law_567 (by decide) ?_
  refine lw_iadd dL_law_568 ?_
  refine lw_sld (i + 4) dL_law_569 (nI_add _ _) (by omega) (by omega) ?_
  refine lw_calli (As := [.int (xs (i + 1)), .int (xs (i + 2)), .int (xs (i + 3)), .int (xs (i + 4))]) (ci := 10) hC dL_law_570 kL_64 ok_X10_ruled rfl rfl (by decide) k_176 rfl rfl (Nat.le_of_ble_eq_true rfl) ⟨Nat.le_of_ble_eq_true rfl, Nat.le_of_ble_eq_true rfl⟩ rfl rfl (ctM_ruled FOK_all hM2 (xs (i + 1)) (xs (i + 2)) (xs (i + 3)) (xs (i + 4))) (fun r2 σ2 q2 => ?_)
  obtain ⟨e2, hM3, hF2⟩ := q2
  have hC3 := hC2.fr hF2
  refine lw_icmp_eq dL_law_573 (fun _ => ?_) (fun h => absurd (e1.trans e2.symm) h)
  exact kk _ _ hC3 hM3
set_option maxHeartbeats 4000000 in
set_option maxRecDepth 100000 in
theorem lc_at {i : Nat} (hi : i + 5 ≤ L) (hL : L ≤ 2560) (hC : CU ≤ 600000 ∧ SU ≤ 7302249) {σ : SG} {S : Sp} (hC1 : InvC σ S) (hM1 : InvM σ S) (kk : ∀ σ' S', InvC σ' S' → InvM σ' S' → LW g b L xs CU SU 885 [some (.ref b), some (.ref (ad g 0)), some (.ref (ad g 176)), some (.int (nI i))] [] σ') : LW g b L xs CU SU 578 [some (.ref b), some (.ref (ad g 0)), some (.ref (ad g 176)), some (.int (nI i))] [] σ := by
  refine lw_aload_n dL_law_578 rfl ?_
  refine lw_aload_n dL_law_579 rfl ?_
  refine lw_iload_n dL_law_580 rfl ?_
  refine lw_ic (nI 1) dL_law_581 (by decide) ?_
  refine lw_iadd dL_law_582 ?_
  refine lw_sld (i + 1) dL_law_583 (nI_add _ _) (by omega) (by omega) ?_
  refine lw_aload_n dL_law_584 rfl ?_
  refine lw_iload_n dL_law_585 rfl ?_
  refine lw_ic (nI 2) dL_law_586 (by decide) ?_
  refine lw_iadd dL_law_587 ?_
  refine lw_sld (i + 2) dL_law_588 (nI_add _ _) (by omega) (by omega) ?_
  refine lw_aload_n dL_law_589 rfl ?_
  refine lw_iload_n dL_law_590 rfl ?_
  refine lw_ic (nI 3) dL_law_591 (by decide) ?_
  refine lw_iadd dL_law_592 ?_
  refine lw_sld (i + 3) dL_law_593 (nI_add _ _) (by omega) (by omega) ?_
  refine lw_calli (As := [.int (xs (i + 1)), .int (xs (i + 2)), .int (xs (i + 3))]) (ci := 9) hC dL_law_594 kL_65 ok_X9_at rfl rfl (by decide) k_0 rfl rfl (Nat.le_of_ble_eq_true rfl) ⟨Nat.le_of_ble_eq_true rfl, Nat.le_of_ble_eq_true rfl⟩ rfl rfl (ct_at FOK_all hC1 (xs (i + 1)) (xs (i + 2)) (xs (i + 3))) (fun r1 σ1 q1 => ?_)
  obtain ⟨e1, hC2, hF1⟩ := q1
  have hM2 := hM1.fr hF1
  refine lw_aload_n dL_law_597 rfl ?_
  refine lw_aload_n dL_law_598 rfl ?_
  refine lw_iload_n dL_law_599 rfl ?_
  refine lw_ic (nI 1) dL_law_600 (by decide) ?_
  refine lw_iadd dL_law_601 ?_
  refine lw_sld (i + 1) dL_law_602 (nI_add _ _) (by omega) (by omega) ?_
  refine lw_aload_n dL_law_603 rfl ?_
  refine lw_iload_n dL_law_604 rfl ?_
  refine lw_ic (nI 2) dL_law_605 (by decide) ?_
  refine lw_iadd dL_law_606 ?_
  refine lw_sld (i + 2) dL_law_607 (nI_add _ _) (by omega) (by omega) ?_
  refine lw_aload_n dL_law_608 rfl ?_
  refine lw_iload_n dL_law_609 rfl ?_
  refine lw_ic (nI 3) dL_law_610 (by decide) ?_
  refine lw_iadd dL_law_611 ?_
  refine lw_sld (i + 3) dL_law_612 (nI_add _ _) (by omega) (by omega) ?_
  refine lw_calli (As := [.int (xs (i + 1)), .int (xs (i + 2)), .int (xs (i + 3))]) (ci := 10) hC dL_law_613 kL_68 ok_X10_at rfl rfl (by decide) k_176 rfl rfl (Nat.le_of_ble_eq_true rfl) ⟨Nat.le_of_ble_eq_true rfl, Nat.le_of_ble_eq_true rfl⟩ rfl rfl (ctM_at FOK_all hM2 (xs (i + 1)) (xs (i + 2)) (xs (i + 3))) (fun r2 σ2 q2 => ?_)
  obtain ⟨e2, hM3, hF2⟩ := q2.1
  have hC3 := hC2.fr hF2
  refine lw_icmp_eq dL_law_616 (fun _ => ?_) (fun h => absurd (e1.trans e2.symm) h)
  exact kk _ _ hC3 hM3
set_option maxHeartbeats 4000000 in
set_option maxRecDepth 100000 in
theorem lc_cell {i : Nat} (hi : i + 5 ≤ L) (hL : L ≤ 2560) (hC : CU ≤ 600000 ∧ SU ≤ 7302249) {σ : SG} {S : Sp} (hC1 : InvC σ S) (hM1 : InvM σ S) (kk : ∀ σ' S', InvC σ' S' → InvM σ' S' → LW g b L xs CU SU 885 [some (.ref b), some (.ref (ad g 0)), some (.ref (ad g 176)), some (.int (nI i))] [] σ') : LW g b L xs CU SU 621 [some (.ref b), some (.ref (ad g 0)), some (.ref (ad g 176)), some (.int (nI i))] [] σ := by
  refine lw_aload_n dL_law_621 rfl ?_
  refine lw_aload_n dL_law_622 rfl ?_
  refine lw_iload_n dL_law_623 rfl ?_
  refine lw_ic (nI 1) dL_law_624 (by decide) ?_
  refine lw_iadd dL_law_625 ?_
  refine lw_sld (i + 1) dL_law_626 (nI_add _ _) (by omega) (by omega) ?_
  refine lw_aload_n dL_law_627 rfl ?_
  refine lw_iload_n dL_law_628 rfl ?_
  refine lw_ic (nI 2) dL_law_629 (by decide) ?_
  refine lw_iadd dL_law_630 ?_
  refine lw_sld (i + 2) dL_law_631 (nI_add _ _) (by omega) (by omega) ?_
  refine lw_aload_n dL_law_632 rfl ?_
  refine lw_iload_n dL_law_633 rfl ?_
  refine lw_ic (nI 3) dL_law_634 (by decide) ?_
  refine lw_iadd dL_law_635 ?_
  refine lw_sld (i + 3) dL_law_636 (nI_add _ _) (by omega) (by omega) ?_
  refine lw_calli (As := [.int (xs (i + 1)), .int (xs (i + 2)), .int (xs (i + 3))]) (ci := 9) hC dL_law_637 kL_69 ok_X9_cell rfl rfl (by decide) k_0 rfl rfl (Nat.le_of_ble_eq_true rfl) ⟨Nat.le_of_ble_eq_true rfl, Nat.le_of_ble_eq_true rfl⟩ rfl rfl (ct_cell FOK_all hC1 (xs (i + 1)) (xs (i + 2)) (xs (i + 3))) (fun r1 σ1 q1 => ?_)
  obtain ⟨e1, hC2, hF1⟩ := q1
  have hM2 := hM1.fr hF1
  refine lw_aload_n dL_law_640 rfl ?_
  refine lw_aload_n dL_law_641 rfl ?_
  refine lw_iload_n dL_law_642 rfl ?_
  refine lw_ic (nI 1) dL_law_643 (by decide) ?_
  refine lw_iadd dL_law_644 ?_
  refine lw_sld (i + 1) dL_law_645 (nI_add _ _) (by omega) (by omega) ?_
  refine lw_aload_n dL_law_646 rfl ?_
  refine lw_iload_n dL_law_647 rfl ?_
  refine lw_ic (nI 2) dL_law_648 (by decide) ?_
  refine lw_iadd dL_law_649 ?_
  refine lw_sld (i + 2) dL_law_650 (nI_add _ _) (by omega) (by omega) ?_
  refine lw_aload_n dL_law_651 rfl ?_
  refine lw_iload_n dL_law_652 rfl ?_
  refine lw_ic (nI 3) dL_law_653 (by decide) ?_
  refine lw_iadd dL_law_654 ?_
  refine lw_sld (i + 3) dL_law_655 (nI_add _ _) (by omega) (by omega) ?_
  refine lw_calli (As := [.int (xs (i + 1)), .int (xs (i + 2)), .int (xs (i + 3))]) (ci := 10) hC dL_law_656 kL_72 ok_X10_cell rfl rfl (by decide) k_176 rfl rfl (Nat.le_of_ble_eq_true rfl) ⟨Nat.le_of_ble_eq_true rfl, Nat.le_of_ble_eq_true rfl⟩ rfl rfl (ctM_cell FOK_all hM2 (xs (i + 1)) (xs (i + 2)) (xs (i + 3))) (fun r2 σ2 q2 => ?_)
  obtain ⟨e2, hM3, hF2⟩ := q2
  have hC3 := hC2.fr hF2
  refine lw_icmp_eq dL_law_659 (fun _ => ?_) (fun h => absurd (e1.trans e2.symm) h)
  exact kk _ _ hC3 hM3
set_option maxHeartbeats 4000000 in
set_option maxRecDepth 100000 in
theorem lc_read {i : Nat} (hi : i + 5 ≤ L) (hL : L ≤ 2560) (hC : CU ≤ 600000 ∧ SU ≤ 7302249) {σ : SG} {S : Sp} (hC1 : InvC σ S) (hM1 : InvM σ S) (kk : ∀ σ' S', InvC σ' S' → InvM σ' S' → LW g b L xs CU SU 885 [some (.ref b), some (.ref (ad g 0)), some (.ref (ad g 176)), some (.int (nI i))] [] σ') : LW g b L xs CU SU 664 [some (.ref b), some (.ref (ad g 0)), some (.ref (ad g 176)), some (.int (nI i))] [] σ := by
  refine lw_aload_n dL_law_664 rfl ?_
  refine lw_aload_n dL_law_665 rfl ?_
  refine lw_iload_n dL_law_666 rfl ?_
  refine lw_ic (nI 1) dL_law_667 (by decide) ?_
  refine lw_iadd dL_law_668 ?_
  refine lw_sld (i + 1) dL_law_669 (nI_add _ _) (by omega) (by omega) ?_
  refine lw_aload_n dL_law_670 rfl ?_
  refine lw_iload_n dL_law_671 rfl ?_
  refine lw_ic (nI 2) dL_law_672 (by decide) ?_
  refine lw_iadd dL_law_673 ?_
  refine lw_sld (i + 2) dL_law_674 (nI_add _ _) (by omega) (by omega) ?_
  refine lw_aload_n dL_law_675 rfl ?_
  refine lw_iload_n dL_law_676 rfl ?_
  refine lw_ic (nI 3) dL_law_677 (by decide) ?_
  refine lw_iadd dL_law_678 ?_
  refine lw_sld (i + 3) dL_law_679 (nI_add _ _) (by omega) (by omega) ?_
  refine lw_calli (As := [.int (xs (i + 1)), .int (xs (i + 2)), .int (xs (i + 3))]) (ci := 9) hC dL_law_680 kL_73 ok_X9_read rfl rfl (by decide) k_0 rfl rfl (Nat.le_of_ble_eq_true rfl) ⟨Nat.le_of_ble_eq_true rfl, Nat.le_of_ble_eq_true rfl⟩ rfl rfl (ct_read FOK_all hC1 (xs (i + 1)) (xs (i + 2)) (xs (i + 3))) (fun r1 σ1 q1 => ?_)
  obtain ⟨e1, hC2, hF1⟩ := q1
  have hM2 := hM1.fr hF1
  refine lw_aload_n dL_law_683 rfl ?_
  refine lw_aload_n dL_law_684 rfl ?_
  refine lw_iload_n dL_law_685 rfl ?_
  refine lw_ic (nI 1) dL_law_686 (by decide) ?_
  refine lw_iadd dL_law_687 ?_
  refine lw_sld (i + 1) dL_law_688 (nI_add _ _) (by omega) (by omega) ?_
  refine lw_aload_n dL_law_689 rfl ?_
  refine lw_iload_n dL_law_690 rfl ?_
  refine lw_ic (nI 2) dL_law_691 (by decide) ?_
  refine lw_iadd dL_law_692 ?_
  refine lw_sld (i + 2) dL_law_693 (nI_add _ _) (by omega) (by omega) ?_
  refine lw_aload_n dL_law_694 rfl ?_
  refine lw_iload_n dL_law_695 rfl ?_
  refine lw_ic (nI 3) dL_law_696 (by decide) ?_
  refine lw_iadd dL_law_697 ?_
  refine lw_sld (i + 3) dL_law_698 (nI_add _ _) (by omega) (by omega) ?_
  refine lw_calli (As := [.int (xs (i + 1)), .int (xs (i + 2)), .int (xs (i + 3))]) (ci := 10) hC dL_law_699 kL_76 ok_X10_read rfl rfl (by decide) k_176 rfl rfl (Nat.le_of_ble_eq_true rfl) ⟨Nat.le_of_ble_eq_true rfl, Nat.le_of_ble_eq_true rfl⟩ rfl rfl (ctM_read FOK_all hM2 (xs (i + 1)) (xs (i + 2)) (xs (i + 3))) (fun r2 σ2 q2 => ?_)
  obtain ⟨e2, hM3, hF2⟩ := q2
  have hC3 := hC2.fr hF2
  refine lw_icmp_eq dL_law_702 (fun _ => ?_) (fun h => absurd (e1.trans e2.symm) h)
  exact kk _ _ hC3 hM3
set_option maxHeartbeats 4000000 in
set_option maxRecDepth 100000 in
theorem lc_missed {i : Nat} (hi : i + 5 ≤ L) (hL : L ≤ 2560) (hC : CU ≤ 600000 ∧ SU ≤ 7302249) {σ : SG} {S : Sp} (hC1 : InvC σ S) (hM1 : InvM σ S) (kk : ∀ σ' S', InvC σ' S' → InvM σ' S' → LW g b L xs CU SU 885 [some (.ref b), some (.ref (ad g 0)), some (.ref (ad g 176)), some (.int (nI i))] [] σ') : LW g b L xs CU SU 707 [some (.ref b), some (.ref (ad g 0)), some (.ref (ad g 176)), some (.int (nI i))] [] σ := by
  refine lw_aload_n dL_law_707 rfl ?_
  refine lw_aload_n dL_law_708 rfl ?_
  refine lw_iload_n dL_law_709 rfl ?_
  refine lw_ic (nI 1) dL_law_710 (by decide) ?_
  refine lw_iadd dL_law_711 ?_
  refine lw_sld (i + 1) dL_law_712 (nI_add _ _) (by omega) (by omega) ?_
  refine lw_aload_n dL_law_713 rfl ?_
  refine lw_iload_n dL_law_714 rfl ?_
  refine lw_ic (nI 2) dL_law_715 (by decide) ?_
  refine lw_iadd dL_law_716 ?_
  refine lw_sld (i + 2) dL_law_717 (nI_add _ _) (by omega) (by omega) ?_
  refine lw_aload_n dL_law_718 rfl ?_
  refine lw_iload_n dL_law_719 rfl ?_
  refine lw_ic (nI 3) dL_law_720 (by decide) ?_
  refine lw_iadd dL_law_721 ?_
  refine lw_sld (i + 3) dL_law_722 (nI_add _ _) (by omega) (by omega) ?_
  refine lw_calli (As := [.int (xs (i + 1)), .int (xs (i + 2)), .int (xs (i + 3))]) (ci := 9) hC dL_law_723 kL_77 ok_X9_missed rfl rfl (by decide) k_0 rfl rfl (Nat.le_of_ble_eq_true rfl) ⟨Nat.le_of_ble_eq_true rfl, Nat.le_of_ble_eq_true rfl⟩ rfl rfl (ct_missed FOK_all hC1 (xs (i + 1)) (xs (i + 2)) (xs (i + 3))) (fun r1 σ1 q1 => ?_)
  obtain ⟨e1, hC2, hF1⟩ := q1
  have hM2 := hM1.fr hF1
  refine lw_aload_n dL_law_726 rfl ?_
  refine lw_aload_n dL_law_727 rfl ?_
  refine lw_iload_n dL_law_728 rfl ?_
  refine lw_ic (nI 1) dL_law_729 (by decide) ?_
  refine lw_iadd dL_law_730 ?_
  refine lw_sld (i + 1) dL_law_731 (nI_add _ _) (by omega) (by omega) ?_
  refine lw_aload_n dL_law_732 rfl ?_
  refine lw_iload_n dL_law_733 rfl ?_
  refine lw_ic (nI 2) dL_law_734 (by decide) ?_
  refine lw_iadd dL_law_735 ?_
  refine lw_sld (i + 2) dL_law_736 (nI_add _ _) (by omega) (by omega) ?_
  refine lw_aload_n dL_law_737 rfl ?_
  refine lw_iload_n dL_law_738 rfl ?_
  refine lw_ic (nI 3) dL_law_739 (by decide) ?_
  refine lw_iadd dL_law_740 ?_
  refine lw_sld (i + 3) dL_law_741 (nI_add _ _) (by omega) (by omega) ?_
  refine lw_calli (As := [.int (xs (i + 1)), .int (xs (i + 2)), .int (xs (i + 3))]) (ci := 10) hC dL_law_742 kL_80 ok_X10_missed rfl rfl (by decide) k_176 rfl rfl (Nat.le_of_ble_eq_true rfl) ⟨Nat.le_of_ble_eq_true rfl, Nat.le_of_ble_eq_true rfl⟩ rfl rfl (ctM_missed FOK_all hM2 (xs (i + 1)) (xs (i + 2)) (xs (i + 3))) (fun r2 σ2 q2 => ?_)
  obtain ⟨e2, hM3, hF2⟩ := q2
  have hC3 := hC2.fr hF2
  refine lw_icmp_eq dL_law_745 (fun _ => ?_) (fun h => absurd (e1.trans e2.symm) h)
  exact kk _ _ hC3 hM3
set_option maxHeartbeats 4000000 in
set_option maxRecDepth 100000 in
theorem lc_mend {i : Nat} (hi : i + 5 ≤ L) (hL : L ≤ 2560) (hC : CU ≤ 600000 ∧ SU ≤ 7302249) {σ : SG} {S : Sp} (hC1 : InvC σ S) (hM1 : InvM σ S) (kk : ∀ σ' S', InvC σ' S' → InvM σ' S' → LW g b L xs CU SU 885 [some (.ref b), some (.ref (ad g 0)), some (.ref (ad g 176)), some (.int (nI i))] [] σ') : LW g b L xs CU SU 750 [some (.ref b), some (.ref (ad g 0)), some (.ref (ad g 176)), some (.int (nI i))] [] σ := by
  refine lw_aload_n dL_law_750 rfl ?_
  refine lw_aload_n dL_law_751 rfl ?_
  refine lw_iload_n dL_law_752 rfl ?_
  refine lw_ic (nI 1) dL_law_753 (by decide) ?_
  refine lw_iadd dL_law_754 ?_
  refine lw_sld (i + 1) dL_law_755 (nI_add _ _) (by omega) (by omega) ?_
  refine lw_calli (As := [.int (xs (i + 1))]) (ci := 9) hC dL_law_756 kL_81 ok_X9_mend rfl rfl (by decide) k_0 rfl rfl (Nat.le_of_ble_eq_true rfl) ⟨Nat.le_of_ble_eq_true rfl, Nat.le_of_ble_eq_true rfl⟩ rfl rfl (ct_mend FOK_all hC1 (xs (i + 1))) (fun r1 σ1 q1 => ?_)
  obtain ⟨e1, hC2, hF1⟩ := q1
  have hM2 := hM1.fr hF1
  refine lw_aload_n dL_law_759 rfl ?_
  refine lw_aload_n dL_law_760 rfl ?_
  refine lw_iload_n dL_law_761 rfl ?_
  refine lw_ic (nI 1) dL_law_762 (by decide) ?_
  refine lw_iadd dL_law_763 ?_
  refine lw_sld (i + 1) dL_law_764 (nI_add _ _) (by omega) (by omega) ?_
  refine lw_calli (As := [.int (xs (i + 1))]) (ci := 10) hC dL_law_765 kL_84 ok_X10_mend rfl rfl (by decide) k_176 rfl rfl (Nat.le_of_ble_eq_true rfl) ⟨Nat.le_of_ble_eq_true rfl, Nat.le_of_ble_eq_true rfl⟩ rfl rfl (ctM_mend FOK_all hM2 (xs (i + 1))) (fun r2 σ2 q2 => ?_)
  obtain ⟨e2, hM3, hF2⟩ := q2
  have hC3 := hC2.fr hF2
  refine lw_icmp_eq dL_law_768 (fun _ => ?_) (fun h => absurd (e1.trans e2.symm) h)
  exact kk _ _ hC3 hM3
set_option maxHeartbeats 4000000 in
set_option maxRecDepth 100000 in
theorem lc_heading {i : Nat} (hi : i + 5 ≤ L) (hL : L ≤ 2560) (hC : CU ≤ 600000 ∧ SU ≤ 7302249) {σ : SG} {S : Sp} (hC1 : InvC σ S) (hM1 : InvM σ S) (kk : ∀ σ' S', InvC σ' S' → InvM σ' S' → LW g b L xs CU SU 885 [some (.ref b), some (.ref (ad g 0)), some (.ref (ad g 176)), some (.int (nI i))] [] σ') : LW g b L xs CU SU 773 [some (.ref b), some (.ref (ad g 0)), some (.ref (ad g 176)), some (.int (nI i))] [] σ := by
  refine lw_aload_n dL_law_773 rfl ?_
  refine lw_aload_n dL_law_774 rfl ?_
  refine lw_iload_n dL_law_775 rfl ?_
  refine lw_ic (nI 1) dL_law_776 (by decide) ?_
  refine lw_iadd dL_law_777 ?_
  refine lw_sld (i + 1) dL_law_778 (nI_add _ _) (by omega) (by omega) ?_
  refine lw_aload_n dL_law_779 rfl ?_
  refine lw_iload_n dL_law_780 rfl ?_
  refine lw_ic (nI 2) dL_law_781 (by decide) ?_
  refine lw_iadd dL_law_782 ?_
  refine lw_sld (i + 2) dL_law_783 (nI_add _ _) (by omega) (by omega) ?_
  refine lw_aload_n dL_law_784 rfl ?_
  refine lw_iload_n dL_law_785 rfl ?_
  refine lw_ic (nI 3) dL_law_786 (by decide) ?_
  refine lw_iadd dL_law_787 ?_
  refine lw_sld (i + 3) dL_law_788 (nI_add _ _) (by omega) (by omega) ?_
  refine lw_calli (As := [.int (xs (i + 1)), .int (xs (i + 2)), .int (xs (i + 3))]) (ci := 9) hC dL_law_789 kL_85 ok_X9_heading rfl rfl (by decide) k_0 rfl rfl (Nat.le_of_ble_eq_true rfl) ⟨Nat.le_of_ble_eq_true rfl, Nat.le_of_ble_eq_true rfl⟩ rfl rfl (ct_heading FOK_all hC1 (xs (i + 1)) (xs (i + 2)) (xs (i + 3))) (fun r1 σ1 q1 => ?_)
  obtain ⟨e1, hC2, hF1⟩ := q1
  have hM2 := hM1.fr hF1
  refine lw_aload_n dL_law_792 rfl ?_
  refine lw_aload_n dL_law_793 rfl ?_
  refine lw_iload_n dL_law_794 rfl ?_
  refine lw_ic (nI 1) dL_law_795 (by decide) ?_
  refine lw_iadd dL_law_796 ?_
  refine lw_sld (i + 1) dL_law_797 (nI_add _ _) (by omega) (by omega) ?_
  refine lw_aload_n dL_law_798 rfl ?_
  refine lw_iload_n dL_law_799 rfl ?_
  refine lw_ic (nI 2) dL_law_800 (by decide) ?_
  refine lw_iadd dL_law_801 ?_
  refine lw_sld (i + 2) dL_law_802 (nI_add _ _) (by omega) (by omega) ?_
  refine lw_aload_n dL_law_803 rfl ?_
  refine lw_iload_n dL_law_804 rfl ?_
  refine lw_ic (nI 3) dL_law_805 (by decide) ?_
  refine lw_iadd dL_law_806 ?_
  refine lw_sld (i + 3) dL_law_807 (nI_add _ _) (by omega) (by omega) ?_
  refine lw_calli (As := [.int (xs (i + 1)), .int (xs (i + 2)), .int (xs (i + 3))]) (ci := 10) hC dL_law_808 kL_88 ok_X10_heading rfl rfl (by decide) k_176 rfl rfl (Nat.le_of_ble_eq_true rfl) ⟨Nat.le_of_ble_eq_true rfl, Nat.le_of_ble_eq_true rfl⟩ rfl rfl (ctM_heading FOK_all hM2 (xs (i + 1)) (xs (i + 2)) (xs (i + 3))) (fun r2 σ2 q2 => ?_)
  obtain ⟨e2, hM3, hF2⟩ := q2
  have hC3 := hC2.fr hF2
  refine lw_icmp_eq dL_law_811 (fun _ => ?_) (fun h => absurd (e1.trans e2.symm) h)
  exact kk _ _ hC3 hM3
set_option maxHeartbeats 4000000 in
set_option maxRecDepth 100000 in
theorem lc_image {i : Nat} (hi : i + 5 ≤ L) (hL : L ≤ 2560) (hC : CU ≤ 600000 ∧ SU ≤ 7302249) {σ : SG} {S : Sp} (hC1 : InvC σ S) (hM1 : InvM σ S) (kk : ∀ σ' S', InvC σ' S' → InvM σ' S' → LW g b L xs CU SU 885 [some (.ref b), some (.ref (ad g 0)), some (.ref (ad g 176)), some (.int (nI i))] [] σ') : LW g b L xs CU SU 816 [some (.ref b), some (.ref (ad g 0)), some (.ref (ad g 176)), some (.int (nI i))] [] σ := by
  refine lw_aload_n dL_law_816 rfl ?_
  refine lw_aload_n dL_law_817 rfl ?_
  refine lw_iload_n dL_law_818 rfl ?_
  refine lw_ic (nI 1) dL_law_819 (by decide) ?_
  refine lw_iadd dL_law_820 ?_
  refine lw_sld (i + 1) dL_law_821 (nI_add _ _) (by omega) (by omega) ?_
  refine lw_calli (As := [.int (xs (i + 1))]) (ci := 9) hC dL_law_822 kL_89 ok_X9_image rfl rfl (by decide) k_0 rfl rfl (Nat.le_of_ble_eq_true rfl) ⟨Nat.le_of_ble_eq_true rfl, Nat.le_of_ble_eq_true rfl⟩ rfl rfl (ct_image hC1 (xs (i + 1))) (fun r1 σ1 q1 => ?_)
  obtain ⟨e1, hC2, hF1⟩ := q1
  have hM2 := hM1.fr hF1
  refine lw_aload_n dL_law_825 rfl ?_
  refine lw_aload_n dL_law_826 rfl ?_
  refine lw_iload_n dL_law_827 rfl ?_
  refine lw_ic (nI 1) dL_law_828 (by decide) ?_
  refine lw_iadd dL_law_829 ?_
  refine lw_sld (i + 1) dL_law_830 (nI_add _ _) (by omega) (by omega) ?_
  refine lw_calli (As := [.int (xs (i + 1))]) (ci := 10) hC dL_law_831 kL_92 ok_X10_image rfl rfl (by decide) k_176 rfl rfl (Nat.le_of_ble_eq_true rfl) ⟨Nat.le_of_ble_eq_true rfl, Nat.le_of_ble_eq_true rfl⟩ rfl rfl (ctM_image hM2 (xs (i + 1))) (fun r2 σ2 q2 => ?_)
  obtain ⟨e2, hM3, hF2⟩ := q2
  have hC3 := hC2.fr hF2
  refine lw_icmp_eq dL_law_834 (fun _ => ?_) (fun h => absurd (e1.trans e2.symm) h)
  exact kk _ _ hC3 hM3
set_option maxHeartbeats 4000000 in
set_option maxRecDepth 100000 in
theorem lc_restore {i : Nat} (hi : i + 5 ≤ L) (hL : L ≤ 2560) (hC : CU ≤ 600000 ∧ SU ≤ 7302249) {σ : SG} {S : Sp} (hC1 : InvC σ S) (hM1 : InvM σ S) (kk : ∀ σ' S', InvC σ' S' → InvM σ' S' → LW g b L xs CU SU 885 [some (.ref b), some (.ref (ad g 0)), some (.ref (ad g 176)), some (.int (nI i))] [] σ') : LW g b L xs CU SU 839 [some (.ref b), some (.ref (ad g 0)), some (.ref (ad g 176)), some (.int (nI i))] [] σ := by
  refine lw_aload_n dL_law_839 rfl ?_
  refine lw_aload_n dL_law_840 rfl ?_
  refine lw_iload_n dL_law_841 rfl ?_
  refine lw_ic (nI 1) dL_law_842 (by decide) ?_
  refine lw_iadd dL_law_843 ?_
  refine lw_sld (i + 1) dL_law_844 (nI_add _ _) (by omega) (by omega) ?_
  refine lw_calli (As := [.int (xs (i + 1))]) (ci := 9) hC dL_law_845 kL_93 ok_X9_restore rfl rfl (by decide) k_0 rfl rfl (Nat.le_of_ble_eq_true rfl) ⟨Nat.le_of_ble_eq_true rfl, Nat.le_of_ble_eq_true rfl⟩ rfl rfl (ct_restore hC1 (xs (i + 1))) (fun r1 σ1 q1 => ?_)
  obtain ⟨e1, hC2, hF1⟩ := q1
  have hM2 := hM1.fr hF1
  refine lw_aload_n dL_law_848 rfl ?_
  refine lw_aload_n dL_law_849 rfl ?_
  refine lw_iload_n dL_law_850 rfl ?_
  refine lw_ic (nI 1) dL_law_851 (by decide) ?_
  refine lw_iadd dL_law_852 ?_
  refine lw_sld (i + 1) dL_law_853 (nI_add _ _) (by omega) (by omega) ?_
  refine lw_calli (As := [.int (xs (i + 1))]) (ci := 10) hC dL_law_854 kL_96 ok_X10_restore rfl rfl (by decide) k_176 rfl rfl (Nat.le_of_ble_eq_true rfl) ⟨Nat.le_of_ble_eq_true rfl, Nat.le_of_ble_eq_true rfl⟩ rfl rfl (ctM_restore hM2 (xs (i + 1))) (fun r2 σ2 q2 => ?_)
  obtain ⟨e2, hM3, hF2⟩ := q2
  have hC3 := hC2.fr hF2
  refine lw_icmp_eq dL_law_857 (fun _ => ?_) (fun h => absurd (e1.trans e2.symm) h)
  exact kk _ _ hC3 hM3
set_option maxHeartbeats 4000000 in
set_option maxRecDepth 100000 in
theorem lc_told {i : Nat} (hi : i + 5 ≤ L) (hL : L ≤ 2560) (hC : CU ≤ 600000 ∧ SU ≤ 7302249) {σ : SG} {S : Sp} (hC1 : InvC σ S) (hM1 : InvM σ S) (kk : ∀ σ' S', InvC σ' S' → InvM σ' S' → LW g b L xs CU SU 885 [some (.ref b), some (.ref (ad g 0)), some (.ref (ad g 176)), some (.int (nI i))] [] σ') : LW g b L xs CU SU 862 [some (.ref b), some (.ref (ad g 0)), some (.ref (ad g 176)), some (.int (nI i))] [] σ := by
  refine lw_aload_n dL_law_862 rfl ?_
  refine lw_aload_n dL_law_863 rfl ?_
  refine lw_iload_n dL_law_864 rfl ?_
  refine lw_ic (nI 1) dL_law_865 (by decide) ?_
  refine lw_iadd dL_law_866 ?_
  refine lw_sld (i + 1) dL_law_867 (nI_add _ _) (by omega) (by omega) ?_
  refine lw_calli (As := [.int (xs (i + 1))]) (ci := 9) hC dL_law_868 kL_97 ok_X9_told rfl rfl (by decide) k_0 rfl rfl (Nat.le_of_ble_eq_true rfl) ⟨Nat.le_of_ble_eq_true rfl, Nat.le_of_ble_eq_true rfl⟩ rfl rfl (ct_told FOK_all hC1 (xs (i + 1))) (fun r1 σ1 q1 => ?_)
  obtain ⟨e1, hC2, hF1⟩ := q1
  have hM2 := hM1.fr hF1
  refine lw_aload_n dL_law_871 rfl ?_
  refine lw_aload_n dL_law_872 rfl ?_
  refine lw_iload_n dL_law_873 rfl ?_
  refine lw_ic (nI 1) dL_law_874 (by decide) ?_
  refine lw_iadd dL_law_875 ?_
  refine lw_sld (i + 1) dL_law_876 (nI_add _ _) (by omega) (by omega) ?_
  refine lw_calli (As := [.int (xs (i + 1))]) (ci := 10) hC dL_law_877 kL_100 ok_X10_told rfl rfl (by decide) k_176 rfl rfl (Nat.le_of_ble_eq_true rfl) ⟨Nat.le_of_ble_eq_true rfl, Nat.le_of_ble_eq_true rfl⟩ rfl rfl (ctM_told FOK_all hM2 (xs (i + 1))) (fun r2 σ2 q2 => ?_)
  obtain ⟨e2, hM3, hF2⟩ := q2
  have hC3 := hC2.fr hF2
  refine lw_icmp_eq dL_law_880 (fun _ => ?_) (fun h => absurd (e1.trans e2.symm) h)
  exact kk _ _ hC3 hM3
set_option maxHeartbeats 4000000 in
set_option maxRecDepth 100000 in
theorem lw_loop (hL : L ≤ 2560) (hC : CU ≤ 600000 ∧ SU ≤ 7302249) : ∀ (n : Nat) (σ : SG) (lv : List (Option Value)), (∃ i S, n + i = 2565 ∧ InvC σ S ∧ InvM σ S ∧ lv = [some (.ref b), some (.ref (ad g 0)), some (.ref (ad g 176)), some (.int (nI i))]) → LW g b L xs CU SU 18 lv [] σ := by
  refine lw_wf (fun n σ lv => ∃ i S, n + i = 2565 ∧ InvC σ S ∧ InvM σ S ∧ lv = [some (.ref b), some (.ref (ad g 0)), some (.ref (ad g 176)), some (.int (nI i))]) ?_
  rintro n σ lv ⟨i, S, hn, hC1, hM1, rfl⟩ ih
  refine lw_iload_n dL_law_18 rfl ?_
  refine lw_aload_n dL_law_19 rfl ?_
  refine lw_slen dL_law_20 ?_
  refine lw_ic (nI 5) dL_law_21 (by decide) ?_
  refine lw_isub dL_law_22 ?_
  refine lw_icmp_gt dL_law_23 (fun h => ?_) (fun h => ?_)
  · refine lw_ic (nI 1) dL_law_891 (by decide) ?_
    exact lw_true hC dL_law_892
  · rw [sub_ltN (by omega) (by omega) (by omega)] at h
    have hi : i + 5 ≤ L := by omega
    have kk : ∀ σ' S', InvC σ' S' → InvM σ' S' → LW g b L xs CU SU 885 [some (.ref b), some (.ref (ad g 0)), some (.ref (ad g 176)), some (.int (nI i))] [] σ' := fun σ' S' h1 h2 => by
      refine lw_inc (nI (i + 5)) dL_law_885 rfl (Nat.le_of_ble_eq_true rfl) (nI_add i 5) ?_
      refine lw_goto dL_law_888 ?_
      exact ih (n - 5) σ' _ (by omega) ⟨i + 5, S', by omega, h1, h2, rfl⟩
    refine lw_aload_n dL_law_26 rfl ?_
    refine lw_iload_n dL_law_27 rfl ?_
    refine lw_sld i dL_law_28 rfl (by omega) (by omega) ?_
    refine lw_bi (nI 31) dL_law_29 (by decide) ?_
    refine lw_iand dL_law_31 ?_
    rcases sw21 (xs i &&& nI 31) with z | ⟨k, hk, e⟩
    · refine lw_tout dL_law_32 z (tgt := 885) (by decide) ?_
      exact kk _ _ hC1 hM1
    · refine lw_eq e ?_
      rcases (by omega : k = 0 ∨ k = 1 ∨ k = 2 ∨ k = 3 ∨ k = 4 ∨ k = 5 ∨ k = 6 ∨ k = 7 ∨ k = 8 ∨ k = 9 ∨ k = 10 ∨ k = 11 ∨ k = 12 ∨ k = 13 ∨ k = 14 ∨ k = 15 ∨ k = 16 ∨ k = 17 ∨ k = 18 ∨ k = 19 ∨ k = 20) with rfl | rfl | rfl | rfl | rfl | rfl | rfl | rfl | rfl | rfl | rfl | rfl | rfl | rfl | rfl | rfl | rfl | rfl | rfl | rfl | rfl
      · refine lw_tin dL_law_32 (tgt := 132) (off := 100) (by decide) (by decide) (by decide +kernel) (by decide) ?_
        exact lc_set hi hL hC hC1 hM1 kk
      · refine lw_tin dL_law_32 (tgt := 165) (off := 133) (by decide) (by decide) (by decide +kernel) (by decide) ?_
        exact lc_draw hi hL hC hC1 hM1 kk
      · refine lw_tin dL_law_32 (tgt := 218) (off := 186) (by decide) (by decide) (by decide +kernel) (by decide) ?_
        exact lc_erase hi hL hC hC1 hM1 kk
      · refine lw_tin dL_law_32 (tgt := 241) (off := 209) (by decide) (by decide) (by decide +kernel) (by decide) ?_
        exact lc_piece hi hL hC hC1 hM1 kk
      · refine lw_tin dL_law_32 (tgt := 274) (off := 242) (by decide) (by decide) (by decide +kernel) (by decide) ?_
        exact lc_write hi hL hC hC1 hM1 kk
      · refine lw_tin dL_law_32 (tgt := 327) (off := 295) (by decide) (by decide) (by decide +kernel) (by decide) ?_
        exact lc_strike hi hL hC hC1 hM1 kk
      · refine lw_tin dL_law_32 (tgt := 350) (off := 318) (by decide) (by decide) (by decide +kernel) (by decide) ?_
        exact lc_word hi hL hC hC1 hM1 kk
      · refine lw_tin dL_law_32 (tgt := 383) (off := 351) (by decide) (by decide) (by decide +kernel) (by decide) ?_
        exact lc_rule hi hL hC hC1 hM1 kk
      · refine lw_tin dL_law_32 (tgt := 416) (off := 384) (by decide) (by decide) (by decide +kernel) (by decide) ?_
        exact lc_cross hi hL hC hC1 hM1 kk
      · refine lw_tin dL_law_32 (tgt := 449) (off := 417) (by decide) (by decide) (by decide +kernel) (by decide) ?_
        exact lc_table hi hL hC hC1 hM1 kk
      · refine lw_tin dL_law_32 (tgt := 482) (off := 450) (by decide) (by decide) (by decide +kernel) (by decide) ?_
        exact lc_edge hi hL hC hC1 hM1 kk
      · refine lw_tin dL_law_32 (tgt := 525) (off := 493) (by decide) (by decide) (by decide +kernel) (by decide) ?_
        exact lc_ruled hi hL hC hC1 hM1 kk
      · refine lw_tin dL_law_32 (tgt := 578) (off := 546) (by decide) (by decide) (by decide +kernel) (by decide) ?_
        exact lc_at hi hL hC hC1 hM1 kk
      · refine lw_tin dL_law_32 (tgt := 621) (off := 589) (by decide) (by decide) (by decide +kernel) (by decide) ?_
        exact lc_cell hi hL hC hC1 hM1 kk
      · refine lw_tin dL_law_32 (tgt := 664) (off := 632) (by decide) (by decide) (by decide +kernel) (by decide) ?_
        exact lc_read hi hL hC hC1 hM1 kk
      · refine lw_tin dL_law_32 (tgt := 707) (off := 675) (by decide) (by decide) (by decide +kernel) (by decide) ?_
        exact lc_missed hi hL hC hC1 hM1 kk
      · refine lw_tin dL_law_32 (tgt := 750) (off := 718) (by decide) (by decide) (by decide +kernel) (by decide) ?_
        exact lc_mend hi hL hC hC1 hM1 kk
      · refine lw_tin dL_law_32 (tgt := 773) (off := 741) (by decide) (by decide) (by decide +kernel) (by decide) ?_
        exact lc_heading hi hL hC hC1 hM1 kk
      · refine lw_tin dL_law_32 (tgt := 816) (off := 784) (by decide) (by decide) (by decide +kernel) (by decide) ?_
        exact lc_image hi hL hC hC1 hM1 kk
      · refine lw_tin dL_law_32 (tgt := 839) (off := 807) (by decide) (by decide) (by decide +kernel) (by decide) ?_
        exact lc_restore hi hL hC hC1 hM1 kk
      · refine lw_tin dL_law_32 (tgt := 862) (off := 830) (by decide) (by decide) (by decide +kernel) (by decide) ?_
        exact lc_told hi hL hC hC1 hM1 kk
end LWc
