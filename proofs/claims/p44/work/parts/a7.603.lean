/-! checked by the kernel, part 3 -/
set_option maxRecDepth 10000000 in
theorem ck_180 : ty_kok ty_h (ty_ex 2 6) 183 kc_180 = true := by decide +kernel
set_option maxRecDepth 10000000 in
theorem ck_181 : ty_kok ty_h (ty_ex 2 6) 183 kc_181 = true := by decide +kernel
set_option maxRecDepth 10000000 in
theorem ck_182 : ty_kok ty_h (ty_ex 2 6) 183 kc_182 = true := by decide +kernel
set_option maxRecDepth 10000000 in
theorem ck_183 : ty_kok ty_h (ty_ex 2 6) 183 kc_183 = true := by decide +kernel
set_option maxRecDepth 10000000 in
theorem ck_184 : ty_kok ty_h (ty_ex 2 6) 183 kc_184 = true := by decide +kernel
set_option maxRecDepth 10000000 in
theorem ck_185 : ty_kok ty_h (ty_ex 2 6) 183 kc_185 = true := by decide +kernel
set_option maxRecDepth 10000000 in
theorem ck_186 : ty_kok ty_h (ty_ex 2 6) 183 kc_186 = true := by decide +kernel
set_option maxRecDepth 10000000 in
theorem ck_187 : ty_kok ty_h (ty_ex 2 6) 183 kc_187 = true := by decide +kernel
set_option maxRecDepth 10000000 in
theorem ck_188 : ty_kok ty_h (ty_ex 2 6) 183 kc_188 = true := by decide +kernel
set_option maxRecDepth 10000000 in
theorem ck_189 : ty_kok ty_h (ty_ex 2 6) 183 kc_189 = true := by decide +kernel
set_option maxRecDepth 10000000 in
theorem ck_190 : ty_kok ty_h (ty_ex 2 6) 183 kc_190 = true := by decide +kernel
set_option maxRecDepth 10000000 in
theorem ck_191 : ty_kok ty_h (ty_ex 2 6) 183 kc_191 = true := by decide +kernel
set_option maxRecDepth 10000000 in
theorem ck_192 : ty_kok ty_h (ty_ex 2 6) 183 kc_192 = true := by decide +kernel
set_option maxRecDepth 10000000 in
theorem ck_193 : ty_kok ty_h (ty_ex 2 6) 183 kc_193 = true := by decide +kernel
set_option maxRecDepth 10000000 in
theorem ck_194 : ty_kok ty_h (ty_ex 2 6) 183 kc_194 = true := by decide +kernel
set_option maxRecDepth 10000000 in
theorem ck_195 : ty_kok ty_h (ty_ex 2 6) 183 kc_195 = true := by decide +kernel
set_option maxRecDepth 10000000 in
theorem ck_196 : ty_kok ty_h (ty_ex 2 6) 183 kc_196 = true := by decide +kernel
set_option maxRecDepth 10000000 in
theorem ck_197 : ty_kok ty_h (ty_ex 2 6) 183 kc_197 = true := by decide +kernel
set_option maxRecDepth 10000000 in
theorem ck_198 : ty_kok ty_h (ty_ex 2 6) 183 kc_198 = true := by decide +kernel
set_option maxRecDepth 10000000 in
theorem ck_199 : ty_kok ty_h (ty_ex 2 6) 183 kc_199 = true := by decide +kernel
set_option maxRecDepth 10000000 in
theorem ck_200 : ty_kok ty_h (ty_ex 2 6) 183 kc_200 = true := by decide +kernel
set_option maxRecDepth 10000000 in
theorem ck_201 : ty_kok ty_h (ty_ex 2 6) 183 kc_201 = true := by decide +kernel
set_option maxRecDepth 10000000 in
theorem ck_202 : ty_kok ty_h (ty_ex 2 6) 183 kc_202 = true := by decide +kernel
set_option maxRecDepth 10000000 in
theorem ck_203 : ty_kok ty_h (ty_ex 2 6) 183 kc_203 = true := by decide +kernel
set_option maxRecDepth 10000000 in
theorem ck_204 : ty_kok ty_h (ty_ex 2 6) 183 kc_204 = true := by decide +kernel
set_option maxRecDepth 10000000 in
theorem ck_205 : ty_kok ty_h (ty_ex 2 6) 183 kc_205 = true := by decide +kernel
set_option maxRecDepth 10000000 in
theorem ck_206 : ty_kok ty_h (ty_ex 2 6) 202 kc_206 = true := by decide +kernel
set_option maxRecDepth 10000000 in
theorem ck_207 : ty_kok ty_h (ty_ex 2 6) 202 kc_207 = true := by decide +kernel
set_option maxRecDepth 10000000 in
theorem ck_208 : ty_kok ty_h (ty_ex 2 6) 202 kc_208 = true := by decide +kernel
set_option maxRecDepth 10000000 in
theorem ck_209 : ty_kok ty_h (ty_ex 2 6) 202 kc_209 = true := by decide +kernel
set_option maxRecDepth 10000000 in
theorem ck_210 : ty_kok ty_h (ty_ex 2 6) 202 kc_210 = true := by decide +kernel
set_option maxRecDepth 10000000 in
theorem ck_211 : ty_kok ty_h (ty_ex 2 6) 202 kc_211 = true := by decide +kernel
set_option maxRecDepth 10000000 in
theorem ck_212 : ty_kok ty_h (ty_ex 2 6) 202 kc_212 = true := by decide +kernel
set_option maxRecDepth 10000000 in
theorem ck_213 : ty_kok ty_h (ty_ex 2 6) 202 kc_213 = true := by decide +kernel
set_option maxRecDepth 10000000 in
theorem ck_214 : ty_kok ty_h (ty_ex 2 6) 202 kc_214 = true := by decide +kernel
set_option maxRecDepth 10000000 in
theorem ck_215 : ty_kok ty_h (ty_ex 2 6) 202 kc_215 = true := by decide +kernel
set_option maxRecDepth 10000000 in
theorem ck_216 : ty_kok ty_h (ty_ex 2 6) 202 kc_216 = true := by decide +kernel
set_option maxRecDepth 10000000 in
theorem ck_217 : ty_kok ty_h (ty_ex 2 6) 202 kc_217 = true := by decide +kernel
set_option maxRecDepth 10000000 in
theorem ck_218 : ty_kok ty_h (ty_ex 2 6) 202 kc_218 = true := by decide +kernel
set_option maxRecDepth 10000000 in
theorem ck_219 : ty_kok ty_h (ty_ex 2 6) 202 kc_219 = true := by decide +kernel
set_option maxRecDepth 10000000 in
theorem ck_220 : ty_kok ty_h (ty_ex 2 6) 202 kc_220 = true := by decide +kernel
set_option maxRecDepth 10000000 in
theorem ck_221 : ty_kok ty_h (ty_ex 2 6) 202 kc_221 = true := by decide +kernel
set_option maxRecDepth 10000000 in
theorem ck_222 : ty_kok ty_h (ty_ex 2 6) 202 kc_222 = true := by decide +kernel
set_option maxRecDepth 10000000 in
theorem ck_223 : ty_kok ty_h (ty_ex 2 6) 202 kc_223 = true := by decide +kernel
set_option maxRecDepth 10000000 in
theorem ck_224 : ty_kok ty_h (ty_ex 2 6) 202 kc_224 = true := by decide +kernel
set_option maxRecDepth 10000000 in
theorem ck_225 : ty_kok ty_h (ty_ex 2 6) 202 kc_225 = true := by decide +kernel
set_option maxRecDepth 10000000 in
theorem ck_226 : ty_kok ty_h (ty_ex 2 6) 202 kc_226 = true := by decide +kernel
set_option maxRecDepth 10000000 in
theorem ck_227 : ty_kok ty_h (ty_ex 2 6) 202 kc_227 = true := by decide +kernel
set_option maxRecDepth 10000000 in
theorem ck_228 : ty_kok ty_h (ty_ex 2 6) 202 kc_228 = true := by decide +kernel
set_option maxRecDepth 10000000 in
theorem ck_229 : ty_kok ty_h (ty_ex 2 6) 202 kc_229 = true := by decide +kernel
set_option maxRecDepth 10000000 in
theorem ck_230 : ty_kok ty_h (ty_ex 2 6) 202 kc_230 = true := by decide +kernel
set_option maxRecDepth 10000000 in
theorem ck_231 : ty_kok ty_h (ty_ex 2 6) 202 kc_231 = true := by decide +kernel
set_option maxRecDepth 10000000 in
theorem ck_232 : ty_kok ty_h (ty_ex 2 6) 202 kc_232 = true := by decide +kernel
set_option maxRecDepth 10000000 in
theorem ck_233 : ty_kok ty_h (ty_ex 2 6) 202 kc_233 = true := by decide +kernel
set_option maxRecDepth 10000000 in
theorem ck_234 : ty_kok ty_h (ty_ex 2 6) 202 kc_234 = true := by decide +kernel
set_option maxRecDepth 10000000 in
theorem ck_235 : ty_kok ty_h (ty_ex 2 6) 202 kc_235 = true := by decide +kernel
set_option maxRecDepth 10000000 in
theorem ck_236 : ty_kok ty_h (ty_ex 2 6) 202 kc_236 = true := by decide +kernel
set_option maxRecDepth 10000000 in
theorem ck_237 : ty_kok ty_h (ty_ex 2 6) 202 kc_237 = true := by decide +kernel
set_option maxRecDepth 10000000 in
theorem ck_238 : ty_kok ty_h (ty_ex 2 6) 202 kc_238 = true := by decide +kernel
set_option maxRecDepth 10000000 in
theorem ck_239 : ty_kok ty_h (ty_ex 2 6) 202 kc_239 = true := by decide +kernel
