/-! ===== the methods (written by wip/tools/checks.py) ===== -/
theorem gK_193 : gdK 193 = true := by decide +kernel
theorem gH_193 : gdH 193 = true := gH_of rfl (by decide +kernel)
theorem gK_194 : gdK 194 = true := by decide +kernel
theorem gH_194 : gdH 194 = true := gH_of rfl (by decide +kernel)
theorem gK_195 : gdK 195 = true := by decide +kernel
theorem gH_195 : gdH 195 = true := gH_of rfl (by decide +kernel)
theorem gK_196 : gdK 196 = true := by decide +kernel
theorem gH_196 : gdH 196 = true := gH_of rfl (by decide +kernel)
theorem gK_197 : gdK 197 = true := by decide +kernel
theorem gH_197 : gdH 197 = true := gH_of rfl (by decide +kernel)
theorem gK_198 : gdK 198 = true := by decide +kernel
theorem gH_198 : gdH 198 = true := gH_of rfl (by decide +kernel)
theorem gK_199 : gdK 199 = true := by decide +kernel
theorem gH_199 : gdH 199 = true := gH_of rfl (by decide +kernel)
theorem gK_200 : gdK 200 = true := by decide +kernel
theorem gH_200 : gdH 200 = true := gH_of rfl (by decide +kernel)
theorem gK_201 : gdK 201 = true := by decide +kernel
theorem gH_201 : gdH 201 = true := gH_of rfl (by decide +kernel)
theorem gK_202 : gdK 202 = true := by decide +kernel
theorem gH_202 : gdH 202 = true := gH_of rfl (by decide +kernel)
theorem gK_203 : gdK 203 = true := by decide +kernel
theorem gH_203 : gdH 203 = true := gH_of rfl (by decide +kernel)
theorem gK_204 : gdK 204 = true := by decide +kernel
theorem gH_204 : gdH 204 = true := gH_of rfl (by decide +kernel)
theorem gK_205 : gdK 205 = true := by decide +kernel
theorem gH_205 : gdH 205 = true := gH_of rfl (by decide +kernel)
theorem gK_206 : gdK 206 = true := by decide +kernel
theorem gH_206 : gdH 206 = true := gH_of rfl (by decide +kernel)
theorem gK_207 : gdK 207 = true := by decide +kernel
theorem gH_207 : gdH 207 = true := gH_of rfl (by decide +kernel)
theorem gK_208 : gdK 208 = true := by decide +kernel
theorem gH_208 : gdH 208 = true := gH_of rfl (by decide +kernel)
theorem gK_209 : gdK 209 = true := by decide +kernel
theorem gH_209 : gdH 209 = true := gH_of rfl (by decide +kernel)
theorem gK_210 : gdK 210 = true := by decide +kernel
theorem gH_210 : gdH 210 = true := gH_of rfl (by decide +kernel)
theorem gK_211 : gdK 211 = true := by decide +kernel
theorem gH_211 : gdH 211 = true := gH_of rfl (by decide +kernel)
theorem gK_212 : gdK 212 = true := by decide +kernel
theorem gH_212 : gdH 212 = true := gH_of rfl (by decide +kernel)
theorem gK_213 : gdK 213 = true := by decide +kernel
theorem gH_213 : gdH 213 = true := gH_of rfl (by decide +kernel)
theorem gK_214 : gdK 214 = true := by decide +kernel
theorem gH_214 : gdH 214 = true := gH_of rfl (by decide +kernel)
theorem gK_215 : gdK 215 = true := by decide +kernel
theorem gH_215 : gdH 215 = true := gH_of rfl (by decide +kernel)
theorem gK_216 : gdK 216 = true := by decide +kernel
theorem gH_216 : gdH 216 = true := gH_of rfl (by decide +kernel)
theorem gK_217 : gdK 217 = true := by decide +kernel
theorem gH_217 : gdH 217 = true := gH_of rfl (by decide +kernel)
theorem gK_218 : gdK 218 = true := by decide +kernel
theorem gH_218 : gdH 218 = true := gH_of rfl (by decide +kernel)
theorem gK_219 : gdK 219 = true := by decide +kernel
theorem gH_219 : gdH 219 = true := gH_of rfl (by decide +kernel)
theorem gK_220 : gdK 220 = true := by decide +kernel
theorem gH_220 : gdH 220 = true := gH_of rfl (by decide +kernel)
theorem gK_221 : gdK 221 = true := by decide +kernel
theorem gH_221 : gdH 221 = true := gH_of rfl (by decide +kernel)
theorem gK_222 : gdK 222 = true := by decide +kernel
theorem gH_222 : gdH 222 = true := gH_of rfl (by decide +kernel)
theorem gK_223 : gdK 223 = true := by decide +kernel
theorem gH_223 : gdH 223 = true := gH_of rfl (by decide +kernel)
theorem gK_224 : gdK 224 = true := by decide +kernel
theorem gH_224 : gdH 224 = true := gH_of rfl (by decide +kernel)
theorem gK_225 : gdK 225 = true := by decide +kernel
theorem gH_225 : gdH 225 = true := gH_of rfl (by decide +kernel)
theorem gK_226 : gdK 226 = true := by decide +kernel
theorem gH_226 : gdH 226 = true := gH_of rfl (by decide +kernel)
theorem gK_227 : gdK 227 = true := by decide +kernel
theorem gH_227 : gdH 227 = true := gH_of rfl (by decide +kernel)
theorem gK_228 : gdK 228 = true := by decide +kernel
theorem gH_228 : gdH 228 = true := gH_of rfl (by decide +kernel)
theorem gK_229 : gdK 229 = true := by decide +kernel
theorem gH_229 : gdH 229 = true := gH_of rfl (by decide +kernel)
theorem gK_230 : gdK 230 = true := by decide +kernel
theorem gH_230 : gdH 230 = true := gH_of rfl (by decide +kernel)
theorem gK_231 : gdK 231 = true := by decide +kernel
theorem gH_231 : gdH 231 = true := gH_of rfl (by decide +kernel)
theorem gK_232 : gdK 232 = true := by decide +kernel
theorem gH_232 : gdH 232 = true := gH_of rfl (by decide +kernel)
theorem gK_233 : gdK 233 = true := by decide +kernel
theorem gH_233 : gdH 233 = true := gH_of rfl (by decide +kernel)
theorem gK_234 : gdK 234 = true := by decide +kernel
theorem gH_234 : gdH 234 = true := gH_of rfl (by decide +kernel)
theorem gK_235 : gdK 235 = true := by decide +kernel
theorem gH_235 : gdH 235 = true := gH_of rfl (by decide +kernel)
theorem gK_236 : gdK 236 = true := by decide +kernel
theorem gH_236 : gdH 236 = true := gH_of rfl (by decide +kernel)
theorem gK_237 : gdK 237 = true := by decide +kernel
theorem gH_237 : gdH 237 = true := gH_of rfl (by decide +kernel)
theorem gK_238 : gdK 238 = true := by decide +kernel
theorem gH_238 : gdH 238 = true := gH_of rfl (by decide +kernel)
theorem gK_239 : gdK 239 = true := by decide +kernel
theorem gH_239 : gdH 239 = true := gH_of rfl (by decide +kernel)
theorem gK_240 : gdK 240 = true := by decide +kernel
theorem gH_240 : gdH 240 = true := gH_of rfl (by decide +kernel)
