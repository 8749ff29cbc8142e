section
/-! ===== the methods (written by wip/tools/checks.py) ===== -/
theorem gK_98 : gdK 98 = true := by decide +kernel
theorem gH_98 : gdH 98 = true := gH_of rfl (by decide +kernel)
theorem gK_99 : gdK 99 = true := by decide +kernel
theorem gH_99 : gdH 99 = true := gH_of rfl (by decide +kernel)
theorem gK_100 : gdK 100 = true := by decide +kernel
theorem gH_100 : gdH 100 = true := gH_of rfl (by decide +kernel)
theorem gK_101 : gdK 101 = true := by decide +kernel
theorem gH_101 : gdH 101 = true := gH_of rfl (by decide +kernel)
theorem gK_102 : gdK 102 = true := by decide +kernel
theorem gH_102 : gdH 102 = true := gH_of rfl (by decide +kernel)
theorem gK_103 : gdK 103 = true := by decide +kernel
theorem gH_103 : gdH 103 = true := gH_of rfl (by decide +kernel)
theorem gK_104 : gdK 104 = true := by decide +kernel
theorem gH_104 : gdH 104 = true := gH_of rfl (by decide +kernel)
theorem gK_105 : gdK 105 = true := by decide +kernel
theorem gH_105 : gdH 105 = true := gH_of rfl (by decide +kernel)
theorem gK_106 : gdK 106 = true := by decide +kernel
theorem gH_106 : gdH 106 = true := gH_of rfl (by decide +kernel)
theorem gK_107 : gdK 107 = true := by decide +kernel
theorem gH_107 : gdH 107 = true := gH_of rfl (by decide +kernel)
theorem gK_108 : gdK 108 = true := by decide +kernel
theorem gH_108 : gdH 108 = true := gH_of rfl (by decide +kernel)
theorem gK_109 : gdK 109 = true := by decide +kernel
theorem gH_109 : gdH 109 = true := gH_of rfl (by decide +kernel)
theorem gK_110 : gdK 110 = true := by decide +kernel
theorem gH_110 : gdH 110 = true := gH_of rfl (by decide +kernel)
theorem gK_111 : gdK 111 = true := by decide +kernel
theorem gH_111 : gdH 111 = true := gH_of rfl (by decide +kernel)
theorem gK_112 : gdK 112 = true := by decide +kernel
theorem gH_112 : gdH 112 = true := gH_of rfl (by decide +kernel)
theorem gK_113 : gdK 113 = true := by decide +kernel
theorem gH_113 : gdH 113 = true := gH_of rfl (by decide +kernel)
theorem gK_114 : gdK 114 = true := by decide +kernel
theorem gH_114 : gdH 114 = true := gH_of rfl (by decide +kernel)
theorem gK_115 : gdK 115 = true := by decide +kernel
theorem gH_115 : gdH 115 = true := gH_of rfl (by decide +kernel)
theorem gK_116 : gdK 116 = true := by decide +kernel
theorem gH_116 : gdH 116 = true := gH_of rfl (by decide +kernel)
theorem gK_117 : gdK 117 = true := by decide +kernel
theorem gH_117 : gdH 117 = true := gH_of rfl (by decide +kernel)
theorem gK_118 : gdK 118 = true := by decide +kernel
theorem gH_118 : gdH 118 = true := gH_of rfl (by decide +kernel)
theorem gK_119 : gdK 119 = true := by decide +kernel
theorem gH_119 : gdH 119 = true := gH_of rfl (by decide +kernel)
theorem gK_120 : gdK 120 = true := by decide +kernel
theorem gH_120 : gdH 120 = true := gH_of rfl (by decide +kernel)
theorem gK_121 : gdK 121 = true := by decide +kernel
theorem gH_121 : gdH 121 = true := gH_of rfl (by decide +kernel)
theorem gK_122 : gdK 122 = true := by decide +kernel
theorem gH_122 : gdH 122 = true := gH_of rfl (by decide +kernel)
theorem gK_123 : gdK 123 = true := by decide +kernel
theorem gH_123 : gdH 123 = true := gH_of rfl (by decide +kernel)
theorem gK_124 : gdK 124 = true := by decide +kernel
theorem gH_124 : gdH 124 = true := gH_of rfl (by decide +kernel)
theorem gK_125 : gdK 125 = true := by decide +kernel
theorem gH_125 : gdH 125 = true := gH_of rfl (by decide +kernel)
theorem gK_126 : gdK 126 = true := by decide +kernel
theorem gH_126 : gdH 126 = true := gH_of rfl (by decide +kernel)
theorem gK_127 : gdK 127 = true := by decide +kernel
theorem gH_127 : gdH 127 = true := gH_of rfl (by decide +kernel)
theorem gK_128 : gdK 128 = true := by decide +kernel
theorem gH_128 : gdH 128 = true := gH_of rfl (by decide +kernel)
theorem gK_129 : gdK 129 = true := by decide +kernel
theorem gH_129 : gdH 129 = true := gH_of rfl (by decide +kernel)
theorem gK_130 : gdK 130 = true := by decide +kernel
theorem gH_130 : gdH 130 = true := gH_of rfl (by decide +kernel)
theorem gK_131 : gdK 131 = true := by decide +kernel
theorem gH_131 : gdH 131 = true := gH_of rfl (by decide +kernel)
theorem gK_132 : gdK 132 = true := by decide +kernel
theorem gH_132 : gdH 132 = true := gH_of rfl (by decide +kernel)
theorem gK_133 : gdK 133 = true := by decide +kernel
theorem gH_133 : gdH 133 = true := gH_of rfl (by decide +kernel)
theorem gK_134 : gdK 134 = true := by decide +kernel
theorem gH_134 : gdH 134 = true := gH_of rfl (by decide +kernel)
theorem gK_135 : gdK 135 = true := by decide +kernel
theorem gH_135 : gdH 135 = true := gH_of rfl (by decide +kernel)
theorem gK_136 : gdK 136 = true := by decide +kernel
theorem gH_136 : gdH 136 = true := gH_of rfl (by decide +kernel)
theorem gK_137 : gdK 137 = true := by decide +kernel
theorem gH_137 : gdH 137 = true := gH_of rfl (by decide +kernel)
theorem gK_138 : gdK 138 = true := by decide +kernel
theorem gH_138 : gdH 138 = true := gH_of rfl (by decide +kernel)
theorem gK_139 : gdK 139 = true := by decide +kernel
theorem gH_139 : gdH 139 = true := gH_of rfl (by decide +kernel)
theorem gK_140 : gdK 140 = true := by decide +kernel
theorem gH_140 : gdH 140 = true := gH_of rfl (by decide +kernel)
theorem gK_141 : gdK 141 = true := by decide +kernel
theorem gH_141 : gdH 141 = true := gH_of rfl (by decide +kernel)
theorem gK_142 : gdK 142 = true := by decide +kernel
theorem gH_142 : gdH 142 = true := gH_of rfl (by decide +kernel)
theorem gK_143 : gdK 143 = true := by decide +kernel
theorem gH_143 : gdH 143 = true := gH_of rfl (by decide +kernel)
theorem gK_144 : gdK 144 = true := by decide +kernel
theorem gH_144 : gdH 144 = true := gH_of rfl (by decide +kernel)
theorem gK_145 : gdK 145 = true := by decide +kernel
theorem gH_145 : gdH 145 = true := gH_of rfl (by decide +kernel)
theorem gK_146 : gdK 146 = true := by decide +kernel
theorem gH_146 : gdH 146 = true := gH_of rfl (by decide +kernel)
end
section
/-! ===== the methods (written by wip/tools/checks.py) ===== -/
theorem gK_147 : gdK 147 = true := by decide +kernel
theorem gH_147 : gdH 147 = true := gH_of rfl (by decide +kernel)
theorem gK_148 : gdK 148 = true := by decide +kernel
theorem gH_148 : gdH 148 = true := gH_of rfl (by decide +kernel)
theorem gK_149 : gdK 149 = true := by decide +kernel
theorem gH_149 : gdH 149 = true := gH_of rfl (by decide +kernel)
theorem gK_150 : gdK 150 = true := by decide +kernel
theorem gH_150 : gdH 150 = true := gH_of rfl (by decide +kernel)
theorem gK_151 : gdK 151 = true := by decide +kernel
theorem gH_151 : gdH 151 = true := gH_of rfl (by decide +kernel)
theorem gK_152 : gdK 152 = true := by decide +kernel
theorem gH_152 : gdH 152 = true := gH_of rfl (by decide +kernel)
theorem gK_153 : gdK 153 = true := by decide +kernel
theorem gH_153 : gdH 153 = true := gH_of rfl (by decide +kernel)
theorem gK_154 : gdK 154 = true := by decide +kernel
theorem gH_154 : gdH 154 = true := gH_of rfl (by decide +kernel)
theorem gK_155 : gdK 155 = true := by decide +kernel
theorem gH_155 : gdH 155 = true := gH_of rfl (by decide +kernel)
theorem gK_156 : gdK 156 = true := by decide +kernel
theorem gH_156 : gdH 156 = true := gH_of rfl (by decide +kernel)
theorem gK_157 : gdK 157 = true := by decide +kernel
theorem gH_157 : gdH 157 = true := gH_of rfl (by decide +kernel)
theorem gK_158 : gdK 158 = true := by decide +kernel
theorem gH_158 : gdH 158 = true := gH_of rfl (by decide +kernel)
theorem gK_159 : gdK 159 = true := by decide +kernel
theorem gH_159 : gdH 159 = true := gH_of rfl (by decide +kernel)
theorem gK_160 : gdK 160 = true := by decide +kernel
theorem gH_160 : gdH 160 = true := gH_of rfl (by decide +kernel)
theorem gK_161 : gdK 161 = true := by decide +kernel
theorem gH_161 : gdH 161 = true := gH_of rfl (by decide +kernel)
theorem gK_162 : gdK 162 = true := by decide +kernel
theorem gH_162 : gdH 162 = true := gH_of rfl (by decide +kernel)
theorem gK_163 : gdK 163 = true := by decide +kernel
theorem gH_163 : gdH 163 = true := gH_of rfl (by decide +kernel)
theorem gK_164 : gdK 164 = true := by decide +kernel
theorem gH_164 : gdH 164 = true := gH_of rfl (by decide +kernel)
theorem gK_165 : gdK 165 = true := by decide +kernel
theorem gH_165 : gdH 165 = true := gH_of rfl (by decide +kernel)
theorem gK_166 : gdK 166 = true := by decide +kernel
theorem gH_166 : gdH 166 = true := gH_of rfl (by decide +kernel)
theorem gK_167 : gdK 167 = true := by decide +kernel
theorem gH_167 : gdH 167 = true := gH_of rfl (by decide +kernel)
theorem gK_168 : gdK 168 = true := by decide +kernel
theorem gH_168 : gdH 168 = true := gH_of rfl (by decide +kernel)
theorem gK_169 : gdK 169 = true := by decide +kernel
theorem gH_169 : gdH 169 = true := gH_of rfl (by decide +kernel)
theorem gK_170 : gdK 170 = true := by decide +kernel
theorem gH_170 : gdH 170 = true := gH_of rfl (by decide +kernel)
theorem gK_171 : gdK 171 = true := by decide +kernel
theorem gH_171 : gdH 171 = true := gH_of rfl (by decide +kernel)
theorem gK_172 : gdK 172 = true := by decide +kernel
theorem gH_172 : gdH 172 = true := gH_of rfl (by decide +kernel)
theorem gK_173 : gdK 173 = true := by decide +kernel
theorem gH_173 : gdH 173 = true := gH_of rfl (by decide +kernel)
theorem gK_174 : gdK 174 = true := by decide +kernel
theorem gH_174 : gdH 174 = true := gH_of rfl (by decide +kernel)
theorem gK_175 : gdK 175 = true := by decide +kernel
theorem gH_175 : gdH 175 = true := gH_of rfl (by decide +kernel)
theorem gK_176 : gdK 176 = true := by decide +kernel
theorem gH_176 : gdH 176 = true := gH_of rfl (by decide +kernel)
theorem gK_177 : gdK 177 = true := by decide +kernel
theorem gH_177 : gdH 177 = true := gH_of rfl (by decide +kernel)
theorem gK_178 : gdK 178 = true := by decide +kernel
theorem gH_178 : gdH 178 = true := gH_of rfl (by decide +kernel)
theorem gK_179 : gdK 179 = true := by decide +kernel
theorem gH_179 : gdH 179 = true := gH_of rfl (by decide +kernel)
theorem gK_180 : gdK 180 = true := by decide +kernel
theorem gH_180 : gdH 180 = true := gH_of rfl (by decide +kernel)
theorem gK_181 : gdK 181 = true := by decide +kernel
theorem gH_181 : gdH 181 = true := gH_of rfl (by decide +kernel)
theorem gK_182 : gdK 182 = true := by decide +kernel
theorem gH_182 : gdH 182 = true := gH_of rfl (by decide +kernel)
theorem gK_183 : gdK 183 = true := by decide +kernel
theorem gH_183 : gdH 183 = true := gH_of rfl (by decide +kernel)
theorem gK_184 : gdK 184 = true := by decide +kernel
theorem gH_184 : gdH 184 = true := gH_of rfl (by decide +kernel)
theorem gK_185 : gdK 185 = true := by decide +kernel
theorem gH_185 : gdH 185 = true := gH_of rfl (by decide +kernel)
theorem gK_186 : gdK 186 = true := by decide +kernel
theorem gH_186 : gdH 186 = true := gH_of rfl (by decide +kernel)
theorem gK_187 : gdK 187 = true := by decide +kernel
theorem gH_187 : gdH 187 = true := gH_of rfl (by decide +kernel)
theorem gK_188 : gdK 188 = true := by decide +kernel
theorem gH_188 : gdH 188 = true := gH_of rfl (by decide +kernel)
theorem gK_189 : gdK 189 = true := by decide +kernel
theorem gH_189 : gdH 189 = true := gH_of rfl (by decide +kernel)
theorem gK_190 : gdK 190 = true := by decide +kernel
theorem gH_190 : gdH 190 = true := gH_of rfl (by decide +kernel)
theorem gK_191 : gdK 191 = true := by decide +kernel
theorem gH_191 : gdH 191 = true := gH_of rfl (by decide +kernel)
theorem gK_192 : gdK 192 = true := by decide +kernel
theorem gH_192 : gdH 192 = true := gH_of rfl (by decide +kernel)
theorem gK_193 : gdK 193 = true := by decide +kernel
theorem gH_193 : gdH 193 = true := gH_of rfl (by decide +kernel)
theorem gK_194 : gdK 194 = true := by decide +kernel
theorem gH_194 : gdH 194 = true := gH_of rfl (by decide +kernel)
theorem gK_195 : gdK 195 = true := by decide +kernel
theorem gH_195 : gdH 195 = true := gH_of rfl (by decide +kernel)
end
section
/-! ===== the methods (written by wip/tools/checks.py) ===== -/
theorem gK_196 : gdK 196 = true := by decide +kernel
theorem gH_196 : gdH 196 = true := gH_of rfl (by decide +kernel)
theorem gK_197 : gdK 197 = true := by decide +kernel
theorem gH_197 : gdH 197 = true := gH_of rfl (by decide +kernel)
theorem gK_198 : gdK 198 = true := by decide +kernel
theorem gH_198 : gdH 198 = true := gH_of rfl (by decide +kernel)
theorem gK_199 : gdK 199 = true := by decide +kernel
theorem gH_199 : gdH 199 = true := gH_of rfl (by decide +kernel)
theorem gK_200 : gdK 200 = true := by decide +kernel
theorem gH_200 : gdH 200 = true := gH_of rfl (by decide +kernel)
theorem gK_201 : gdK 201 = true := by decide +kernel
theorem gH_201 : gdH 201 = true := gH_of rfl (by decide +kernel)
theorem gK_202 : gdK 202 = true := by decide +kernel
theorem gH_202 : gdH 202 = true := gH_of rfl (by decide +kernel)
theorem gK_203 : gdK 203 = true := by decide +kernel
theorem gH_203 : gdH 203 = true := gH_of rfl (by decide +kernel)
theorem gK_204 : gdK 204 = true := by decide +kernel
theorem gH_204 : gdH 204 = true := gH_of rfl (by decide +kernel)
theorem gK_205 : gdK 205 = true := by decide +kernel
theorem gH_205 : gdH 205 = true := gH_of rfl (by decide +kernel)
theorem gK_206 : gdK 206 = true := by decide +kernel
theorem gH_206 : gdH 206 = true := gH_of rfl (by decide +kernel)
theorem gK_207 : gdK 207 = true := by decide +kernel
theorem gH_207 : gdH 207 = true := gH_of rfl (by decide +kernel)
theorem gK_208 : gdK 208 = true := by decide +kernel
theorem gH_208 : gdH 208 = true := gH_of rfl (by decide +kernel)
theorem gK_209 : gdK 209 = true := by decide +kernel
theorem gH_209 : gdH 209 = true := gH_of rfl (by decide +kernel)
theorem gK_210 : gdK 210 = true := by decide +kernel
theorem gH_210 : gdH 210 = true := gH_of rfl (by decide +kernel)
theorem gK_211 : gdK 211 = true := by decide +kernel
theorem gH_211 : gdH 211 = true := gH_of rfl (by decide +kernel)
theorem gK_212 : gdK 212 = true := by decide +kernel
theorem gH_212 : gdH 212 = true := gH_of rfl (by decide +kernel)
theorem gK_213 : gdK 213 = true := by decide +kernel
theorem gH_213 : gdH 213 = true := gH_of rfl (by decide +kernel)
theorem gK_214 : gdK 214 = true := by decide +kernel
theorem gH_214 : gdH 214 = true := gH_of rfl (by decide +kernel)
theorem gK_215 : gdK 215 = true := by decide +kernel
theorem gH_215 : gdH 215 = true := gH_of rfl (by decide +kernel)
theorem gK_216 : gdK 216 = true := by decide +kernel
theorem gH_216 : gdH 216 = true := gH_of rfl (by decide +kernel)
theorem gK_217 : gdK 217 = true := by decide +kernel
theorem gH_217 : gdH 217 = true := gH_of rfl (by decide +kernel)
theorem gK_218 : gdK 218 = true := by decide +kernel
theorem gH_218 : gdH 218 = true := gH_of rfl (by decide +kernel)
theorem gK_219 : gdK 219 = true := by decide +kernel
theorem gH_219 : gdH 219 = true := gH_of rfl (by decide +kernel)
theorem gK_220 : gdK 220 = true := by decide +kernel
theorem gH_220 : gdH 220 = true := gH_of rfl (by decide +kernel)
theorem gK_221 : gdK 221 = true := by decide +kernel
theorem gH_221 : gdH 221 = true := gH_of rfl (by decide +kernel)
theorem gK_222 : gdK 222 = true := by decide +kernel
theorem gH_222 : gdH 222 = true := gH_of rfl (by decide +kernel)
theorem gK_223 : gdK 223 = true := by decide +kernel
theorem gH_223 : gdH 223 = true := gH_of rfl (by decide +kernel)
theorem gK_224 : gdK 224 = true := by decide +kernel
theorem gH_224 : gdH 224 = true := gH_of rfl (by decide +kernel)
theorem gK_225 : gdK 225 = true := by decide +kernel
theorem gH_225 : gdH 225 = true := gH_of rfl (by decide +kernel)
theorem gK_226 : gdK 226 = true := by decide +kernel
theorem gH_226 : gdH 226 = true := gH_of rfl (by decide +kernel)
theorem gK_227 : gdK 227 = true := by decide +kernel
theorem gH_227 : gdH 227 = true := gH_of rfl (by decide +kernel)
theorem gK_228 : gdK 228 = true := by decide +kernel
theorem gH_228 : gdH 228 = true := gH_of rfl (by decide +kernel)
theorem gK_229 : gdK 229 = true := by decide +kernel
theorem gH_229 : gdH 229 = true := gH_of rfl (by decide +kernel)
theorem gK_230 : gdK 230 = true := by decide +kernel
theorem gH_230 : gdH 230 = true := gH_of rfl (by decide +kernel)
theorem gK_231 : gdK 231 = true := by decide +kernel
theorem gH_231 : gdH 231 = true := gH_of rfl (by decide +kernel)
theorem gK_232 : gdK 232 = true := by decide +kernel
theorem gH_232 : gdH 232 = true := gH_of rfl (by decide +kernel)
theorem gK_233 : gdK 233 = true := by decide +kernel
theorem gH_233 : gdH 233 = true := gH_of rfl (by decide +kernel)
theorem gK_234 : gdK 234 = true := by decide +kernel
theorem gH_234 : gdH 234 = true := gH_of rfl (by decide +kernel)
theorem gK_235 : gdK 235 = true := by decide +kernel
theorem gH_235 : gdH 235 = true := gH_of rfl (by decide +kernel)
theorem gK_236 : gdK 236 = true := by decide +kernel
theorem gH_236 : gdH 236 = true := gH_of rfl (by decide +kernel)
theorem gK_237 : gdK 237 = true := by decide +kernel
theorem gH_237 : gdH 237 = true := gH_of rfl (by decide +kernel)
theorem gK_238 : gdK 238 = true := by decide +kernel
theorem gH_238 : gdH 238 = true := gH_of rfl (by decide +kernel)
theorem gK_239 : gdK 239 = true := by decide +kernel
theorem gH_239 : gdH 239 = true := gH_of rfl (by decide +kernel)
theorem gK_240 : gdK 240 = true := by decide +kernel
theorem gH_240 : gdH 240 = true := gH_of rfl (by decide +kernel)
theorem gK_241 : gdK 241 = true := by decide +kernel
theorem gH_241 : gdH 241 = true := gH_of rfl (by decide +kernel)
theorem gK_242 : gdK 242 = true := by decide +kernel
theorem gH_242 : gdH 242 = true := gH_of rfl (by decide +kernel)
theorem gK_243 : gdK 243 = true := by decide +kernel
theorem gH_243 : gdH 243 = true := gH_of rfl (by decide +kernel)
theorem gK_244 : gdK 244 = true := by decide +kernel
theorem gH_244 : gdH 244 = true := gH_of rfl (by decide +kernel)
end
section
/-! ===== the methods (written by wip/tools/checks.py) ===== -/
theorem gK_245 : gdK 245 = true := by decide +kernel
theorem gH_245 : gdH 245 = true := gH_of rfl (by decide +kernel)
theorem gK_246 : gdK 246 = true := by decide +kernel
theorem gH_246 : gdH 246 = true := gH_of rfl (by decide +kernel)
theorem gK_247 : gdK 247 = true := by decide +kernel
theorem gH_247 : gdH 247 = true := gH_of rfl (by decide +kernel)
theorem gK_248 : gdK 248 = true := by decide +kernel
theorem gH_248 : gdH 248 = true := gH_of rfl (by decide +kernel)
theorem gK_249 : gdK 249 = true := by decide +kernel
theorem gH_249 : gdH 249 = true := gH_of rfl (by decide +kernel)
theorem gK_250 : gdK 250 = true := by decide +kernel
theorem gH_250 : gdH 250 = true := gH_of rfl (by decide +kernel)
theorem gK_251 : gdK 251 = true := by decide +kernel
theorem gH_251 : gdH 251 = true := gH_of rfl (by decide +kernel)
theorem gK_252 : gdK 252 = true := by decide +kernel
theorem gH_252 : gdH 252 = true := gH_of rfl (by decide +kernel)
theorem gK_253 : gdK 253 = true := by decide +kernel
theorem gH_253 : gdH 253 = true := gH_of rfl (by decide +kernel)
theorem gK_254 : gdK 254 = true := by decide +kernel
theorem gH_254 : gdH 254 = true := gH_of rfl (by decide +kernel)
theorem gK_255 : gdK 255 = true := by decide +kernel
theorem gH_255 : gdH 255 = true := gH_of rfl (by decide +kernel)
theorem gK_256 : gdK 256 = true := by decide +kernel
theorem gH_256 : gdH 256 = true := gH_of rfl (by decide +kernel)
theorem gK_257 : gdK 257 = true := by decide +kernel
theorem gH_257 : gdH 257 = true := gH_of rfl (by decide +kernel)
theorem gK_258 : gdK 258 = true := by decide +kernel
theorem gH_258 : gdH 258 = true := gH_of rfl (by decide +kernel)
theorem gK_259 : gdK 259 = true := by decide +kernel
theorem gH_259 : gdH 259 = true := gH_of rfl (by decide +kernel)
theorem gK_260 : gdK 260 = true := by decide +kernel
theorem gH_260 : gdH 260 = true := gH_of rfl (by decide +kernel)
theorem gK_261 : gdK 261 = true := by decide +kernel
theorem gH_261 : gdH 261 = true := gH_of rfl (by decide +kernel)
theorem gK_262 : gdK 262 = true := by decide +kernel
theorem gH_262 : gdH 262 = true := gH_of rfl (by decide +kernel)
theorem gK_263 : gdK 263 = true := by decide +kernel
theorem gH_263 : gdH 263 = true := gH_of rfl (by decide +kernel)
theorem gK_264 : gdK 264 = true := by decide +kernel
theorem gH_264 : gdH 264 = true := gH_of rfl (by decide +kernel)
theorem gK_265 : gdK 265 = true := by decide +kernel
theorem gH_265 : gdH 265 = true := gH_of rfl (by decide +kernel)
theorem gK_266 : gdK 266 = true := by decide +kernel
theorem gH_266 : gdH 266 = true := gH_of rfl (by decide +kernel)
theorem gK_267 : gdK 267 = true := by decide +kernel
theorem gH_267 : gdH 267 = true := gH_of rfl (by decide +kernel)
theorem gK_268 : gdK 268 = true := by decide +kernel
theorem gH_268 : gdH 268 = true := gH_of rfl (by decide +kernel)
theorem gK_269 : gdK 269 = true := by decide +kernel
theorem gH_269 : gdH 269 = true := gH_of rfl (by decide +kernel)
theorem gK_270 : gdK 270 = true := by decide +kernel
theorem gH_270 : gdH 270 = true := gH_of rfl (by decide +kernel)
theorem gK_271 : gdK 271 = true := by decide +kernel
theorem gH_271 : gdH 271 = true := gH_of rfl (by decide +kernel)
theorem gK_272 : gdK 272 = true := by decide +kernel
theorem gH_272 : gdH 272 = true := gH_of rfl (by decide +kernel)
theorem gK_273 : gdK 273 = true := by decide +kernel
theorem gH_273 : gdH 273 = true := gH_of rfl (by decide +kernel)
theorem gK_274 : gdK 274 = true := by decide +kernel
theorem gH_274 : gdH 274 = true := gH_of rfl (by decide +kernel)
theorem gK_275 : gdK 275 = true := by decide +kernel
theorem gH_275 : gdH 275 = true := gH_of rfl (by decide +kernel)
theorem gK_276 : gdK 276 = true := by decide +kernel
theorem gH_276 : gdH 276 = true := gH_of rfl (by decide +kernel)
theorem gK_277 : gdK 277 = true := by decide +kernel
theorem gH_277 : gdH 277 = true := gH_of rfl (by decide +kernel)
theorem gK_278 : gdK 278 = true := by decide +kernel
theorem gH_278 : gdH 278 = true := gH_of rfl (by decide +kernel)
theorem gK_279 : gdK 279 = true := by decide +kernel
theorem gH_279 : gdH 279 = true := gH_of rfl (by decide +kernel)
theorem gK_280 : gdK 280 = true := by decide +kernel
theorem gH_280 : gdH 280 = true := gH_of rfl (by decide +kernel)
theorem gK_281 : gdK 281 = true := by decide +kernel
theorem gH_281 : gdH 281 = true := gH_of rfl (by decide +kernel)
theorem gK_282 : gdK 282 = true := by decide +kernel
theorem gH_282 : gdH 282 = true := gH_of rfl (by decide +kernel)
theorem gK_283 : gdK 283 = true := by decide +kernel
theorem gH_283 : gdH 283 = true := gH_of rfl (by decide +kernel)
theorem gK_284 : gdK 284 = true := by decide +kernel
theorem gH_284 : gdH 284 = true := gH_of rfl (by decide +kernel)
theorem gK_285 : gdK 285 = true := by decide +kernel
theorem gH_285 : gdH 285 = true := gH_of rfl (by decide +kernel)
theorem gK_286 : gdK 286 = true := by decide +kernel
theorem gH_286 : gdH 286 = true := gH_of rfl (by decide +kernel)
theorem gK_287 : gdK 287 = true := by decide +kernel
theorem gH_287 : gdH 287 = true := gH_of rfl (by decide +kernel)
theorem gK_288 : gdK 288 = true := by decide +kernel
theorem gH_288 : gdH 288 = true := gH_of rfl (by decide +kernel)
theorem gK_289 : gdK 289 = true := by decide +kernel
theorem gH_289 : gdH 289 = true := gH_of rfl (by decide +kernel)
theorem gK_290 : gdK 290 = true := by decide +kernel
theorem gH_290 : gdH 290 = true := gH_of rfl (by decide +kernel)
theorem gK_291 : gdK 291 = true := by decide +kernel
theorem gH_291 : gdH 291 = true := gH_of rfl (by decide +kernel)
theorem gK_292 : gdK 292 = true := by decide +kernel
theorem gH_292 : gdH 292 = true := gH_of rfl (by decide +kernel)
theorem gK_293 : gdK 293 = true := by decide +kernel
theorem gH_293 : gdH 293 = true := gH_of rfl (by decide +kernel)
end
section
/-! ===== the methods (written by wip/tools/checks.py) ===== -/
theorem gK_294 : gdK 294 = true := by decide +kernel
theorem gH_294 : gdH 294 = true := gH_of rfl (by decide +kernel)
theorem gK_295 : gdK 295 = true := by decide +kernel
theorem gH_295 : gdH 295 = true := gH_of rfl (by decide +kernel)
theorem gK_296 : gdK 296 = true := by decide +kernel
theorem gH_296 : gdH 296 = true := gH_of rfl (by decide +kernel)
theorem gK_297 : gdK 297 = true := by decide +kernel
theorem gH_297 : gdH 297 = true := gH_of rfl (by decide +kernel)
theorem gK_298 : gdK 298 = true := by decide +kernel
theorem gH_298 : gdH 298 = true := gH_of rfl (by decide +kernel)
theorem gK_299 : gdK 299 = true := by decide +kernel
theorem gH_299 : gdH 299 = true := gH_of rfl (by decide +kernel)
theorem gK_300 : gdK 300 = true := by decide +kernel
theorem gH_300 : gdH 300 = true := gH_of rfl (by decide +kernel)
theorem gK_301 : gdK 301 = true := by decide +kernel
theorem gH_301 : gdH 301 = true := gH_of rfl (by decide +kernel)
theorem gK_302 : gdK 302 = true := by decide +kernel
theorem gH_302 : gdH 302 = true := gH_of rfl (by decide +kernel)
theorem gK_303 : gdK 303 = true := by decide +kernel
theorem gH_303 : gdH 303 = true := gH_of rfl (by decide +kernel)
theorem gK_304 : gdK 304 = true := by decide +kernel
theorem gH_304 : gdH 304 = true := gH_of rfl (by decide +kernel)
theorem gK_305 : gdK 305 = true := by decide +kernel
theorem gH_305 : gdH 305 = true := gH_of rfl (by decide +kernel)
theorem gK_306 : gdK 306 = true := by decide +kernel
theorem gH_306 : gdH 306 = true := gH_of rfl (by decide +kernel)
theorem gK_307 : gdK 307 = true := by decide +kernel
theorem gH_307 : gdH 307 = true := gH_of rfl (by decide +kernel)
theorem gK_308 : gdK 308 = true := by decide +kernel
theorem gH_308 : gdH 308 = true := gH_of rfl (by decide +kernel)
theorem gK_309 : gdK 309 = true := by decide +kernel
theorem gH_309 : gdH 309 = true := gH_of rfl (by decide +kernel)
theorem gK_310 : gdK 310 = true := by decide +kernel
theorem gH_310 : gdH 310 = true := gH_of rfl (by decide +kernel)
theorem gK_311 : gdK 311 = true := by decide +kernel
theorem gH_311 : gdH 311 = true := gH_of rfl (by decide +kernel)
theorem gK_312 : gdK 312 = true := by decide +kernel
theorem gH_312 : gdH 312 = true := gH_of rfl (by decide +kernel)
theorem gK_313 : gdK 313 = true := by decide +kernel
theorem gH_313 : gdH 313 = true := gH_of rfl (by decide +kernel)
theorem gK_314 : gdK 314 = true := by decide +kernel
theorem gH_314 : gdH 314 = true := gH_of rfl (by decide +kernel)
theorem gK_315 : gdK 315 = true := by decide +kernel
theorem gH_315 : gdH 315 = true := gH_of rfl (by decide +kernel)
theorem gK_316 : gdK 316 = true := by decide +kernel
theorem gH_316 : gdH 316 = true := gH_of rfl (by decide +kernel)
theorem gK_317 : gdK 317 = true := by decide +kernel
theorem gH_317 : gdH 317 = true := gH_of rfl (by decide +kernel)
theorem gK_318 : gdK 318 = true := by decide +kernel
theorem gH_318 : gdH 318 = true := gH_of rfl (by decide +kernel)
theorem gK_319 : gdK 319 = true := by decide +kernel
theorem gH_319 : gdH 319 = true := gH_of rfl (by decide +kernel)
theorem gK_320 : gdK 320 = true := by decide +kernel
theorem gH_320 : gdH 320 = true := gH_of rfl (by decide +kernel)
theorem gK_321 : gdK 321 = true := by decide +kernel
theorem gH_321 : gdH 321 = true := gH_of rfl (by decide +kernel)
theorem gK_322 : gdK 322 = true := by decide +kernel
theorem gH_322 : gdH 322 = true := gH_of rfl (by decide +kernel)
theorem gK_323 : gdK 323 = true := by decide +kernel
theorem gH_323 : gdH 323 = true := gH_of rfl (by decide +kernel)
theorem gK_324 : gdK 324 = true := by decide +kernel
theorem gH_324 : gdH 324 = true := gH_of rfl (by decide +kernel)
theorem gK_325 : gdK 325 = true := by decide +kernel
theorem gH_325 : gdH 325 = true := gH_of rfl (by decide +kernel)
theorem gK_326 : gdK 326 = true := by decide +kernel
theorem gH_326 : gdH 326 = true := gH_of rfl (by decide +kernel)
theorem gK_327 : gdK 327 = true := by decide +kernel
theorem gH_327 : gdH 327 = true := gH_of rfl (by decide +kernel)
theorem gK_328 : gdK 328 = true := by decide +kernel
theorem gH_328 : gdH 328 = true := gH_of rfl (by decide +kernel)
theorem gK_329 : gdK 329 = true := by decide +kernel
theorem gH_329 : gdH 329 = true := gH_of rfl (by decide +kernel)
theorem gK_330 : gdK 330 = true := by decide +kernel
theorem gH_330 : gdH 330 = true := gH_of rfl (by decide +kernel)
theorem gK_331 : gdK 331 = true := by decide +kernel
theorem gH_331 : gdH 331 = true := gH_of rfl (by decide +kernel)
theorem gK_333 : gdK 333 = true := by decide +kernel
theorem gH_333 : gdH 333 = true := gH_of rfl (by decide +kernel)
theorem gK_334 : gdK 334 = true := by decide +kernel
theorem gH_334 : gdH 334 = true := gH_of rfl (by decide +kernel)
theorem gK_335 : gdK 335 = true := by decide +kernel
theorem gH_335 : gdH 335 = true := gH_of rfl (by decide +kernel)
theorem gK_336 : gdK 336 = true := by decide +kernel
theorem gH_336 : gdH 336 = true := gH_of rfl (by decide +kernel)
theorem gK_337 : gdK 337 = true := by decide +kernel
theorem gH_337 : gdH 337 = true := gH_of rfl (by decide +kernel)
end
section
/-! ===== what is to be shown of each method, out of the checks ===== -/
theorem gcL_all : ∀ c, gcL c = true
  | 0 => cL_0
  | 1 => cL_1
  | 2 => cL_2
  | 3 => cL_3
  | 4 => cL_4
  | 5 => cL_5
  | 6 => cL_6
  | 7 => cL_7
  | 8 => cL_8
  | 9 => cL_9
  | 10 => cL_10
  | 11 => cL_11
  | 12 => cL_12
  | 13 => cL_13
  | 14 => cL_14
  | _ + 15 => rfl
theorem gcP_all : ∀ c b, gcP c b = true
  | 0, false => cP_0f
  | 0, true => cP_0t
  | 1, false => cP_1f
  | 1, true => cP_1t
  | 2, false => cP_2f
  | 2, true => cP_2t
  | 3, false => cP_3f
  | 3, true => cP_3t
  | 4, false => cP_4f
  | 4, true => cP_4t
  | 5, false => cP_5f
  | 5, true => cP_5t
  | 6, false => cP_6f
  | 6, true => cP_6t
  | 7, false => cP_7f
  | 7, true => cP_7t
  | 8, false => cP_8f
  | 8, true => cP_8t
  | 9, false => cP_9f
  | 9, true => cP_9t
  | 10, false => cP_10f
  | 10, true => cP_10t
  | 11, false => cP_11f
  | 11, true => cP_11t
  | 12, false => cP_12f
  | 12, true => cP_12t
  | 13, false => cP_13f
  | 13, true => cP_13t
  | 14, false => cP_14f
  | 14, true => cP_14t
  | _ + 15, false => rfl
  | _ + 15, true => rfl
theorem g_CF : CF lw_nic g_cl g_ck := CF_of (pls := g_pl) g_cl g_ck fun ci C T N h => by
  match ci, h with
  | 0, h => cases h; exact cC_0
  | 1, h => cases h; exact cC_1
  | 2, h => cases h; exact cC_2
  | 3, h => cases h; exact cC_3
  | 4, h => cases h; exact cC_4
  | 5, h => cases h; exact cC_5
  | 6, h => cases h; exact cC_6
  | 7, h => cases h; exact cC_7
  | 8, h => cases h; exact cC_8
  | 9, h => cases h; exact cC_9
  | 10, h => cases h; exact cC_10
  | k + 11, h => cases h
section GDA
variable {adW : Nat → Nat} {aT : Nat}
def G_D (adW : Nat → Nat) (aT f : Nat) : Prop := GD lw_nic g_cl g_ck adW aT (g_Zs g_wn adW aT) g_Y g_CC g_RT g_M g_THR g_RZ g_LK g_LP g_DE (g_HND g_HN) f
theorem g_FA {f : Nat} (hK : gdK f = true) (hH : gdH f = true) : FA lw_nic g_cl g_ck adW aT (g_Zs g_wn adW aT) g_Y g_CC g_RT g_M g_THR g_RZ g_LK g_LP g_DE (g_HND g_HN) f := by
  simp only [gdH, Bool.and_eq_true, Bool.or_eq_true, decide_eq_true_eq] at hH
  obtain ⟨⟨h1, h2⟩, h3⟩ := hH
  obtain ⟨a1, a2, a3⟩ := okH_ok g_Y g_CC g_RT g_M g_RZ h1
  refine ⟨a1, ?_, f_dec_ok _, a2, a3, okK_ok g_M g_THR g_RZ g_HN hK⟩
  rw [h2]
  refine FO_of g_cl g_ck g_wn g_Y g_RT (m_P g_M) (own := g_cn (g_c f)) (ini := g_in f) (gcL_all (g_c f)) (gcP_all (g_c f) (g_in f)) (fun hi => ?_)
  rcases h3 with h3 | h3
  · rw [hi] at h3
    cases h3
  · exact h3
theorem g_nn {f : Nat} (h : g_HN f = none) : ∀ pc, g_HND g_HN f pc = none := fun pc => by
  unfold g_HND
  rw [h]
def gdA (f : Nat) : Bool := decide ((g_RT f).2 = []) && !g_THR f && decide (g_HN f = none)
theorem gd_a {f : Nat} (hK : gdK f = true) (hH : gdH f = true) (h : gdA f = true) : G_D adW aT f := by
  simp only [gdA, Bool.and_eq_true, decide_eq_true_eq, Bool.not_eq_true'] at h
  exact Or.inl ⟨g_FA hK hH, h.1.2, h.1.1, g_nn h.2⟩
noncomputable def gdB (f : Nat) : Bool := decide ((g_RT f).2 ≠ []) && !g_THR f && okX (g_cn (g_c f)) (g_DE f) (g_RT f).2 (g_HN f) (g_qs f) && (g_lt (g_c f)).flatten.all (fun e => decide (e.2.1.1 ≠ 6) || !g_THR e.2.1.2.1 || decide (e.2.1.2.2.1 = 0))
theorem gd_b {f : Nat} (hK : gdK f = true) (hH : gdH f = true) (h : gdB f = true) : G_D adW aT f := by
  simp only [gdB, Bool.and_eq_true, decide_eq_true_eq, Bool.not_eq_true'] at h
  obtain ⟨⟨⟨h1, h2⟩, h3⟩, h4⟩ := h
  have hH2 := hH
  simp only [gdH, Bool.and_eq_true, decide_eq_true_eq] at hH2
  refine Or.inr (Or.inl ⟨g_FA hK hH, h2, h1, ?_, virt_ok g_THR h4⟩)
  rw [hH2.1.2]
  exact okX_ok g_HN h3
def gx_at : List Cond := Cond.classLink "FeederShares" 197 nsee :: Cond.initialized nsee :: vx_at0 "FeederShares" 199 nsee nseeN
def gx_pl : List Nat := [42, 1015, 1016, 1017, 1018, 1026, 1027, 5132, 5137, 5138, 5139, 5140, 5141, 5142, 5143, 5144, 5145, 5146, 5147, 5148, 5149, 5150, 5151, 5152, 5153, 5154, 5155, 5156, 5157, 5158, 5159, 5160, 5161, 5162, 5163, 5164, 5165, 5166, 5167, 5168, 5169, 5170, 5171, 5172, 5173, 5174, 5175, 5176, 5177, 5178, 5179, 5180, 5181, 5182, 5183, 5184, 5185, 5187, 5188, 5189, 5190, 5191, 5192, 5193, 5194, 5195, 5196, 5197, 9057, 9070, 9071]
theorem gx_1 : gx_at.all (fun w => gx_pl.any (tk w)) = true := by decide +kernel
theorem gx_2 : gx_at.all vx_ot = true := by decide +kernel
theorem gx_3 : (g_lt 0).flatten.all (fun e => (decide (e.2.1.1 ≠ 8) || decide (e.1 = 197)) && (decide (e.2.1.1 ≠ 9) || decide (e.1 = 199))) = true := by decide +kernel
theorem gx_in {w : Cond} (h : w ∈ gx_at) : w ∈ lw_nic := by
  obtain ⟨p, -, hp⟩ := List.any_eq_true.mp (List.all_eq_true.mp gx_1 w h)
  exact tk_mem hp
theorem gx_LT : LT lw_nic "FeederShares" (q_lk (g_lt 0)) := by
  intro i1 z i2 z' e1 e2
  have h1 := List.all_eq_true.mp gx_3
  obtain ⟨_, m1⟩ := q_lk_mem e1
  obtain ⟨_, m2⟩ := q_lk_mem e2
  have b1 : i1 = 197 := by simpa using ((Bool.and_eq_true _ _).mp (h1 _ m1)).1
  have b2 : i2 = 199 := by simpa using ((Bool.and_eq_true _ _).mp (h1 _ m2)).2
  subst b1
  subst b2
  exact ⟨gx_in List.mem_cons_self, gx_in (List.mem_cons_of_mem _ List.mem_cons_self), fun w hw => gx_in (List.mem_cons_of_mem _ (List.mem_cons_of_mem _ hw)), fun w hw => List.all_eq_true.mp gx_2 w hw⟩
def gdC (f : Nat) : Bool := decide ((g_RT f).2 = []) && g_THR f && decide (g_HN f = none) && decide (g_c f = 0)
theorem gd_c {f : Nat} (hK : gdK f = true) (hH : gdH f = true) (h : gdC f = true) : G_D adW aT f := by
  simp only [gdC, Bool.and_eq_true, decide_eq_true_eq] at h
  obtain ⟨⟨⟨h1, h2⟩, h3⟩, h4⟩ := h
  have hH2 := hH
  simp only [gdH, Bool.and_eq_true, decide_eq_true_eq] at hH2
  refine Or.inr (Or.inr (Or.inl ⟨g_FA hK hH, h2, h1, ?_, g_nn h3⟩))
  rw [hH2.1.2]
  show LT lw_nic (g_cn (g_c f)) (q_lk (g_lt (g_c f)))
  rw [h4]
  exact gx_LT
theorem gd_d {f : Nat} (h1 : m_B g_M f = .var 0) (h2 : g_THR f = true) : G_D adW aT f := Or.inr (Or.inr (Or.inr ⟨h1, h2⟩))
theorem t_out {α : Type} {cs : List (List α)} {d : α} {f : Nat} (h : cs.length * 16 ≤ f) : t_at cs d f = d := by
  unfold t_at
  have h1 : cs.length ≤ f / 16 := by omega
  have e : cs.getD (f / 16) [] = [] := by rw [List.getD_eq_getElem?_getD, List.getElem?_eq_none h1]; rfl
  rw [e]
  rfl
theorem gd_z {f : Nat} (h : 352 ≤ f) : G_D adW aT f := by
  have e1 : g_M f = (0, 0, [], [], .var 0) := by
    unfold g_M
    exact t_out h
  have e2 : g_THR f = true := by
    unfold g_THR
    exact t_out h
  refine gd_d ?_ e2
  unfold m_B
  rw [e1]
theorem gD_0 : ∀ f, 0 ≤ f → f < 16 → G_D adW aT f := ab_two (b := 8) (ab_two (b := 4) (ab_two (b := 2) (ab_two (b := 1) (ab_one (gd_a gK_0 gH_0 (by decide +kernel))) (ab_one (gd_a gK_1 gH_1 (by decide +kernel)))) (ab_two (b := 3) (ab_one (gd_a gK_2 gH_2 (by decide +kernel))) (ab_one (gd_a gK_3 gH_3 (by decide +kernel))))) (ab_two (b := 6) (ab_two (b := 5) (ab_one (gd_a gK_4 gH_4 (by decide +kernel))) (ab_one (gd_a gK_5 gH_5 (by decide +kernel)))) (ab_two (b := 7) (ab_one (gd_a gK_6 gH_6 (by decide +kernel))) (ab_one (gd_a gK_7 gH_7 (by decide +kernel)))))) (ab_two (b := 12) (ab_two (b := 10) (ab_two (b := 9) (ab_one (gd_a gK_8 gH_8 (by decide +kernel))) (ab_one (gd_a gK_9 gH_9 (by decide +kernel)))) (ab_two (b := 11) (ab_one (gd_a gK_10 gH_10 (by decide +kernel))) (ab_one (gd_a gK_11 gH_11 (by decide +kernel))))) (ab_two (b := 14) (ab_two (b := 13) (ab_one (gd_a gK_12 gH_12 (by decide +kernel))) (ab_one (gd_c gK_13 gH_13 (by decide +kernel)))) (ab_two (b := 15) (ab_one (gd_c gK_14 gH_14 (by decide +kernel))) (ab_one (gd_c gK_15 gH_15 (by decide +kernel))))))
theorem gD_1 : ∀ f, 16 ≤ f → f < 32 → G_D adW aT f := ab_two (b := 24) (ab_two (b := 20) (ab_two (b := 18) (ab_two (b := 17) (ab_one (gd_c gK_16 gH_16 (by decide +kernel))) (ab_one (gd_c gK_17 gH_17 (by decide +kernel)))) (ab_two (b := 19) (ab_one (gd_c gK_18 gH_18 (by decide +kernel))) (ab_one (gd_c gK_19 gH_19 (by decide +kernel))))) (ab_two (b := 22) (ab_two (b := 21) (ab_one (gd_c gK_20 gH_20 (by decide +kernel))) (ab_one (gd_c gK_21 gH_21 (by decide +kernel)))) (ab_two (b := 23) (ab_one (gd_a gK_22 gH_22 (by decide +kernel))) (ab_one (gd_a gK_23 gH_23 (by decide +kernel)))))) (ab_two (b := 28) (ab_two (b := 26) (ab_two (b := 25) (ab_one (gd_c gK_24 gH_24 (by decide +kernel))) (ab_one (gd_a gK_25 gH_25 (by decide +kernel)))) (ab_two (b := 27) (ab_one (gd_a gK_26 gH_26 (by decide +kernel))) (ab_one (gd_c gK_27 gH_27 (by decide +kernel))))) (ab_two (b := 30) (ab_two (b := 29) (ab_one (gd_c gK_28 gH_28 (by decide +kernel))) (ab_one (gd_c gK_29 gH_29 (by decide +kernel)))) (ab_two (b := 31) (ab_one (gd_a gK_30 gH_30 (by decide +kernel))) (ab_one (gd_c gK_31 gH_31 (by decide +kernel))))))
theorem gD_2 : ∀ f, 32 ≤ f → f < 48 → G_D adW aT f := ab_two (b := 40) (ab_two (b := 36) (ab_two (b := 34) (ab_two (b := 33) (ab_one (gd_c gK_32 gH_32 (by decide +kernel))) (ab_one (gd_c gK_33 gH_33 (by decide +kernel)))) (ab_two (b := 35) (ab_one (gd_c gK_34 gH_34 (by decide +kernel))) (ab_one (gd_a gK_35 gH_35 (by decide +kernel))))) (ab_two (b := 38) (ab_two (b := 37) (ab_one (gd_a gK_36 gH_36 (by decide +kernel))) (ab_one (gd_a gK_37 gH_37 (by decide +kernel)))) (ab_two (b := 39) (ab_one (gd_a gK_38 gH_38 (by decide +kernel))) (ab_one (gd_a gK_39 gH_39 (by decide +kernel)))))) (ab_two (b := 44) (ab_two (b := 42) (ab_two (b := 41) (ab_one (gd_a gK_40 gH_40 (by decide +kernel))) (ab_one (gd_a gK_41 gH_41 (by decide +kernel)))) (ab_two (b := 43) (ab_one (gd_a gK_42 gH_42 (by decide +kernel))) (ab_one (gd_c gK_43 gH_43 (by decide +kernel))))) (ab_two (b := 46) (ab_two (b := 45) (ab_one (gd_a gK_44 gH_44 (by decide +kernel))) (ab_one (gd_a gK_45 gH_45 (by decide +kernel)))) (ab_two (b := 47) (ab_one (gd_a gK_46 gH_46 (by decide +kernel))) (ab_one (gd_a gK_47 gH_47 (by decide +kernel))))))
theorem gD_3 : ∀ f, 48 ≤ f → f < 64 → G_D adW aT f := ab_two (b := 56) (ab_two (b := 52) (ab_two (b := 50) (ab_two (b := 49) (ab_one (gd_a gK_48 gH_48 (by decide +kernel))) (ab_one (gd_a gK_49 gH_49 (by decide +kernel)))) (ab_two (b := 51) (ab_one (gd_a gK_50 gH_50 (by decide +kernel))) (ab_one (gd_a gK_51 gH_51 (by decide +kernel))))) (ab_two (b := 54) (ab_two (b := 53) (ab_one (gd_a gK_52 gH_52 (by decide +kernel))) (ab_one (gd_a gK_53 gH_53 (by decide +kernel)))) (ab_two (b := 55) (ab_one (gd_a gK_54 gH_54 (by decide +kernel))) (ab_one (gd_a gK_55 gH_55 (by decide +kernel)))))) (ab_two (b := 60) (ab_two (b := 58) (ab_two (b := 57) (ab_one (gd_a gK_56 gH_56 (by decide +kernel))) (ab_one (gd_a gK_57 gH_57 (by decide +kernel)))) (ab_two (b := 59) (ab_one (gd_a gK_58 gH_58 (by decide +kernel))) (ab_one (gd_a gK_59 gH_59 (by decide +kernel))))) (ab_two (b := 62) (ab_two (b := 61) (ab_one (gd_a gK_60 gH_60 (by decide +kernel))) (ab_one (gd_a gK_61 gH_61 (by decide +kernel)))) (ab_two (b := 63) (ab_one (gd_a gK_62 gH_62 (by decide +kernel))) (ab_one (gd_a gK_63 gH_63 (by decide +kernel))))))
theorem gD_4 : ∀ f, 64 ≤ f → f < 80 → G_D adW aT f := ab_two (b := 72) (ab_two (b := 68) (ab_two (b := 66) (ab_two (b := 65) (ab_one (gd_a gK_64 gH_64 (by decide +kernel))) (ab_one (gd_a gK_65 gH_65 (by decide +kernel)))) (ab_two (b := 67) (ab_one (gd_a gK_66 gH_66 (by decide +kernel))) (ab_one (gd_a gK_67 gH_67 (by decide +kernel))))) (ab_two (b := 70) (ab_two (b := 69) (ab_one (gd_a gK_68 gH_68 (by decide +kernel))) (ab_one (gd_a gK_69 gH_69 (by decide +kernel)))) (ab_two (b := 71) (ab_one (gd_a gK_70 gH_70 (by decide +kernel))) (ab_one (gd_a gK_71 gH_71 (by decide +kernel)))))) (ab_two (b := 76) (ab_two (b := 74) (ab_two (b := 73) (ab_one (gd_a gK_72 gH_72 (by decide +kernel))) (ab_one (gd_a gK_73 gH_73 (by decide +kernel)))) (ab_two (b := 75) (ab_one (gd_a gK_74 gH_74 (by decide +kernel))) (ab_one (gd_a gK_75 gH_75 (by decide +kernel))))) (ab_two (b := 78) (ab_two (b := 77) (ab_one (gd_a gK_76 gH_76 (by decide +kernel))) (ab_one (gd_a gK_77 gH_77 (by decide +kernel)))) (ab_two (b := 79) (ab_one (gd_a gK_78 gH_78 (by decide +kernel))) (ab_one (gd_a gK_79 gH_79 (by decide +kernel))))))
theorem gD_5 : ∀ f, 80 ≤ f → f < 96 → G_D adW aT f := ab_two (b := 88) (ab_two (b := 84) (ab_two (b := 82) (ab_two (b := 81) (ab_one (gd_a gK_80 gH_80 (by decide +kernel))) (ab_one (gd_a gK_81 gH_81 (by decide +kernel)))) (ab_two (b := 83) (ab_one (gd_a gK_82 gH_82 (by decide +kernel))) (ab_one (gd_a gK_83 gH_83 (by decide +kernel))))) (ab_two (b := 86) (ab_two (b := 85) (ab_one (gd_a gK_84 gH_84 (by decide +kernel))) (ab_one (gd_a gK_85 gH_85 (by decide +kernel)))) (ab_two (b := 87) (ab_one (gd_a gK_86 gH_86 (by decide +kernel))) (ab_one (gd_a gK_87 gH_87 (by decide +kernel)))))) (ab_two (b := 92) (ab_two (b := 90) (ab_two (b := 89) (ab_one (gd_a gK_88 gH_88 (by decide +kernel))) (ab_one (gd_a gK_89 gH_89 (by decide +kernel)))) (ab_two (b := 91) (ab_one (gd_a gK_90 gH_90 (by decide +kernel))) (ab_one (gd_a gK_91 gH_91 (by decide +kernel))))) (ab_two (b := 94) (ab_two (b := 93) (ab_one (gd_a gK_92 gH_92 (by decide +kernel))) (ab_one (gd_a gK_93 gH_93 (by decide +kernel)))) (ab_two (b := 95) (ab_one (gd_a gK_94 gH_94 (by decide +kernel))) (ab_one (gd_a gK_95 gH_95 (by decide +kernel))))))
theorem gD_6 : ∀ f, 96 ≤ f → f < 112 → G_D adW aT f := ab_two (b := 104) (ab_two (b := 100) (ab_two (b := 98) (ab_two (b := 97) (ab_one (gd_a gK_96 gH_96 (by decide +kernel))) (ab_one (gd_a gK_97 gH_97 (by decide +kernel)))) (ab_two (b := 99) (ab_one (gd_a gK_98 gH_98 (by decide +kernel))) (ab_one (gd_a gK_99 gH_99 (by decide +kernel))))) (ab_two (b := 102) (ab_two (b := 101) (ab_one (gd_a gK_100 gH_100 (by decide +kernel))) (ab_one (gd_a gK_101 gH_101 (by decide +kernel)))) (ab_two (b := 103) (ab_one (gd_a gK_102 gH_102 (by decide +kernel))) (ab_one (gd_a gK_103 gH_103 (by decide +kernel)))))) (ab_two (b := 108) (ab_two (b := 106) (ab_two (b := 105) (ab_one (gd_a gK_104 gH_104 (by decide +kernel))) (ab_one (gd_a gK_105 gH_105 (by decide +kernel)))) (ab_two (b := 107) (ab_one (gd_a gK_106 gH_106 (by decide +kernel))) (ab_one (gd_a gK_107 gH_107 (by decide +kernel))))) (ab_two (b := 110) (ab_two (b := 109) (ab_one (gd_a gK_108 gH_108 (by decide +kernel))) (ab_one (gd_a gK_109 gH_109 (by decide +kernel)))) (ab_two (b := 111) (ab_one (gd_a gK_110 gH_110 (by decide +kernel))) (ab_one (gd_a gK_111 gH_111 (by decide +kernel))))))
theorem gD_7 : ∀ f, 112 ≤ f → f < 128 → G_D adW aT f := ab_two (b := 120) (ab_two (b := 116) (ab_two (b := 114) (ab_two (b := 113) (ab_one (gd_a gK_112 gH_112 (by decide +kernel))) (ab_one (gd_a gK_113 gH_113 (by decide +kernel)))) (ab_two (b := 115) (ab_one (gd_a gK_114 gH_114 (by decide +kernel))) (ab_one (gd_a gK_115 gH_115 (by decide +kernel))))) (ab_two (b := 118) (ab_two (b := 117) (ab_one (gd_a gK_116 gH_116 (by decide +kernel))) (ab_one (gd_a gK_117 gH_117 (by decide +kernel)))) (ab_two (b := 119) (ab_one (gd_a gK_118 gH_118 (by decide +kernel))) (ab_one (gd_a gK_119 gH_119 (by decide +kernel)))))) (ab_two (b := 124) (ab_two (b := 122) (ab_two (b := 121) (ab_one (gd_a gK_120 gH_120 (by decide +kernel))) (ab_one (gd_a gK_121 gH_121 (by decide +kernel)))) (ab_two (b := 123) (ab_one (gd_a gK_122 gH_122 (by decide +kernel))) (ab_one (gd_a gK_123 gH_123 (by decide +kernel))))) (ab_two (b := 126) (ab_two (b := 125) (ab_one (gd_a gK_124 gH_124 (by decide +kernel))) (ab_one (gd_a gK_125 gH_125 (by decide +kernel)))) (ab_two (b := 127) (ab_one (gd_a gK_126 gH_126 (by decide +kernel))) (ab_one (gd_a gK_127 gH_127 (by decide +kernel))))))
theorem gD_8 : ∀ f, 128 ≤ f → f < 144 → G_D adW aT f := ab_two (b := 136) (ab_two (b := 132) (ab_two (b := 130) (ab_two (b := 129) (ab_one (gd_a gK_128 gH_128 (by decide +kernel))) (ab_one (gd_a gK_129 gH_129 (by decide +kernel)))) (ab_two (b := 131) (ab_one (gd_a gK_130 gH_130 (by decide +kernel))) (ab_one (gd_a gK_131 gH_131 (by decide +kernel))))) (ab_two (b := 134) (ab_two (b := 133) (ab_one (gd_a gK_132 gH_132 (by decide +kernel))) (ab_one (gd_a gK_133 gH_133 (by decide +kernel)))) (ab_two (b := 135) (ab_one (gd_a gK_134 gH_134 (by decide +kernel))) (ab_one (gd_a gK_135 gH_135 (by decide +kernel)))))) (ab_two (b := 140) (ab_two (b := 138) (ab_two (b := 137) (ab_one (gd_a gK_136 gH_136 (by decide +kernel))) (ab_one (gd_a gK_137 gH_137 (by decide +kernel)))) (ab_two (b := 139) (ab_one (gd_a gK_138 gH_138 (by decide +kernel))) (ab_one (gd_a gK_139 gH_139 (by decide +kernel))))) (ab_two (b := 142) (ab_two (b := 141) (ab_one (gd_a gK_140 gH_140 (by decide +kernel))) (ab_one (gd_a gK_141 gH_141 (by decide +kernel)))) (ab_two (b := 143) (ab_one (gd_a gK_142 gH_142 (by decide +kernel))) (ab_one (gd_a gK_143 gH_143 (by decide +kernel))))))
theorem gD_9 : ∀ f, 144 ≤ f → f < 160 → G_D adW aT f := ab_two (b := 152) (ab_two (b := 148) (ab_two (b := 146) (ab_two (b := 145) (ab_one (gd_a gK_144 gH_144 (by decide +kernel))) (ab_one (gd_a gK_145 gH_145 (by decide +kernel)))) (ab_two (b := 147) (ab_one (gd_a gK_146 gH_146 (by decide +kernel))) (ab_one (gd_a gK_147 gH_147 (by decide +kernel))))) (ab_two (b := 150) (ab_two (b := 149) (ab_one (gd_a gK_148 gH_148 (by decide +kernel))) (ab_one (gd_a gK_149 gH_149 (by decide +kernel)))) (ab_two (b := 151) (ab_one (gd_a gK_150 gH_150 (by decide +kernel))) (ab_one (gd_a gK_151 gH_151 (by decide +kernel)))))) (ab_two (b := 156) (ab_two (b := 154) (ab_two (b := 153) (ab_one (gd_a gK_152 gH_152 (by decide +kernel))) (ab_one (gd_a gK_153 gH_153 (by decide +kernel)))) (ab_two (b := 155) (ab_one (gd_a gK_154 gH_154 (by decide +kernel))) (ab_one (gd_a gK_155 gH_155 (by decide +kernel))))) (ab_two (b := 158) (ab_two (b := 157) (ab_one (gd_a gK_156 gH_156 (by decide +kernel))) (ab_one (gd_a gK_157 gH_157 (by decide +kernel)))) (ab_two (b := 159) (ab_one (gd_a gK_158 gH_158 (by decide +kernel))) (ab_one (gd_a gK_159 gH_159 (by decide +kernel))))))
theorem gD_10 : ∀ f, 160 ≤ f → f < 176 → G_D adW aT f := ab_two (b := 168) (ab_two (b := 164) (ab_two (b := 162) (ab_two (b := 161) (ab_one (gd_a gK_160 gH_160 (by decide +kernel))) (ab_one (gd_a gK_161 gH_161 (by decide +kernel)))) (ab_two (b := 163) (ab_one (gd_a gK_162 gH_162 (by decide +kernel))) (ab_one (gd_a gK_163 gH_163 (by decide +kernel))))) (ab_two (b := 166) (ab_two (b := 165) (ab_one (gd_a gK_164 gH_164 (by decide +kernel))) (ab_one (gd_a gK_165 gH_165 (by decide +kernel)))) (ab_two (b := 167) (ab_one (gd_a gK_166 gH_166 (by decide +kernel))) (ab_one (gd_a gK_167 gH_167 (by decide +kernel)))))) (ab_two (b := 172) (ab_two (b := 170) (ab_two (b := 169) (ab_one (gd_a gK_168 gH_168 (by decide +kernel))) (ab_one (gd_a gK_169 gH_169 (by decide +kernel)))) (ab_two (b := 171) (ab_one (gd_a gK_170 gH_170 (by decide +kernel))) (ab_one (gd_a gK_171 gH_171 (by decide +kernel))))) (ab_two (b := 174) (ab_two (b := 173) (ab_one (gd_a gK_172 gH_172 (by decide +kernel))) (ab_one (gd_a gK_173 gH_173 (by decide +kernel)))) (ab_two (b := 175) (ab_one (gd_a gK_174 gH_174 (by decide +kernel))) (ab_one (gd_a gK_175 gH_175 (by decide +kernel))))))
theorem gD_11 : ∀ f, 176 ≤ f → f < 192 → G_D adW aT f := ab_two (b := 184) (ab_two (b := 180) (ab_two (b := 178) (ab_two (b := 177) (ab_one (gd_a gK_176 gH_176 (by decide +kernel))) (ab_one (gd_a gK_177 gH_177 (by decide +kernel)))) (ab_two (b := 179) (ab_one (gd_a gK_178 gH_178 (by decide +kernel))) (ab_one (gd_a gK_179 gH_179 (by decide +kernel))))) (ab_two (b := 182) (ab_two (b := 181) (ab_one (gd_a gK_180 gH_180 (by decide +kernel))) (ab_one (gd_a gK_181 gH_181 (by decide +kernel)))) (ab_two (b := 183) (ab_one (gd_a gK_182 gH_182 (by decide +kernel))) (ab_one (gd_a gK_183 gH_183 (by decide +kernel)))))) (ab_two (b := 188) (ab_two (b := 186) (ab_two (b := 185) (ab_one (gd_a gK_184 gH_184 (by decide +kernel))) (ab_one (gd_a gK_185 gH_185 (by decide +kernel)))) (ab_two (b := 187) (ab_one (gd_a gK_186 gH_186 (by decide +kernel))) (ab_one (gd_a gK_187 gH_187 (by decide +kernel))))) (ab_two (b := 190) (ab_two (b := 189) (ab_one (gd_a gK_188 gH_188 (by decide +kernel))) (ab_one (gd_a gK_189 gH_189 (by decide +kernel)))) (ab_two (b := 191) (ab_one (gd_a gK_190 gH_190 (by decide +kernel))) (ab_one (gd_a gK_191 gH_191 (by decide +kernel))))))
theorem gD_12 : ∀ f, 192 ≤ f → f < 208 → G_D adW aT f := ab_two (b := 200) (ab_two (b := 196) (ab_two (b := 194) (ab_two (b := 193) (ab_one (gd_a gK_192 gH_192 (by decide +kernel))) (ab_one (gd_a gK_193 gH_193 (by decide +kernel)))) (ab_two (b := 195) (ab_one (gd_a gK_194 gH_194 (by decide +kernel))) (ab_one (gd_a gK_195 gH_195 (by decide +kernel))))) (ab_two (b := 198) (ab_two (b := 197) (ab_one (gd_a gK_196 gH_196 (by decide +kernel))) (ab_one (gd_a gK_197 gH_197 (by decide +kernel)))) (ab_two (b := 199) (ab_one (gd_a gK_198 gH_198 (by decide +kernel))) (ab_one (gd_a gK_199 gH_199 (by decide +kernel)))))) (ab_two (b := 204) (ab_two (b := 202) (ab_two (b := 201) (ab_one (gd_a gK_200 gH_200 (by decide +kernel))) (ab_one (gd_a gK_201 gH_201 (by decide +kernel)))) (ab_two (b := 203) (ab_one (gd_a gK_202 gH_202 (by decide +kernel))) (ab_one (gd_a gK_203 gH_203 (by decide +kernel))))) (ab_two (b := 206) (ab_two (b := 205) (ab_one (gd_a gK_204 gH_204 (by decide +kernel))) (ab_one (gd_a gK_205 gH_205 (by decide +kernel)))) (ab_two (b := 207) (ab_one (gd_a gK_206 gH_206 (by decide +kernel))) (ab_one (gd_a gK_207 gH_207 (by decide +kernel))))))
theorem gD_13 : ∀ f, 208 ≤ f → f < 224 → G_D adW aT f := ab_two (b := 216) (ab_two (b := 212) (ab_two (b := 210) (ab_two (b := 209) (ab_one (gd_a gK_208 gH_208 (by decide +kernel))) (ab_one (gd_a gK_209 gH_209 (by decide +kernel)))) (ab_two (b := 211) (ab_one (gd_a gK_210 gH_210 (by decide +kernel))) (ab_one (gd_a gK_211 gH_211 (by decide +kernel))))) (ab_two (b := 214) (ab_two (b := 213) (ab_one (gd_a gK_212 gH_212 (by decide +kernel))) (ab_one (gd_a gK_213 gH_213 (by decide +kernel)))) (ab_two (b := 215) (ab_one (gd_a gK_214 gH_214 (by decide +kernel))) (ab_one (gd_a gK_215 gH_215 (by decide +kernel)))))) (ab_two (b := 220) (ab_two (b := 218) (ab_two (b := 217) (ab_one (gd_a gK_216 gH_216 (by decide +kernel))) (ab_one (gd_a gK_217 gH_217 (by decide +kernel)))) (ab_two (b := 219) (ab_one (gd_a gK_218 gH_218 (by decide +kernel))) (ab_one (gd_a gK_219 gH_219 (by decide +kernel))))) (ab_two (b := 222) (ab_two (b := 221) (ab_one (gd_a gK_220 gH_220 (by decide +kernel))) (ab_one (gd_a gK_221 gH_221 (by decide +kernel)))) (ab_two (b := 223) (ab_one (gd_a gK_222 gH_222 (by decide +kernel))) (ab_one (gd_a gK_223 gH_223 (by decide +kernel))))))
theorem gD_14 : ∀ f, 224 ≤ f → f < 240 → G_D adW aT f := ab_two (b := 232) (ab_two (b := 228) (ab_two (b := 226) (ab_two (b := 225) (ab_one (gd_a gK_224 gH_224 (by decide +kernel))) (ab_one (gd_a gK_225 gH_225 (by decide +kernel)))) (ab_two (b := 227) (ab_one (gd_a gK_226 gH_226 (by decide +kernel))) (ab_one (gd_a gK_227 gH_227 (by decide +kernel))))) (ab_two (b := 230) (ab_two (b := 229) (ab_one (gd_a gK_228 gH_228 (by decide +kernel))) (ab_one (gd_a gK_229 gH_229 (by decide +kernel)))) (ab_two (b := 231) (ab_one (gd_a gK_230 gH_230 (by decide +kernel))) (ab_one (gd_a gK_231 gH_231 (by decide +kernel)))))) (ab_two (b := 236) (ab_two (b := 234) (ab_two (b := 233) (ab_one (gd_a gK_232 gH_232 (by decide +kernel))) (ab_one (gd_a gK_233 gH_233 (by decide +kernel)))) (ab_two (b := 235) (ab_one (gd_a gK_234 gH_234 (by decide +kernel))) (ab_one (gd_a gK_235 gH_235 (by decide +kernel))))) (ab_two (b := 238) (ab_two (b := 237) (ab_one (gd_a gK_236 gH_236 (by decide +kernel))) (ab_one (gd_a gK_237 gH_237 (by decide +kernel)))) (ab_two (b := 239) (ab_one (gd_a gK_238 gH_238 (by decide +kernel))) (ab_one (gd_a gK_239 gH_239 (by decide +kernel))))))
theorem gD_15 : ∀ f, 240 ≤ f → f < 256 → G_D adW aT f := ab_two (b := 248) (ab_two (b := 244) (ab_two (b := 242) (ab_two (b := 241) (ab_one (gd_a gK_240 gH_240 (by decide +kernel))) (ab_one (gd_a gK_241 gH_241 (by decide +kernel)))) (ab_two (b := 243) (ab_one (gd_a gK_242 gH_242 (by decide +kernel))) (ab_one (gd_a gK_243 gH_243 (by decide +kernel))))) (ab_two (b := 246) (ab_two (b := 245) (ab_one (gd_a gK_244 gH_244 (by decide +kernel))) (ab_one (gd_a gK_245 gH_245 (by decide +kernel)))) (ab_two (b := 247) (ab_one (gd_a gK_246 gH_246 (by decide +kernel))) (ab_one (gd_a gK_247 gH_247 (by decide +kernel)))))) (ab_two (b := 252) (ab_two (b := 250) (ab_two (b := 249) (ab_one (gd_a gK_248 gH_248 (by decide +kernel))) (ab_one (gd_a gK_249 gH_249 (by decide +kernel)))) (ab_two (b := 251) (ab_one (gd_a gK_250 gH_250 (by decide +kernel))) (ab_one (gd_a gK_251 gH_251 (by decide +kernel))))) (ab_two (b := 254) (ab_two (b := 253) (ab_one (gd_a gK_252 gH_252 (by decide +kernel))) (ab_one (gd_a gK_253 gH_253 (by decide +kernel)))) (ab_two (b := 255) (ab_one (gd_a gK_254 gH_254 (by decide +kernel))) (ab_one (gd_a gK_255 gH_255 (by decide +kernel))))))
theorem gD_16 : ∀ f, 256 ≤ f → f < 272 → G_D adW aT f := ab_two (b := 264) (ab_two (b := 260) (ab_two (b := 258) (ab_two (b := 257) (ab_one (gd_a gK_256 gH_256 (by decide +kernel))) (ab_one (gd_a gK_257 gH_257 (by decide +kernel)))) (ab_two (b := 259) (ab_one (gd_a gK_258 gH_258 (by decide +kernel))) (ab_one (gd_a gK_259 gH_259 (by decide +kernel))))) (ab_two (b := 262) (ab_two (b := 261) (ab_one (gd_a gK_260 gH_260 (by decide +kernel))) (ab_one (gd_a gK_261 gH_261 (by decide +kernel)))) (ab_two (b := 263) (ab_one (gd_a gK_262 gH_262 (by decide +kernel))) (ab_one (gd_a gK_263 gH_263 (by decide +kernel)))))) (ab_two (b := 268) (ab_two (b := 266) (ab_two (b := 265) (ab_one (gd_a gK_264 gH_264 (by decide +kernel))) (ab_one (gd_a gK_265 gH_265 (by decide +kernel)))) (ab_two (b := 267) (ab_one (gd_a gK_266 gH_266 (by decide +kernel))) (ab_one (gd_a gK_267 gH_267 (by decide +kernel))))) (ab_two (b := 270) (ab_two (b := 269) (ab_one (gd_a gK_268 gH_268 (by decide +kernel))) (ab_one (gd_a gK_269 gH_269 (by decide +kernel)))) (ab_two (b := 271) (ab_one (gd_a gK_270 gH_270 (by decide +kernel))) (ab_one (gd_a gK_271 gH_271 (by decide +kernel))))))
theorem gD_17 : ∀ f, 272 ≤ f → f < 288 → G_D adW aT f := ab_two (b := 280) (ab_two (b := 276) (ab_two (b := 274) (ab_two (b := 273) (ab_one (gd_a gK_272 gH_272 (by decide +kernel))) (ab_one (gd_a gK_273 gH_273 (by decide +kernel)))) (ab_two (b := 275) (ab_one (gd_a gK_274 gH_274 (by decide +kernel))) (ab_one (gd_a gK_275 gH_275 (by decide +kernel))))) (ab_two (b := 278) (ab_two (b := 277) (ab_one (gd_a gK_276 gH_276 (by decide +kernel))) (ab_one (gd_a gK_277 gH_277 (by decide +kernel)))) (ab_two (b := 279) (ab_one (gd_a gK_278 gH_278 (by decide +kernel))) (ab_one (gd_a gK_279 gH_279 (by decide +kernel)))))) (ab_two (b := 284) (ab_two (b := 282) (ab_two (b := 281) (ab_one (gd_a gK_280 gH_280 (by decide +kernel))) (ab_one (gd_a gK_281 gH_281 (by decide +kernel)))) (ab_two (b := 283) (ab_one (gd_a gK_282 gH_282 (by decide +kernel))) (ab_one (gd_a gK_283 gH_283 (by decide +kernel))))) (ab_two (b := 286) (ab_two (b := 285) (ab_one (gd_a gK_284 gH_284 (by decide +kernel))) (ab_one (gd_a gK_285 gH_285 (by decide +kernel)))) (ab_two (b := 287) (ab_one (gd_a gK_286 gH_286 (by decide +kernel))) (ab_one (gd_a gK_287 gH_287 (by decide +kernel))))))
theorem gD_18 : ∀ f, 288 ≤ f → f < 304 → G_D adW aT f := ab_two (b := 296) (ab_two (b := 292) (ab_two (b := 290) (ab_two (b := 289) (ab_one (gd_a gK_288 gH_288 (by decide +kernel))) (ab_one (gd_a gK_289 gH_289 (by decide +kernel)))) (ab_two (b := 291) (ab_one (gd_a gK_290 gH_290 (by decide +kernel))) (ab_one (gd_a gK_291 gH_291 (by decide +kernel))))) (ab_two (b := 294) (ab_two (b := 293) (ab_one (gd_a gK_292 gH_292 (by decide +kernel))) (ab_one (gd_a gK_293 gH_293 (by decide +kernel)))) (ab_two (b := 295) (ab_one (gd_a gK_294 gH_294 (by decide +kernel))) (ab_one (gd_a gK_295 gH_295 (by decide +kernel)))))) (ab_two (b := 300) (ab_two (b := 298) (ab_two (b := 297) (ab_one (gd_a gK_296 gH_296 (by decide +kernel))) (ab_one (gd_a gK_297 gH_297 (by decide +kernel)))) (ab_two (b := 299) (ab_one (gd_a gK_298 gH_298 (by decide +kernel))) (ab_one (gd_a gK_299 gH_299 (by decide +kernel))))) (ab_two (b := 302) (ab_two (b := 301) (ab_one (gd_a gK_300 gH_300 (by decide +kernel))) (ab_one (gd_a gK_301 gH_301 (by decide +kernel)))) (ab_two (b := 303) (ab_one (gd_a gK_302 gH_302 (by decide +kernel))) (ab_one (gd_a gK_303 gH_303 (by decide +kernel))))))
theorem gD_19 : ∀ f, 304 ≤ f → f < 320 → G_D adW aT f := ab_two (b := 312) (ab_two (b := 308) (ab_two (b := 306) (ab_two (b := 305) (ab_one (gd_a gK_304 gH_304 (by decide +kernel))) (ab_one (gd_a gK_305 gH_305 (by decide +kernel)))) (ab_two (b := 307) (ab_one (gd_a gK_306 gH_306 (by decide +kernel))) (ab_one (gd_a gK_307 gH_307 (by decide +kernel))))) (ab_two (b := 310) (ab_two (b := 309) (ab_one (gd_a gK_308 gH_308 (by decide +kernel))) (ab_one (gd_a gK_309 gH_309 (by decide +kernel)))) (ab_two (b := 311) (ab_one (gd_a gK_310 gH_310 (by decide +kernel))) (ab_one (gd_a gK_311 gH_311 (by decide +kernel)))))) (ab_two (b := 316) (ab_two (b := 314) (ab_two (b := 313) (ab_one (gd_a gK_312 gH_312 (by decide +kernel))) (ab_one (gd_a gK_313 gH_313 (by decide +kernel)))) (ab_two (b := 315) (ab_one (gd_b gK_314 gH_314 (by decide +kernel))) (ab_one (gd_b gK_315 gH_315 (by decide +kernel))))) (ab_two (b := 318) (ab_two (b := 317) (ab_one (gd_b gK_316 gH_316 (by decide +kernel))) (ab_one (gd_b gK_317 gH_317 (by decide +kernel)))) (ab_two (b := 319) (ab_one (gd_b gK_318 gH_318 (by decide +kernel))) (ab_one (gd_b gK_319 gH_319 (by decide +kernel))))))
theorem gD_20 : ∀ f, 320 ≤ f → f < 336 → G_D adW aT f := ab_two (b := 328) (ab_two (b := 324) (ab_two (b := 322) (ab_two (b := 321) (ab_one (gd_b gK_320 gH_320 (by decide +kernel))) (ab_one (gd_b gK_321 gH_321 (by decide +kernel)))) (ab_two (b := 323) (ab_one (gd_b gK_322 gH_322 (by decide +kernel))) (ab_one (gd_b gK_323 gH_323 (by decide +kernel))))) (ab_two (b := 326) (ab_two (b := 325) (ab_one (gd_b gK_324 gH_324 (by decide +kernel))) (ab_one (gd_b gK_325 gH_325 (by decide +kernel)))) (ab_two (b := 327) (ab_one (gd_b gK_326 gH_326 (by decide +kernel))) (ab_one (gd_b gK_327 gH_327 (by decide +kernel)))))) (ab_two (b := 332) (ab_two (b := 330) (ab_two (b := 329) (ab_one (gd_b gK_328 gH_328 (by decide +kernel))) (ab_one (gd_b gK_329 gH_329 (by decide +kernel)))) (ab_two (b := 331) (ab_one (gd_b gK_330 gH_330 (by decide +kernel))) (ab_one (gd_b gK_331 gH_331 (by decide +kernel))))) (ab_two (b := 334) (ab_two (b := 333) (ab_one (gd_d rfl rfl)) (ab_one (gd_a gK_333 gH_333 (by decide +kernel)))) (ab_two (b := 335) (ab_one (gd_a gK_334 gH_334 (by decide +kernel))) (ab_one (gd_a gK_335 gH_335 (by decide +kernel))))))
theorem gD_21 : ∀ f, 336 ≤ f → f < 352 → G_D adW aT f := ab_two (b := 344) (ab_two (b := 340) (ab_two (b := 338) (ab_two (b := 337) (ab_one (gd_a gK_336 gH_336 (by decide +kernel))) (ab_one (gd_a gK_337 gH_337 (by decide +kernel)))) (ab_two (b := 339) (ab_one (gd_d rfl rfl)) (ab_one (gd_d rfl rfl)))) (ab_two (b := 342) (ab_two (b := 341) (ab_one (gd_d rfl rfl)) (ab_one (gd_d rfl rfl))) (ab_two (b := 343) (ab_one (gd_d rfl rfl)) (ab_one (gd_d rfl rfl))))) (ab_two (b := 348) (ab_two (b := 346) (ab_two (b := 345) (ab_one (gd_d rfl rfl)) (ab_one (gd_d rfl rfl))) (ab_two (b := 347) (ab_one (gd_d rfl rfl)) (ab_one (gd_d rfl rfl)))) (ab_two (b := 350) (ab_two (b := 349) (ab_one (gd_d rfl rfl)) (ab_one (gd_d rfl rfl))) (ab_two (b := 351) (ab_one (gd_d rfl rfl)) (ab_one (gd_d rfl rfl)))))
theorem g_GD : ∀ f, G_D adW aT f := fun f => by
  by_cases h : f < 352
  · exact (ab_two (b := 176) (ab_two (b := 80) (ab_two (b := 32) (ab_two (b := 16) (gD_0) (gD_1)) (ab_two (b := 48) (gD_2) (ab_two (b := 64) (gD_3) (gD_4)))) (ab_two (b := 128) (ab_two (b := 96) (gD_5) (ab_two (b := 112) (gD_6) (gD_7))) (ab_two (b := 144) (gD_8) (ab_two (b := 160) (gD_9) (gD_10))))) (ab_two (b := 256) (ab_two (b := 208) (ab_two (b := 192) (gD_11) (gD_12)) (ab_two (b := 224) (gD_13) (ab_two (b := 240) (gD_14) (gD_15)))) (ab_two (b := 304) (ab_two (b := 272) (gD_16) (ab_two (b := 288) (gD_17) (gD_18))) (ab_two (b := 320) (gD_19) (ab_two (b := 336) (gD_20) (gD_21))))) : ∀ f, 0 ≤ f → f < 352 → G_D adW aT f) f (Nat.zero_le f) h
  · exact gd_z (by omega)
end GDA
end
section
/-! ===== the world at the law's entry (written by wip/tools/world.py) ===== -/
def nflat : List Cond := flatC (Jvm.Cond.and given_1 narrow_1)
def wnm : List String := ["SLOTS", "FEEDER", "CLASS", "LOSS", "PROFILE", "SUPPLIER", "METER", "WITH", "SMEARS", "READ", "MOVE", "TOTAL", "RUN", "INTERVAL", "REGISTER", "FLAT", "EXPORT", "NOT", "AND", "OR", "LOAD", "SLOT", "MANY", "OTHER"]
def wst (i : Nat) : Term := .static "FeederShares$Word" (wnm.getD i "") "LFeederShares$Word;"
def wT : Term := .static "FeederShares" "WORDS" "[LFeederShares$Word;"
def g_cW : Nat → Nat → Int := fun k i => match k with
  | 0 => ([20332179, 206737586, 3540595, 409203, 17799783813, 675937658034, 13815986, 763528, 651331155, 594980, 442053, 21483564, 19118, 324946974764, 624088961202, 208948, 193478228, 14836, 1476, 498, 408612, 635380, 427481, 0] : List Int).getD i 0
  | _ => ([1, 1, 1, 1, 1, 1, 1, 1, 1, 1, 1, 1, 1, 1, 1, 1, 1, 1, 1, 1, 0, 0, 0, 0] : List Int).getD i 0
def nx_ex : List Nat := [37, 42, 48, 55, 63, 72, 82, 147, 163, 303, 327, 352, 378, 93, 105, 118, 132, 180, 258, 280, 198, 217, 237, 33]
def nx_el : List Nat := [9, 10, 11, 12, 13, 14, 15, 16, 17, 18, 19, 20, 21, 22, 23, 24, 25, 26, 27, 28, 29, 30, 31, 32]
def nx_cd : List Nat := [39, 44, 50, 57, 65, 74, 84, 149, 165, 305, 329, 354, 380, 95, 107, 120, 134, 182, 260, 282, 200, 219, 239, 35]
def nx_kp : List Nat := [40, 45, 51, 58, 66, 75, 85, 150, 166, 306, 330, 355, 381, 96, 108, 121, 135, 183, 261, 283, 201, 220, 240, 36]
def nx_ls : List Nat := [3014, 3041, 3056, 3095, 3101, 3113, 3123, 3145, 3156, 4029, 4031, 4033, 4035, 3132, 3134, 3136, 3138, 3172, 3188, 3190, 3174, 3177, 3179, 3012]
def nx_ne : List (List Nat) := [[0, 47, 53, 60, 68, 77, 87, 152, 168, 308, 332, 357, 383, 98, 110, 123, 137, 185, 263, 285, 203, 222, 242, 41],
  [47, 0, 54, 61, 69, 78, 88, 153, 169, 309, 333, 358, 384, 99, 111, 124, 138, 186, 264, 286, 204, 223, 243, 46],
  [53, 54, 0, 62, 70, 79, 89, 154, 170, 310, 334, 359, 385, 100, 112, 125, 139, 187, 265, 287, 205, 224, 244, 52],
  [60, 61, 62, 0, 71, 80, 90, 155, 171, 311, 335, 360, 386, 101, 113, 126, 140, 188, 266, 288, 206, 225, 245, 59],
  [68, 69, 70, 71, 0, 81, 91, 156, 172, 312, 336, 361, 387, 102, 114, 127, 141, 189, 267, 289, 207, 226, 246, 67],
  [77, 78, 79, 80, 81, 0, 92, 157, 173, 313, 337, 362, 388, 103, 115, 128, 142, 190, 268, 290, 208, 227, 247, 76],
  [87, 88, 89, 90, 91, 92, 0, 158, 174, 314, 338, 363, 389, 104, 116, 129, 143, 191, 269, 291, 209, 228, 248, 86],
  [152, 153, 154, 155, 156, 157, 158, 0, 179, 319, 343, 368, 394, 159, 160, 161, 162, 196, 274, 296, 214, 233, 253, 151],
  [168, 169, 170, 171, 172, 173, 174, 179, 0, 320, 344, 369, 395, 175, 176, 177, 178, 197, 275, 297, 215, 234, 254, 167],
  [308, 309, 310, 311, 312, 313, 314, 319, 320, 0, 351, 376, 402, 315, 316, 317, 318, 321, 325, 326, 322, 323, 324, 307],
  [332, 333, 334, 335, 336, 337, 338, 343, 344, 351, 0, 377, 403, 339, 340, 341, 342, 345, 349, 350, 346, 347, 348, 331],
  [357, 358, 359, 360, 361, 362, 363, 368, 369, 376, 377, 0, 404, 364, 365, 366, 367, 370, 374, 375, 371, 372, 373, 356],
  [383, 384, 385, 386, 387, 388, 389, 394, 395, 402, 403, 404, 0, 390, 391, 392, 393, 396, 400, 401, 397, 398, 399, 382],
  [98, 99, 100, 101, 102, 103, 104, 159, 175, 315, 339, 364, 390, 0, 117, 130, 144, 192, 270, 292, 210, 229, 249, 97],
  [110, 111, 112, 113, 114, 115, 116, 160, 176, 316, 340, 365, 391, 117, 0, 131, 145, 193, 271, 293, 211, 230, 250, 109],
  [123, 124, 125, 126, 127, 128, 129, 161, 177, 317, 341, 366, 392, 130, 131, 0, 146, 194, 272, 294, 212, 231, 251, 122],
  [137, 138, 139, 140, 141, 142, 143, 162, 178, 318, 342, 367, 393, 144, 145, 146, 0, 195, 273, 295, 213, 232, 252, 136],
  [185, 186, 187, 188, 189, 190, 191, 196, 197, 321, 345, 370, 396, 192, 193, 194, 195, 0, 276, 298, 216, 235, 255, 184],
  [263, 264, 265, 266, 267, 268, 269, 274, 275, 325, 349, 374, 400, 270, 271, 272, 273, 276, 0, 302, 277, 278, 279, 262],
  [285, 286, 287, 288, 289, 290, 291, 296, 297, 326, 350, 375, 401, 292, 293, 294, 295, 298, 302, 0, 299, 300, 301, 284],
  [203, 204, 205, 206, 207, 208, 209, 214, 215, 322, 346, 371, 397, 210, 211, 212, 213, 216, 277, 299, 0, 236, 256, 202],
  [222, 223, 224, 225, 226, 227, 228, 233, 234, 323, 347, 372, 398, 229, 230, 231, 232, 235, 278, 300, 236, 0, 257, 221],
  [242, 243, 244, 245, 246, 247, 248, 253, 254, 324, 348, 373, 399, 249, 250, 251, 252, 255, 279, 301, 256, 257, 0, 241],
  [41, 46, 52, 59, 67, 76, 86, 151, 167, 307, 331, 356, 382, 97, 109, 122, 136, 184, 262, 284, 202, 221, 241, 0]]
theorem nx_1 : ∀ i, i < 24 → nflat[nx_ex.getD i 0]? = some (.exactly (wst i) "FeederShares$Word") := by decide +kernel
theorem nx_2 : ∀ i, i < 24 → nflat[nx_el.getD i 0]? = some (.eq (.elem wT (.int (Int32.ofNat i))) (wst i)) := by decide +kernel
theorem nx_3 : ∀ i, i < 24 → nflat[nx_cd.getD i 0]? = some (.eq (.field (wst i) "FeederShares$Word" "code" "J") (.long (Int64.ofInt (g_cW 0 i)))) := by decide +kernel
theorem nx_4 : ∀ i, i < 24 → nflat[nx_kp.getD i 0]? = some (.eq (.field (wst i) "FeederShares$Word" "kept" "Z") (.int (Int32.ofInt (g_cW 1 i)))) := by decide +kernel
theorem nx_5 : ∀ i, i < 24 → ∀ j, j < 24 → i ≠ j → nflat[(nx_ne.getD i []).getD j 0]? = some (.not (.eq (wst i) (wst j))) ∨ nflat[(nx_ne.getD i []).getD j 0]? = some (.not (.eq (wst j) (wst i))) := by decide +kernel
theorem nx_6 : ∀ i, i < 24 → tw (.laysStatic "FeederShares$Word" (wnm.getD i "") "LFeederShares$Word;") (nx_ls.getD i 0) = true := by decide +kernel
theorem nx_7 : nflat[6]? = some (.arrayOf wT (.object "FeederShares$Word")) := by decide +kernel
theorem nx_8 : nflat[7]? = some (.eq (.length wT) (.int (Int32.ofNat 24))) := by decide +kernel
theorem nx_9 : nflat[405]? = some (.isRef (.static Bundle.tN "UNASSIGNED_STACK" Bundle.steD)) := by decide +kernel
theorem nx_10 : nflat[406]? = some (.isRef (.static Bundle.tN "SUPPRESSED_SENTINEL" Bundle.listD)) := by decide +kernel
theorem nt_1 : Cond.initialized "FeederShares$Word" ∈ lw_tbl := tw_mem (p := 1013) (by decide +kernel)
theorem nt_2 : Cond.initialized "FeederShares" ∈ lw_tbl := tw_mem (p := 1001) (by decide +kernel)
theorem nt_3 : Cond.initialized Bundle.tN ∈ lw_tbl := tw_mem (p := 1015) (by decide +kernel)
theorem nt_4 : Cond.laysStatic "FeederShares" "WORDS" "[LFeederShares$Word;" ∈ lw_tbl := tw_mem (p := 3010) (by decide +kernel)
theorem nt_5 : Cond.laysStatic Bundle.tN "UNASSIGNED_STACK" Bundle.steD ∈ lw_tbl := tw_mem (p := 5164) (by decide +kernel)
theorem nt_6 : Cond.laysStatic Bundle.tN "SUPPRESSED_SENTINEL" Bundle.listD ∈ lw_tbl := tw_mem (p := 5166) (by decide +kernel)
theorem nt_7 : Cond.arrayClass .int ∈ lw_tbl := tw_mem (p := 1078) (by decide +kernel)
theorem nt_8 : Cond.arrayClass .long ∈ lw_tbl := tw_mem (p := 1143) (by decide +kernel)
theorem nt_9 : Cond.arrayClass .byte ∈ lw_tbl := tw_mem (p := 1067) (by decide +kernel)
theorem nt_10 : Cond.arrayClass .boolean ∈ lw_tbl := tw_mem (p := 7041) (by decide +kernel)
theorem nt_ins : ∀ (k : Nat) (q : vw_C), g_cl[k]? = some q → Cond.instantiable q.1 q.2.2 ∈ lw_tbl
  | 0, _, h => by cases h; exact tw_mem (p := 1021) (by decide +kernel)
  | 1, _, h => by cases h; exact tw_mem (p := 1117) (by decide +kernel)
  | 2, _, h => by cases h; exact tw_mem (p := 2002) (by decide +kernel)
  | 3, _, h => by cases h; exact tw_mem (p := 1212) (by decide +kernel)
  | 4, _, h => by cases h; exact tw_mem (p := 2058) (by decide +kernel)
  | 5, _, h => by cases h; exact tw_mem (p := 1109) (by decide +kernel)
  | 6, _, h => by cases h; exact tw_mem (p := 1029) (by decide +kernel)
  | 7, _, h => by cases h; exact tw_mem (p := 1069) (by decide +kernel)
  | 8, _, h => by cases h; exact tw_mem (p := 2074) (by decide +kernel)
  | 9, _, h => by cases h; exact tw_mem (p := 1035) (by decide +kernel)
  | 10, _, h => by cases h; exact tw_mem (p := 6140) (by decide +kernel)
  | k + 11, _, h => by cases h
theorem nt_cW : ∀ k, k < 24 → InL (g_cW 0 k) ∧ InI (g_cW 1 k) := by
  unfold InL InI
  decide +kernel
theorem g_world {s : State} {b L : Nat} {xs : Nat → Int32} (hts : ∀ w ∈ lw_tbl, w.before #[Value.ref b] s = true) (hX : va_X b L xs s s.heap) (hbl : b < s.heap.size) (hL : L < 2147483648) (hgv : (Jvm.Cond.and given_1 narrow_1).before #[Value.ref b] s = true) :
    ∃ (D : va_G) (cA : Nat → ClassId) (adW : Nat → Nat) (aT : Nat), va_K D g_cl (w_tys cA) s ∧ SF (g_Zs g_wn adW aT) adW aT b g_cW (fun j => (xs j).toInt) L (fun q => s.heap.size ≤ q) s s.heap ∧ ∀ i j : Nat, i < 24 → j < 24 → adW i = adW j → i = j := by
  have hN : ∀ (i : Nat) (w : Cond), nflat[i]? = some w → w.before #[Value.ref b] s = true := fun i w h => flat_of_before _ hgv _ (List.mem_of_getElem? h)
  have hA : ∀ a : Nat, a < s.heap.size → ¬ (fun q : Nat => s.heap.size ≤ q) a := fun a h => Nat.not_le.mpr h
  obtain ⟨adW, hEn, hev⟩ := va_Enof2 (args := #[Value.ref b]) (s := s) (E := "FeederShares$Word") (d := "LFeederShares$Word;") (nm := wnm) (F := []) (A := fun q => s.heap.size ≤ q)
    (fun i hi => hts _ (tw_mem (nx_6 i hi))) (hts _ nt_1) (fun i hi => hN _ _ (nx_1 i hi)) (fun q hq => absurd hq List.not_mem_nil) (fun i j hi hj hij => (nx_5 i hi j hj hij).imp (hN _ _) (hN _ _)) hA
  obtain ⟨aT, hT1, hT2⟩ := va_Tof (args := #[Value.ref b]) (s := s) (tm := wT) (ty := .object "FeederShares$Word") (N := 24) (f := fun j => .ref (adW j)) (A := fun q => s.heap.size ≤ q) (by decide) (hN _ _ nx_7) (va_eqt (hN _ _ nx_8)) (fun j hj => va_eqv (hN _ _ (nx_2 j hj)) (hev j hj)) hA
  have hc : ∀ k : Nat, ∃ p : ClassId × (Nat → Nat), ∀ q : vw_C, g_cl[k]? = some q → u_Kn s q.1 q.2.1 q.2.2 p.1 p.2 := fun k => by
    cases hq : g_cl[k]? with
    | none => exact ⟨(0, fun _ => 0), fun q h => by cases h⟩
    | some q =>
      obtain ⟨C, T, N⟩ := q
      obtain ⟨c1, i1, h1⟩ := u_known (ws := lw_tbl) (C := C) (T := T) (N := N) (n := N) hts (fun w hw => nic_sub ((g_CF k C T N hq).1 w hw)) (hts _ (nt_ins k _ hq))
      exact ⟨(c1, i1), fun q h => by cases h; exact h1⟩
  obtain ⟨dp, hdp⟩ := Classical.axiomOfChoice hc
  have ha : ∀ ty : FieldType, Cond.arrayClass ty ∈ lw_tbl → (∀ n, ty ≠ .object n) → ∃ cA : ClassId, ArrOfT s cA ty ∧ va_RA s cA ty := fun ty hm hne => by
    obtain ⟨cA, kA, comp, hf, hk, hkind⟩ := Cond.arrayClass_spec (hts _ hm)
    refine ⟨cA, fun n z => ⟨fun k h => (by cases h), kA, hk, comp, hkind⟩, ?_⟩
    unfold va_RA
    split
    · exact absurd rfl (hne _)
    · exact hf
  obtain ⟨a6, h6⟩ := ha .int nt_7 (fun n h => by cases h)
  obtain ⟨a7, h7⟩ := ha .long nt_8 (fun n h => by cases h)
  obtain ⟨a8, h8⟩ := ha .byte nt_9 (fun n h => by cases h)
  obtain ⟨a9, h9⟩ := ha .boolean nt_10 (fun n h => by cases h)
  refine ⟨(fun k => (dp k).1, fun k => (dp k).2), fun k => match k with
    | 6 => a6
    | 7 => a7
    | 8 => a8
    | _ => a9, adW, aT, ⟨fun k q hq => hdp k q hq, fun k q hq => ?_⟩, ?_, fun i j hi hj h => hEn.2 i j hi hj h⟩
  · match k, hq with
    | 0, hq => cases hq; exact h6
    | 1, hq => cases hq; exact h7
    | 2, hq => cases hq; exact h8
    | 3, hq => cases hq; exact h9
    | k + 4, hq => cases hq
  · refine ⟨?_, hT2, ?_, ?_, nt_cW, ?_, hA b hbl, hbl, hL, fun j => in_i32 _, vx_Zqof (hts _ nt_5) (hts _ nt_3) (hN _ _ nx_9) hA, vx_Zqof (hts _ nt_6) (hts _ nt_3) (hN _ _ nx_10) hA⟩
    · intro C n d v hz
      rcases hz with ⟨rfl, rfl, rfl, rfl⟩ | ⟨k, hk, rfl, rfl, rfl, rfl⟩
      · exact va_Zref (hts _ nt_4) (hts _ nt_2) hT1 hA
      · exact (hEn.1 k hk).1
    · exact va_Efof (nm := wnm) (tm := fun i => .long (Int64.ofInt (g_cW 0 i))) (fun i hi => hev i hi) (fun i hi => hN _ _ (nx_3 i hi)) (fun i hi => rfl) hA
    · exact va_Efof (nm := wnm) (tm := fun i => .int (Int32.ofInt (g_cW 1 i))) (fun i hi => hev i hi) (fun i hi => hN _ _ (nx_4 i hi)) (fun i hi => rfl) hA
    · have e : (fun j => Int32.ofInt ((xs j).toInt)) = xs := funext fun j => Int32.ofInt_toInt _
      rw [e]
      exact hX
theorem na_7 : Cond.arrayClass .int ∈ lw_nic := List.mem_filter.mpr ⟨nt_7, by decide +kernel⟩
theorem na_8 : Cond.arrayClass .long ∈ lw_nic := List.mem_filter.mpr ⟨nt_8, by decide +kernel⟩
theorem na_9 : Cond.arrayClass .byte ∈ lw_nic := List.mem_filter.mpr ⟨nt_9, by decide +kernel⟩
theorem na_10 : Cond.arrayClass .boolean ∈ lw_nic := List.mem_filter.mpr ⟨nt_10, by decide +kernel⟩
end
section
/-! ===== the law's own instructions (written by wip/tools/lawpart.py) ===== -/
noncomputable def g_ld : List (List XIn) := f_grp 256 0 (f_walk code 4096 code.data.toList 0)
theorem g_lawK : (chS (f_tab g_ld) (q_lk lk_11) (m_P g_M) (m_R g_M) g_THR (q_lk pn_11) [1] true (fun _ => none) bb_332 [5, 0, 0, 0, 0, 0, 0] [] [] 0).map (fun r => r.2.2) = some (false, [], []) := by decide +kernel
end
section
/-! ===== the law's walk: what its tree answers is what it answers (written by wip/tools/lawpart.py) ===== -/
def R_law : String := "FeederSharesLaw"
def lw_P (b : Addr) (xs : List Int32) (args : Array Value) (s : State) : Prop := args = #[.ref b] ∧ s.IntsAt b xs ∧ xs.length ≤ 3584 ∧ (Jvm.Cond.and given_1 narrow_1).before args s = true
def lw_Q (_ : Array Value) (s : State) (o : Outcome) (t : State) : Prop := o = .returned (some (.int 1)) ∧ Framed s o t [] 601024 7293034
def lw_Z (below : List Frame) (a : Array Value) (s : State) : State → Prop := fun t => ∃ o, t.status = .running ∧ Ended t below o ∧ lw_Q a s o t
/-- the law's own end, with 1 on the stack, nothing written that was there before, its room as the claim has it -/
theorem lw_ret {p : Program} {l : Launch} {e : Env} {s : State} {m : MethodId} {below : List Frame} {meth : Method} {c : Code} {b : Nat} (hx : p.tables.exec = Jvm.exec) (hb : c.code = code) (hr : meth.sig.returnType = ret) (hlocks : meth.locks = false) {pc : Nat} {H : Heap} {ls : Array Slot} (hdg : decode code pc = .ok (.ireturn, 1)) : W p l e room_1 s m #[Value.ref b] below meth c H [] 601024 7293034 (lw_Z below #[Value.ref b] s) (F0 m pc ls [.int 1]) := by
  intro T hT X
  obtain ⟨fs, hret, hrun, hended, hW, hframe⟩ := X.leave (v := some (.int 1)) (hlocks := hlocks) (fun h => by rw [hr] at h; cases h)
  have hmeth' : T.vm.method? m = some meth := X.method'
  refine ⟨T.setFrames fs, ?_, .returned (some (.int 1)), hrun, hended, rfl, ⟨_, rfl⟩, hW, hframe⟩
  jvm_step X.here [X.here.top, hx, hb, hdg, hmeth', hr, ret, narrow_b1]
  (try refine ⟨rfl, ?_⟩); (try refine ⟨rfl, ?_⟩)
  first | (intro acts; rw [hret _ acts rfl rfl rfl]) | rw [hret _ _ rfl rfl rfl]
  exact Steps.refl _
/-- what holds at the law's entry: the machine, the code, the tables' words (any of lw_tbl by 'hts w (by decide +kernel)'), the script of L ints xs at the cell b, what the Statement gives of the start (any of its parts by flat_of_before) -/
def lw_At (p : Program) (s : State) (m : MethodId) (meth : Method) (c : Code) (b L : Nat) (xs : Nat → Int32) : Prop :=
  p.tables.exec = Jvm.exec ∧ c.code = code ∧ meth.sig.returnType = ret ∧ c.maxLocals = 7 ∧ s.vm.findClass R_law = some m.cls ∧ (∀ w ∈ lw_tbl, w.before #[Value.ref b] s = true) ∧ va_X b L xs s s.heap ∧ b < s.heap.size ∧ meth.locks = false ∧ (Jvm.Cond.and given_1 narrow_1).before #[Value.ref b] s = true
section LAWW
variable {p : Program} {e : Env} {s : State} {m : MethodId} {below : List Frame} {meth : Method} {c : Code} {l : Launch} {b L : Nat} {xs : Nat → Int32}
/-- the law's tree, from nothing -/
def ev_law (xs : Nat → Int) (L K n : Nat) : Option (Nat × List Int × List Int × XT) := evS xs L g_ck (evF xs L g_ck K g_cW g_M n) K g_cW bb_332 [0, 0, 0, 0, 0, 0, 0] (([], 0, 0), fun _ _ => 0)
theorem law_walk (hl : l.stackTraces = false) (hL : L < 2147483648) (C0 : lw_At p s m meth c b L xs) {K n : Nat} (hn : n ≤ 1000) {en' : List Int} {st' : XT} (hE : ev_law (fun j => (xs j).toInt) L K n = some (1, [1], en', st')) (hc : st'.1.2.1 ≤ 601024) (hs : st'.1.2.2 ≤ 7293034) :
    W p l e room_1 s m #[Value.ref b] below meth c s.heap [] 0 0 (lw_Z below #[Value.ref b] s) (entryFrame m ([Value.ref b] : List Value).toArray 7) := by
  obtain ⟨hx, hb, hr, hml, hown, hts, hX, hbl, hlocks, hgv⟩ := id C0
  obtain ⟨D, cA, adW, aT, hK, hSF, hWi⟩ := g_world hts hX hbl hL hgv
  have hdec : DecOk (f_tab g_ld) code := f_tab_ok
  have htn : ∀ w ∈ lw_nic, w.before #[Value.ref b] s = true := fun w hw => hts w (nic_sub hw)
  have hw0 : ∀ w ∈ lw_nic, w.before #[] s = true := fun w hw => nw_at (nic_nice w hw) (show s.WarmedH s.vm from State.WarmedH.refl s) (htn w hw)
  have hG := fun f => g_GD (adW := adW) (aT := aT) f
  have hTa : ∀ ty : FieldType, (ty = .int ∨ ty = .long ∨ ty = .byte ∨ ty = .boolean) → Cond.arrayClass ty ∈ lw_nic := fun ty h => by
    rcases h with rfl | rfl | rfl | rfl
    · exact na_7
    · exact na_8
    · exact na_9
    · exact na_10
  have hAll := all_ok (l := l) (D := D) (cA := cA) (A := fun q => s.heap.size ≤ q) (aS := b) (cW := g_cW) (xs := fun j => (xs j).toInt) (L := L) (K := K) hl nic_nice g_CF hWi hTa hG
  have HC := clo (p := p) (l := l) (e := e) (R := room_1) (s := s) (m := m) (below := below) (meth := meth) (c := c) (nL := 7) (D := D) (cl := g_cl) (cA := cA) (A := fun q => s.heap.size ≤ q) (adW := adW) (aT := aT) (aS := b) (ck := g_ck) (c0 := 0) (d0 := 0) (n0 := 0) (ad0 := fun _ => 0) (dec := f_tab g_ld) (lk := q_lk lk_11) (lp := q_lk pn_11) (Zs := g_Zs g_wn adW aT) (cW := g_cW) (xs := fun j => (xs j).toInt) (L := L) (Y := g_Y) (CC := g_CC) (ML := m_L g_M) (RT := g_RT) (PK := m_P g_M) (RK := m_R g_M) (F := evF (fun j => (xs j).toInt) L g_ck K g_cW g_M n) (n := n) (thr := g_THR) (rt := [1]) (rz := true) (hnd := fun _ => none)
    (Q := lw_Z below #[Value.ref b] s) (RR := fun v z => v = [1] ∧ z = st') (XX := fun _ => False) (args := #[Value.ref b]) (own := R_law) (Ts := lw_nic) (cc := code)
    hx hb hdec hml hown hw0 htn nic_nice g_CF hK hSF (fun _ h => h) hWi hTa (FO_of g_cl g_ck g_wn g_Y g_RT (m_P g_M) (own := R_law) (ini := false) (gcL_all 11) (gcP_all 11 false) (fun h => by cases h)) (fun f => GD.mf (hG f)) (fun f => (hAll n f).1) (by
      show n + 11 ≤ 2048 ∧ 60 * n + 360 ≤ 84000
      constructor <;> omega) (evF_mono n) (evF_len (fun f => GD.chk (hG f)) n)
    (fun _ _ _ _ _ _ _ h => by cases h) (fun _ _ _ _ h => by cases h) (fun _ _ _ _ _ h => h.elim) (fun _ _ _ _ _ _ _ _ _ _ _ _ _ _ h => by cases h) (by
      intro pc v τ en st _ _ h hv hE
      obtain ⟨hv1, rfl⟩ := hE
      cases hv1
      obtain ⟨ii, hd, hf⟩ := c_op0_spec h
      obtain ⟨hdc, hln⟩ := hdec _ _ _ hd
      rw [ult_ins hd (ng0 hf (by omega))]
      have hi : ii = .ireturn := by
        unfold a_op0 at hf
        split at hf <;> first | rfl | cases hf
      subst hi
      refine ⟨⟨by rw [Nat.zero_add]; exact hc, by rw [Nat.zero_add]; exact hs⟩, fun hok hS hLo h4 h5 h6 ad H locs ls g1 g2 g3 g4 => ?_⟩
      exact va_forget (fun q hq => g3.2.2 q hq) (W.widen (by omega) (by omega) (lw_ret hx hb hr hlocks hdc)))
  have hlawK := g_lawK
  rw [Option.map_eq_some_iff] at hlawK
  obtain ⟨⟨τ', pc', z⟩, hc1, hz⟩ := hlawK
  dsimp only at hz
  subst hz
  have key := (snd_S (K := K) HC bb_332).1 _ _ _ _ _ _ _ _ _ _ _ _ _ _ _ hc1 (by decide) (by decide) hE
  have J0 := key.2.2.2.2.2 (fun h => by cases h) (fun _ => ⟨rfl, rfl⟩) (fun h => by cases h) (fun h => by cases h) (fun h => by cases h)
  have J1 := jw_ult hx hb hdec J0
  have hlo := lv_entry ([.ref b]) (n := 7) (Nat.le_of_ble_eq_true rfl)
  have W0 := J1.2 (fun o c h => by cases h) (fun q hq => by cases hq) (fun i hi => ?_) ⟨Nat.le_refl _, Nat.le_refl _⟩ (Nat.le_refl _) rfl (fun _ => 0) s.heap [] _ (fun k q h => (by cases h)) ⟨⟨fun i j p q h => (by cases h), fun k q h => (by cases h)⟩, fun _ _ => rfl⟩ va_S.rf (lv_mono hlo (fun q hq => ?_))
  · rw [lg_entry_eq]
    exact W0
  · match i, hi with
    | 0, _ => exact ⟨fun e => (by cases e), fun e => (by cases e), fun e => (by cases e), fun e => absurd e (by decide), by decide⟩
    | 1, hi => exact absurd rfl hi
    | 2, hi => exact absurd rfl hi
    | 3, hi => exact absurd rfl hi
    | 4, hi => exact absurd rfl hi
    | 5, hi => exact absurd rfl hi
    | 6, hi => exact absurd rfl hi
    | i + 7, hi => exact absurd rfl hi
  · obtain ⟨a1, a2, a3⟩ := w_l_mem.mp hq
    obtain ⟨k, v⟩ := q
    dsimp only at a1 a2 a3
    match k, a2 with
    | 0, _ => rw [a3]; exact List.mem_cons_self
    | 1, hi => exact absurd rfl hi
    | 2, hi => exact absurd rfl hi
    | 3, hi => exact absurd rfl hi
    | 4, hi => exact absurd rfl hi
    | 5, hi => exact absurd rfl hi
    | 6, hi => exact absurd rfl hi
    | i + 7, hi => exact absurd rfl hi
end LAWW
end
section
/-! ===== a second reading of the trees: a value is a number or a place of the script; where a branch hangs on bounds that aren't known it asks for a cut ===== -/
abbrev AV : Type := Sum Int Nat
abbrev AH : Type := List (List (Nat × AV))
abbrev AS : Type := (XS × Nat × Nat) × AH
abbrev AX (α : Type) : Type := Except (Option (Nat × Int)) α
abbrev AE : Type := List AV → AS → AX (List AV × AS)
abbrev AR : Type := List AV → AS → AX (Nat × List AV × List AV × AS)
abbrev AP : Type := Nat → List AV → AS → AX (Nat × List AV × AS)
def a_v (xs : Nat → Int) : AV → Int
  | .inl v => v
  | .inr i => xs i
def lookR : List (Nat × AV) → Nat → AV
  | [], _ => .inl 0
  | e :: r, k => bif Nat.beq e.1 k then e.2 else lookR r k
def lookH : AH → Nat → Nat → AV
  | [], _, _ => .inl 0
  | l :: _, 0, k => lookR l k
  | _ :: r, a + 1, k => lookH r a k
def updH : AH → Nat → Nat → AV → AH
  | [], 0, k, v => [[(k, v)]]
  | [], o + 1, k, v => [] :: updH [] o k v
  | l :: r, 0, k, v => ((k, v) :: l) :: r
  | l :: r, o + 1, k, v => l :: updH r o k v
def clrH : AH → Nat → AH
  | [], _ => []
  | _ :: r, 0 => [] :: r
  | l :: r, o + 1 => l :: clrH r o
def a_c (xs : Nat → Int) (s : AS) : XT := (s.1, fun a b => a_v xs (lookH s.2 a b))
theorem lookR_cons {l : List (Nat × AV)} {k b : Nat} {v : AV} : lookR ((k, v) :: l) b = if b = k then v else lookR l b := by
  show (bif Nat.beq k b then v else lookR l b) = _
  by_cases h : b = k
  · subst h
    rw [if_pos rfl, Nat.beq_refl]
    rfl
  · rw [if_neg h]
    have : Nat.beq k b = false := by
      cases hb : Nat.beq k b with
      | true => exact absurd (Nat.eq_of_beq_eq_true hb).symm h
      | false => rfl
    rw [this]
    rfl
theorem look_upd : ∀ (h : AH) (o k : Nat) (v : AV) (a b : Nat), lookH (updH h o k v) a b = if a = o ∧ b = k then v else lookH h a b
  | [], 0, k, v, 0, b => by
    show lookR [(k, v)] b = _
    rw [lookR_cons]
    by_cases h : b = k
    · rw [if_pos h, if_pos ⟨rfl, h⟩]
    · rw [if_neg h, if_neg (fun z => h z.2)]
      rfl
  | [], 0, k, v, a + 1, b => by rw [if_neg (fun z => absurd z.1 (Nat.succ_ne_zero a))]; rfl
  | [], o + 1, k, v, 0, b => by rw [if_neg (fun z => absurd z.1.symm (Nat.succ_ne_zero o))]; rfl
  | [], o + 1, k, v, a + 1, b => by
    show lookH (updH [] o k v) a b = _
    rw [look_upd [] o k v a b]
    simp only [Nat.succ_inj, Nat.add_right_cancel_iff]
    rfl
  | l :: r, 0, k, v, 0, b => by
    show lookR ((k, v) :: l) b = _
    rw [lookR_cons]
    by_cases h : b = k
    · rw [if_pos h, if_pos ⟨rfl, h⟩]
    · rw [if_neg h, if_neg (fun z => h z.2)]
      rfl
  | l :: r, 0, k, v, a + 1, b => by rw [if_neg (fun z => absurd z.1 (Nat.succ_ne_zero a))]; rfl
  | l :: r, o + 1, k, v, 0, b => by rw [if_neg (fun z => absurd z.1.symm (Nat.succ_ne_zero o))]; rfl
  | l :: r, o + 1, k, v, a + 1, b => by
    show lookH (updH r o k v) a b = _
    rw [look_upd r o k v a b]
    simp only [Nat.add_right_cancel_iff]
    rfl
theorem look_clr : ∀ (h : AH) (o a b : Nat), lookH (clrH h o) a b = if a = o then .inl 0 else lookH h a b
  | [], o, a, b => by
    by_cases h : a = o
    · rw [if_pos h]; rfl
    · rw [if_neg h]; rfl
  | l :: r, 0, 0, b => rfl
  | l :: r, 0, a + 1, b => by rw [if_neg (Nat.succ_ne_zero a)]; rfl
  | l :: r, o + 1, 0, b => by rw [if_neg (fun z => absurd z.symm (Nat.succ_ne_zero o))]; rfl
  | l :: r, o + 1, a + 1, b => by
    show lookH (clrH r o) a b = _
    rw [look_clr r o a b]
    simp only [Nat.add_right_cancel_iff]
    rfl
theorem c_upd {xs : Nat → Int} {g : XS × Nat × Nat} {h : AH} {o k : Nat} {v : AV} : a_c xs (g, updH h o k v) = (g, j_up (a_c xs (g, h)).2 o k (a_v xs v)) := by
  unfold a_c j_up
  congr 1
  funext a b
  dsimp only
  rw [look_upd]
  split <;> rfl
theorem c_clr {xs : Nat → Int} {g : XS × Nat × Nat} {h : AH} {o : Nat} : a_c xs (g, clrH h o) = (g, fun a b => if a = o then 0 else (a_c xs (g, h)).2 a b) := by
  unfold a_c
  congr 1
  funext a b
  dsimp only
  rw [look_clr]
  split <;> rfl
theorem ex_bd {α β : Type} {x : AX α} {f : α → AX β} {b : β} (h : x.bind f = .ok b) : ∃ a, x = .ok a ∧ f a = .ok b := by
  cases x with
  | error e => cases h
  | ok a => exact ⟨a, rfl, h⟩
theorem ex_if {α : Type} {c : Prop} [Decidable c] {x : AX α} {b : α} (h : (if c then x else .error none) = .ok b) : c ∧ x = .ok b := by
  by_cases hc : c
  · rw [if_pos hc] at h; exact ⟨hc, h⟩
  · rw [if_neg hc] at h; cases h
def a_hd (x : List AV) : AV := x.headD (.inl 0)
def a_num : AV → AX Int
  | .inl v => .ok v
  | .inr _ => .error none
theorem a_num_ok {xs : Nat → Int} {v : AV} {n : Int} (h : a_num v = .ok n) : a_v xs v = n := by
  cases v with
  | inl x => cases h; rfl
  | inr i => cases h
theorem a_hd_v {xs : Nat → Int} {l : List AV} : j_hd (l.map (a_v xs)) = a_v xs (a_hd l) := by
  cases l <;> rfl
def f_j32 (x : Int) : Int := if -2147483648 ≤ x ∧ x < 2147483648 then x else j32 x
def f_j64 (x : Int) : Int := if -9223372036854775808 ≤ x ∧ x < 9223372036854775808 then x else j64 x
theorem f_j32_ok (x : Int) : f_j32 x = j32 x := by
  unfold f_j32
  split
  · rename_i h; exact (j32_in h).symm
  · rfl
theorem f_j64_ok (x : Int) : f_j64 x = j64 x := by
  unfold f_j64
  split
  · rename_i h; exact (j64_in h).symm
  · rfl
def f_iop (k : Nat) (x y : Int) : Int := match k with
  | 0 => f_j32 (x + y)
  | 1 => f_j32 (x - y)
  | 2 => f_j32 (x * y)
  | k => j_iop k x y
theorem f_iop_ok : ∀ (k : Nat) (x y : Int), f_iop k x y = j_iop k x y
  | 0, _, _ => f_j32_ok _
  | 1, _, _ => f_j32_ok _
  | 2, _, _ => f_j32_ok _
  | _ + 3, _, _ => rfl
def f_lop (k : Nat) (x y : Int) : Int := match k with
  | 0 => f_j64 (x + y)
  | 1 => f_j64 (x - y)
  | 2 => f_j64 (x * y)
  | k => j_lop k x y
theorem f_lop_ok : ∀ (k : Nat) (x y : Int), f_lop k x y = j_lop k x y
  | 0, _, _ => f_j64_ok _
  | 1, _, _ => f_j64_ok _
  | 2, _, _ => f_j64_ok _
  | _ + 3, _, _ => rfl
def f_div (k : Nat) (x y : Int) : Int := match k with
  | 0 => f_j32 (x.tdiv y)
  | 2 => f_j64 (x.tdiv y)
  | k => j_div k x y
theorem f_div_ok : ∀ (k : Nat) (x y : Int), f_div k x y = j_div k x y
  | 0, _, _ => f_j32_ok _
  | 1, _, _ => rfl
  | 2, _, _ => f_j64_ok _
  | _ + 3, _, _ => rfl
def f_un (k : Nat) (x : Int) : Int := match k with
  | 0 => f_j32 (-x)
  | 1 => f_j64 (-x)
  | 3 => f_j32 x
  | k => j_un k x
theorem f_un_ok : ∀ (k : Nat) (x : Int), f_un k x = j_un k x
  | 0, _ => f_j32_ok _
  | 1, _ => f_j64_ok _
  | 2, _ => rfl
  | 3, _ => f_j32_ok _
  | _ + 4, _ => rfl
/-- bounds of the script's numbers; the six low bits of the first one -/
abbrev AC : Type := List (Int × Int) × Option Int
def SatA (xs : Nat → Int) (cx : AC) : Prop := (∀ (i : Nat) (lo hi : Int), cx.1[i]? = some (lo, hi) → lo ≤ xs i ∧ xs i ≤ hi) ∧ ∀ v, cx.2 = some v → j_iop 3 (xs 0) 63 = v
def a_cut (cx : AC) (i k : Nat) (q : Int) : AX Bool := match cx.1[i]? with
  | none => .error none
  | some (lo, hi) => match k with
    | 0 => if hi < q ∨ q < lo then .ok false else if lo = q ∧ hi = q then .ok true else .error (some (i, if lo < q then q else q + 1))
    | 1 => if hi < q ∨ q < lo then .ok true else if lo = q ∧ hi = q then .ok false else .error (some (i, if lo < q then q else q + 1))
    | 2 => if hi < q then .ok true else if q ≤ lo then .ok false else .error (some (i, q))
    | 3 => if hi < q then .ok false else if q ≤ lo then .ok true else .error (some (i, q))
    | 4 => if q < lo then .ok true else if hi ≤ q then .ok false else .error (some (i, q + 1))
    | _ => if q < lo then .ok false else if hi ≤ q then .ok true else .error (some (i, q + 1))
theorem two_if {c d : Prop} [Decidable c] [Decidable d] {p q b : Bool} {z : Option (Nat × Int)} (h : (if c then Except.ok p else if d then Except.ok q else (Except.error z : AX Bool)) = .ok b) : (c ∧ p = b) ∨ (¬ c ∧ d ∧ q = b) := by
  by_cases hc : c
  · rw [if_pos hc] at h; cases h; exact Or.inl ⟨hc, rfl⟩
  · rw [if_neg hc] at h
    by_cases hd : d
    · rw [if_pos hd] at h; cases h; exact Or.inr ⟨hc, hd, rfl⟩
    · rw [if_neg hd] at h; cases h
theorem a_cut_ok {xs : Nat → Int} {cx : AC} (hs : SatA xs cx) {i k : Nat} {q : Int} {b : Bool} (h : a_cut cx i k q = .ok b) : j_cmp k (xs i) q = b := by
  unfold a_cut at h
  cases hg : cx.1[i]? with
  | none => rw [hg] at h; cases h
  | some z =>
    obtain ⟨lo, hi⟩ := z
    rw [hg] at h
    obtain ⟨h1, h2⟩ := hs.1 i lo hi hg
    match k with
    | 0 => rcases two_if h with ⟨a, rfl⟩ | ⟨-, a, rfl⟩ <;> simp only [j_cmp, decide_eq_true_eq, decide_eq_false_iff_not] <;> omega
    | 1 => rcases two_if h with ⟨a, rfl⟩ | ⟨-, a, rfl⟩ <;> simp only [j_cmp, decide_eq_true_eq, decide_eq_false_iff_not] <;> omega
    | 2 => rcases two_if h with ⟨a, rfl⟩ | ⟨-, a, rfl⟩ <;> simp only [j_cmp, decide_eq_true_eq, decide_eq_false_iff_not] <;> omega
    | 3 => rcases two_if h with ⟨a, rfl⟩ | ⟨-, a, rfl⟩ <;> simp only [j_cmp, decide_eq_true_eq, decide_eq_false_iff_not] <;> omega
    | 4 => rcases two_if h with ⟨a, rfl⟩ | ⟨-, a, rfl⟩ <;> simp only [j_cmp, decide_eq_true_eq, decide_eq_false_iff_not] <;> omega
    | _ + 5 => rcases two_if h with ⟨a, rfl⟩ | ⟨-, a, rfl⟩ <;> simp only [j_cmp, decide_eq_true_eq, decide_eq_false_iff_not] <;> omega
def a_fl (k : Nat) : Nat := match k with
  | 0 => 0
  | 1 => 1
  | 2 => 4
  | 3 => 5
  | 4 => 2
  | _ => 3
theorem a_fl_ok {x y : Int} : ∀ {k : Nat}, j_cmp (a_fl k) y x = j_cmp k x y
  | 0 => decide_eq_decide.mpr ⟨fun h => h.symm, fun h => h.symm⟩
  | 1 => decide_eq_decide.mpr ⟨fun h => h.symm, fun h => h.symm⟩
  | 2 => rfl
  | 3 => rfl
  | 4 => rfl
  | _ + 5 => rfl
def a_cmp (cx : AC) (k : Nat) (x y : AV) : AX Bool := match x, y with
  | .inl p, .inl q => .ok (j_cmp k p q)
  | .inr i, .inl q => a_cut cx i k q
  | .inl p, .inr i => a_cut cx i (a_fl k) p
  | .inr _, .inr _ => .error none
theorem a_cmp_ok {xs : Nat → Int} {cx : AC} (hs : SatA xs cx) {k : Nat} {x y : AV} {b : Bool} (h : a_cmp cx k x y = .ok b) : j_cmp k (a_v xs x) (a_v xs y) = b := by
  cases x with
  | inl p => cases y with
    | inl q => cases h; rfl
    | inr i => rw [← a_fl_ok]; exact a_cut_ok hs h
  | inr i => cases y with
    | inl q => exact a_cut_ok hs h
    | inr j => cases h
def a_any (cx : AC) (v : AV) : List Nat → AX Bool
  | [] => .ok false
  | n :: r => (a_cmp cx 0 v (.inl (sx_z n))).bind fun b => if b then .ok true else a_any cx v r
theorem a_any_ok {xs : Nat → Int} {cx : AC} (hs : SatA xs cx) {v : AV} : ∀ {l : List Nat} {b : Bool}, a_any cx v l = .ok b → l.any (fun n => decide (a_v xs v = sx_z n)) = b
  | [], b, h => by cases h; rfl
  | n :: r, b, h => by
    obtain ⟨c, h1, h2⟩ := ex_bd h
    have h3 := a_cmp_ok hs h1
    rw [List.any_cons]
    have h4 : decide (a_v xs v = sx_z n) = c := h3
    rw [h4]
    cases c with
    | true => cases h2; rfl
    | false => rw [Bool.false_or]; exact a_any_ok hs h2
section AEV
variable (L : Nat) (ck : Nat → List Nat) (G : AP) (cx : AC)
/-- a number of the script whose bounds meet is known -/
def a_pt (cx : AC) (j : Nat) : AV := match cx.1[j]? with
  | some (lo, hi) => if lo = hi then .inl lo else .inr j
  | none => .inr j
def an_aload (k : Nat) (A B : AE) : AE := fun en st => (A en st).bind fun x => (B en x.2).bind fun y => (a_num (a_hd y.1)).bind fun j => match k with
  | 0 => (a_num (a_hd x.1)).bind fun o => if 0 ≤ j ∧ j < j_len y.2.1.1 o.toNat then .ok ([lookH y.2.2 o.toNat j.toNat], y.2) else .error none
  | 1 => if 0 ≤ j ∧ j < (L : Int) then .ok ([a_pt cx j.toNat], y.2) else .error none
  | _ => if 0 ≤ j ∧ j < 24 then .ok ([.inl j], y.2) else .error none
def an_alen (k : Nat) (A : AE) : AE := fun en st => (A en st).bind fun x => match k with
  | 0 => (a_num (a_hd x.1)).bind fun o => .ok ([.inl (j_len x.2.1.1 o.toNat)], x.2)
  | 1 => .ok ([.inl (L : Int)], x.2)
  | _ => .ok ([.inl 24], x.2)
def an_bin (op : Int → Int → Int) (A B : AE) : AE := fun en st => (A en st).bind fun x => (B en x.2).bind fun y => (a_num (a_hd x.1)).bind fun p => (a_num (a_hd y.1)).bind fun q => .ok ([.inl (op p q)], y.2)
def av_iop (cx : AC) (k : Nat) (x y : AV) : AX AV := match x, y with
  | .inl p, .inl q => .ok (.inl (f_iop k p q))
  | .inr i, .inl q => if i = 0 ∧ k = 3 ∧ q = 63 then (match cx.2 with
    | some v => .ok (.inl v)
    | none => .error none) else .error none
  | _, _ => .error none
def an_iop (k : Nat) (A B : AE) : AE := fun en st => (A en st).bind fun x => (B en x.2).bind fun y => (av_iop cx k (a_hd x.1) (a_hd y.1)).bind fun v => .ok ([v], y.2)
def an_div (k : Nat) (A B : AE) : AE := fun en st => (A en st).bind fun x => (B en x.2).bind fun y => (a_num (a_hd x.1)).bind fun p => (a_num (a_hd y.1)).bind fun q => if q = 0 then .error none else .ok ([.inl (f_div k p q)], y.2)
def av_un (k : Nat) (x : AV) : AX AV := match k, x with
  | 2, v => .ok v
  | k, .inl p => .ok (.inl (f_un k p))
  | _, _ => .error none
def an_un (k : Nat) (A : AE) : AE := fun en st => (A en st).bind fun x => (av_un k (a_hd x.1)).bind fun v => .ok ([v], x.2)
def an_cmp (k : Nat) (A B : AE) : AE := fun en st => (A en st).bind fun x => (B en x.2).bind fun y => (a_cmp cx k (a_hd x.1) (a_hd y.1)).bind fun b => .ok ([.inl (j_b b)], y.2)
def an_cmp0 (k : Nat) (A : AE) : AE := fun en st => (A en st).bind fun x => (a_cmp cx k (a_hd x.1) (.inl 0)).bind fun b => .ok ([.inl (j_b b)], x.2)
def an_nz (B : AE) : AE := fun en st => (B en st).bind fun x => (a_cmp cx 1 (a_hd x.1) (.inl 0)).bind fun b => .ok ([.inl (j_b b)], x.2)
def an_not (B : AE) : AE := fun en st => (B en st).bind fun x => (a_cmp cx 0 (a_hd x.1) (.inl 0)).bind fun b => .ok ([.inl (j_b b)], x.2)
def an_ife (A B C : AE) : AE := fun en st => (A en st).bind fun x => (a_cmp cx 0 (a_hd x.1) (.inl 0)).bind fun b => if b then C en x.2 else B en x.2
def an_k (v : Int) : AE := fun _ st => .ok ([.inl v], st)
def an_call (f : Nat) (A : AE) : AE := fun en st => (A en st).bind fun x => (G f x.1 x.2).bind fun r => if r.1 = 1 then .ok r.2 else .error none
def an_wf (cW : Nat → Nat → Int) (k : Nat) (A : AE) : AE := fun en st => (A en st).bind fun x => (a_num (a_hd x.1)).bind fun o => .ok ([.inl (cW k o.toNat)], x.2)
def an_getf (k : Nat) (A : AE) : AE := fun en st => (A en st).bind fun x => (a_num (a_hd x.1)).bind fun o => .ok ([lookH x.2.2 o.toNat k], x.2)
def an_getr (k : Nat) (A : AE) : AE := fun en st => (A en st).bind fun x => (a_num (a_hd x.1)).bind fun o => match j_rf x.2.1.1 o.toNat k with
  | some r => .ok ([.inl r], x.2)
  | none => .error none
def an_new (ci f : Nat) (A : AE) : AE := fun en st =>
  (A en ((st.1.1 ++ [(10 + ci, 0, (ck ci).map fun k => (k, 0))], st.1.2.1 + 1, st.1.2.2 + (ck ci).length), clrH st.2 st.1.1.length)).bind fun x =>
    (G f (.inl (st.1.1.length : Int) :: x.1) x.2).bind fun r => if r.1 = 1 then .ok ([.inl (st.1.1.length : Int)], r.2.2) else .error none
def an_newa (ty : Nat) (A : AE) : AE := fun en st => (A en st).bind fun x => (a_num (a_hd x.1)).bind fun n =>
  if 0 ≤ n ∧ n ≤ 67108864 then .ok ([.inl (x.2.1.1.length : Int)], ((x.2.1.1 ++ [(ty, n.toNat, [])], x.2.1.2.1 + 1, x.2.1.2.2 + n.toNat), clrH x.2.2 x.2.1.1.length)) else .error none
def an_ainit (i : Nat) (A B : AE) : AE := fun en st => (A en st).bind fun x => (B en x.2).bind fun y => (a_num (a_hd x.1)).bind fun o =>
  if (i : Int) < j_len y.2.1.1 o.toNat then .ok (x.1, (y.2.1, updH y.2.2 o.toNat i (a_hd y.1))) else .error none
def an_cons (A B : AE) : AE := fun en st => (A en st).bind fun x => (B en x.2).bind fun y => .ok (x.1 ++ y.1, y.2)
def anodeE (cW : Nat → Nat → Int) (t : Nat) (a b c : SX) (A B C : AE) : AE := match t with
  | 1 => an_k (if sx_n c = 0 then (sx_n a : Int) else -(sx_n a : Int))
  | 3 => fun en st => .ok ([en.getD (sx_n a) (.inl 0)], st)
  | 4 => an_getf (sx_n b) A
  | 5 => an_getr (sx_n b) A
  | 7 => an_aload L cx (sx_n c) A B
  | 10 => an_alen L (sx_n c) A
  | 13 => an_wf cW (sx_n c) A
  | 14 => an_iop cx (sx_n c) A B
  | 15 => an_bin (f_lop (sx_n c)) A B
  | 16 => an_bin (j_lsh (sx_n c)) A B
  | 17 => an_div (sx_n c) A B
  | 18 => an_un (sx_n c) A
  | 20 => an_cmp cx (sx_n c) A B
  | 21 => an_cmp0 cx (sx_n c) A
  | 22 => an_cmp cx (sx_n c) A B
  | 23 => an_cmp cx (sx_n c) A B
  | 24 => A
  | 25 => an_ife cx A (an_nz cx B) (an_k 0)
  | 26 => an_ife cx A (an_k 1) (an_nz cx B)
  | 27 => an_not cx A
  | 28 => an_ife cx A B C
  | 30 => an_cons A B
  | 31 => fun _ st => .ok ([], st)
  | 32 => an_call G (sx_n b) A
  | 34 => an_new ck G (sx_n b) (sx_n c) A
  | 35 => an_newa (sx_n b) A
  | 36 => an_ainit (sx_n c) A B
  | _ => fun _ _ => .error none
def abE (cW : Nat → Nat → Int) : SX → AE
  | .op (.var t) (.op a (.op b c)) => anodeE L ck G cx cW t a b c (abE cW a) (abE cW b) (abE cW c)
  | _ => fun _ _ => .error none
end AEV
/-- what a reading of the second kind is worth -/
def SndE (xs : Nat → Int) (A : AE) (B : XE) : Prop := ∀ (en : List AV) (st : AS) (r : List AV × AS), A en st = .ok r → B (en.map (a_v xs)) (a_c xs st) = some (r.1.map (a_v xs), a_c xs r.2)
def SndP (xs : Nat → Int) (G : AP) (F : XP) : Prop := ∀ (f : Nat) (av : List AV) (st : AS) (r : Nat × List AV × AS), G f av st = .ok r → F f (av.map (a_v xs)) (a_c xs st) = some (r.1, r.2.1.map (a_v xs), a_c xs r.2.2)
section AES
variable {xs : Nat → Int} {L : Nat} {ck : Nat → List Nat} {G : AP} {F : XP} {cx : AC} {A B C : AE} {A' B' C' : XE} {cW : Nat → Nat → Int}
theorem se_k {v : Int} : SndE xs (an_k v) (fun _ st => some ([v], st)) := fun en st r h => by cases h; rfl
theorem a_pt_ok (hs : SatA xs cx) {j : Nat} : a_v xs (a_pt cx j) = xs j := by
  unfold a_pt
  split
  · rename_i lo hi hg
    split
    · have := hs.1 j lo hi hg
      show lo = xs j
      omega
    · rfl
  · rfl
theorem se_aload (hs : SatA xs cx) {k : Nat} (hA : SndE xs A A') (hB : SndE xs B B') : SndE xs (an_aload L cx k A B) (n_aload xs L k A' B') := by
  intro en st r h
  obtain ⟨x, h1, h⟩ := ex_bd h
  obtain ⟨y, h2, h⟩ := ex_bd h
  obtain ⟨j, h3, h⟩ := ex_bd h
  have e1 := hA _ _ _ h1
  have e2 := hB _ _ _ h2
  have e3 := a_num_ok (xs := xs) h3
  unfold n_aload
  rw [e1, Option.bind_some, e2, Option.bind_some]
  dsimp only
  rw [a_hd_v, e3]
  match k with
  | 0 =>
    obtain ⟨o, h4, h⟩ := ex_bd h
    obtain ⟨h5, h⟩ := ex_if h
    cases h
    rw [a_hd_v, a_num_ok (xs := xs) h4]
    exact if_pos h5
  | 1 =>
    obtain ⟨h5, h⟩ := ex_if h
    cases h
    refine (if_pos h5).trans ?_
    show some ([xs j.toNat], a_c xs y.2) = some ([a_v xs (a_pt cx j.toNat)], a_c xs y.2)
    rw [a_pt_ok hs]
  | _ + 2 =>
    obtain ⟨h5, h⟩ := ex_if h
    cases h
    exact if_pos h5
theorem se_alen {k : Nat} (hA : SndE xs A A') : SndE xs (an_alen L k A) (n_alen L k A') := by
  intro en st r h
  obtain ⟨x, h1, h⟩ := ex_bd h
  have e1 := hA _ _ _ h1
  unfold n_alen
  rw [e1, Option.bind_some]
  dsimp only
  match k with
  | 0 =>
    obtain ⟨o, h4, h⟩ := ex_bd h
    cases h
    rw [a_hd_v, a_num_ok (xs := xs) h4]
    rfl
  | 1 => cases h; rfl
  | _ + 2 => cases h; rfl
theorem se_bin {op op' : Int → Int → Int} (ho : ∀ x y, op x y = op' x y) (hA : SndE xs A A') (hB : SndE xs B B') : SndE xs (an_bin op A B) (n_bin op' A' B') := by
  intro en st r h
  obtain ⟨x, h1, h⟩ := ex_bd h
  obtain ⟨y, h2, h⟩ := ex_bd h
  obtain ⟨p, h3, h⟩ := ex_bd h
  obtain ⟨q, h4, h⟩ := ex_bd h
  cases h
  unfold n_bin
  rw [hA _ _ _ h1, Option.bind_some, hB _ _ _ h2, Option.bind_some]
  dsimp only
  rw [a_hd_v, a_hd_v, a_num_ok (xs := xs) h3, a_num_ok (xs := xs) h4, ← ho]
  rfl
theorem av_iop_ok (hs : SatA xs cx) {k : Nat} {x y v : AV} (h : av_iop cx k x y = .ok v) : j_iop k (a_v xs x) (a_v xs y) = a_v xs v := by
  cases x with
  | inl p => cases y with
    | inl q => cases h; exact (f_iop_ok k p q).symm
    | inr j => cases h
  | inr i => cases y with
    | inl q =>
      obtain ⟨⟨e1, e2, e3⟩, h2⟩ := ex_if h
      subst e1
      subst e2
      subst e3
      cases hv : cx.2 with
      | none => rw [hv] at h2; cases h2
      | some v => rw [hv] at h2; cases h2; exact hs.2 _ hv
    | inr j => cases h
theorem se_iop (hs : SatA xs cx) {k : Nat} (hA : SndE xs A A') (hB : SndE xs B B') : SndE xs (an_iop cx k A B) (n_bin (j_iop k) A' B') := by
  intro en st r h
  obtain ⟨x, h1, h⟩ := ex_bd h
  obtain ⟨y, h2, h⟩ := ex_bd h
  obtain ⟨v, h3, h⟩ := ex_bd h
  cases h
  unfold n_bin
  rw [hA _ _ _ h1, Option.bind_some, hB _ _ _ h2, Option.bind_some]
  dsimp only
  rw [a_hd_v, a_hd_v, av_iop_ok hs h3]
  rfl
theorem se_div {k : Nat} (hA : SndE xs A A') (hB : SndE xs B B') : SndE xs (an_div k A B) (fun en st => (A' en st).bind fun x => (B' en x.2).bind fun y => if j_hd y.1 = 0 then none else some ([j_div k (j_hd x.1) (j_hd y.1)], y.2)) := by
  intro en st r h
  obtain ⟨x, h1, h⟩ := ex_bd h
  obtain ⟨y, h2, h⟩ := ex_bd h
  obtain ⟨p, h3, h⟩ := ex_bd h
  obtain ⟨q, h4, h⟩ := ex_bd h
  dsimp only
  rw [hA _ _ _ h1, Option.bind_some, hB _ _ _ h2, Option.bind_some]
  dsimp only
  rw [a_hd_v, a_hd_v, a_num_ok (xs := xs) h3, a_num_ok (xs := xs) h4]
  by_cases hq : q = 0
  · rw [if_pos hq] at h; cases h
  · rw [if_neg hq] at h ⊢
    cases h
    rw [← f_div_ok]
    rfl
theorem av_un_ok {k : Nat} {x v : AV} (h : av_un k x = .ok v) : j_un k (a_v xs x) = a_v xs v := by
  unfold av_un at h
  split at h
  · cases h; rfl
  · cases h; exact (f_un_ok _ _).symm
  · cases h
theorem se_un {k : Nat} (hA : SndE xs A A') : SndE xs (an_un k A) (fun en st => (A' en st).bind fun x => some ([j_un k (j_hd x.1)], x.2)) := by
  intro en st r h
  obtain ⟨x, h1, h⟩ := ex_bd h
  obtain ⟨v, h3, h⟩ := ex_bd h
  cases h
  dsimp only
  rw [hA _ _ _ h1, Option.bind_some]
  dsimp only
  rw [a_hd_v, av_un_ok h3]
  rfl
theorem se_cmp (hs : SatA xs cx) {k : Nat} (hA : SndE xs A A') (hB : SndE xs B B') : SndE xs (an_cmp cx k A B) (n_cmp (j_cmp k) A' B') := by
  intro en st r h
  obtain ⟨x, h1, h⟩ := ex_bd h
  obtain ⟨y, h2, h⟩ := ex_bd h
  obtain ⟨v, h3, h⟩ := ex_bd h
  cases h
  unfold n_cmp
  rw [hA _ _ _ h1, Option.bind_some, hB _ _ _ h2, Option.bind_some]
  dsimp only
  rw [a_hd_v, a_hd_v, a_cmp_ok hs h3]
  rfl
theorem se_cmp0 (hs : SatA xs cx) {k : Nat} (hA : SndE xs A A') : SndE xs (an_cmp0 cx k A) (fun en st => (A' en st).bind fun x => some ([j_b (j_cmp k (j_hd x.1) 0)], x.2)) := by
  intro en st r h
  obtain ⟨x, h1, h⟩ := ex_bd h
  obtain ⟨v, h3, h⟩ := ex_bd h
  cases h
  dsimp only
  rw [hA _ _ _ h1, Option.bind_some]
  dsimp only
  rw [a_hd_v]
  have e := a_cmp_ok hs h3
  rw [show a_v xs (.inl 0) = 0 from rfl] at e
  rw [e]
  rfl
theorem se_nz (hs : SatA xs cx) (hA : SndE xs A A') : SndE xs (an_nz cx A) (n_nz A') := by
  intro en st r h
  obtain ⟨x, h1, h⟩ := ex_bd h
  obtain ⟨v, h3, h⟩ := ex_bd h
  cases h
  unfold n_nz
  rw [hA _ _ _ h1, Option.bind_some]
  dsimp only
  rw [a_hd_v]
  have e : decide (a_v xs (a_hd x.1) ≠ 0) = v := a_cmp_ok hs h3
  rw [e]
  rfl
theorem se_not (hs : SatA xs cx) (hA : SndE xs A A') : SndE xs (an_not cx A) (fun en st => (A' en st).bind fun x => some ([j_b (decide (j_hd x.1 = 0))], x.2)) := by
  intro en st r h
  obtain ⟨x, h1, h⟩ := ex_bd h
  obtain ⟨v, h3, h⟩ := ex_bd h
  cases h
  dsimp only
  rw [hA _ _ _ h1, Option.bind_some]
  dsimp only
  rw [a_hd_v]
  have e : decide (a_v xs (a_hd x.1) = 0) = v := a_cmp_ok hs h3
  rw [e]
  rfl
theorem a_zero (hs : SatA xs cx) {x : AV} {b : Bool} (h : a_cmp cx 0 x (.inl 0) = .ok b) : (b = true ∧ a_v xs x = 0) ∨ (b = false ∧ a_v xs x ≠ 0) := by
  have e : decide (a_v xs x = 0) = b := a_cmp_ok hs h
  cases b with
  | true => exact Or.inl ⟨rfl, of_decide_eq_true e⟩
  | false => exact Or.inr ⟨rfl, of_decide_eq_false e⟩
theorem se_ife (hs : SatA xs cx) (hA : SndE xs A A') (hB : SndE xs B B') (hC : SndE xs C C') : SndE xs (an_ife cx A B C) (n_ife A' B' C') := by
  intro en st r h
  obtain ⟨x, h1, h⟩ := ex_bd h
  obtain ⟨v, h3, h⟩ := ex_bd h
  unfold n_ife
  rw [hA _ _ _ h1, Option.bind_some]
  dsimp only
  rw [a_hd_v]
  rcases a_zero hs h3 with ⟨rfl, e⟩ | ⟨rfl, e⟩
  · rw [if_pos e]
    exact hC _ _ _ h
  · rw [if_neg e]
    exact hB _ _ _ h
theorem se_call (hG : SndP xs G F) {f : Nat} (hA : SndE xs A A') : SndE xs (an_call G f A) (n_call F f A') := by
  intro en st r h
  obtain ⟨x, h1, h⟩ := ex_bd h
  obtain ⟨v, h3, h⟩ := ex_bd h
  obtain ⟨h4, h⟩ := ex_if h
  cases h
  unfold n_call
  rw [hA _ _ _ h1, Option.bind_some]
  dsimp only
  rw [hG _ _ _ _ h3, Option.bind_some]
  exact if_pos h4
theorem se_wf {k : Nat} (hA : SndE xs A A') : SndE xs (an_wf cW k A) (n_wf cW k A') := by
  intro en st r h
  obtain ⟨x, h1, h⟩ := ex_bd h
  obtain ⟨v, h3, h⟩ := ex_bd h
  cases h
  unfold n_wf
  rw [hA _ _ _ h1, Option.bind_some]
  dsimp only
  rw [a_hd_v, a_num_ok (xs := xs) h3]
  rfl
theorem se_getf {k : Nat} (hA : SndE xs A A') : SndE xs (an_getf k A) (fun en st => (A' en st).bind fun x => some ([x.2.2 (j_hd x.1).toNat k], x.2)) := by
  intro en st r h
  obtain ⟨x, h1, h⟩ := ex_bd h
  obtain ⟨v, h3, h⟩ := ex_bd h
  cases h
  dsimp only
  rw [hA _ _ _ h1, Option.bind_some]
  dsimp only
  rw [a_hd_v, a_num_ok (xs := xs) h3]
  rfl
theorem se_getr {k : Nat} (hA : SndE xs A A') : SndE xs (an_getr k A) (fun en st => (A' en st).bind fun x => (j_rf x.2.1.1 (j_hd x.1).toNat k).bind fun r => some ([r], x.2)) := by
  intro en st r h
  obtain ⟨x, h1, h⟩ := ex_bd h
  obtain ⟨v, h3, h⟩ := ex_bd h
  dsimp only
  rw [hA _ _ _ h1, Option.bind_some]
  dsimp only
  rw [a_hd_v, a_num_ok (xs := xs) h3]
  show (j_rf x.2.1.1 v.toNat k).bind _ = _
  cases hr : j_rf x.2.1.1 v.toNat k with
  | none => rw [hr] at h; cases h
  | some q => rw [hr] at h; cases h; rfl
theorem se_new (hG : SndP xs G F) {ci f : Nat} (hA : SndE xs A A') : SndE xs (an_new ck G ci f A) (n_new ck F ci f A') := by
  intro en st r h
  obtain ⟨x, h1, h⟩ := ex_bd h
  obtain ⟨v, h3, h⟩ := ex_bd h
  obtain ⟨h4, h⟩ := ex_if h
  cases h
  have e1 := hA _ _ _ h1
  rw [c_clr] at e1
  have e3 := hG _ _ _ _ h3
  unfold n_new
  dsimp only
  have e1' : A' (en.map (a_v xs)) (((a_c xs st).1.1 ++ [(10 + ci, 0, (ck ci).map fun k => (k, 0))], (a_c xs st).1.2.1 + 1, (a_c xs st).1.2.2 + (ck ci).length), fun a b => if a = (a_c xs st).1.1.length then 0 else (a_c xs st).2 a b) = some (x.1.map (a_v xs), a_c xs x.2) := e1
  rw [e1', Option.bind_some]
  dsimp only
  have e3' : F f (((a_c xs st).1.1.length : Int) :: x.1.map (a_v xs)) (a_c xs x.2) = some (v.1, v.2.1.map (a_v xs), a_c xs v.2.2) := e3
  rw [e3', Option.bind_some]
  exact if_pos h4
theorem se_newa {ty : Nat} (hA : SndE xs A A') : SndE xs (an_newa ty A) (n_newa ty A') := by
  intro en st r h
  obtain ⟨x, h1, h⟩ := ex_bd h
  obtain ⟨n, h3, h⟩ := ex_bd h
  obtain ⟨h4, h⟩ := ex_if h
  cases h
  unfold n_newa
  rw [hA _ _ _ h1, Option.bind_some]
  dsimp only
  rw [a_hd_v, a_num_ok (xs := xs) h3, if_pos h4, c_clr]
  rfl
theorem se_ainit {i : Nat} (hA : SndE xs A A') (hB : SndE xs B B') : SndE xs (an_ainit i A B) (n_ainit i A' B') := by
  intro en st r h
  obtain ⟨x, h1, h⟩ := ex_bd h
  obtain ⟨y, h2, h⟩ := ex_bd h
  obtain ⟨o, h3, h⟩ := ex_bd h
  obtain ⟨h4, h⟩ := ex_if h
  cases h
  unfold n_ainit
  rw [hA _ _ _ h1, Option.bind_some, hB _ _ _ h2, Option.bind_some]
  dsimp only
  rw [a_hd_v, a_hd_v, a_num_ok (xs := xs) h3, c_upd]
  exact if_pos h4
theorem se_cons (hA : SndE xs A A') (hB : SndE xs B B') : SndE xs (an_cons A B) (fun en st => (A' en st).bind fun x => (B' en x.2).bind fun y => some (x.1 ++ y.1, y.2)) := by
  intro en st r h
  obtain ⟨x, h1, h⟩ := ex_bd h
  obtain ⟨y, h2, h⟩ := ex_bd h
  cases h
  dsimp only
  rw [hA _ _ _ h1, Option.bind_some, hB _ _ _ h2, Option.bind_some]
  dsimp only
  rw [List.map_append]
theorem getD_v {en : List AV} {i : Nat} : (en.map (a_v xs)).getD i 0 = a_v xs (en.getD i (.inl 0)) := by
  rw [List.getD_eq_getElem?_getD, List.getD_eq_getElem?_getD, List.getElem?_map]
  cases en[i]? <;> rfl
theorem se_node (hs : SatA xs cx) (hG : SndP xs G F) {t : Nat} {a b c : SX} (hA : SndE xs A A') (hB : SndE xs B B') (hC : SndE xs C C') : SndE xs (anodeE L ck G cx cW t a b c A B C) (nodeE xs L ck F cW t a b c A' B' C') := by
  unfold anodeE
  split
  · exact se_k
  · intro en st r h
    cases h
    show some _ = some _
    rw [getD_v]
    rfl
  · exact se_getf hA
  · exact se_getr hA
  · exact se_aload hs hA hB
  · exact se_alen hA
  · exact se_wf hA
  · exact se_iop hs hA hB
  · exact se_bin (f_lop_ok _) hA hB
  · exact se_bin (fun _ _ => rfl) hA hB
  · exact se_div hA hB
  · exact se_un hA
  · exact se_cmp hs hA hB
  · exact se_cmp0 hs hA
  · exact se_cmp hs hA hB
  · exact se_cmp hs hA hB
  · exact hA
  · exact se_ife hs hA (se_nz hs hB) se_k
  · exact se_ife hs hA se_k (se_nz hs hB)
  · exact se_not hs hA
  · exact se_ife hs hA hB hC
  · exact se_cons hA hB
  · intro en st r h
    cases h
    rfl
  · exact se_call hG hA
  · exact se_new hG hA
  · exact se_newa hA
  · exact se_ainit hA hB
  · intro en st r h
    cases h
theorem se_all (hs : SatA xs cx) (hG : SndP xs G F) : ∀ t : SX, SndE xs (abE L ck G cx cW t) (evE xs L ck F cW t)
  | .op (.var t) (.op a (.op b c)) => se_node hs hG (se_all hs hG a) (se_all hs hG b) (se_all hs hG c)
  | .var _ => fun _ _ _ h => by cases h
  | .op (.op _ _) _ => fun _ _ _ h => by cases h
  | .op (.var _) (.var _) => fun _ _ _ h => by cases h
  | .op (.var _) (.op _ (.var _)) => fun _ _ _ h => by cases h
end AES
end
section
/-! ===== the second reading: statements, methods ===== -/
section ASV
variable (cx : AC) (G : AP)
def as_skip (n : Nat) : AR := fun en st => .ok (n, [], en, st)
def as_seq (A B : AR) : AR := fun en st => (A en st).bind fun r => if r.1 = 0 then B r.2.2.1 r.2.2.2 else .ok r
def as_loop (C : AE) (B P : AR) : Nat → AR
  | 0 => fun _ _ => .error none
  | k + 1 => fun en st => (C en st).bind fun x => (a_cmp cx 0 (a_hd x.1) (.inl 0)).bind fun b => if b then .ok (0, [], en, x.2) else
      (B en x.2).bind fun r =>
        if r.1 = 0 ∨ r.1 = 3 then (P r.2.2.1 r.2.2.2).bind fun q => if q.1 = 0 then as_loop C B P k q.2.2.1 q.2.2.2 else .error none
        else if r.1 = 2 then .ok (0, [], r.2.2.1, r.2.2.2) else .ok r
def as_do (B : AR) (C : AE) : Nat → AR
  | 0 => fun _ _ => .error none
  | k + 1 => fun en st => (B en st).bind fun r =>
      if r.1 = 0 ∨ r.1 = 3 then (C r.2.2.1 r.2.2.2).bind fun x => (a_cmp cx 0 (a_hd x.1) (.inl 0)).bind fun b => if b then .ok (0, [], r.2.2.1, x.2) else as_do B C k r.2.2.1 x.2
      else if r.1 = 2 then .ok (0, [], r.2.2.1, r.2.2.2) else .ok r
def as_store (i : Nat) (A : AE) : AR := fun en st => (A en st).bind fun x => .ok (0, [], en.set i (a_hd x.1), x.2)
def as_inc (i : Nat) (n : Int) : AR := fun en st => (a_num (en.getD i (.inl 0))).bind fun v => .ok (0, [], en.set i (.inl (f_j32 (v + n))), st)
def as_putf (k : Nat) (A B : AE) : AR := fun en st => (A en st).bind fun x => (B en x.2).bind fun y => (a_num (a_hd x.1)).bind fun o => .ok (0, [], en, (y.2.1, updH y.2.2 o.toNat k (a_hd y.1)))
def as_putfZ (k : Nat) (A B : AE) : AR := fun en st => (A en st).bind fun x => (B en x.2).bind fun y => (a_num (a_hd x.1)).bind fun o => (a_num (a_hd y.1)).bind fun v => if v = 0 ∨ v = 1 then .ok (0, [], en, (y.2.1, updH y.2.2 o.toNat k (.inl v))) else .error none
def as_putfC (k op : Nat) (A B : AE) : AR := fun en st => (A en st).bind fun x => (B en x.2).bind fun y => (a_num (a_hd x.1)).bind fun o => (a_num (lookH x.2.2 o.toNat k)).bind fun p => (a_num (a_hd y.1)).bind fun q => .ok (0, [], en, (y.2.1, updH y.2.2 o.toNat k (.inl (f_iop op p q))))
def as_putr (k : Nat) (A B : AE) : AR := fun en st => (A en st).bind fun x => (B en x.2).bind fun y => (a_num (a_hd x.1)).bind fun o => (a_num (a_hd y.1)).bind fun v => .ok (0, [], en, ((j_setR y.2.1.1 o.toNat k v.toNat, y.2.1.2), y.2.2))
def a_cell (ty : Nat) (v : AV) : AX AV := match ty with
  | 8 => (a_num v).bind fun n => .ok (.inl ((Int32.ofInt n).toInt8.toInt32).toInt)
  | 9 => (a_num v).bind fun n => .ok (.inl (Int32.ofInt n &&& 1).toInt)
  | _ => .ok v
def as_ast (ty : Nat) (A B C : AE) : AR := fun en st => (A en st).bind fun x => (B en x.2).bind fun y => (C en y.2).bind fun z => (a_num (a_hd x.1)).bind fun o => (a_num (a_hd y.1)).bind fun j => (a_cell ty (a_hd z.1)).bind fun v =>
  if 0 ≤ j ∧ j < j_len z.2.1.1 o.toNat then .ok (0, [], en, (z.2.1, updH z.2.2 o.toNat j.toNat v)) else .error none
def as_astC (op : Nat) (A B C : AE) : AR := fun en st => (A en st).bind fun x => (B en x.2).bind fun y => (a_num (a_hd x.1)).bind fun o => (a_num (a_hd y.1)).bind fun j =>
  if 0 ≤ j ∧ j < j_len y.2.1.1 o.toNat then (C en y.2).bind fun z =>
    if j < j_len z.2.1.1 o.toNat then (a_num (lookH y.2.2 o.toNat j.toNat)).bind fun p => (a_num (a_hd z.1)).bind fun q => .ok (0, [], en, (z.2.1, updH z.2.2 o.toNat j.toNat (.inl (f_iop op p q)))) else .error none else .error none
def as_if (A : AE) (B C : AR) : AR := fun en st => (A en st).bind fun x => (a_cmp cx 0 (a_hd x.1) (.inl 0)).bind fun b => if b then C en x.2 else B en x.2
def as_sw (A : AE) (B : AR) : AR := fun en st => (A en st).bind fun x => (B (a_hd x.1 :: en) x.2).bind fun r => if r.1 = 2 then .ok (0, r.2) else .ok r
def as_case (l : List Nat) (B C : AR) : AR := fun en st => (a_any cx (en.headD (.inl 0)) l).bind fun b => if b then (B en.tail st).bind fun r => if r.1 = 0 then .error none else .ok r else C en st
def as_try (f : Nat) (A B : AE) : AR := fun en st => (A en st).bind fun x => (B en x.2).bind fun y => (G f y.1 y.2).bind fun r => (a_num (a_hd x.1)).bind fun o =>
  if r.1 = 1 then (if 0 < j_len r.2.2.1.1 o.toNat then .ok (0, [], en, (r.2.2.1, updH r.2.2.2 o.toNat 0 (a_hd r.2.1))) else .error none)
  else if r.1 = 4 then .ok (1, [.inl 1], en, r.2.2) else .error none
def as_ret (A : AE) : AR := fun en st => (A en st).bind fun x => .ok (1, x.1, en, x.2)
def as_retZ (A : AE) : AR := fun en st => (A en st).bind fun x => (a_num (a_hd x.1)).bind fun v => if v = 0 ∨ v = 1 then .ok (1, x.1, en, x.2) else .error none
def as_throw : AR := fun en st => .ok (4, [], en, ((st.1.1, st.1.2.1 + 1, st.1.2.2 + 6), st.2))
def as_exp (A : AE) : AR := fun en st => (A en st).bind fun x => .ok (0, [], en, x.2)
variable (L : Nat) (ck : Nat → List Nat) (K : Nat)
def anodeS (cW : Nat → Nat → Int) (t : Nat) (a b c : SX) (A B C : AR) : AR := match t with
  | 1 => as_skip 0
  | 2 => as_seq A B
  | 3 => as_store (sx_n a) (abE L ck G cx cW b)
  | 4 => as_inc (sx_n a) (if sx_n c = 0 then (sx_n b : Int) else -(sx_n b : Int))
  | 5 => as_putf (sx_n c) (abE L ck G cx cW a) (abE L ck G cx cW b)
  | 6 => as_putfC (sx_n c / 16) (sx_n c % 16) (abE L ck G cx cW a) (abE L ck G cx cW b)
  | 7 => match c with
    | .op (.var ty) v => as_ast ty (abE L ck G cx cW a) (abE L ck G cx cW b) (abE L ck G cx cW v)
    | _ => fun _ _ => .error none
  | 8 => match c with
    | .op (.var op) v => as_astC op (abE L ck G cx cW a) (abE L ck G cx cW b) (abE L ck G cx cW v)
    | _ => fun _ _ => .error none
  | 9 => as_exp (abE L ck G cx cW a)
  | 10 => as_if cx (abE L ck G cx cW a) B (as_skip 0)
  | 11 => as_if cx (abE L ck G cx cW a) B C
  | 12 => as_loop cx (abE L ck G cx cW a) B C K
  | 13 => as_do cx B (abE L ck G cx cW a) K
  | 14 => as_skip 2
  | 15 => as_skip 3
  | 16 => as_ret (abE L ck G cx cW a)
  | 27 => as_retZ (abE L ck G cx cW a)
  | 17 => as_skip 1
  | 18 => as_throw
  | 19 => as_sw (abE L ck G cx cW a) B
  | 20 => A
  | 21 => as_putr (sx_n c) (abE L ck G cx cW a) (abE L ck G cx cW b)
  | 22 => as_skip 0
  | 23 => as_putfZ (sx_n c) (abE L ck G cx cW a) (abE L ck G cx cW b)
  | 24 => as_try G (sx_n c) (abE L ck G cx cW a) (abE L ck G cx cW b)
  | 28 => as_if cx (abE L ck G cx cW a) B (as_skip 2)
  | 25 => as_case cx (sx_l a) B C
  | 26 => fun en st => A en.tail st
  | _ => fun _ _ => .error none
def abS (cW : Nat → Nat → Int) : SX → AR
  | .op (.var t) (.op a (.op b c)) => anodeS cx G L ck K cW t a b c (abS cW a) (abS cW b) (abS cW c)
  | _ => fun _ _ => .error none
end ASV
def a_lay : List Nat → List AV → List AV
  | k :: ks, v :: vs => if k = 2 then v :: .inl 0 :: a_lay ks vs else v :: a_lay ks vs
  | [], _ => []
  | _ :: _, [] => []
def abF (cx : AC) (L : Nat) (ck : Nat → List Nat) (K : Nat) (cW : Nat → Nat → Int) (M : Nat → XM) : Nat → AP
  | 0 => fun _ _ _ => .error none
  | n + 1 => fun f args st =>
    (abS cx (abF cx L ck K cW M n) L ck K cW (M f).2.2.2.2 (j_pad (.inl 0) (M f).2.1 (a_lay (M f).2.2.1 args)) st).bind fun r =>
      if (r.1 = 1 ∨ r.1 = 4) ∧ st.1.2.1 ≤ r.2.2.2.1.2.1 ∧ st.1.2.2 ≤ r.2.2.2.1.2.2 ∧ (st.1.1.map (·.1)).isPrefixOf (r.2.2.2.1.1.map (·.1)) = true then .ok (r.1, r.2.1, r.2.2.2) else .error none
def SndS (xs : Nat → Int) (A : AR) (B : XR) : Prop := ∀ (en : List AV) (st : AS) (r : Nat × List AV × List AV × AS), A en st = .ok r → B (en.map (a_v xs)) (a_c xs st) = some (r.1, r.2.1.map (a_v xs), r.2.2.1.map (a_v xs), a_c xs r.2.2.2)
section ASS
variable {xs : Nat → Int} {L K : Nat} {ck : Nat → List Nat} {G : AP} {F : XP} {cx : AC} {A B C : AE} {A' B' C' : XE} {P Q S : AR} {P' Q' S' : XR} {cW : Nat → Nat → Int}
theorem ss_skip {n : Nat} : SndS xs (as_skip n) (fun en st => some (n, [], en, st)) := fun en st r h => by cases h; rfl
theorem ss_seq (hP : SndS xs P P') (hQ : SndS xs Q Q') : SndS xs (as_seq P Q) (s_seq P' Q') := by
  intro en st r h
  obtain ⟨x, h1, h⟩ := ex_bd h
  unfold s_seq
  rw [hP _ _ _ h1, Option.bind_some]
  dsimp only
  by_cases h0 : x.1 = 0
  · rw [if_pos h0] at h ⊢
    exact hQ _ _ _ h
  · rw [if_neg h0] at h ⊢
    cases h
    rfl
theorem ss_loop (hs : SatA xs cx) (hC : SndE xs C C') (hP : SndS xs P P') (hQ : SndS xs Q Q') : ∀ k, SndS xs (as_loop cx C P Q k) (s_loop C' P' Q' k)
  | 0 => fun _ _ _ h => by cases h
  | k + 1 => by
    intro en st r h
    obtain ⟨x, h1, h⟩ := ex_bd h
    obtain ⟨b, h2, h⟩ := ex_bd h
    unfold s_loop
    rw [hC _ _ _ h1, Option.bind_some]
    dsimp only
    rw [a_hd_v]
    rcases a_zero hs h2 with ⟨rfl, e⟩ | ⟨rfl, e⟩
    · rw [if_pos e]
      cases h
      rfl
    · rw [if_neg e]
      obtain ⟨q, h3, h⟩ := ex_bd h
      rw [hP _ _ _ h3, Option.bind_some]
      dsimp only
      by_cases h4 : q.1 = 0 ∨ q.1 = 3
      · rw [if_pos h4] at h ⊢
        obtain ⟨z, h5, h⟩ := ex_bd h
        rw [hQ _ _ _ h5, Option.bind_some]
        dsimp only
        obtain ⟨h6, h⟩ := ex_if h
        rw [if_pos h6]
        exact ss_loop hs hC hP hQ k _ _ _ h
      · rw [if_neg h4] at h ⊢
        by_cases h5 : q.1 = 2
        · rw [if_pos h5] at h ⊢
          cases h
          rfl
        · rw [if_neg h5] at h ⊢
          cases h
          rfl
theorem ss_do (hs : SatA xs cx) (hC : SndE xs C C') (hP : SndS xs P P') : ∀ k, SndS xs (as_do cx P C k) (s_do P' C' k)
  | 0 => fun _ _ _ h => by cases h
  | k + 1 => by
    intro en st r h
    obtain ⟨q, h3, h⟩ := ex_bd h
    unfold s_do
    rw [hP _ _ _ h3, Option.bind_some]
    dsimp only
    by_cases h4 : q.1 = 0 ∨ q.1 = 3
    · rw [if_pos h4] at h ⊢
      obtain ⟨x, h1, h⟩ := ex_bd h
      obtain ⟨b, h2, h⟩ := ex_bd h
      rw [hC _ _ _ h1, Option.bind_some]
      dsimp only
      rw [a_hd_v]
      rcases a_zero hs h2 with ⟨rfl, e⟩ | ⟨rfl, e⟩
      · rw [if_pos e]
        cases h
        rfl
      · rw [if_neg e]
        exact ss_do hs hC hP k _ _ _ h
    · rw [if_neg h4] at h ⊢
      by_cases h5 : q.1 = 2
      · rw [if_pos h5] at h ⊢
        cases h
        rfl
      · rw [if_neg h5] at h ⊢
        cases h
        rfl
theorem set_v {en : List AV} {i : Nat} {v : AV} : (en.set i v).map (a_v xs) = (en.map (a_v xs)).set i (a_v xs v) := List.map_set
theorem ss_store {i : Nat} (hA : SndE xs A A') : SndS xs (as_store i A) (fun en st => (A' en st).bind fun x => some (0, [], en.set i (j_hd x.1), x.2)) := by
  intro en st r h
  obtain ⟨x, h1, h⟩ := ex_bd h
  cases h
  dsimp only
  rw [hA _ _ _ h1, Option.bind_some]
  dsimp only
  rw [a_hd_v, set_v]
  rfl
theorem ss_inc {i : Nat} {n : Int} : SndS xs (as_inc i n) (fun en st => some (0, [], en.set i (j32 (en.getD i 0 + n)), st)) := by
  intro en st r h
  obtain ⟨v, h1, h⟩ := ex_bd h
  cases h
  dsimp only
  rw [getD_v, a_num_ok (xs := xs) h1, set_v, ← f_j32_ok]
  rfl
theorem ss_putf {k : Nat} (hA : SndE xs A A') (hB : SndE xs B B') : SndS xs (as_putf k A B) (s_putf k A' B') := by
  intro en st r h
  obtain ⟨x, h1, h⟩ := ex_bd h
  obtain ⟨y, h2, h⟩ := ex_bd h
  obtain ⟨o, h3, h⟩ := ex_bd h
  cases h
  unfold s_putf
  rw [hA _ _ _ h1, Option.bind_some, hB _ _ _ h2, Option.bind_some]
  dsimp only
  rw [a_hd_v, a_hd_v, a_num_ok (xs := xs) h3, c_upd]
  rfl
theorem ss_putfZ {k : Nat} (hA : SndE xs A A') (hB : SndE xs B B') : SndS xs (as_putfZ k A B) (fun en st => (A' en st).bind fun x => (B' en x.2).bind fun y => if j_hd y.1 = 0 ∨ j_hd y.1 = 1 then some (0, [], en, (y.2.1, j_up y.2.2 (j_hd x.1).toNat k (j_hd y.1))) else none) := by
  intro en st r h
  obtain ⟨x, h1, h⟩ := ex_bd h
  obtain ⟨y, h2, h⟩ := ex_bd h
  obtain ⟨o, h3, h⟩ := ex_bd h
  obtain ⟨v, h4, h⟩ := ex_bd h
  obtain ⟨h5, h⟩ := ex_if h
  cases h
  dsimp only
  rw [hA _ _ _ h1, Option.bind_some, hB _ _ _ h2, Option.bind_some]
  dsimp only
  rw [a_hd_v, a_hd_v, a_num_ok (xs := xs) h3, a_num_ok (xs := xs) h4, c_upd]
  exact if_pos h5
theorem ss_putfC {k op : Nat} (hA : SndE xs A A') (hB : SndE xs B B') : SndS xs (as_putfC k op A B) (s_putfC k op A' B') := by
  intro en st r h
  obtain ⟨x, h1, h⟩ := ex_bd h
  obtain ⟨y, h2, h⟩ := ex_bd h
  obtain ⟨o, h3, h⟩ := ex_bd h
  obtain ⟨p, h4, h⟩ := ex_bd h
  obtain ⟨q, h5, h⟩ := ex_bd h
  cases h
  unfold s_putfC
  rw [hA _ _ _ h1, Option.bind_some, hB _ _ _ h2, Option.bind_some]
  dsimp only
  rw [a_hd_v, a_hd_v, a_num_ok (xs := xs) h3, a_num_ok (xs := xs) h5, c_upd]
  have e : (a_c xs x.2).2 o.toNat k = p := a_num_ok (xs := xs) h4
  rw [e, ← f_iop_ok]
  rfl
theorem ss_putr {k : Nat} (hA : SndE xs A A') (hB : SndE xs B B') : SndS xs (as_putr k A B) (fun en st => (A' en st).bind fun x => (B' en x.2).bind fun y => some (0, [], en, ((j_setR y.2.1.1 (j_hd x.1).toNat k (j_hd y.1).toNat, y.2.1.2), y.2.2))) := by
  intro en st r h
  obtain ⟨x, h1, h⟩ := ex_bd h
  obtain ⟨y, h2, h⟩ := ex_bd h
  obtain ⟨o, h3, h⟩ := ex_bd h
  obtain ⟨v, h4, h⟩ := ex_bd h
  cases h
  dsimp only
  rw [hA _ _ _ h1, Option.bind_some, hB _ _ _ h2, Option.bind_some]
  dsimp only
  rw [a_hd_v, a_hd_v, a_num_ok (xs := xs) h3, a_num_ok (xs := xs) h4]
  rfl
theorem a_cell8 {v w : AV} (h : a_cell 8 v = .ok w) : ((Int32.ofInt (a_v xs v)).toInt8.toInt32).toInt = a_v xs w := by
  obtain ⟨n, h1, h⟩ := ex_bd h
  cases h
  rw [a_num_ok (xs := xs) h1]
  rfl
theorem a_cell9 {v w : AV} (h : a_cell 9 v = .ok w) : (Int32.ofInt (a_v xs v) &&& 1).toInt = a_v xs w := by
  obtain ⟨n, h1, h⟩ := ex_bd h
  cases h
  rw [a_num_ok (xs := xs) h1]
  rfl
theorem a_cellO {ty : Nat} {v w : AV} (h8 : ty ≠ 8) (h9 : ty ≠ 9) (h : a_cell ty v = .ok w) : v = w := by
  unfold a_cell at h
  split at h
  · exact absurd rfl h8
  · exact absurd rfl h9
  · cases h
    rfl
theorem ss_ast {ty : Nat} (hA : SndE xs A A') (hB : SndE xs B B') (hC : SndE xs C C') : SndS xs (as_ast ty A B C) (s_ast ty A' B' C') := by
  intro en st r h
  obtain ⟨x, h1, h⟩ := ex_bd h
  obtain ⟨y, h2, h⟩ := ex_bd h
  obtain ⟨z, h3, h⟩ := ex_bd h
  obtain ⟨o, h4, h⟩ := ex_bd h
  obtain ⟨j, h5, h⟩ := ex_bd h
  obtain ⟨v, h6, h⟩ := ex_bd h
  obtain ⟨h7, h⟩ := ex_if h
  cases h
  unfold s_ast
  rw [hA _ _ _ h1, Option.bind_some, hB _ _ _ h2, Option.bind_some, hC _ _ _ h3, Option.bind_some]
  dsimp only
  rw [a_hd_v, a_hd_v, a_hd_v, a_num_ok (xs := xs) h4, a_num_ok (xs := xs) h5, c_upd]
  refine (if_pos h7).trans ?_
  by_cases h8 : ty = 8
  · subst h8
    rw [a_cell8 h6]
    rfl
  · by_cases h9 : ty = 9
    · subst h9
      rw [a_cell9 h6]
      rfl
    · have e := a_cellO h8 h9 h6
      split
      · exact absurd rfl h8
      · exact absurd rfl h9
      · rw [e]
        rfl
theorem ss_astC {op : Nat} (hA : SndE xs A A') (hB : SndE xs B B') (hC : SndE xs C C') : SndS xs (as_astC op A B C) (s_astC op A' B' C') := by
  intro en st r h
  obtain ⟨x, h1, h⟩ := ex_bd h
  obtain ⟨y, h2, h⟩ := ex_bd h
  obtain ⟨o, h4, h⟩ := ex_bd h
  obtain ⟨j, h5, h⟩ := ex_bd h
  obtain ⟨h7, h⟩ := ex_if h
  obtain ⟨z, h3, h⟩ := ex_bd h
  obtain ⟨h8, h⟩ := ex_if h
  obtain ⟨p, h9, h⟩ := ex_bd h
  obtain ⟨q, h10, h⟩ := ex_bd h
  cases h
  unfold s_astC
  rw [hA _ _ _ h1, Option.bind_some, hB _ _ _ h2, Option.bind_some]
  dsimp only
  rw [a_hd_v, a_hd_v, a_num_ok (xs := xs) h4, a_num_ok (xs := xs) h5, if_pos (show 0 ≤ j ∧ j < j_len (a_c xs y.2).1.1 o.toNat from h7), hC _ _ _ h3, Option.bind_some]
  dsimp only
  rw [if_pos (show j < j_len (a_c xs z.2).1.1 o.toNat from h8), a_hd_v, a_num_ok (xs := xs) h10, c_upd]
  have e : (a_c xs y.2).2 o.toNat j.toNat = p := a_num_ok (xs := xs) h9
  rw [e, ← f_iop_ok]
  rfl
theorem ss_if (hs : SatA xs cx) (hA : SndE xs A A') (hP : SndS xs P P') (hQ : SndS xs Q Q') : SndS xs (as_if cx A P Q) (s_if A' P' Q') := by
  intro en st r h
  obtain ⟨x, h1, h⟩ := ex_bd h
  obtain ⟨v, h3, h⟩ := ex_bd h
  unfold s_if
  rw [hA _ _ _ h1, Option.bind_some]
  dsimp only
  rw [a_hd_v]
  rcases a_zero hs h3 with ⟨rfl, e⟩ | ⟨rfl, e⟩
  · rw [if_pos e]
    exact hQ _ _ _ h
  · rw [if_neg e]
    exact hP _ _ _ h
theorem ss_sw (hA : SndE xs A A') (hP : SndS xs P P') : SndS xs (as_sw A P) (s_sw A' P') := by
  intro en st r h
  obtain ⟨x, h1, h⟩ := ex_bd h
  obtain ⟨q, h3, h⟩ := ex_bd h
  unfold s_sw
  rw [hA _ _ _ h1, Option.bind_some]
  dsimp only
  rw [a_hd_v]
  have e := hP _ _ _ h3
  rw [List.map_cons] at e
  rw [e, Option.bind_some]
  dsimp only
  by_cases h4 : q.1 = 2
  · rw [if_pos h4] at h ⊢
    cases h
    rfl
  · rw [if_neg h4] at h ⊢
    cases h
    rfl
theorem headD_v {en : List AV} : (en.map (a_v xs)).headD 0 = a_v xs (en.headD (.inl 0)) := by cases en <;> rfl
theorem ss_case (hs : SatA xs cx) {l : List Nat} (hP : SndS xs P P') (hQ : SndS xs Q Q') : SndS xs (as_case cx l P Q) (fun en st => if l.any (fun n => decide (en.headD 0 = sx_z n)) then (P' en.tail st).bind fun r => if r.1 = 0 then none else some r else Q' en st) := by
  intro en st r h
  obtain ⟨b, h1, h⟩ := ex_bd h
  dsimp only
  rw [headD_v, a_any_ok hs h1]
  cases b with
  | true =>
    rw [if_pos rfl] at h ⊢
    obtain ⟨q, h3, h⟩ := ex_bd h
    have e := hP _ _ _ h3
    rw [List.map_tail] at e
    rw [e, Option.bind_some]
    dsimp only
    by_cases h4 : q.1 = 0
    · rw [if_pos h4] at h; cases h
    · rw [if_neg h4] at h ⊢
      cases h
      rfl
  | false =>
    rw [if_neg (by decide)] at h ⊢
    exact hQ _ _ _ h
theorem ss_try (hG : SndP xs G F) {f : Nat} (hA : SndE xs A A') (hB : SndE xs B B') : SndS xs (as_try G f A B) (s_try F f A' B') := by
  intro en st r h
  obtain ⟨x, h1, h⟩ := ex_bd h
  obtain ⟨y, h2, h⟩ := ex_bd h
  obtain ⟨q, h3, h⟩ := ex_bd h
  obtain ⟨o, h4, h⟩ := ex_bd h
  unfold s_try
  rw [hA _ _ _ h1, Option.bind_some, hB _ _ _ h2, Option.bind_some]
  dsimp only
  rw [hG _ _ _ _ h3, Option.bind_some]
  dsimp only
  rw [a_hd_v, a_num_ok (xs := xs) h4]
  by_cases h5 : q.1 = 1
  · rw [if_pos h5] at h ⊢
    obtain ⟨h6, h⟩ := ex_if h
    cases h
    rw [if_pos (show 0 < j_len (a_c xs q.2.2).1.1 o.toNat from h6), a_hd_v, c_upd]
    rfl
  · rw [if_neg h5] at h ⊢
    obtain ⟨h6, h⟩ := ex_if h
    cases h
    rw [if_pos h6]
    rfl
theorem ss_ret (hA : SndE xs A A') : SndS xs (as_ret A) (fun en st => (A' en st).bind fun x => some (1, x.1, en, x.2)) := by
  intro en st r h
  obtain ⟨x, h1, h⟩ := ex_bd h
  cases h
  dsimp only
  rw [hA _ _ _ h1, Option.bind_some]
theorem ss_retZ (hA : SndE xs A A') : SndS xs (as_retZ A) (fun en st => (A' en st).bind fun x => if j_hd x.1 = 0 ∨ j_hd x.1 = 1 then some (1, x.1, en, x.2) else none) := by
  intro en st r h
  obtain ⟨x, h1, h⟩ := ex_bd h
  obtain ⟨v, h4, h⟩ := ex_bd h
  obtain ⟨h5, h⟩ := ex_if h
  cases h
  dsimp only
  rw [hA _ _ _ h1, Option.bind_some]
  dsimp only
  rw [a_hd_v, a_num_ok (xs := xs) h4]
  exact if_pos h5
theorem ss_exp (hA : SndE xs A A') : SndS xs (as_exp A) (fun en st => (A' en st).bind fun x => some (0, [], en, x.2)) := by
  intro en st r h
  obtain ⟨x, h1, h⟩ := ex_bd h
  cases h
  dsimp only
  rw [hA _ _ _ h1, Option.bind_some]
  rfl
theorem ss_node (hs : SatA xs cx) (hG : SndP xs G F) {t : Nat} {a b c : SX} (hP : SndS xs P P') (hQ : SndS xs Q Q') (hS : SndS xs S S') : SndS xs (anodeS cx G L ck K cW t a b c P Q S) (nodeS xs L ck F K cW t a b c P' Q' S') := by
  have e := fun t => se_all (L := L) (ck := ck) (cW := cW) hs hG t
  unfold anodeS
  split
  · exact ss_skip
  · exact ss_seq hP hQ
  · exact ss_store (e b)
  · exact ss_inc
  · exact ss_putf (e a) (e b)
  · exact ss_putfC (e a) (e b)
  · split
    · exact ss_ast (e a) (e b) (e _)
    · intro en st r h
      cases h
  · split
    · exact ss_astC (e a) (e b) (e _)
    · intro en st r h
      cases h
  · exact ss_exp (e a)
  · exact ss_if hs (e a) hQ ss_skip
  · exact ss_if hs (e a) hQ hS
  · exact ss_loop hs (e a) hQ hS K
  · exact ss_do hs (e a) hQ K
  · exact ss_skip
  · exact ss_skip
  · exact ss_ret (e a)
  · exact ss_retZ (e a)
  · exact ss_skip
  · intro en st r h
    cases h
    rfl
  · exact ss_sw (e a) hQ
  · exact hP
  · exact ss_putr (e a) (e b)
  · exact ss_skip
  · exact ss_putfZ (e a) (e b)
  · exact ss_try hG (e a) (e b)
  · exact ss_if hs (e a) hQ ss_skip
  · exact ss_case hs hQ hS
  · intro en st r h
    have e2 := hP _ _ _ h
    rw [List.map_tail] at e2
    exact e2
  · intro en st r h
    cases h
theorem ss_all (hs : SatA xs cx) (hG : SndP xs G F) : ∀ t : SX, SndS xs (abS cx G L ck K cW t) (evS xs L ck F K cW t)
  | .op (.var t) (.op a (.op b c)) => ss_node hs hG (ss_all hs hG a) (ss_all hs hG b) (ss_all hs hG c)
  | .var _ => fun _ _ _ h => by cases h
  | .op (.op _ _) _ => fun _ _ _ h => by cases h
  | .op (.var _) (.var _) => fun _ _ _ h => by cases h
  | .op (.var _) (.op _ (.var _)) => fun _ _ _ h => by cases h
theorem lay_v : ∀ (pk : List Nat) (av : List AV), (a_lay pk av).map (a_v xs) = j_lay pk (av.map (a_v xs))
  | [], av => by cases av <;> rfl
  | k :: pk, [] => rfl
  | k :: pk, v :: av => by
    by_cases hk : k = 2
    · show (if k = 2 then v :: .inl 0 :: a_lay pk av else v :: a_lay pk av).map (a_v xs) = if k = 2 then a_v xs v :: 0 :: j_lay pk (av.map (a_v xs)) else a_v xs v :: j_lay pk (av.map (a_v xs))
      rw [if_pos hk, if_pos hk, List.map_cons, List.map_cons, lay_v pk av]
      rfl
    · show (if k = 2 then v :: .inl 0 :: a_lay pk av else v :: a_lay pk av).map (a_v xs) = if k = 2 then a_v xs v :: 0 :: j_lay pk (av.map (a_v xs)) else a_v xs v :: j_lay pk (av.map (a_v xs))
      rw [if_neg hk, if_neg hk, List.map_cons, lay_v pk av]
theorem pad_v {n : Nat} {l : List AV} : (j_pad (.inl 0) n l).map (a_v xs) = j_pad 0 n (l.map (a_v xs)) := by
  unfold j_pad
  rw [List.map_append, List.map_replicate, List.length_map]
  rfl
theorem sf_all (hs : SatA xs cx) {M : Nat → XM} : ∀ n, SndP xs (abF cx L ck K cW M n) (evF xs L ck K cW M n)
  | 0 => fun _ _ _ _ h => by cases h
  | n + 1 => by
    intro f av st r h
    obtain ⟨q, h1, h⟩ := ex_bd h
    obtain ⟨h2, h⟩ := ex_if h
    cases h
    have e := ss_all (L := L) (ck := ck) (K := K) (cW := cW) hs (sf_all hs n) (M f).2.2.2.2 _ _ _ h1
    rw [pad_v, lay_v] at e
    unfold evF
    rw [e, Option.bind_some]
    exact if_pos h2
end ASS
end
section
/-! ===== the law behind its first three statements (written by wip/tools/runs.py) ===== -/
def lawX : SX := (sx 3 (sv 1) (sx 34 (sx 31 z0 z0 z0) z0 z0) z0)
def lawM : SX := (sx 3 (sv 2) (sx 34 (sx 31 z0 z0 z0) (sv 10) (sv 185)) z0)
def lawO : SX := (sx 3 (sv 3) (sx 35 (sx 1 (sv 1) (sv 1) z0) (sv 7) z0) z0)
def lawR : SX := (sx 2 (sx 20 (sx 2 (sx 3 (sv 4) (sx 1 z0 (sv 1) z0) z0) (sx 12 (sx 20 (sx 3 (sv 4) z0 z0) (sx 14 (sx 10 (sx 3 z0 z0 z0) z0 (sv 1)) (sx 1 (sv 7) (sv 1) z0) (sv 1)) (sv 5)) (sx 20 (sx 19 (sx 14 (sx 7 (sx 3 z0 z0 z0) (sx 3 (sv 4) z0 z0) (sv 1)) (sx 1 (sv 63) (sv 1) z0) (sv 3)) (sx 25 (so 0 z0) (sx 2 (sx 9 (sx 32 (sx 30 (sx 3 (sv 1) z0 z0) (sx 30 (sx 15 (sx 16 (sx 18 (sx 7 (sx 3 z0 z0 z0) (sx 14 (sx 3 (sv 4) z0 z0) (sx 1 (sv 1) (sv 1) z0) z0) (sv 1)) z0 (sv 2)) (sx 1 (sv 32) (sv 1) z0) z0) (sx 15 (sx 18 (sx 7 (sx 3 z0 z0 z0) (sx 14 (sx 3 (sv 4) z0 z0) (sx 1 (sv 2) (sv 1) z0) z0) (sv 1)) z0 (sv 2)) (sx 1 (sv 4294967295) (sv 2) z0) (sv 3)) (sv 4)) (sx 30 (sx 15 (sx 16 (sx 18 (sx 7 (sx 3 z0 z0 z0) (sx 14 (sx 3 (sv 4) z0 z0) (sx 1 (sv 3) (sv 1) z0) z0) (sv 1)) z0 (sv 2)) (sx 1 (sv 32) (sv 1) z0) z0) (sx 15 (sx 18 (sx 7 (sx 3 z0 z0 z0) (sx 14 (sx 3 (sv 4) z0 z0) (sx 1 (sv 4) (sv 1) z0) z0) (sv 1)) z0 (sv 2)) (sx 1 (sv 4294967295) (sv 2) z0) (sv 3)) (sv 4)) (sx 30 (sx 15 (sx 16 (sx 18 (sx 7 (sx 3 z0 z0 z0) (sx 14 (sx 3 (sv 4) z0 z0) (sx 1 (sv 5) (sv 1) z0) z0) (sv 1)) z0 (sv 2)) (sx 1 (sv 32) (sv 1) z0) z0) (sx 15 (sx 18 (sx 7 (sx 3 z0 z0 z0) (sx 14 (sx 3 (sv 4) z0 z0) (sx 1 (sv 6) (sv 1) z0) z0) (sv 1)) z0 (sv 2)) (sx 1 (sv 4294967295) (sv 2) z0) (sv 3)) (sv 4)) (sx 31 z0 z0 z0) z0) z0) z0) z0) (sv 1) z0) z0 z0) (sx 2 (sx 9 (sx 32 (sx 30 (sx 3 (sv 2) z0 z0) (sx 30 (sx 15 (sx 16 (sx 18 (sx 7 (sx 3 z0 z0 z0) (sx 14 (sx 3 (sv 4) z0 z0) (sx 1 (sv 1) (sv 1) z0) z0) (sv 1)) z0 (sv 2)) (sx 1 (sv 32) (sv 1) z0) z0) (sx 15 (sx 18 (sx 7 (sx 3 z0 z0 z0) (sx 14 (sx 3 (sv 4) z0 z0) (sx 1 (sv 2) (sv 1) z0) z0) (sv 1)) z0 (sv 2)) (sx 1 (sv 4294967295) (sv 2) z0) (sv 3)) (sv 4)) (sx 30 (sx 15 (sx 16 (sx 18 (sx 7 (sx 3 z0 z0 z0) (sx 14 (sx 3 (sv 4) z0 z0) (sx 1 (sv 3) (sv 1) z0) z0) (sv 1)) z0 (sv 2)) (sx 1 (sv 32) (sv 1) z0) z0) (sx 15 (sx 18 (sx 7 (sx 3 z0 z0 z0) (sx 14 (sx 3 (sv 4) z0 z0) (sx 1 (sv 4) (sv 1) z0) z0) (sv 1)) z0 (sv 2)) (sx 1 (sv 4294967295) (sv 2) z0) (sv 3)) (sv 4)) (sx 30 (sx 15 (sx 16 (sx 18 (sx 7 (sx 3 z0 z0 z0) (sx 14 (sx 3 (sv 4) z0 z0) (sx 1 (sv 5) (sv 1) z0) z0) (sv 1)) z0 (sv 2)) (sx 1 (sv 32) (sv 1) z0) z0) (sx 15 (sx 18 (sx 7 (sx 3 z0 z0 z0) (sx 14 (sx 3 (sv 4) z0 z0) (sx 1 (sv 6) (sv 1) z0) z0) (sv 1)) z0 (sv 2)) (sx 1 (sv 4294967295) (sv 2) z0) (sv 3)) (sv 4)) (sx 31 z0 z0 z0) z0) z0) z0) z0) (sv 183) z0) z0 z0) (sx 14 z0 z0 z0) z0) z0) (sx 25 (so 2 z0) (sx 2 (sx 9 (sx 32 (sx 30 (sx 3 (sv 1) z0 z0) (sx 31 z0 z0 z0) z0) (sv 2) z0) z0 z0) (sx 2 (sx 9 (sx 32 (sx 30 (sx 3 (sv 2) z0 z0) (sx 31 z0 z0 z0) z0) (sv 206) z0) z0 z0) (sx 14 z0 z0 z0) z0) z0) (sx 25 (so 4 z0) (sx 2 (sx 9 (sx 32 (sx 30 (sx 3 (sv 1) z0 z0) (sx 31 z0 z0 z0) z0) (sv 4) z0) z0 z0) (sx 2 (sx 9 (sx 32 (sx 30 (sx 3 (sv 2) z0 z0) (sx 31 z0 z0 z0) z0) (sv 214) z0) z0 z0) (sx 14 z0 z0 z0) z0) z0) (sx 25 (so 6 z0) (sx 2 (sx 9 (sx 32 (sx 30 (sx 3 (sv 1) z0 z0) (sx 30 (sx 7 (sx 3 z0 z0 z0) (sx 14 (sx 3 (sv 4) z0 z0) (sx 1 (sv 1) (sv 1) z0) z0) (sv 1)) (sx 30 (sx 7 (sx 3 z0 z0 z0) (sx 14 (sx 3 (sv 4) z0 z0) (sx 1 (sv 2) (sv 1) z0) z0) (sv 1)) (sx 31 z0 z0 z0) z0) z0) z0) (sv 5) z0) z0 z0) (sx 2 (sx 9 (sx 32 (sx 30 (sx 3 (sv 2) z0 z0) (sx 30 (sx 7 (sx 3 z0 z0 z0) (sx 14 (sx 3 (sv 4) z0 z0) (sx 1 (sv 1) (sv 1) z0) z0) (sv 1)) (sx 30 (sx 7 (sx 3 z0 z0 z0) (sx 14 (sx 3 (sv 4) z0 z0) (sx 1 (sv 2) (sv 1) z0) z0) (sv 1)) (sx 31 z0 z0 z0) z0) z0) z0) (sv 261) z0) z0 z0) (sx 14 z0 z0 z0) z0) z0) (sx 25 (so 8 z0) (sx 2 (sx 9 (sx 32 (sx 30 (sx 3 (sv 1) z0 z0) (sx 30 (sx 7 (sx 3 z0 z0 z0) (sx 14 (sx 3 (sv 4) z0 z0) (sx 1 (sv 1) (sv 1) z0) z0) (sv 1)) (sx 30 (sx 7 (sx 3 z0 z0 z0) (sx 14 (sx 3 (sv 4) z0 z0) (sx 1 (sv 2) (sv 1) z0) z0) (sv 1)) (sx 31 z0 z0 z0) z0) z0) z0) (sv 6) z0) z0 z0) (sx 2 (sx 9 (sx 32 (sx 30 (sx 3 (sv 2) z0 z0) (sx 30 (sx 7 (sx 3 z0 z0 z0) (sx 14 (sx 3 (sv 4) z0 z0) (sx 1 (sv 1) (sv 1) z0) z0) (sv 1)) (sx 30 (sx 7 (sx 3 z0 z0 z0) (sx 14 (sx 3 (sv 4) z0 z0) (sx 1 (sv 2) (sv 1) z0) z0) (sv 1)) (sx 31 z0 z0 z0) z0) z0) z0) (sv 262) z0) z0 z0) (sx 14 z0 z0 z0) z0) z0) (sx 25 (so 10 z0) (sx 2 (sx 9 (sx 32 (sx 30 (sx 3 (sv 1) z0 z0) (sx 30 (sx 7 (sx 3 z0 z0 z0) (sx 14 (sx 3 (sv 4) z0 z0) (sx 1 (sv 1) (sv 1) z0) z0) (sv 1)) (sx 30 (sx 7 (sx 3 z0 z0 z0) (sx 14 (sx 3 (sv 4) z0 z0) (sx 1 (sv 2) (sv 1) z0) z0) (sv 1)) (sx 31 z0 z0 z0) z0) z0) z0) (sv 7) z0) z0 z0) (sx 2 (sx 9 (sx 32 (sx 30 (sx 3 (sv 2) z0 z0) (sx 30 (sx 7 (sx 3 z0 z0 z0) (sx 14 (sx 3 (sv 4) z0 z0) (sx 1 (sv 1) (sv 1) z0) z0) (sv 1)) (sx 30 (sx 7 (sx 3 z0 z0 z0) (sx 14 (sx 3 (sv 4) z0 z0) (sx 1 (sv 2) (sv 1) z0) z0) (sv 1)) (sx 31 z0 z0 z0) z0) z0) z0) (sv 263) z0) z0 z0) (sx 14 z0 z0 z0) z0) z0) (sx 25 (so 12 z0) (sx 2 (sx 9 (sx 32 (sx 30 (sx 3 (sv 1) z0 z0) (sx 30 (sx 7 (sx 3 z0 z0 z0) (sx 14 (sx 3 (sv 4) z0 z0) (sx 1 (sv 1) (sv 1) z0) z0) (sv 1)) (sx 30 (sx 7 (sx 3 z0 z0 z0) (sx 14 (sx 3 (sv 4) z0 z0) (sx 1 (sv 2) (sv 1) z0) z0) (sv 1)) (sx 30 (sx 7 (sx 3 z0 z0 z0) (sx 14 (sx 3 (sv 4) z0 z0) (sx 1 (sv 3) (sv 1) z0) z0) (sv 1)) (sx 31 z0 z0 z0) z0) z0) z0) z0) (sv 8) z0) z0 z0) (sx 2 (sx 9 (sx 32 (sx 30 (sx 3 (sv 2) z0 z0) (sx 30 (sx 7 (sx 3 z0 z0 z0) (sx 14 (sx 3 (sv 4) z0 z0) (sx 1 (sv 1) (sv 1) z0) z0) (sv 1)) (sx 30 (sx 7 (sx 3 z0 z0 z0) (sx 14 (sx 3 (sv 4) z0 z0) (sx 1 (sv 2) (sv 1) z0) z0) (sv 1)) (sx 30 (sx 7 (sx 3 z0 z0 z0) (sx 14 (sx 3 (sv 4) z0 z0) (sx 1 (sv 3) (sv 1) z0) z0) (sv 1)) (sx 31 z0 z0 z0) z0) z0) z0) z0) (sv 265) z0) z0 z0) (sx 14 z0 z0 z0) z0) z0) (sx 25 (so 14 z0) (sx 2 (sx 9 (sx 32 (sx 30 (sx 3 (sv 1) z0 z0) (sx 30 (sx 7 (sx 3 z0 z0 z0) (sx 14 (sx 3 (sv 4) z0 z0) (sx 1 (sv 1) (sv 1) z0) z0) (sv 1)) (sx 30 (sx 7 (sx 3 z0 z0 z0) (sx 14 (sx 3 (sv 4) z0 z0) (sx 1 (sv 2) (sv 1) z0) z0) (sv 1)) (sx 30 (sx 7 (sx 3 z0 z0 z0) (sx 14 (sx 3 (sv 4) z0 z0) (sx 1 (sv 3) (sv 1) z0) z0) (sv 1)) (sx 31 z0 z0 z0) z0) z0) z0) z0) (sv 9) z0) z0 z0) (sx 2 (sx 9 (sx 32 (sx 30 (sx 3 (sv 2) z0 z0) (sx 30 (sx 7 (sx 3 z0 z0 z0) (sx 14 (sx 3 (sv 4) z0 z0) (sx 1 (sv 1) (sv 1) z0) z0) (sv 1)) (sx 30 (sx 7 (sx 3 z0 z0 z0) (sx 14 (sx 3 (sv 4) z0 z0) (sx 1 (sv 2) (sv 1) z0) z0) (sv 1)) (sx 30 (sx 7 (sx 3 z0 z0 z0) (sx 14 (sx 3 (sv 4) z0 z0) (sx 1 (sv 3) (sv 1) z0) z0) (sv 1)) (sx 31 z0 z0 z0) z0) z0) z0) z0) (sv 267) z0) z0 z0) (sx 14 z0 z0 z0) z0) z0) (sx 25 (so 16 z0) (sx 2 (sx 9 (sx 32 (sx 30 (sx 3 (sv 1) z0 z0) (sx 30 (sx 7 (sx 3 z0 z0 z0) (sx 14 (sx 3 (sv 4) z0 z0) (sx 1 (sv 1) (sv 1) z0) z0) (sv 1)) (sx 30 (sx 7 (sx 3 z0 z0 z0) (sx 14 (sx 3 (sv 4) z0 z0) (sx 1 (sv 2) (sv 1) z0) z0) (sv 1)) (sx 31 z0 z0 z0) z0) z0) z0) (sv 10) z0) z0 z0) (sx 2 (sx 9 (sx 32 (sx 30 (sx 3 (sv 2) z0 z0) (sx 30 (sx 7 (sx 3 z0 z0 z0) (sx 14 (sx 3 (sv 4) z0 z0) (sx 1 (sv 1) (sv 1) z0) z0) (sv 1)) (sx 30 (sx 7 (sx 3 z0 z0 z0) (sx 14 (sx 3 (sv 4) z0 z0) (sx 1 (sv 2) (sv 1) z0) z0) (sv 1)) (sx 31 z0 z0 z0) z0) z0) z0) (sv 268) z0) z0 z0) (sx 14 z0 z0 z0) z0) z0) (sx 25 (so 18 z0) (sx 2 (sx 9 (sx 32 (sx 30 (sx 3 (sv 1) z0 z0) (sx 31 z0 z0 z0) z0) (sv 11) z0) z0 z0) (sx 2 (sx 9 (sx 32 (sx 30 (sx 3 (sv 2) z0 z0) (sx 31 z0 z0 z0) z0) (sv 271) z0) z0 z0) (sx 14 z0 z0 z0) z0) z0) (sx 25 (so 20 z0) (sx 2 (sx 9 (sx 32 (sx 30 (sx 3 (sv 1) z0 z0) (sx 31 z0 z0 z0) z0) (sv 12) z0) z0 z0) (sx 2 (sx 9 (sx 32 (sx 30 (sx 3 (sv 2) z0 z0) (sx 31 z0 z0 z0) z0) (sv 272) z0) z0 z0) (sx 14 z0 z0 z0) z0) z0) (sx 25 (so 22 z0) (sx 2 (sx 20 (sx 2 (sx 3 (sv 5) (sx 32 (sx 30 (sx 3 (sv 1) z0 z0) (sx 30 (sx 7 (sx 3 z0 z0 z0) (sx 14 (sx 3 (sv 4) z0 z0) (sx 1 (sv 1) (sv 1) z0) z0) (sv 1)) (sx 30 (sx 3 (sv 3) z0 z0) (sx 31 z0 z0 z0) z0) z0) z0) (sv 314) z0) z0) (sx 3 (sv 6) (sx 32 (sx 30 (sx 3 (sv 2) z0 z0) (sx 30 (sx 7 (sx 3 z0 z0 z0) (sx 14 (sx 3 (sv 4) z0 z0) (sx 1 (sv 1) (sv 1) z0) z0) (sv 1)) (sx 31 z0 z0 z0) z0) z0) (sv 273) z0) z0) z0) z0 z0) (sx 14 z0 z0 z0) z0) (sx 25 (so 24 z0) (sx 2 (sx 20 (sx 2 (sx 3 (sv 5) (sx 32 (sx 30 (sx 3 (sv 1) z0 z0) (sx 30 (sx 7 (sx 3 z0 z0 z0) (sx 14 (sx 3 (sv 4) z0 z0) (sx 1 (sv 1) (sv 1) z0) z0) (sv 1)) (sx 30 (sx 7 (sx 3 z0 z0 z0) (sx 14 (sx 3 (sv 4) z0 z0) (sx 1 (sv 2) (sv 1) z0) z0) (sv 1)) (sx 30 (sx 3 (sv 3) z0 z0) (sx 31 z0 z0 z0) z0) z0) z0) z0) (sv 315) z0) z0) (sx 3 (sv 6) (sx 32 (sx 30 (sx 3 (sv 2) z0 z0) (sx 30 (sx 7 (sx 3 z0 z0 z0) (sx 14 (sx 3 (sv 4) z0 z0) (sx 1 (sv 1) (sv 1) z0) z0) (sv 1)) (sx 30 (sx 7 (sx 3 z0 z0 z0) (sx 14 (sx 3 (sv 4) z0 z0) (sx 1 (sv 2) (sv 1) z0) z0) (sv 1)) (sx 31 z0 z0 z0) z0) z0) z0) (sv 275) z0) z0) z0) z0 z0) (sx 14 z0 z0 z0) z0) (sx 25 (so 26 z0) (sx 2 (sx 20 (sx 2 (sx 3 (sv 5) (sx 32 (sx 30 (sx 3 (sv 1) z0 z0) (sx 30 (sx 7 (sx 3 z0 z0 z0) (sx 14 (sx 3 (sv 4) z0 z0) (sx 1 (sv 1) (sv 1) z0) z0) (sv 1)) (sx 30 (sx 7 (sx 3 z0 z0 z0) (sx 14 (sx 3 (sv 4) z0 z0) (sx 1 (sv 2) (sv 1) z0) z0) (sv 1)) (sx 30 (sx 3 (sv 3) z0 z0) (sx 31 z0 z0 z0) z0) z0) z0) z0) (sv 316) z0) z0) (sx 2 (sx 3 (sv 6) (sx 32 (sx 30 (sx 3 (sv 2) z0 z0) (sx 30 (sx 7 (sx 3 z0 z0 z0) (sx 14 (sx 3 (sv 4) z0 z0) (sx 1 (sv 1) (sv 1) z0) z0) (sv 1)) (sx 30 (sx 7 (sx 3 z0 z0 z0) (sx 14 (sx 3 (sv 4) z0 z0) (sx 1 (sv 2) (sv 1) z0) z0) (sv 1)) (sx 31 z0 z0 z0) z0) z0) z0) (sv 276) z0) z0) (sx 2 (sx 10 (sx 20 (sx 32 (sx 30 (sx 3 (sv 2) z0 z0) (sx 31 z0 z0 z0) z0) (sv 182) z0) (sx 3 (sv 5) z0 z0) (sv 1)) (sx 27 (sx 1 z0 (sv 1) z0) z0 z0) z0) (sx 10 (sx 25 (sx 21 (sx 3 (sv 5) z0 z0) z0 z0) (sx 22 (sx 7 (sx 3 (sv 3) z0 z0) (sx 1 z0 (sv 1) z0) z0) (sx 18 (sx 3 (sv 6) z0 z0) z0 (sv 2)) (sv 1)) z0) (sx 27 (sx 1 z0 (sv 1) z0) z0 z0) z0) z0) z0) z0) z0 z0) (sx 14 z0 z0 z0) z0) (sx 25 (so 28 z0) (sx 2 (sx 20 (sx 2 (sx 3 (sv 5) (sx 32 (sx 30 (sx 3 (sv 1) z0 z0) (sx 30 (sx 7 (sx 3 z0 z0 z0) (sx 14 (sx 3 (sv 4) z0 z0) (sx 1 (sv 1) (sv 1) z0) z0) (sv 1)) (sx 30 (sx 7 (sx 3 z0 z0 z0) (sx 14 (sx 3 (sv 4) z0 z0) (sx 1 (sv 2) (sv 1) z0) z0) (sv 1)) (sx 30 (sx 3 (sv 3) z0 z0) (sx 31 z0 z0 z0) z0) z0) z0) z0) (sv 317) z0) z0) (sx 3 (sv 6) (sx 32 (sx 30 (sx 3 (sv 2) z0 z0) (sx 30 (sx 7 (sx 3 z0 z0 z0) (sx 14 (sx 3 (sv 4) z0 z0) (sx 1 (sv 1) (sv 1) z0) z0) (sv 1)) (sx 30 (sx 7 (sx 3 z0 z0 z0) (sx 14 (sx 3 (sv 4) z0 z0) (sx 1 (sv 2) (sv 1) z0) z0) (sv 1)) (sx 31 z0 z0 z0) z0) z0) z0) (sv 277) z0) z0) z0) z0 z0) (sx 14 z0 z0 z0) z0) (sx 25 (so 30 z0) (sx 2 (sx 20 (sx 2 (sx 3 (sv 5) (sx 32 (sx 30 (sx 3 (sv 1) z0 z0) (sx 30 (sx 7 (sx 3 z0 z0 z0) (sx 14 (sx 3 (sv 4) z0 z0) (sx 1 (sv 1) (sv 1) z0) z0) (sv 1)) (sx 30 (sx 3 (sv 3) z0 z0) (sx 31 z0 z0 z0) z0) z0) z0) (sv 318) z0) z0) (sx 3 (sv 6) (sx 32 (sx 30 (sx 3 (sv 2) z0 z0) (sx 30 (sx 7 (sx 3 z0 z0 z0) (sx 14 (sx 3 (sv 4) z0 z0) (sx 1 (sv 1) (sv 1) z0) z0) (sv 1)) (sx 31 z0 z0 z0) z0) z0) (sv 278) z0) z0) z0) z0 z0) (sx 14 z0 z0 z0) z0) (sx 25 (so 32 z0) (sx 2 (sx 20 (sx 2 (sx 3 (sv 5) (sx 32 (sx 30 (sx 3 (sv 1) z0 z0) (sx 30 (sx 7 (sx 3 z0 z0 z0) (sx 14 (sx 3 (sv 4) z0 z0) (sx 1 (sv 1) (sv 1) z0) z0) (sv 1)) (sx 30 (sx 7 (sx 3 z0 z0 z0) (sx 14 (sx 3 (sv 4) z0 z0) (sx 1 (sv 2) (sv 1) z0) z0) (sv 1)) (sx 30 (sx 3 (sv 3) z0 z0) (sx 31 z0 z0 z0) z0) z0) z0) z0) (sv 319) z0) z0) (sx 3 (sv 6) (sx 32 (sx 30 (sx 3 (sv 2) z0 z0) (sx 30 (sx 7 (sx 3 z0 z0 z0) (sx 14 (sx 3 (sv 4) z0 z0) (sx 1 (sv 1) (sv 1) z0) z0) (sv 1)) (sx 30 (sx 7 (sx 3 z0 z0 z0) (sx 14 (sx 3 (sv 4) z0 z0) (sx 1 (sv 2) (sv 1) z0) z0) (sv 1)) (sx 31 z0 z0 z0) z0) z0) z0) (sv 279) z0) z0) z0) z0 z0) (sx 14 z0 z0 z0) z0) (sx 25 (so 34 z0) (sx 2 (sx 20 (sx 2 (sx 3 (sv 5) (sx 32 (sx 30 (sx 3 (sv 1) z0 z0) (sx 30 (sx 7 (sx 3 z0 z0 z0) (sx 14 (sx 3 (sv 4) z0 z0) (sx 1 (sv 1) (sv 1) z0) z0) (sv 1)) (sx 30 (sx 7 (sx 3 z0 z0 z0) (sx 14 (sx 3 (sv 4) z0 z0) (sx 1 (sv 2) (sv 1) z0) z0) (sv 1)) (sx 30 (sx 3 (sv 3) z0 z0) (sx 31 z0 z0 z0) z0) z0) z0) z0) (sv 320) z0) z0) (sx 3 (sv 6) (sx 32 (sx 30 (sx 3 (sv 2) z0 z0) (sx 30 (sx 7 (sx 3 z0 z0 z0) (sx 14 (sx 3 (sv 4) z0 z0) (sx 1 (sv 1) (sv 1) z0) z0) (sv 1)) (sx 30 (sx 7 (sx 3 z0 z0 z0) (sx 14 (sx 3 (sv 4) z0 z0) (sx 1 (sv 2) (sv 1) z0) z0) (sv 1)) (sx 31 z0 z0 z0) z0) z0) z0) (sv 280) z0) z0) z0) z0 z0) (sx 14 z0 z0 z0) z0) (sx 25 (so 36 z0) (sx 2 (sx 20 (sx 2 (sx 3 (sv 5) (sx 32 (sx 30 (sx 3 (sv 1) z0 z0) (sx 30 (sx 7 (sx 3 z0 z0 z0) (sx 14 (sx 3 (sv 4) z0 z0) (sx 1 (sv 1) (sv 1) z0) z0) (sv 1)) (sx 30 (sx 7 (sx 3 z0 z0 z0) (sx 14 (sx 3 (sv 4) z0 z0) (sx 1 (sv 2) (sv 1) z0) z0) (sv 1)) (sx 30 (sx 3 (sv 3) z0 z0) (sx 31 z0 z0 z0) z0) z0) z0) z0) (sv 321) z0) z0) (sx 3 (sv 6) (sx 32 (sx 30 (sx 3 (sv 2) z0 z0) (sx 30 (sx 7 (sx 3 z0 z0 z0) (sx 14 (sx 3 (sv 4) z0 z0) (sx 1 (sv 1) (sv 1) z0) z0) (sv 1)) (sx 30 (sx 7 (sx 3 z0 z0 z0) (sx 14 (sx 3 (sv 4) z0 z0) (sx 1 (sv 2) (sv 1) z0) z0) (sv 1)) (sx 31 z0 z0 z0) z0) z0) z0) (sv 281) z0) z0) z0) z0 z0) (sx 14 z0 z0 z0) z0) (sx 25 (so 38 z0) (sx 2 (sx 20 (sx 2 (sx 3 (sv 5) (sx 32 (sx 30 (sx 3 (sv 1) z0 z0) (sx 30 (sx 7 (sx 3 z0 z0 z0) (sx 14 (sx 3 (sv 4) z0 z0) (sx 1 (sv 1) (sv 1) z0) z0) (sv 1)) (sx 30 (sx 3 (sv 3) z0 z0) (sx 31 z0 z0 z0) z0) z0) z0) (sv 322) z0) z0) (sx 3 (sv 6) (sx 32 (sx 30 (sx 3 (sv 2) z0 z0) (sx 30 (sx 7 (sx 3 z0 z0 z0) (sx 14 (sx 3 (sv 4) z0 z0) (sx 1 (sv 1) (sv 1) z0) z0) (sv 1)) (sx 31 z0 z0 z0) z0) z0) (sv 282) z0) z0) z0) z0 z0) (sx 14 z0 z0 z0) z0) (sx 25 (so 40 z0) (sx 2 (sx 9 (sx 32 (sx 30 (sx 3 (sv 1) z0 z0) (sx 30 (sx 7 (sx 3 z0 z0 z0) (sx 14 (sx 3 (sv 4) z0 z0) (sx 1 (sv 1) (sv 1) z0) z0) (sv 1)) (sx 31 z0 z0 z0) z0) z0) (sv 22) z0) z0 z0) (sx 2 (sx 9 (sx 32 (sx 30 (sx 3 (sv 2) z0 z0) (sx 30 (sx 7 (sx 3 z0 z0 z0) (sx 14 (sx 3 (sv 4) z0 z0) (sx 1 (sv 1) (sv 1) z0) z0) (sv 1)) (sx 31 z0 z0 z0) z0) z0) (sv 283) z0) z0 z0) (sx 14 z0 z0 z0) z0) z0) (sx 25 (so 42 z0) (sx 2 (sx 9 (sx 32 (sx 30 (sx 3 (sv 1) z0 z0) (sx 30 (sx 7 (sx 3 z0 z0 z0) (sx 14 (sx 3 (sv 4) z0 z0) (sx 1 (sv 1) (sv 1) z0) z0) (sv 1)) (sx 30 (sx 7 (sx 3 z0 z0 z0) (sx 14 (sx 3 (sv 4) z0 z0) (sx 1 (sv 2) (sv 1) z0) z0) (sv 1)) (sx 31 z0 z0 z0) z0) z0) z0) (sv 23) z0) z0 z0) (sx 2 (sx 9 (sx 32 (sx 30 (sx 3 (sv 2) z0 z0) (sx 30 (sx 7 (sx 3 z0 z0 z0) (sx 14 (sx 3 (sv 4) z0 z0) (sx 1 (sv 1) (sv 1) z0) z0) (sv 1)) (sx 30 (sx 7 (sx 3 z0 z0 z0) (sx 14 (sx 3 (sv 4) z0 z0) (sx 1 (sv 2) (sv 1) z0) z0) (sv 1)) (sx 31 z0 z0 z0) z0) z0) z0) (sv 284) z0) z0 z0) (sx 14 z0 z0 z0) z0) z0) (sx 25 (so 44 z0) (sx 2 (sx 20 (sx 2 (sx 3 (sv 5) (sx 32 (sx 30 (sx 3 (sv 1) z0 z0) (sx 30 (sx 7 (sx 3 z0 z0 z0) (sx 14 (sx 3 (sv 4) z0 z0) (sx 1 (sv 1) (sv 1) z0) z0) (sv 1)) (sx 30 (sx 3 (sv 3) z0 z0) (sx 31 z0 z0 z0) z0) z0) z0) (sv 323) z0) z0) (sx 3 (sv 6) (sx 32 (sx 30 (sx 3 (sv 2) z0 z0) (sx 30 (sx 7 (sx 3 z0 z0 z0) (sx 14 (sx 3 (sv 4) z0 z0) (sx 1 (sv 1) (sv 1) z0) z0) (sv 1)) (sx 31 z0 z0 z0) z0) z0) (sv 286) z0) z0) z0) z0 z0) (sx 14 z0 z0 z0) z0) (sx 25 (so 46 z0) (sx 2 (sx 9 (sx 32 (sx 30 (sx 3 (sv 1) z0 z0) (sx 31 z0 z0 z0) z0) (sv 25) z0) z0 z0) (sx 2 (sx 9 (sx 32 (sx 30 (sx 3 (sv 2) z0 z0) (sx 31 z0 z0 z0) z0) (sv 288) z0) z0 z0) (sx 14 z0 z0 z0) z0) z0) (sx 25 (so 48 z0) (sx 2 (sx 9 (sx 32 (sx 30 (sx 3 (sv 1) z0 z0) (sx 31 z0 z0 z0) z0) (sv 26) z0) z0 z0) (sx 2 (sx 9 (sx 32 (sx 30 (sx 3 (sv 2) z0 z0) (sx 31 z0 z0 z0) z0) (sv 289) z0) z0 z0) (sx 14 z0 z0 z0) z0) z0) (sx 25 (so 50 z0) (sx 2 (sx 20 (sx 2 (sx 3 (sv 5) (sx 32 (sx 30 (sx 3 (sv 1) z0 z0) (sx 30 (sx 7 (sx 3 z0 z0 z0) (sx 14 (sx 3 (sv 4) z0 z0) (sx 1 (sv 1) (sv 1) z0) z0) (sv 1)) (sx 30 (sx 7 (sx 3 z0 z0 z0) (sx 14 (sx 3 (sv 4) z0 z0) (sx 1 (sv 2) (sv 1) z0) z0) (sv 1)) (sx 30 (sx 7 (sx 3 z0 z0 z0) (sx 14 (sx 3 (sv 4) z0 z0) (sx 1 (sv 3) (sv 1) z0) z0) (sv 1)) (sx 30 (sx 3 (sv 3) z0 z0) (sx 31 z0 z0 z0) z0) z0) z0) z0) z0) (sv 324) z0) z0) (sx 3 (sv 6) (sx 32 (sx 30 (sx 3 (sv 2) z0 z0) (sx 30 (sx 7 (sx 3 z0 z0 z0) (sx 14 (sx 3 (sv 4) z0 z0) (sx 1 (sv 1) (sv 1) z0) z0) (sv 1)) (sx 30 (sx 7 (sx 3 z0 z0 z0) (sx 14 (sx 3 (sv 4) z0 z0) (sx 1 (sv 2) (sv 1) z0) z0) (sv 1)) (sx 30 (sx 7 (sx 3 z0 z0 z0) (sx 14 (sx 3 (sv 4) z0 z0) (sx 1 (sv 3) (sv 1) z0) z0) (sv 1)) (sx 31 z0 z0 z0) z0) z0) z0) z0) (sv 292) z0) z0) z0) z0 z0) (sx 14 z0 z0 z0) z0) (sx 25 (so 52 z0) (sx 2 (sx 20 (sx 2 (sx 3 (sv 5) (sx 32 (sx 30 (sx 3 (sv 1) z0 z0) (sx 30 (sx 7 (sx 3 z0 z0 z0) (sx 14 (sx 3 (sv 4) z0 z0) (sx 1 (sv 1) (sv 1) z0) z0) (sv 1)) (sx 30 (sx 7 (sx 3 z0 z0 z0) (sx 14 (sx 3 (sv 4) z0 z0) (sx 1 (sv 2) (sv 1) z0) z0) (sv 1)) (sx 30 (sx 7 (sx 3 z0 z0 z0) (sx 14 (sx 3 (sv 4) z0 z0) (sx 1 (sv 3) (sv 1) z0) z0) (sv 1)) (sx 30 (sx 3 (sv 3) z0 z0) (sx 31 z0 z0 z0) z0) z0) z0) z0) z0) (sv 325) z0) z0) (sx 3 (sv 6) (sx 32 (sx 30 (sx 3 (sv 2) z0 z0) (sx 30 (sx 7 (sx 3 z0 z0 z0) (sx 14 (sx 3 (sv 4) z0 z0) (sx 1 (sv 1) (sv 1) z0) z0) (sv 1)) (sx 30 (sx 7 (sx 3 z0 z0 z0) (sx 14 (sx 3 (sv 4) z0 z0) (sx 1 (sv 2) (sv 1) z0) z0) (sv 1)) (sx 30 (sx 7 (sx 3 z0 z0 z0) (sx 14 (sx 3 (sv 4) z0 z0) (sx 1 (sv 3) (sv 1) z0) z0) (sv 1)) (sx 31 z0 z0 z0) z0) z0) z0) z0) (sv 293) z0) z0) z0) z0 z0) (sx 14 z0 z0 z0) z0) (sx 25 (so 54 z0) (sx 2 (sx 20 (sx 2 (sx 3 (sv 5) (sx 32 (sx 30 (sx 3 (sv 1) z0 z0) (sx 30 (sx 7 (sx 3 z0 z0 z0) (sx 14 (sx 3 (sv 4) z0 z0) (sx 1 (sv 1) (sv 1) z0) z0) (sv 1)) (sx 30 (sx 3 (sv 3) z0 z0) (sx 31 z0 z0 z0) z0) z0) z0) (sv 326) z0) z0) (sx 3 (sv 6) (sx 32 (sx 30 (sx 3 (sv 2) z0 z0) (sx 30 (sx 7 (sx 3 z0 z0 z0) (sx 14 (sx 3 (sv 4) z0 z0) (sx 1 (sv 1) (sv 1) z0) z0) (sv 1)) (sx 31 z0 z0 z0) z0) z0) (sv 294) z0) z0) z0) z0 z0) (sx 14 z0 z0 z0) z0) (sx 25 (so 56 z0) (sx 2 (sx 9 (sx 32 (sx 30 (sx 3 (sv 1) z0 z0) (sx 31 z0 z0 z0) z0) (sv 30) z0) z0 z0) (sx 2 (sx 9 (sx 32 (sx 30 (sx 3 (sv 2) z0 z0) (sx 31 z0 z0 z0) z0) (sv 295) z0) z0 z0) (sx 14 z0 z0 z0) z0) z0) (sx 25 (so 58 z0) (sx 2 (sx 20 (sx 2 (sx 3 (sv 5) (sx 32 (sx 30 (sx 3 (sv 1) z0 z0) (sx 30 (sx 7 (sx 3 z0 z0 z0) (sx 14 (sx 3 (sv 4) z0 z0) (sx 1 (sv 1) (sv 1) z0) z0) (sv 1)) (sx 30 (sx 7 (sx 3 z0 z0 z0) (sx 14 (sx 3 (sv 4) z0 z0) (sx 1 (sv 2) (sv 1) z0) z0) (sv 1)) (sx 30 (sx 3 (sv 3) z0 z0) (sx 31 z0 z0 z0) z0) z0) z0) z0) (sv 327) z0) z0) (sx 3 (sv 6) (sx 32 (sx 30 (sx 3 (sv 2) z0 z0) (sx 30 (sx 7 (sx 3 z0 z0 z0) (sx 14 (sx 3 (sv 4) z0 z0) (sx 1 (sv 1) (sv 1) z0) z0) (sv 1)) (sx 30 (sx 7 (sx 3 z0 z0 z0) (sx 14 (sx 3 (sv 4) z0 z0) (sx 1 (sv 2) (sv 1) z0) z0) (sv 1)) (sx 31 z0 z0 z0) z0) z0) z0) (sv 296) z0) z0) z0) z0 z0) (sx 14 z0 z0 z0) z0) (sx 25 (so 60 z0) (sx 2 (sx 20 (sx 2 (sx 3 (sv 5) (sx 32 (sx 30 (sx 3 (sv 1) z0 z0) (sx 30 (sx 7 (sx 3 z0 z0 z0) (sx 14 (sx 3 (sv 4) z0 z0) (sx 1 (sv 1) (sv 1) z0) z0) (sv 1)) (sx 30 (sx 7 (sx 3 z0 z0 z0) (sx 14 (sx 3 (sv 4) z0 z0) (sx 1 (sv 2) (sv 1) z0) z0) (sv 1)) (sx 30 (sx 3 (sv 3) z0 z0) (sx 31 z0 z0 z0) z0) z0) z0) z0) (sv 328) z0) z0) (sx 3 (sv 6) (sx 32 (sx 30 (sx 3 (sv 2) z0 z0) (sx 30 (sx 7 (sx 3 z0 z0 z0) (sx 14 (sx 3 (sv 4) z0 z0) (sx 1 (sv 1) (sv 1) z0) z0) (sv 1)) (sx 30 (sx 7 (sx 3 z0 z0 z0) (sx 14 (sx 3 (sv 4) z0 z0) (sx 1 (sv 2) (sv 1) z0) z0) (sv 1)) (sx 31 z0 z0 z0) z0) z0) z0) (sv 297) z0) z0) z0) z0 z0) (sx 14 z0 z0 z0) z0) (sx 25 (so 62 z0) (sx 2 (sx 20 (sx 2 (sx 3 (sv 5) (sx 32 (sx 30 (sx 3 (sv 1) z0 z0) (sx 30 (sx 7 (sx 3 z0 z0 z0) (sx 14 (sx 3 (sv 4) z0 z0) (sx 1 (sv 1) (sv 1) z0) z0) (sv 1)) (sx 30 (sx 7 (sx 3 z0 z0 z0) (sx 14 (sx 3 (sv 4) z0 z0) (sx 1 (sv 2) (sv 1) z0) z0) (sv 1)) (sx 30 (sx 7 (sx 3 z0 z0 z0) (sx 14 (sx 3 (sv 4) z0 z0) (sx 1 (sv 3) (sv 1) z0) z0) (sv 1)) (sx 30 (sx 7 (sx 3 z0 z0 z0) (sx 14 (sx 3 (sv 4) z0 z0) (sx 1 (sv 4) (sv 1) z0) z0) (sv 1)) (sx 30 (sx 3 (sv 3) z0 z0) (sx 31 z0 z0 z0) z0) z0) z0) z0) z0) z0) (sv 329) z0) z0) (sx 3 (sv 6) (sx 32 (sx 30 (sx 3 (sv 2) z0 z0) (sx 30 (sx 7 (sx 3 z0 z0 z0) (sx 14 (sx 3 (sv 4) z0 z0) (sx 1 (sv 1) (sv 1) z0) z0) (sv 1)) (sx 30 (sx 7 (sx 3 z0 z0 z0) (sx 14 (sx 3 (sv 4) z0 z0) (sx 1 (sv 2) (sv 1) z0) z0) (sv 1)) (sx 30 (sx 7 (sx 3 z0 z0 z0) (sx 14 (sx 3 (sv 4) z0 z0) (sx 1 (sv 3) (sv 1) z0) z0) (sv 1)) (sx 30 (sx 7 (sx 3 z0 z0 z0) (sx 14 (sx 3 (sv 4) z0 z0) (sx 1 (sv 4) (sv 1) z0) z0) (sv 1)) (sx 31 z0 z0 z0) z0) z0) z0) z0) z0) (sv 299) z0) z0) z0) z0 z0) (sx 14 z0 z0 z0) z0) (sx 25 (so 64 z0) (sx 2 (sx 20 (sx 2 (sx 3 (sv 5) (sx 32 (sx 30 (sx 3 (sv 1) z0 z0) (sx 30 (sx 7 (sx 3 z0 z0 z0) (sx 14 (sx 3 (sv 4) z0 z0) (sx 1 (sv 1) (sv 1) z0) z0) (sv 1)) (sx 30 (sx 7 (sx 3 z0 z0 z0) (sx 14 (sx 3 (sv 4) z0 z0) (sx 1 (sv 2) (sv 1) z0) z0) (sv 1)) (sx 30 (sx 3 (sv 3) z0 z0) (sx 31 z0 z0 z0) z0) z0) z0) z0) (sv 330) z0) z0) (sx 3 (sv 6) (sx 32 (sx 30 (sx 3 (sv 2) z0 z0) (sx 30 (sx 7 (sx 3 z0 z0 z0) (sx 14 (sx 3 (sv 4) z0 z0) (sx 1 (sv 1) (sv 1) z0) z0) (sv 1)) (sx 30 (sx 7 (sx 3 z0 z0 z0) (sx 14 (sx 3 (sv 4) z0 z0) (sx 1 (sv 2) (sv 1) z0) z0) (sv 1)) (sx 31 z0 z0 z0) z0) z0) z0) (sv 300) z0) z0) z0) z0 z0) (sx 14 z0 z0 z0) z0) (sx 25 (so 66 z0) (sx 2 (sx 9 (sx 32 (sx 30 (sx 3 (sv 1) z0 z0) (sx 30 (sx 7 (sx 3 z0 z0 z0) (sx 14 (sx 3 (sv 4) z0 z0) (sx 1 (sv 1) (sv 1) z0) z0) (sv 1)) (sx 31 z0 z0 z0) z0) z0) (sv 35) z0) z0 z0) (sx 2 (sx 9 (sx 32 (sx 30 (sx 3 (sv 2) z0 z0) (sx 30 (sx 7 (sx 3 z0 z0 z0) (sx 14 (sx 3 (sv 4) z0 z0) (sx 1 (sv 1) (sv 1) z0) z0) (sv 1)) (sx 31 z0 z0 z0) z0) z0) (sv 302) z0) z0 z0) (sx 14 z0 z0 z0) z0) z0) (sx 25 (so 68 z0) (sx 2 (sx 9 (sx 32 (sx 30 (sx 3 (sv 1) z0 z0) (sx 31 z0 z0 z0) z0) (sv 36) z0) z0 z0) (sx 2 (sx 9 (sx 32 (sx 30 (sx 3 (sv 2) z0 z0) (sx 31 z0 z0 z0) z0) (sv 303) z0) z0 z0) (sx 14 z0 z0 z0) z0) z0) (sx 25 (so 70 z0) (sx 2 (sx 9 (sx 32 (sx 30 (sx 3 (sv 1) z0 z0) (sx 30 (sx 7 (sx 3 z0 z0 z0) (sx 14 (sx 3 (sv 4) z0 z0) (sx 1 (sv 1) (sv 1) z0) z0) (sv 1)) (sx 30 (sx 7 (sx 3 z0 z0 z0) (sx 14 (sx 3 (sv 4) z0 z0) (sx 1 (sv 2) (sv 1) z0) z0) (sv 1)) (sx 30 (sx 21 (sx 7 (sx 3 z0 z0 z0) (sx 14 (sx 3 (sv 4) z0 z0) (sx 1 (sv 3) (sv 1) z0) z0) (sv 1)) z0 (sv 1)) (sx 31 z0 z0 z0) z0) z0) z0) z0) (sv 40) z0) z0 z0) (sx 2 (sx 9 (sx 32 (sx 30 (sx 3 (sv 2) z0 z0) (sx 30 (sx 7 (sx 3 z0 z0 z0) (sx 14 (sx 3 (sv 4) z0 z0) (sx 1 (sv 1) (sv 1) z0) z0) (sv 1)) (sx 30 (sx 7 (sx 3 z0 z0 z0) (sx 14 (sx 3 (sv 4) z0 z0) (sx 1 (sv 2) (sv 1) z0) z0) (sv 1)) (sx 30 (sx 21 (sx 7 (sx 3 z0 z0 z0) (sx 14 (sx 3 (sv 4) z0 z0) (sx 1 (sv 3) (sv 1) z0) z0) (sv 1)) z0 (sv 1)) (sx 31 z0 z0 z0) z0) z0) z0) z0) (sv 304) z0) z0 z0) (sx 14 z0 z0 z0) z0) z0) (sx 25 (so 72 z0) (sx 2 (sx 9 (sx 32 (sx 30 (sx 3 (sv 1) z0 z0) (sx 31 z0 z0 z0) z0) (sv 41) z0) z0 z0) (sx 2 (sx 9 (sx 32 (sx 30 (sx 3 (sv 2) z0 z0) (sx 31 z0 z0 z0) z0) (sv 306) z0) z0 z0) (sx 14 z0 z0 z0) z0) z0) (sx 25 (so 74 z0) (sx 2 (sx 9 (sx 32 (sx 30 (sx 3 (sv 1) z0 z0) (sx 31 z0 z0 z0) z0) (sv 42) z0) z0 z0) (sx 2 (sx 9 (sx 32 (sx 30 (sx 3 (sv 2) z0 z0) (sx 31 z0 z0 z0) z0) (sv 307) z0) z0 z0) (sx 14 z0 z0 z0) z0) z0) (sx 25 (so 76 z0) (sx 2 (sx 20 (sx 2 (sx 3 (sv 5) (sx 32 (sx 30 (sx 3 (sv 1) z0 z0) (sx 30 (sx 7 (sx 3 z0 z0 z0) (sx 14 (sx 3 (sv 4) z0 z0) (sx 1 (sv 1) (sv 1) z0) z0) (sv 1)) (sx 30 (sx 7 (sx 3 z0 z0 z0) (sx 14 (sx 3 (sv 4) z0 z0) (sx 1 (sv 2) (sv 1) z0) z0) (sv 1)) (sx 30 (sx 7 (sx 3 z0 z0 z0) (sx 14 (sx 3 (sv 4) z0 z0) (sx 1 (sv 3) (sv 1) z0) z0) (sv 1)) (sx 30 (sx 3 (sv 3) z0 z0) (sx 31 z0 z0 z0) z0) z0) z0) z0) z0) (sv 331) z0) z0) (sx 3 (sv 6) (sx 32 (sx 30 (sx 3 (sv 2) z0 z0) (sx 30 (sx 7 (sx 3 z0 z0 z0) (sx 14 (sx 3 (sv 4) z0 z0) (sx 1 (sv 1) (sv 1) z0) z0) (sv 1)) (sx 30 (sx 7 (sx 3 z0 z0 z0) (sx 14 (sx 3 (sv 4) z0 z0) (sx 1 (sv 2) (sv 1) z0) z0) (sv 1)) (sx 30 (sx 7 (sx 3 z0 z0 z0) (sx 14 (sx 3 (sv 4) z0 z0) (sx 1 (sv 3) (sv 1) z0) z0) (sv 1)) (sx 31 z0 z0 z0) z0) z0) z0) z0) (sv 310) z0) z0) z0) z0 z0) (sx 14 z0 z0 z0) z0) (sx 25 (so 78 z0) (sx 2 (sx 9 (sx 32 (sx 30 (sx 3 (sv 1) z0 z0) (sx 30 (sx 7 (sx 3 z0 z0 z0) (sx 14 (sx 3 (sv 4) z0 z0) (sx 1 (sv 1) (sv 1) z0) z0) (sv 1)) (sx 30 (sx 21 (sx 7 (sx 3 z0 z0 z0) (sx 14 (sx 3 (sv 4) z0 z0) (sx 1 (sv 2) (sv 1) z0) z0) (sv 1)) z0 (sv 1)) (sx 31 z0 z0 z0) z0) z0) z0) (sv 48) z0) z0 z0) (sx 2 (sx 9 (sx 32 (sx 30 (sx 3 (sv 2) z0 z0) (sx 30 (sx 7 (sx 3 z0 z0 z0) (sx 14 (sx 3 (sv 4) z0 z0) (sx 1 (sv 1) (sv 1) z0) z0) (sv 1)) (sx 30 (sx 21 (sx 7 (sx 3 z0 z0 z0) (sx 14 (sx 3 (sv 4) z0 z0) (sx 1 (sv 2) (sv 1) z0) z0) (sv 1)) z0 (sv 1)) (sx 31 z0 z0 z0) z0) z0) z0) (sv 311) z0) z0 z0) (sx 14 z0 z0 z0) z0) z0) (sx 25 (so 80 z0) (sx 2 (sx 9 (sx 32 (sx 30 (sx 3 (sv 1) z0 z0) (sx 30 (sx 7 (sx 3 z0 z0 z0) (sx 14 (sx 3 (sv 4) z0 z0) (sx 1 (sv 1) (sv 1) z0) z0) (sv 1)) (sx 31 z0 z0 z0) z0) z0) (sv 51) z0) z0 z0) (sx 2 (sx 9 (sx 32 (sx 30 (sx 3 (sv 2) z0 z0) (sx 30 (sx 7 (sx 3 z0 z0 z0) (sx 14 (sx 3 (sv 4) z0 z0) (sx 1 (sv 1) (sv 1) z0) z0) (sv 1)) (sx 31 z0 z0 z0) z0) z0) (sv 313) z0) z0 z0) (sx 14 z0 z0 z0) z0) z0) (sx 26 (sx 14 z0 z0 z0) z0 z0)))))))))))))))))))))))))))))))))))))))))) z0) z0 z0) (sx 4 (sv 4) (sv 7) z0)) z0) z0 z0) (sx 27 (sx 1 (sv 1) (sv 1) z0) z0 z0) z0)
theorem law_eq : bb_332 = sx 2 lawX (sx 2 lawM (sx 2 lawO lawR z0) z0) z0 := rfl
def a_g3 : XS := [(10, 0, [(16, 2), (15, 7), (15, 30), (13, 53), (13, 62), (12, 71), (12, 92), (12, 113), (12, 134), (14, 155), (18, 158), (17, 179), (17, 181), (1, 0), (1, 0), (1, 0)]), (16, 0, [(19, 3), (17, 5), (1, 0), (1, 0), (1, 0), (2, 0), (1, 0), (1, 0), (1, 0)]), (19, 0, [(8, 4), (1, 0), (1, 0), (1, 0), (1, 0), (1, 0), (2, 0)]), (8, 1000, []), (17, 0, [(6, 6)]), (6, 12, []), (15, 0, [(7, 8), (17, 9), (17, 11), (17, 13), (17, 15), (17, 17), (17, 19), (17, 21), (11, 23), (1, 0), (1, 0), (1, 0), (1, 0)]), (7, 14, []), (17, 0, [(6, 10)]), (6, 12, []), (17, 0, [(6, 12)]), (6, 4, []), (17, 0, [(6, 14)]), (6, 4, []), (17, 0, [(6, 16)]), (6, 52, []), (17, 0, [(6, 18)]), (6, 6, []), (17, 0, [(6, 20)]), (6, 6, []), (17, 0, [(6, 22)]), (6, 6, []), (11, 0, [(17, 24), (17, 26), (17, 28), (1, 0), (1, 0), (1, 0)]), (17, 0, [(6, 25)]), (6, 1000, []), (17, 0, [(6, 27)]), (6, 64, []), (17, 0, [(6, 29)]), (6, 64, []), (15, 0, [(7, 31), (17, 32), (17, 34), (17, 36), (17, 38), (17, 40), (17, 42), (17, 44), (11, 46), (1, 0), (1, 0), (1, 0), (1, 0)]), (7, 14, []), (17, 0, [(6, 33)]), (6, 12, []), (17, 0, [(6, 35)]), (6, 4, []), (17, 0, [(6, 37)]), (6, 4, []), (17, 0, [(6, 39)]), (6, 52, []), (17, 0, [(6, 41)]), (6, 6, []), (17, 0, [(6, 43)]), (6, 6, []), (17, 0, [(6, 45)]), (6, 6, []), (11, 0, [(17, 47), (17, 49), (17, 51), (1, 0), (1, 0), (1, 0)]), (17, 0, [(6, 48)]), (6, 1000, []), (17, 0, [(6, 50)]), (6, 64, []), (17, 0, [(6, 52)]), (6, 64, []), (13, 0, [(17, 54), (17, 56), (17, 58), (17, 60), (1, 0)]), (17, 0, [(6, 55)]), (6, 30, []), (17, 0, [(6, 57)]), (6, 30, []), (17, 0, [(6, 59)]), (6, 30, []), (17, 0, [(6, 61)]), (6, 30, []), (13, 0, [(17, 63), (17, 65), (17, 67), (17, 69), (1, 0)]), (17, 0, [(6, 64)]), (6, 30, []), (17, 0, [(6, 66)]), (6, 30, []), (17, 0, [(6, 68)]), (6, 30, []), (17, 0, [(6, 70)]), (6, 30, []), (12, 0, [(17, 72), (17, 74), (17, 76), (17, 78), (17, 80), (17, 82), (17, 84), (17, 86), (17, 88), (17, 90), (1, 0), (1, 0)]), (17, 0, [(6, 73)]), (6, 78, []), (17, 0, [(6, 75)]), (6, 72, []), (17, 0, [(6, 77)]), (6, 12, []), (17, 0, [(6, 79)]), (6, 192, []), (17, 0, [(6, 81)]), (6, 64, []), (17, 0, [(6, 83)]), (6, 64, []), (17, 0, [(6, 85)]), (6, 4, []), (17, 0, [(6, 87)]), (6, 8, []), (17, 0, [(6, 89)]), (6, 8, []), (17, 0, [(6, 91)]), (6, 8, []), (12, 0, [(17, 93), (17, 95), (17, 97), (17, 99), (17, 101), (17, 103), (17, 105), (17, 107), (17, 109), (17, 111), (1, 0), (1, 0)]), (17, 0, [(6, 94)]), (6, 78, []), (17, 0, [(6, 96)]), (6, 72, []), (17, 0, [(6, 98)]), (6, 12, []), (17, 0, [(6, 100)]), (6, 192, []), (17, 0, [(6, 102)]), (6, 64, []), (17, 0, [(6, 104)]), (6, 64, []), (17, 0, [(6, 106)]), (6, 4, []), (17, 0, [(6, 108)]), (6, 8, []), (17, 0, [(6, 110)]), (6, 8, []), (17, 0, [(6, 112)]), (6, 8, []), (12, 0, [(17, 114), (17, 116), (17, 118), (17, 120), (17, 122), (17, 124), (17, 126), (17, 128), (17, 130), (17, 132), (1, 0), (1, 0)]), (17, 0, [(6, 115)]), (6, 78, []), (17, 0, [(6, 117)]), (6, 72, []), (17, 0, [(6, 119)]), (6, 12, []), (17, 0, [(6, 121)]), (6, 192, []), (17, 0, [(6, 123)]), (6, 64, []), (17, 0, [(6, 125)]), (6, 64, []), (17, 0, [(6, 127)]), (6, 4, []), (17, 0, [(6, 129)]), (6, 8, []), (17, 0, [(6, 131)]), (6, 8, []), (17, 0, [(6, 133)]), (6, 8, []), (12, 0, [(17, 135), (17, 137), (17, 139), (17, 141), (17, 143), (17, 145), (17, 147), (17, 149), (17, 151), (17, 153), (1, 0), (1, 0)]), (17, 0, [(6, 136)]), (6, 78, []), (17, 0, [(6, 138)]), (6, 72, []), (17, 0, [(6, 140)]), (6, 12, []), (17, 0, [(6, 142)]), (6, 192, []), (17, 0, [(6, 144)]), (6, 64, []), (17, 0, [(6, 146)]), (6, 64, []), (17, 0, [(6, 148)]), (6, 4, []), (17, 0, [(6, 150)]), (6, 8, []), (17, 0, [(6, 152)]), (6, 8, []), (17, 0, [(6, 154)]), (6, 8, []), (14, 0, [(17, 156), (1, 0)]), (17, 0, [(6, 157)]), (6, 128, []), (18, 0, [(17, 159), (17, 161), (17, 163), (17, 165), (17, 167), (17, 169), (17, 171), (17, 173), (17, 175), (17, 177), (1, 0)]), (17, 0, [(6, 160)]), (6, 6, []), (17, 0, [(6, 162)]), (6, 6, []), (17, 0, [(6, 164)]), (6, 6, []), (17, 0, [(6, 166)]), (6, 4, []), (17, 0, [(6, 168)]), (6, 4, []), (17, 0, [(6, 170)]), (6, 4, []), (17, 0, [(6, 172)]), (6, 4, []), (17, 0, [(6, 174)]), (6, 6, []), (17, 0, [(6, 176)]), (6, 6, []), (17, 0, [(6, 178)]), (6, 6, []), (17, 0, [(6, 180)]), (6, 4, []), (17, 0, [(6, 182)]), (6, 4, []), (20, 0, [(1, 0), (6, 184), (1, 0), (1, 0), (6, 185), (6, 186), (7, 187), (1, 0), (1, 0), (7, 188), (6, 189), (6, 190), (1, 0), (7, 191), (6, 192), (6, 193), (6, 194), (6, 195), (1, 0), (1, 0), (9, 196), (6, 197), (6, 198), (6, 199), (6, 200), (1, 0), (7, 201), (6, 202), (7, 203), (2, 0)]), (6, 1000, []), (6, 1002, []), (6, 1002, []), (7, 1002, []), (7, 24, []), (6, 190, []), (6, 2200, []), (7, 28, []), (6, 250, []), (6, 4, []), (6, 64, []), (6, 5148, []), (9, 2, []), (6, 6, []), (6, 6, []), (6, 4, []), (6, 4, []), (7, 6, []), (6, 6, []), (7, 6, []), (7, 1, [])]
def a_h3 : AH := [[],
  [],
  [],
  [],
  [],
  [],
  [],
  [],
  [],
  [],
  [],
  [],
  [],
  [],
  [],
  [],
  [],
  [],
  [],
  [],
  [],
  [],
  [],
  [],
  [],
  [],
  [],
  [],
  [],
  [],
  [],
  [],
  [],
  [],
  [],
  [],
  [],
  [],
  [],
  [],
  [],
  [],
  [],
  [],
  [],
  [],
  [],
  [],
  [],
  [],
  [],
  [],
  [],
  [],
  [],
  [],
  [],
  [],
  [],
  [],
  [],
  [],
  [],
  [],
  [],
  [],
  [],
  [],
  [],
  [],
  [],
  [],
  [],
  [],
  [],
  [],
  [],
  [],
  [],
  [],
  [],
  [],
  [],
  [],
  [],
  [],
  [],
  [],
  [],
  [],
  [],
  [],
  [],
  [],
  [],
  [],
  [],
  [],
  [],
  [],
  [],
  [],
  [],
  [],
  [],
  [],
  [],
  [],
  [],
  [],
  [],
  [],
  [],
  [],
  [],
  [],
  [],
  [],
  [],
  [],
  [],
  [],
  [],
  [],
  [],
  [],
  [],
  [],
  [],
  [],
  [],
  [],
  [],
  [],
  [],
  [],
  [],
  [],
  [],
  [],
  [],
  [],
  [],
  [],
  [],
  [],
  [],
  [],
  [],
  [],
  [],
  [],
  [],
  [],
  [],
  [],
  [],
  [],
  [],
  [],
  [],
  [],
  [],
  [],
  [],
  [],
  [],
  [],
  [],
  [],
  [],
  [],
  [],
  [],
  [],
  [],
  [],
  [],
  [],
  [],
  [],
  [],
  [(19, .inl 0), (18, .inl 0)],
  [],
  [],
  [],
  [],
  [(23, .inl 660401), (22, .inl 979410), (21, .inl 629093), (20, .inl 628412), (19, .inl 573), (18, .inl 1891), (17, .inl 19741), (16, .inl 392531318), (15, .inl 320403), (14, .inl 1722105685577), (13, .inl 891704255789), (12, .inl 25433), (11, .inl 38270444), (10, .inl 679843), (9, .inl 918640), (8, .inl 1342154595), (7, .inl 1178088), (6, .inl 24644941), (5, .inl 1858726030364), (4, .inl 42328242873), (3, .inl 629093), (2, .inl 6232410), (1, .inl 425693491), (0, .inl 36238189)],
  [(4, .inl (-1)), (94, .inl 0), (93, .inl 0), (92, .inl 0), (91, .inl 0), (90, .inl 0), (89, .inl 0), (88, .inl 0), (87, .inl 0), (86, .inl 0), (85, .inl 0), (84, .inl 0), (83, .inl 0), (82, .inl 0), (81, .inl 0), (80, .inl 0), (79, .inl 0), (78, .inl 0), (77, .inl 0), (76, .inl 0), (75, .inl 0), (74, .inl 0), (73, .inl 0), (72, .inl 0), (71, .inl 0), (70, .inl 0), (69, .inl 0), (68, .inl 0), (67, .inl 0), (66, .inl 0), (65, .inl 0), (64, .inl 0), (63, .inl 0), (62, .inl 0), (61, .inl 0), (60, .inl 0), (59, .inl 0), (58, .inl 0), (57, .inl 0), (56, .inl 0), (55, .inl 0), (54, .inl 0), (53, .inl 0), (52, .inl 0), (51, .inl 0), (50, .inl 0), (49, .inl 0), (48, .inl 0), (47, .inl 0), (46, .inl 0), (45, .inl 0), (44, .inl 0), (43, .inl 0), (42, .inl 0), (41, .inl 0), (40, .inl 0), (39, .inl 0), (38, .inl 0), (37, .inl 0), (36, .inl 0), (35, .inl 0), (34, .inl 0), (33, .inl 0), (32, .inl 0), (31, .inl 0), (30, .inl 0), (29, .inl 0), (28, .inl 0), (27, .inl 0), (26, .inl 0), (25, .inl 0), (24, .inl 0), (23, .inl 0), (22, .inl 0), (21, .inl 0), (20, .inl 0), (19, .inl 0), (18, .inl 0), (17, .inl 0), (16, .inl 0), (15, .inl 0), (14, .inl 0), (13, .inl 0), (12, .inl 0), (11, .inl 0), (10, .inl 0), (9, .inl 0), (8, .inl 0), (7, .inl 0), (6, .inl 0), (5, .inl 0), (4, .inl 0), (3, .inl 0), (2, .inl 0), (1, .inl 0), (0, .inl 0)],
  [],
  [],
  [(0, .inl 0)],
  [],
  [],
  [(404, .inl 0), (403, .inl 0), (402, .inl 0), (401, .inl 0), (400, .inl 0), (399, .inl 0), (398, .inl 0), (397, .inl 0), (396, .inl 0), (395, .inl 0), (394, .inl 0), (393, .inl 0), (392, .inl 0), (391, .inl 0), (390, .inl 0), (389, .inl 0), (388, .inl 0), (387, .inl 0), (386, .inl 0), (385, .inl 0), (384, .inl 0), (383, .inl 0), (382, .inl 0), (381, .inl 0), (380, .inl 0), (379, .inl 0), (378, .inl 0), (377, .inl 0), (376, .inl 0), (375, .inl 0), (374, .inl 0), (373, .inl 0), (372, .inl 0), (371, .inl 0), (370, .inl 0), (369, .inl 0), (368, .inl 0), (367, .inl 0), (366, .inl 0), (365, .inl 0), (364, .inl 0), (363, .inl 0), (362, .inl 0), (361, .inl 0), (360, .inl 0), (359, .inl 0), (358, .inl 0), (357, .inl 0), (356, .inl 0), (355, .inl 0), (354, .inl 0), (353, .inl 0), (352, .inl 0), (351, .inl 0), (350, .inl 0), (349, .inl 0), (348, .inl 0), (347, .inl 0), (346, .inl 0), (345, .inl 0), (344, .inl 0), (343, .inl 0), (342, .inl 0), (341, .inl 0), (340, .inl 0), (339, .inl 0), (338, .inl 0), (337, .inl 0), (336, .inl 0), (335, .inl 0), (334, .inl 0), (333, .inl 0), (332, .inl 0), (331, .inl 0), (330, .inl 0), (329, .inl 0), (328, .inl 0), (327, .inl 0), (326, .inl 0), (325, .inl 0), (324, .inl 0), (323, .inl 0), (322, .inl 0), (321, .inl 0), (320, .inl 0), (319, .inl 0), (318, .inl 0), (317, .inl 0), (316, .inl 0), (315, .inl 0), (314, .inl 0), (313, .inl 0), (312, .inl 0), (311, .inl 0), (310, .inl 0), (309, .inl 0), (308, .inl 0), (307, .inl 0), (306, .inl 0), (305, .inl 0), (304, .inl 0), (303, .inl 0), (302, .inl 0), (301, .inl 0), (300, .inl 0), (299, .inl 0), (298, .inl 0), (297, .inl 0), (296, .inl 0), (295, .inl 0), (294, .inl 0), (293, .inl 0), (292, .inl 0), (291, .inl 0), (290, .inl 0), (289, .inl 0), (288, .inl 0), (287, .inl 0), (286, .inl 0), (285, .inl 0), (284, .inl 0), (283, .inl 0), (282, .inl 0), (281, .inl 0), (280, .inl 0), (279, .inl 0), (278, .inl 0), (277, .inl 0), (276, .inl 0), (275, .inl 0), (274, .inl 0), (273, .inl 0), (272, .inl 0), (271, .inl 0), (270, .inl 0), (269, .inl 0), (268, .inl 0), (267, .inl 0), (266, .inl 0), (265, .inl 0), (264, .inl 0), (263, .inl 0), (262, .inl 0), (261, .inl 0), (260, .inl 0), (259, .inl 0), (258, .inl 0), (257, .inl 0), (256, .inl 0), (255, .inl 0), (254, .inl 0), (253, .inl 0), (252, .inl 0), (251, .inl 0), (250, .inl 0), (249, .inl 0), (248, .inl 0), (247, .inl 0), (246, .inl 0), (245, .inl 0), (244, .inl 0), (243, .inl 0), (242, .inl 0), (241, .inl 0), (240, .inl 0), (239, .inl 0), (238, .inl 0), (237, .inl 0), (236, .inl 0), (235, .inl 0), (234, .inl 0), (233, .inl 0), (232, .inl 0), (231, .inl 0), (230, .inl 0), (229, .inl 0), (228, .inl 0), (227, .inl 0), (226, .inl 0), (225, .inl 0), (224, .inl 0), (223, .inl 0), (222, .inl 0), (221, .inl 0), (220, .inl 0), (219, .inl 0), (218, .inl 0), (217, .inl 0), (216, .inl 0), (215, .inl 0), (214, .inl 0), (213, .inl 0), (212, .inl 0), (211, .inl 0), (210, .inl 0), (209, .inl 0), (208, .inl 0), (207, .inl 0), (206, .inl 0), (205, .inl 0), (204, .inl 0), (203, .inl 0), (202, .inl 0), (201, .inl 0), (200, .inl 0), (199, .inl 0), (198, .inl 0), (197, .inl 0), (196, .inl 0), (195, .inl 0), (194, .inl 0), (193, .inl 0), (192, .inl 0), (191, .inl 0), (190, .inl 0), (189, .inl 0), (188, .inl 0), (187, .inl 0), (186, .inl 0), (185, .inl 0), (184, .inl 0), (183, .inl 0), (182, .inl 0), (181, .inl 0), (180, .inl 0), (179, .inl 0), (178, .inl 0), (177, .inl 0), (176, .inl 0), (175, .inl 0), (174, .inl 0), (173, .inl 0), (172, .inl 0), (171, .inl 0), (170, .inl 0), (169, .inl 0), (168, .inl 0), (167, .inl 0), (166, .inl 0), (165, .inl 0), (164, .inl 0), (163, .inl 0), (162, .inl 0), (161, .inl 0), (160, .inl 0), (159, .inl 0), (158, .inl 0), (157, .inl 0), (156, .inl 0), (155, .inl 0), (154, .inl 0), (153, .inl 0), (152, .inl 0), (151, .inl 0), (150, .inl 0), (149, .inl 0), (148, .inl 0), (147, .inl 0), (146, .inl 0), (145, .inl 0), (144, .inl 0), (143, .inl 0), (142, .inl 0), (141, .inl 0), (140, .inl 0), (139, .inl 0), (138, .inl 0), (137, .inl 0), (136, .inl 0), (135, .inl 0), (134, .inl 0), (133, .inl 0), (132, .inl 0), (131, .inl 0), (130, .inl 0), (129, .inl 0), (128, .inl 0), (127, .inl 0), (126, .inl 0), (125, .inl 0), (124, .inl 0), (123, .inl 0), (122, .inl 0), (121, .inl 0), (120, .inl 0), (119, .inl 0), (118, .inl 0), (117, .inl 0), (116, .inl 0), (115, .inl 0), (114, .inl 0), (113, .inl 0), (112, .inl 0), (111, .inl 0), (110, .inl 0), (109, .inl 0), (108, .inl 0), (107, .inl 0), (106, .inl 0), (105, .inl 0), (104, .inl 0), (103, .inl 0), (102, .inl 0), (101, .inl 0), (100, .inl 0), (99, .inl 0), (98, .inl 0), (97, .inl 0), (96, .inl 0), (95, .inl 0), (94, .inl 0), (93, .inl 0), (92, .inl 0), (91, .inl 0), (90, .inl 0), (89, .inl 0), (88, .inl 0), (87, .inl 0), (86, .inl 0), (85, .inl 0), (84, .inl 0), (83, .inl 0), (82, .inl 0), (81, .inl 0), (80, .inl 0), (79, .inl 0), (78, .inl 0), (77, .inl (-1)), (76, .inl (-1)), (75, .inl (-1)), (74, .inl (-1)), (73, .inl (-1)), (72, .inl (-1)), (71, .inl (-1)), (70, .inl (-1)), (69, .inl (-1)), (68, .inl (-1)), (67, .inl (-1)), (66, .inl (-1)), (65, .inl (-1)), (64, .inl (-1)), (63, .inl (-1)), (62, .inl (-1)), (61, .inl (-1)), (60, .inl (-1)), (59, .inl (-1)), (58, .inl (-1)), (57, .inl (-1)), (56, .inl (-1)), (55, .inl (-1)), (54, .inl (-1)), (53, .inl (-1)), (52, .inl (-1)), (51, .inl (-1)), (50, .inl (-1)), (49, .inl (-1)), (48, .inl (-1)), (47, .inl (-1)), (46, .inl (-1)), (45, .inl (-1)), (44, .inl (-1)), (43, .inl (-1)), (42, .inl (-1)), (41, .inl (-1)), (40, .inl (-1)), (39, .inl (-1)), (38, .inl (-1)), (37, .inl (-1)), (36, .inl (-1)), (35, .inl (-1)), (34, .inl (-1)), (33, .inl (-1)), (32, .inl (-1)), (31, .inl (-1)), (30, .inl (-1)), (29, .inl (-1)), (28, .inl (-1)), (27, .inl (-1)), (26, .inl (-1)), (25, .inl (-1)), (24, .inl (-1)), (23, .inl (-1)), (22, .inl (-1)), (21, .inl (-1)), (20, .inl (-1)), (19, .inl (-1)), (18, .inl (-1)), (17, .inl (-1)), (16, .inl (-1)), (15, .inl (-1)), (14, .inl (-1)), (13, .inl (-1)), (12, .inl (-1)), (11, .inl (-1)), (10, .inl (-1)), (9, .inl (-1)), (8, .inl (-1)), (7, .inl (-1)), (6, .inl (-1)), (5, .inl (-1)), (4, .inl (-1)), (3, .inl (-1)), (2, .inl (-1)), (1, .inl (-1)), (0, .inl (-1))],
  [(1, .inl 0), (0, .inl 0)]]
def a_s3 : AS := ((a_g3, 204, 18152), a_h3)
def a_en0 : List AV := [.inl 0, .inl 0, .inl 0, .inl 0, .inl 0, .inl 0, .inl 0]
def a_en3 : List AV := [.inl 0, .inl 0, .inl 182, .inl 203, .inl 0, .inl 0, .inl 0]
def a_pre (L : Nat) : AX (Nat × List AV × List AV × AS) := abS ([], none) (abF ([], none) L g_ck 2000 g_cW g_M 40) L g_ck 2000 g_cW (sx 2 lawX (sx 2 lawM lawO z0) z0) a_en0 (([], 0, 0), [])
def a_isPre (x : AX (Nat × List AV × List AV × AS)) : Bool := match x with
  | .ok r => decide (r.1 = 0) && decide (r.2.1 = []) && decide (r.2.2.1 = a_en3) && decide (r.2.2.2.1 = a_s3.1) && decide (r.2.2.2.2 = a_s3.2)
  | .error _ => false
theorem a_isPre_ok {x : AX (Nat × List AV × List AV × AS)} (h : a_isPre x = true) : x = .ok (0, [], a_en3, a_s3) := by
  unfold a_isPre at h
  split at h
  · rename_i r
    simp only [Bool.and_eq_true, decide_eq_true_eq] at h
    obtain ⟨⟨⟨⟨h1, h2⟩, h3⟩, h4⟩, h5⟩ := h
    rw [← h1, ← h2, ← h3, show a_s3 = (a_s3.1, a_s3.2) from rfl, ← h4, ← h5]
  · cases h
end
section
/-! ===== feed: what the two tapes take (written by wip/tools/feed.py) ===== -/
def fdR : SX := (sx 26 (sx 20 (sx 3 (sv 4) z0 z0) (sx 1 (sv 10) (sv 1) z0) z0) (sx 25 (sx 20 (sx 3 (sv 4) z0 z0) (sx 1 (sv 32) (sv 1) z0) (sv 3)) (sx 20 (sx 3 (sv 4) z0 z0) (sx 1 (sv 126) (sv 1) z0) (sv 5)) z0) z0)
def fwA : SX := (sx 30 (sx 15 (sx 16 (sx 18 (sx 7 (sx 3 z0 z0 z0) (sx 14 (sx 3 (sv 4) z0 z0) (sx 1 (sv 1) (sv 1) z0) z0) (sv 1)) z0 (sv 2)) (sx 1 (sv 32) (sv 1) z0) z0) (sx 15 (sx 18 (sx 7 (sx 3 z0 z0 z0) (sx 14 (sx 3 (sv 4) z0 z0) (sx 1 (sv 2) (sv 1) z0) z0) (sv 1)) z0 (sv 2)) (sx 1 (sv 4294967295) (sv 2) z0) (sv 3)) (sv 4)) (sx 30 (sx 15 (sx 16 (sx 18 (sx 7 (sx 3 z0 z0 z0) (sx 14 (sx 3 (sv 4) z0 z0) (sx 1 (sv 3) (sv 1) z0) z0) (sv 1)) z0 (sv 2)) (sx 1 (sv 32) (sv 1) z0) z0) (sx 15 (sx 18 (sx 7 (sx 3 z0 z0 z0) (sx 14 (sx 3 (sv 4) z0 z0) (sx 1 (sv 4) (sv 1) z0) z0) (sv 1)) z0 (sv 2)) (sx 1 (sv 4294967295) (sv 2) z0) (sv 3)) (sv 4)) (sx 30 (sx 15 (sx 16 (sx 18 (sx 7 (sx 3 z0 z0 z0) (sx 14 (sx 3 (sv 4) z0 z0) (sx 1 (sv 5) (sv 1) z0) z0) (sv 1)) z0 (sv 2)) (sx 1 (sv 32) (sv 1) z0) z0) (sx 15 (sx 18 (sx 7 (sx 3 z0 z0 z0) (sx 14 (sx 3 (sv 4) z0 z0) (sx 1 (sv 6) (sv 1) z0) z0) (sv 1)) z0 (sv 2)) (sx 1 (sv 4294967295) (sv 2) z0) (sv 3)) (sv 4)) (sx 31 z0 z0 z0) z0) z0) z0)
def fdC : SX := (sx 21 (sx 3 (sv 3) z0 z0) z0 (sv 3))
def fdB : SX := (sx 20 (sx 2 (sx 3 (sv 4) (sx 14 (sx 18 (sx 16 (sx 3 (sv 1) z0 z0) (sx 3 (sv 3) z0 z0) (sv 2)) z0 (sv 3)) (sx 1 (sv 255) (sv 1) z0) (sv 3)) z0) (sx 2 (sx 3 (sv 5) fdR z0) (sx 10 (sx 25 (sx 25 (sx 24 (sx 3 (sv 5) z0 z0) z0 z0) (sx 21 (sx 4 (sx 3 z0 z0 z0) (sv 1) z0) z0 (sv 3)) z0) (sx 20 (sx 4 (sx 3 z0 z0 z0) (sv 1) z0) (sx 10 (sx 5 (sx 3 z0 z0 z0) z0 z0) z0 z0) (sv 2)) z0) (sx 20 (sx 2 (sx 7 (sx 5 (sx 3 z0 z0 z0) z0 z0) (sx 4 (sx 3 z0 z0 z0) (sv 1) z0) (so 8 (sx 18 (sx 3 (sv 4) z0 z0) z0 (sv 4)))) (sx 6 (sx 3 z0 z0 z0) (sx 1 (sv 1) (sv 1) z0) (sv 16)) z0) z0 z0) z0) z0) z0) z0 z0)
def fdP : SX := (sx 4 (sv 3) (sv 8) (sv 1))
def fmB : SX := (sx 20 (sx 2 (sx 3 (sv 4) (sx 14 (sx 18 (sx 16 (sx 3 (sv 1) z0 z0) (sx 3 (sv 3) z0 z0) (sv 1)) z0 (sv 3)) (sx 1 (sv 255) (sv 1) z0) (sv 3)) z0) (sx 10 (sx 25 fdR (sx 20 (sx 4 (sx 3 z0 z0 z0) (sv 2) z0) (sx 1 (sv 1000) (sv 1) z0) (sv 2)) z0) (sx 20 (sx 2 (sx 7 (sx 5 (sx 3 z0 z0 z0) (sv 1) z0) (sx 4 (sx 3 z0 z0 z0) (sv 2) z0) (so 6 (sx 3 (sv 4) z0 z0))) (sx 6 (sx 3 z0 z0 z0) (sx 1 (sv 1) (sv 1) z0) (sv 32)) z0) z0 z0) z0) z0) z0 z0)
def fwC : SX := (sx 20 (sx 3 (sv 4) z0 z0) (sx 14 (sx 10 (sx 3 z0 z0 z0) z0 (sv 1)) (sx 1 (sv 7) (sv 1) z0) (sv 1)) (sv 5))
def fwS : SX := (sx 14 (sx 7 (sx 3 z0 z0 z0) (sx 3 (sv 4) z0 z0) (sv 1)) (sx 1 (sv 63) (sv 1) z0) (sv 3))
def fwX : SX := (sx 2 (sx 9 (sx 32 (sx 30 (sx 3 (sv 1) z0 z0) fwA z0) (sv 1) z0) z0 z0) (sx 2 (sx 9 (sx 32 (sx 30 (sx 3 (sv 2) z0 z0) fwA z0) (sv 183) z0) z0 z0) (sx 14 z0 z0 z0) z0) z0)
def fwR : SX := (sx 25 (so 2 z0) (sx 2 (sx 9 (sx 32 (sx 30 (sx 3 (sv 1) z0 z0) (sx 31 z0 z0 z0) z0) (sv 2) z0) z0 z0) (sx 2 (sx 9 (sx 32 (sx 30 (sx 3 (sv 2) z0 z0) (sx 31 z0 z0 z0) z0) (sv 206) z0) z0 z0) (sx 14 z0 z0 z0) z0) z0) (sx 25 (so 4 z0) (sx 2 (sx 9 (sx 32 (sx 30 (sx 3 (sv 1) z0 z0) (sx 31 z0 z0 z0) z0) (sv 4) z0) z0 z0) (sx 2 (sx 9 (sx 32 (sx 30 (sx 3 (sv 2) z0 z0) (sx 31 z0 z0 z0) z0) (sv 214) z0) z0 z0) (sx 14 z0 z0 z0) z0) z0) (sx 25 (so 6 z0) (sx 2 (sx 9 (sx 32 (sx 30 (sx 3 (sv 1) z0 z0) (sx 30 (sx 7 (sx 3 z0 z0 z0) (sx 14 (sx 3 (sv 4) z0 z0) (sx 1 (sv 1) (sv 1) z0) z0) (sv 1)) (sx 30 (sx 7 (sx 3 z0 z0 z0) (sx 14 (sx 3 (sv 4) z0 z0) (sx 1 (sv 2) (sv 1) z0) z0) (sv 1)) (sx 31 z0 z0 z0) z0) z0) z0) (sv 5) z0) z0 z0) (sx 2 (sx 9 (sx 32 (sx 30 (sx 3 (sv 2) z0 z0) (sx 30 (sx 7 (sx 3 z0 z0 z0) (sx 14 (sx 3 (sv 4) z0 z0) (sx 1 (sv 1) (sv 1) z0) z0) (sv 1)) (sx 30 (sx 7 (sx 3 z0 z0 z0) (sx 14 (sx 3 (sv 4) z0 z0) (sx 1 (sv 2) (sv 1) z0) z0) (sv 1)) (sx 31 z0 z0 z0) z0) z0) z0) (sv 261) z0) z0 z0) (sx 14 z0 z0 z0) z0) z0) (sx 25 (so 8 z0) (sx 2 (sx 9 (sx 32 (sx 30 (sx 3 (sv 1) z0 z0) (sx 30 (sx 7 (sx 3 z0 z0 z0) (sx 14 (sx 3 (sv 4) z0 z0) (sx 1 (sv 1) (sv 1) z0) z0) (sv 1)) (sx 30 (sx 7 (sx 3 z0 z0 z0) (sx 14 (sx 3 (sv 4) z0 z0) (sx 1 (sv 2) (sv 1) z0) z0) (sv 1)) (sx 31 z0 z0 z0) z0) z0) z0) (sv 6) z0) z0 z0) (sx 2 (sx 9 (sx 32 (sx 30 (sx 3 (sv 2) z0 z0) (sx 30 (sx 7 (sx 3 z0 z0 z0) (sx 14 (sx 3 (sv 4) z0 z0) (sx 1 (sv 1) (sv 1) z0) z0) (sv 1)) (sx 30 (sx 7 (sx 3 z0 z0 z0) (sx 14 (sx 3 (sv 4) z0 z0) (sx 1 (sv 2) (sv 1) z0) z0) (sv 1)) (sx 31 z0 z0 z0) z0) z0) z0) (sv 262) z0) z0 z0) (sx 14 z0 z0 z0) z0) z0) (sx 25 (so 10 z0) (sx 2 (sx 9 (sx 32 (sx 30 (sx 3 (sv 1) z0 z0) (sx 30 (sx 7 (sx 3 z0 z0 z0) (sx 14 (sx 3 (sv 4) z0 z0) (sx 1 (sv 1) (sv 1) z0) z0) (sv 1)) (sx 30 (sx 7 (sx 3 z0 z0 z0) (sx 14 (sx 3 (sv 4) z0 z0) (sx 1 (sv 2) (sv 1) z0) z0) (sv 1)) (sx 31 z0 z0 z0) z0) z0) z0) (sv 7) z0) z0 z0) (sx 2 (sx 9 (sx 32 (sx 30 (sx 3 (sv 2) z0 z0) (sx 30 (sx 7 (sx 3 z0 z0 z0) (sx 14 (sx 3 (sv 4) z0 z0) (sx 1 (sv 1) (sv 1) z0) z0) (sv 1)) (sx 30 (sx 7 (sx 3 z0 z0 z0) (sx 14 (sx 3 (sv 4) z0 z0) (sx 1 (sv 2) (sv 1) z0) z0) (sv 1)) (sx 31 z0 z0 z0) z0) z0) z0) (sv 263) z0) z0 z0) (sx 14 z0 z0 z0) z0) z0) (sx 25 (so 12 z0) (sx 2 (sx 9 (sx 32 (sx 30 (sx 3 (sv 1) z0 z0) (sx 30 (sx 7 (sx 3 z0 z0 z0) (sx 14 (sx 3 (sv 4) z0 z0) (sx 1 (sv 1) (sv 1) z0) z0) (sv 1)) (sx 30 (sx 7 (sx 3 z0 z0 z0) (sx 14 (sx 3 (sv 4) z0 z0) (sx 1 (sv 2) (sv 1) z0) z0) (sv 1)) (sx 30 (sx 7 (sx 3 z0 z0 z0) (sx 14 (sx 3 (sv 4) z0 z0) (sx 1 (sv 3) (sv 1) z0) z0) (sv 1)) (sx 31 z0 z0 z0) z0) z0) z0) z0) (sv 8) z0) z0 z0) (sx 2 (sx 9 (sx 32 (sx 30 (sx 3 (sv 2) z0 z0) (sx 30 (sx 7 (sx 3 z0 z0 z0) (sx 14 (sx 3 (sv 4) z0 z0) (sx 1 (sv 1) (sv 1) z0) z0) (sv 1)) (sx 30 (sx 7 (sx 3 z0 z0 z0) (sx 14 (sx 3 (sv 4) z0 z0) (sx 1 (sv 2) (sv 1) z0) z0) (sv 1)) (sx 30 (sx 7 (sx 3 z0 z0 z0) (sx 14 (sx 3 (sv 4) z0 z0) (sx 1 (sv 3) (sv 1) z0) z0) (sv 1)) (sx 31 z0 z0 z0) z0) z0) z0) z0) (sv 265) z0) z0 z0) (sx 14 z0 z0 z0) z0) z0) (sx 25 (so 14 z0) (sx 2 (sx 9 (sx 32 (sx 30 (sx 3 (sv 1) z0 z0) (sx 30 (sx 7 (sx 3 z0 z0 z0) (sx 14 (sx 3 (sv 4) z0 z0) (sx 1 (sv 1) (sv 1) z0) z0) (sv 1)) (sx 30 (sx 7 (sx 3 z0 z0 z0) (sx 14 (sx 3 (sv 4) z0 z0) (sx 1 (sv 2) (sv 1) z0) z0) (sv 1)) (sx 30 (sx 7 (sx 3 z0 z0 z0) (sx 14 (sx 3 (sv 4) z0 z0) (sx 1 (sv 3) (sv 1) z0) z0) (sv 1)) (sx 31 z0 z0 z0) z0) z0) z0) z0) (sv 9) z0) z0 z0) (sx 2 (sx 9 (sx 32 (sx 30 (sx 3 (sv 2) z0 z0) (sx 30 (sx 7 (sx 3 z0 z0 z0) (sx 14 (sx 3 (sv 4) z0 z0) (sx 1 (sv 1) (sv 1) z0) z0) (sv 1)) (sx 30 (sx 7 (sx 3 z0 z0 z0) (sx 14 (sx 3 (sv 4) z0 z0) (sx 1 (sv 2) (sv 1) z0) z0) (sv 1)) (sx 30 (sx 7 (sx 3 z0 z0 z0) (sx 14 (sx 3 (sv 4) z0 z0) (sx 1 (sv 3) (sv 1) z0) z0) (sv 1)) (sx 31 z0 z0 z0) z0) z0) z0) z0) (sv 267) z0) z0 z0) (sx 14 z0 z0 z0) z0) z0) (sx 25 (so 16 z0) (sx 2 (sx 9 (sx 32 (sx 30 (sx 3 (sv 1) z0 z0) (sx 30 (sx 7 (sx 3 z0 z0 z0) (sx 14 (sx 3 (sv 4) z0 z0) (sx 1 (sv 1) (sv 1) z0) z0) (sv 1)) (sx 30 (sx 7 (sx 3 z0 z0 z0) (sx 14 (sx 3 (sv 4) z0 z0) (sx 1 (sv 2) (sv 1) z0) z0) (sv 1)) (sx 31 z0 z0 z0) z0) z0) z0) (sv 10) z0) z0 z0) (sx 2 (sx 9 (sx 32 (sx 30 (sx 3 (sv 2) z0 z0) (sx 30 (sx 7 (sx 3 z0 z0 z0) (sx 14 (sx 3 (sv 4) z0 z0) (sx 1 (sv 1) (sv 1) z0) z0) (sv 1)) (sx 30 (sx 7 (sx 3 z0 z0 z0) (sx 14 (sx 3 (sv 4) z0 z0) (sx 1 (sv 2) (sv 1) z0) z0) (sv 1)) (sx 31 z0 z0 z0) z0) z0) z0) (sv 268) z0) z0 z0) (sx 14 z0 z0 z0) z0) z0) (sx 25 (so 18 z0) (sx 2 (sx 9 (sx 32 (sx 30 (sx 3 (sv 1) z0 z0) (sx 31 z0 z0 z0) z0) (sv 11) z0) z0 z0) (sx 2 (sx 9 (sx 32 (sx 30 (sx 3 (sv 2) z0 z0) (sx 31 z0 z0 z0) z0) (sv 271) z0) z0 z0) (sx 14 z0 z0 z0) z0) z0) (sx 25 (so 20 z0) (sx 2 (sx 9 (sx 32 (sx 30 (sx 3 (sv 1) z0 z0) (sx 31 z0 z0 z0) z0) (sv 12) z0) z0 z0) (sx 2 (sx 9 (sx 32 (sx 30 (sx 3 (sv 2) z0 z0) (sx 31 z0 z0 z0) z0) (sv 272) z0) z0 z0) (sx 14 z0 z0 z0) z0) z0) (sx 25 (so 22 z0) (sx 2 (sx 20 (sx 2 (sx 3 (sv 5) (sx 32 (sx 30 (sx 3 (sv 1) z0 z0) (sx 30 (sx 7 (sx 3 z0 z0 z0) (sx 14 (sx 3 (sv 4) z0 z0) (sx 1 (sv 1) (sv 1) z0) z0) (sv 1)) (sx 30 (sx 3 (sv 3) z0 z0) (sx 31 z0 z0 z0) z0) z0) z0) (sv 314) z0) z0) (sx 3 (sv 6) (sx 32 (sx 30 (sx 3 (sv 2) z0 z0) (sx 30 (sx 7 (sx 3 z0 z0 z0) (sx 14 (sx 3 (sv 4) z0 z0) (sx 1 (sv 1) (sv 1) z0) z0) (sv 1)) (sx 31 z0 z0 z0) z0) z0) (sv 273) z0) z0) z0) z0 z0) (sx 14 z0 z0 z0) z0) (sx 25 (so 24 z0) (sx 2 (sx 20 (sx 2 (sx 3 (sv 5) (sx 32 (sx 30 (sx 3 (sv 1) z0 z0) (sx 30 (sx 7 (sx 3 z0 z0 z0) (sx 14 (sx 3 (sv 4) z0 z0) (sx 1 (sv 1) (sv 1) z0) z0) (sv 1)) (sx 30 (sx 7 (sx 3 z0 z0 z0) (sx 14 (sx 3 (sv 4) z0 z0) (sx 1 (sv 2) (sv 1) z0) z0) (sv 1)) (sx 30 (sx 3 (sv 3) z0 z0) (sx 31 z0 z0 z0) z0) z0) z0) z0) (sv 315) z0) z0) (sx 3 (sv 6) (sx 32 (sx 30 (sx 3 (sv 2) z0 z0) (sx 30 (sx 7 (sx 3 z0 z0 z0) (sx 14 (sx 3 (sv 4) z0 z0) (sx 1 (sv 1) (sv 1) z0) z0) (sv 1)) (sx 30 (sx 7 (sx 3 z0 z0 z0) (sx 14 (sx 3 (sv 4) z0 z0) (sx 1 (sv 2) (sv 1) z0) z0) (sv 1)) (sx 31 z0 z0 z0) z0) z0) z0) (sv 275) z0) z0) z0) z0 z0) (sx 14 z0 z0 z0) z0) (sx 25 (so 26 z0) (sx 2 (sx 20 (sx 2 (sx 3 (sv 5) (sx 32 (sx 30 (sx 3 (sv 1) z0 z0) (sx 30 (sx 7 (sx 3 z0 z0 z0) (sx 14 (sx 3 (sv 4) z0 z0) (sx 1 (sv 1) (sv 1) z0) z0) (sv 1)) (sx 30 (sx 7 (sx 3 z0 z0 z0) (sx 14 (sx 3 (sv 4) z0 z0) (sx 1 (sv 2) (sv 1) z0) z0) (sv 1)) (sx 30 (sx 3 (sv 3) z0 z0) (sx 31 z0 z0 z0) z0) z0) z0) z0) (sv 316) z0) z0) (sx 2 (sx 3 (sv 6) (sx 32 (sx 30 (sx 3 (sv 2) z0 z0) (sx 30 (sx 7 (sx 3 z0 z0 z0) (sx 14 (sx 3 (sv 4) z0 z0) (sx 1 (sv 1) (sv 1) z0) z0) (sv 1)) (sx 30 (sx 7 (sx 3 z0 z0 z0) (sx 14 (sx 3 (sv 4) z0 z0) (sx 1 (sv 2) (sv 1) z0) z0) (sv 1)) (sx 31 z0 z0 z0) z0) z0) z0) (sv 276) z0) z0) (sx 2 (sx 10 (sx 20 (sx 32 (sx 30 (sx 3 (sv 2) z0 z0) (sx 31 z0 z0 z0) z0) (sv 182) z0) (sx 3 (sv 5) z0 z0) (sv 1)) (sx 27 (sx 1 z0 (sv 1) z0) z0 z0) z0) (sx 10 (sx 25 (sx 21 (sx 3 (sv 5) z0 z0) z0 z0) (sx 22 (sx 7 (sx 3 (sv 3) z0 z0) (sx 1 z0 (sv 1) z0) z0) (sx 18 (sx 3 (sv 6) z0 z0) z0 (sv 2)) (sv 1)) z0) (sx 27 (sx 1 z0 (sv 1) z0) z0 z0) z0) z0) z0) z0) z0 z0) (sx 14 z0 z0 z0) z0) (sx 25 (so 28 z0) (sx 2 (sx 20 (sx 2 (sx 3 (sv 5) (sx 32 (sx 30 (sx 3 (sv 1) z0 z0) (sx 30 (sx 7 (sx 3 z0 z0 z0) (sx 14 (sx 3 (sv 4) z0 z0) (sx 1 (sv 1) (sv 1) z0) z0) (sv 1)) (sx 30 (sx 7 (sx 3 z0 z0 z0) (sx 14 (sx 3 (sv 4) z0 z0) (sx 1 (sv 2) (sv 1) z0) z0) (sv 1)) (sx 30 (sx 3 (sv 3) z0 z0) (sx 31 z0 z0 z0) z0) z0) z0) z0) (sv 317) z0) z0) (sx 3 (sv 6) (sx 32 (sx 30 (sx 3 (sv 2) z0 z0) (sx 30 (sx 7 (sx 3 z0 z0 z0) (sx 14 (sx 3 (sv 4) z0 z0) (sx 1 (sv 1) (sv 1) z0) z0) (sv 1)) (sx 30 (sx 7 (sx 3 z0 z0 z0) (sx 14 (sx 3 (sv 4) z0 z0) (sx 1 (sv 2) (sv 1) z0) z0) (sv 1)) (sx 31 z0 z0 z0) z0) z0) z0) (sv 277) z0) z0) z0) z0 z0) (sx 14 z0 z0 z0) z0) (sx 25 (so 30 z0) (sx 2 (sx 20 (sx 2 (sx 3 (sv 5) (sx 32 (sx 30 (sx 3 (sv 1) z0 z0) (sx 30 (sx 7 (sx 3 z0 z0 z0) (sx 14 (sx 3 (sv 4) z0 z0) (sx 1 (sv 1) (sv 1) z0) z0) (sv 1)) (sx 30 (sx 3 (sv 3) z0 z0) (sx 31 z0 z0 z0) z0) z0) z0) (sv 318) z0) z0) (sx 3 (sv 6) (sx 32 (sx 30 (sx 3 (sv 2) z0 z0) (sx 30 (sx 7 (sx 3 z0 z0 z0) (sx 14 (sx 3 (sv 4) z0 z0) (sx 1 (sv 1) (sv 1) z0) z0) (sv 1)) (sx 31 z0 z0 z0) z0) z0) (sv 278) z0) z0) z0) z0 z0) (sx 14 z0 z0 z0) z0) (sx 25 (so 32 z0) (sx 2 (sx 20 (sx 2 (sx 3 (sv 5) (sx 32 (sx 30 (sx 3 (sv 1) z0 z0) (sx 30 (sx 7 (sx 3 z0 z0 z0) (sx 14 (sx 3 (sv 4) z0 z0) (sx 1 (sv 1) (sv 1) z0) z0) (sv 1)) (sx 30 (sx 7 (sx 3 z0 z0 z0) (sx 14 (sx 3 (sv 4) z0 z0) (sx 1 (sv 2) (sv 1) z0) z0) (sv 1)) (sx 30 (sx 3 (sv 3) z0 z0) (sx 31 z0 z0 z0) z0) z0) z0) z0) (sv 319) z0) z0) (sx 3 (sv 6) (sx 32 (sx 30 (sx 3 (sv 2) z0 z0) (sx 30 (sx 7 (sx 3 z0 z0 z0) (sx 14 (sx 3 (sv 4) z0 z0) (sx 1 (sv 1) (sv 1) z0) z0) (sv 1)) (sx 30 (sx 7 (sx 3 z0 z0 z0) (sx 14 (sx 3 (sv 4) z0 z0) (sx 1 (sv 2) (sv 1) z0) z0) (sv 1)) (sx 31 z0 z0 z0) z0) z0) z0) (sv 279) z0) z0) z0) z0 z0) (sx 14 z0 z0 z0) z0) (sx 25 (so 34 z0) (sx 2 (sx 20 (sx 2 (sx 3 (sv 5) (sx 32 (sx 30 (sx 3 (sv 1) z0 z0) (sx 30 (sx 7 (sx 3 z0 z0 z0) (sx 14 (sx 3 (sv 4) z0 z0) (sx 1 (sv 1) (sv 1) z0) z0) (sv 1)) (sx 30 (sx 7 (sx 3 z0 z0 z0) (sx 14 (sx 3 (sv 4) z0 z0) (sx 1 (sv 2) (sv 1) z0) z0) (sv 1)) (sx 30 (sx 3 (sv 3) z0 z0) (sx 31 z0 z0 z0) z0) z0) z0) z0) (sv 320) z0) z0) (sx 3 (sv 6) (sx 32 (sx 30 (sx 3 (sv 2) z0 z0) (sx 30 (sx 7 (sx 3 z0 z0 z0) (sx 14 (sx 3 (sv 4) z0 z0) (sx 1 (sv 1) (sv 1) z0) z0) (sv 1)) (sx 30 (sx 7 (sx 3 z0 z0 z0) (sx 14 (sx 3 (sv 4) z0 z0) (sx 1 (sv 2) (sv 1) z0) z0) (sv 1)) (sx 31 z0 z0 z0) z0) z0) z0) (sv 280) z0) z0) z0) z0 z0) (sx 14 z0 z0 z0) z0) (sx 25 (so 36 z0) (sx 2 (sx 20 (sx 2 (sx 3 (sv 5) (sx 32 (sx 30 (sx 3 (sv 1) z0 z0) (sx 30 (sx 7 (sx 3 z0 z0 z0) (sx 14 (sx 3 (sv 4) z0 z0) (sx 1 (sv 1) (sv 1) z0) z0) (sv 1)) (sx 30 (sx 7 (sx 3 z0 z0 z0) (sx 14 (sx 3 (sv 4) z0 z0) (sx 1 (sv 2) (sv 1) z0) z0) (sv 1)) (sx 30 (sx 3 (sv 3) z0 z0) (sx 31 z0 z0 z0) z0) z0) z0) z0) (sv 321) z0) z0) (sx 3 (sv 6) (sx 32 (sx 30 (sx 3 (sv 2) z0 z0) (sx 30 (sx 7 (sx 3 z0 z0 z0) (sx 14 (sx 3 (sv 4) z0 z0) (sx 1 (sv 1) (sv 1) z0) z0) (sv 1)) (sx 30 (sx 7 (sx 3 z0 z0 z0) (sx 14 (sx 3 (sv 4) z0 z0) (sx 1 (sv 2) (sv 1) z0) z0) (sv 1)) (sx 31 z0 z0 z0) z0) z0) z0) (sv 281) z0) z0) z0) z0 z0) (sx 14 z0 z0 z0) z0) (sx 25 (so 38 z0) (sx 2 (sx 20 (sx 2 (sx 3 (sv 5) (sx 32 (sx 30 (sx 3 (sv 1) z0 z0) (sx 30 (sx 7 (sx 3 z0 z0 z0) (sx 14 (sx 3 (sv 4) z0 z0) (sx 1 (sv 1) (sv 1) z0) z0) (sv 1)) (sx 30 (sx 3 (sv 3) z0 z0) (sx 31 z0 z0 z0) z0) z0) z0) (sv 322) z0) z0) (sx 3 (sv 6) (sx 32 (sx 30 (sx 3 (sv 2) z0 z0) (sx 30 (sx 7 (sx 3 z0 z0 z0) (sx 14 (sx 3 (sv 4) z0 z0) (sx 1 (sv 1) (sv 1) z0) z0) (sv 1)) (sx 31 z0 z0 z0) z0) z0) (sv 282) z0) z0) z0) z0 z0) (sx 14 z0 z0 z0) z0) (sx 25 (so 40 z0) (sx 2 (sx 9 (sx 32 (sx 30 (sx 3 (sv 1) z0 z0) (sx 30 (sx 7 (sx 3 z0 z0 z0) (sx 14 (sx 3 (sv 4) z0 z0) (sx 1 (sv 1) (sv 1) z0) z0) (sv 1)) (sx 31 z0 z0 z0) z0) z0) (sv 22) z0) z0 z0) (sx 2 (sx 9 (sx 32 (sx 30 (sx 3 (sv 2) z0 z0) (sx 30 (sx 7 (sx 3 z0 z0 z0) (sx 14 (sx 3 (sv 4) z0 z0) (sx 1 (sv 1) (sv 1) z0) z0) (sv 1)) (sx 31 z0 z0 z0) z0) z0) (sv 283) z0) z0 z0) (sx 14 z0 z0 z0) z0) z0) (sx 25 (so 42 z0) (sx 2 (sx 9 (sx 32 (sx 30 (sx 3 (sv 1) z0 z0) (sx 30 (sx 7 (sx 3 z0 z0 z0) (sx 14 (sx 3 (sv 4) z0 z0) (sx 1 (sv 1) (sv 1) z0) z0) (sv 1)) (sx 30 (sx 7 (sx 3 z0 z0 z0) (sx 14 (sx 3 (sv 4) z0 z0) (sx 1 (sv 2) (sv 1) z0) z0) (sv 1)) (sx 31 z0 z0 z0) z0) z0) z0) (sv 23) z0) z0 z0) (sx 2 (sx 9 (sx 32 (sx 30 (sx 3 (sv 2) z0 z0) (sx 30 (sx 7 (sx 3 z0 z0 z0) (sx 14 (sx 3 (sv 4) z0 z0) (sx 1 (sv 1) (sv 1) z0) z0) (sv 1)) (sx 30 (sx 7 (sx 3 z0 z0 z0) (sx 14 (sx 3 (sv 4) z0 z0) (sx 1 (sv 2) (sv 1) z0) z0) (sv 1)) (sx 31 z0 z0 z0) z0) z0) z0) (sv 284) z0) z0 z0) (sx 14 z0 z0 z0) z0) z0) (sx 25 (so 44 z0) (sx 2 (sx 20 (sx 2 (sx 3 (sv 5) (sx 32 (sx 30 (sx 3 (sv 1) z0 z0) (sx 30 (sx 7 (sx 3 z0 z0 z0) (sx 14 (sx 3 (sv 4) z0 z0) (sx 1 (sv 1) (sv 1) z0) z0) (sv 1)) (sx 30 (sx 3 (sv 3) z0 z0) (sx 31 z0 z0 z0) z0) z0) z0) (sv 323) z0) z0) (sx 3 (sv 6) (sx 32 (sx 30 (sx 3 (sv 2) z0 z0) (sx 30 (sx 7 (sx 3 z0 z0 z0) (sx 14 (sx 3 (sv 4) z0 z0) (sx 1 (sv 1) (sv 1) z0) z0) (sv 1)) (sx 31 z0 z0 z0) z0) z0) (sv 286) z0) z0) z0) z0 z0) (sx 14 z0 z0 z0) z0) (sx 25 (so 46 z0) (sx 2 (sx 9 (sx 32 (sx 30 (sx 3 (sv 1) z0 z0) (sx 31 z0 z0 z0) z0) (sv 25) z0) z0 z0) (sx 2 (sx 9 (sx 32 (sx 30 (sx 3 (sv 2) z0 z0) (sx 31 z0 z0 z0) z0) (sv 288) z0) z0 z0) (sx 14 z0 z0 z0) z0) z0) (sx 25 (so 48 z0) (sx 2 (sx 9 (sx 32 (sx 30 (sx 3 (sv 1) z0 z0) (sx 31 z0 z0 z0) z0) (sv 26) z0) z0 z0) (sx 2 (sx 9 (sx 32 (sx 30 (sx 3 (sv 2) z0 z0) (sx 31 z0 z0 z0) z0) (sv 289) z0) z0 z0) (sx 14 z0 z0 z0) z0) z0) (sx 25 (so 50 z0) (sx 2 (sx 20 (sx 2 (sx 3 (sv 5) (sx 32 (sx 30 (sx 3 (sv 1) z0 z0) (sx 30 (sx 7 (sx 3 z0 z0 z0) (sx 14 (sx 3 (sv 4) z0 z0) (sx 1 (sv 1) (sv 1) z0) z0) (sv 1)) (sx 30 (sx 7 (sx 3 z0 z0 z0) (sx 14 (sx 3 (sv 4) z0 z0) (sx 1 (sv 2) (sv 1) z0) z0) (sv 1)) (sx 30 (sx 7 (sx 3 z0 z0 z0) (sx 14 (sx 3 (sv 4) z0 z0) (sx 1 (sv 3) (sv 1) z0) z0) (sv 1)) (sx 30 (sx 3 (sv 3) z0 z0) (sx 31 z0 z0 z0) z0) z0) z0) z0) z0) (sv 324) z0) z0) (sx 3 (sv 6) (sx 32 (sx 30 (sx 3 (sv 2) z0 z0) (sx 30 (sx 7 (sx 3 z0 z0 z0) (sx 14 (sx 3 (sv 4) z0 z0) (sx 1 (sv 1) (sv 1) z0) z0) (sv 1)) (sx 30 (sx 7 (sx 3 z0 z0 z0) (sx 14 (sx 3 (sv 4) z0 z0) (sx 1 (sv 2) (sv 1) z0) z0) (sv 1)) (sx 30 (sx 7 (sx 3 z0 z0 z0) (sx 14 (sx 3 (sv 4) z0 z0) (sx 1 (sv 3) (sv 1) z0) z0) (sv 1)) (sx 31 z0 z0 z0) z0) z0) z0) z0) (sv 292) z0) z0) z0) z0 z0) (sx 14 z0 z0 z0) z0) (sx 25 (so 52 z0) (sx 2 (sx 20 (sx 2 (sx 3 (sv 5) (sx 32 (sx 30 (sx 3 (sv 1) z0 z0) (sx 30 (sx 7 (sx 3 z0 z0 z0) (sx 14 (sx 3 (sv 4) z0 z0) (sx 1 (sv 1) (sv 1) z0) z0) (sv 1)) (sx 30 (sx 7 (sx 3 z0 z0 z0) (sx 14 (sx 3 (sv 4) z0 z0) (sx 1 (sv 2) (sv 1) z0) z0) (sv 1)) (sx 30 (sx 7 (sx 3 z0 z0 z0) (sx 14 (sx 3 (sv 4) z0 z0) (sx 1 (sv 3) (sv 1) z0) z0) (sv 1)) (sx 30 (sx 3 (sv 3) z0 z0) (sx 31 z0 z0 z0) z0) z0) z0) z0) z0) (sv 325) z0) z0) (sx 3 (sv 6) (sx 32 (sx 30 (sx 3 (sv 2) z0 z0) (sx 30 (sx 7 (sx 3 z0 z0 z0) (sx 14 (sx 3 (sv 4) z0 z0) (sx 1 (sv 1) (sv 1) z0) z0) (sv 1)) (sx 30 (sx 7 (sx 3 z0 z0 z0) (sx 14 (sx 3 (sv 4) z0 z0) (sx 1 (sv 2) (sv 1) z0) z0) (sv 1)) (sx 30 (sx 7 (sx 3 z0 z0 z0) (sx 14 (sx 3 (sv 4) z0 z0) (sx 1 (sv 3) (sv 1) z0) z0) (sv 1)) (sx 31 z0 z0 z0) z0) z0) z0) z0) (sv 293) z0) z0) z0) z0 z0) (sx 14 z0 z0 z0) z0) (sx 25 (so 54 z0) (sx 2 (sx 20 (sx 2 (sx 3 (sv 5) (sx 32 (sx 30 (sx 3 (sv 1) z0 z0) (sx 30 (sx 7 (sx 3 z0 z0 z0) (sx 14 (sx 3 (sv 4) z0 z0) (sx 1 (sv 1) (sv 1) z0) z0) (sv 1)) (sx 30 (sx 3 (sv 3) z0 z0) (sx 31 z0 z0 z0) z0) z0) z0) (sv 326) z0) z0) (sx 3 (sv 6) (sx 32 (sx 30 (sx 3 (sv 2) z0 z0) (sx 30 (sx 7 (sx 3 z0 z0 z0) (sx 14 (sx 3 (sv 4) z0 z0) (sx 1 (sv 1) (sv 1) z0) z0) (sv 1)) (sx 31 z0 z0 z0) z0) z0) (sv 294) z0) z0) z0) z0 z0) (sx 14 z0 z0 z0) z0) (sx 25 (so 56 z0) (sx 2 (sx 9 (sx 32 (sx 30 (sx 3 (sv 1) z0 z0) (sx 31 z0 z0 z0) z0) (sv 30) z0) z0 z0) (sx 2 (sx 9 (sx 32 (sx 30 (sx 3 (sv 2) z0 z0) (sx 31 z0 z0 z0) z0) (sv 295) z0) z0 z0) (sx 14 z0 z0 z0) z0) z0) (sx 25 (so 58 z0) (sx 2 (sx 20 (sx 2 (sx 3 (sv 5) (sx 32 (sx 30 (sx 3 (sv 1) z0 z0) (sx 30 (sx 7 (sx 3 z0 z0 z0) (sx 14 (sx 3 (sv 4) z0 z0) (sx 1 (sv 1) (sv 1) z0) z0) (sv 1)) (sx 30 (sx 7 (sx 3 z0 z0 z0) (sx 14 (sx 3 (sv 4) z0 z0) (sx 1 (sv 2) (sv 1) z0) z0) (sv 1)) (sx 30 (sx 3 (sv 3) z0 z0) (sx 31 z0 z0 z0) z0) z0) z0) z0) (sv 327) z0) z0) (sx 3 (sv 6) (sx 32 (sx 30 (sx 3 (sv 2) z0 z0) (sx 30 (sx 7 (sx 3 z0 z0 z0) (sx 14 (sx 3 (sv 4) z0 z0) (sx 1 (sv 1) (sv 1) z0) z0) (sv 1)) (sx 30 (sx 7 (sx 3 z0 z0 z0) (sx 14 (sx 3 (sv 4) z0 z0) (sx 1 (sv 2) (sv 1) z0) z0) (sv 1)) (sx 31 z0 z0 z0) z0) z0) z0) (sv 296) z0) z0) z0) z0 z0) (sx 14 z0 z0 z0) z0) (sx 25 (so 60 z0) (sx 2 (sx 20 (sx 2 (sx 3 (sv 5) (sx 32 (sx 30 (sx 3 (sv 1) z0 z0) (sx 30 (sx 7 (sx 3 z0 z0 z0) (sx 14 (sx 3 (sv 4) z0 z0) (sx 1 (sv 1) (sv 1) z0) z0) (sv 1)) (sx 30 (sx 7 (sx 3 z0 z0 z0) (sx 14 (sx 3 (sv 4) z0 z0) (sx 1 (sv 2) (sv 1) z0) z0) (sv 1)) (sx 30 (sx 3 (sv 3) z0 z0) (sx 31 z0 z0 z0) z0) z0) z0) z0) (sv 328) z0) z0) (sx 3 (sv 6) (sx 32 (sx 30 (sx 3 (sv 2) z0 z0) (sx 30 (sx 7 (sx 3 z0 z0 z0) (sx 14 (sx 3 (sv 4) z0 z0) (sx 1 (sv 1) (sv 1) z0) z0) (sv 1)) (sx 30 (sx 7 (sx 3 z0 z0 z0) (sx 14 (sx 3 (sv 4) z0 z0) (sx 1 (sv 2) (sv 1) z0) z0) (sv 1)) (sx 31 z0 z0 z0) z0) z0) z0) (sv 297) z0) z0) z0) z0 z0) (sx 14 z0 z0 z0) z0) (sx 25 (so 62 z0) (sx 2 (sx 20 (sx 2 (sx 3 (sv 5) (sx 32 (sx 30 (sx 3 (sv 1) z0 z0) (sx 30 (sx 7 (sx 3 z0 z0 z0) (sx 14 (sx 3 (sv 4) z0 z0) (sx 1 (sv 1) (sv 1) z0) z0) (sv 1)) (sx 30 (sx 7 (sx 3 z0 z0 z0) (sx 14 (sx 3 (sv 4) z0 z0) (sx 1 (sv 2) (sv 1) z0) z0) (sv 1)) (sx 30 (sx 7 (sx 3 z0 z0 z0) (sx 14 (sx 3 (sv 4) z0 z0) (sx 1 (sv 3) (sv 1) z0) z0) (sv 1)) (sx 30 (sx 7 (sx 3 z0 z0 z0) (sx 14 (sx 3 (sv 4) z0 z0) (sx 1 (sv 4) (sv 1) z0) z0) (sv 1)) (sx 30 (sx 3 (sv 3) z0 z0) (sx 31 z0 z0 z0) z0) z0) z0) z0) z0) z0) (sv 329) z0) z0) (sx 3 (sv 6) (sx 32 (sx 30 (sx 3 (sv 2) z0 z0) (sx 30 (sx 7 (sx 3 z0 z0 z0) (sx 14 (sx 3 (sv 4) z0 z0) (sx 1 (sv 1) (sv 1) z0) z0) (sv 1)) (sx 30 (sx 7 (sx 3 z0 z0 z0) (sx 14 (sx 3 (sv 4) z0 z0) (sx 1 (sv 2) (sv 1) z0) z0) (sv 1)) (sx 30 (sx 7 (sx 3 z0 z0 z0) (sx 14 (sx 3 (sv 4) z0 z0) (sx 1 (sv 3) (sv 1) z0) z0) (sv 1)) (sx 30 (sx 7 (sx 3 z0 z0 z0) (sx 14 (sx 3 (sv 4) z0 z0) (sx 1 (sv 4) (sv 1) z0) z0) (sv 1)) (sx 31 z0 z0 z0) z0) z0) z0) z0) z0) (sv 299) z0) z0) z0) z0 z0) (sx 14 z0 z0 z0) z0) (sx 25 (so 64 z0) (sx 2 (sx 20 (sx 2 (sx 3 (sv 5) (sx 32 (sx 30 (sx 3 (sv 1) z0 z0) (sx 30 (sx 7 (sx 3 z0 z0 z0) (sx 14 (sx 3 (sv 4) z0 z0) (sx 1 (sv 1) (sv 1) z0) z0) (sv 1)) (sx 30 (sx 7 (sx 3 z0 z0 z0) (sx 14 (sx 3 (sv 4) z0 z0) (sx 1 (sv 2) (sv 1) z0) z0) (sv 1)) (sx 30 (sx 3 (sv 3) z0 z0) (sx 31 z0 z0 z0) z0) z0) z0) z0) (sv 330) z0) z0) (sx 3 (sv 6) (sx 32 (sx 30 (sx 3 (sv 2) z0 z0) (sx 30 (sx 7 (sx 3 z0 z0 z0) (sx 14 (sx 3 (sv 4) z0 z0) (sx 1 (sv 1) (sv 1) z0) z0) (sv 1)) (sx 30 (sx 7 (sx 3 z0 z0 z0) (sx 14 (sx 3 (sv 4) z0 z0) (sx 1 (sv 2) (sv 1) z0) z0) (sv 1)) (sx 31 z0 z0 z0) z0) z0) z0) (sv 300) z0) z0) z0) z0 z0) (sx 14 z0 z0 z0) z0) (sx 25 (so 66 z0) (sx 2 (sx 9 (sx 32 (sx 30 (sx 3 (sv 1) z0 z0) (sx 30 (sx 7 (sx 3 z0 z0 z0) (sx 14 (sx 3 (sv 4) z0 z0) (sx 1 (sv 1) (sv 1) z0) z0) (sv 1)) (sx 31 z0 z0 z0) z0) z0) (sv 35) z0) z0 z0) (sx 2 (sx 9 (sx 32 (sx 30 (sx 3 (sv 2) z0 z0) (sx 30 (sx 7 (sx 3 z0 z0 z0) (sx 14 (sx 3 (sv 4) z0 z0) (sx 1 (sv 1) (sv 1) z0) z0) (sv 1)) (sx 31 z0 z0 z0) z0) z0) (sv 302) z0) z0 z0) (sx 14 z0 z0 z0) z0) z0) (sx 25 (so 68 z0) (sx 2 (sx 9 (sx 32 (sx 30 (sx 3 (sv 1) z0 z0) (sx 31 z0 z0 z0) z0) (sv 36) z0) z0 z0) (sx 2 (sx 9 (sx 32 (sx 30 (sx 3 (sv 2) z0 z0) (sx 31 z0 z0 z0) z0) (sv 303) z0) z0 z0) (sx 14 z0 z0 z0) z0) z0) (sx 25 (so 70 z0) (sx 2 (sx 9 (sx 32 (sx 30 (sx 3 (sv 1) z0 z0) (sx 30 (sx 7 (sx 3 z0 z0 z0) (sx 14 (sx 3 (sv 4) z0 z0) (sx 1 (sv 1) (sv 1) z0) z0) (sv 1)) (sx 30 (sx 7 (sx 3 z0 z0 z0) (sx 14 (sx 3 (sv 4) z0 z0) (sx 1 (sv 2) (sv 1) z0) z0) (sv 1)) (sx 30 (sx 21 (sx 7 (sx 3 z0 z0 z0) (sx 14 (sx 3 (sv 4) z0 z0) (sx 1 (sv 3) (sv 1) z0) z0) (sv 1)) z0 (sv 1)) (sx 31 z0 z0 z0) z0) z0) z0) z0) (sv 40) z0) z0 z0) (sx 2 (sx 9 (sx 32 (sx 30 (sx 3 (sv 2) z0 z0) (sx 30 (sx 7 (sx 3 z0 z0 z0) (sx 14 (sx 3 (sv 4) z0 z0) (sx 1 (sv 1) (sv 1) z0) z0) (sv 1)) (sx 30 (sx 7 (sx 3 z0 z0 z0) (sx 14 (sx 3 (sv 4) z0 z0) (sx 1 (sv 2) (sv 1) z0) z0) (sv 1)) (sx 30 (sx 21 (sx 7 (sx 3 z0 z0 z0) (sx 14 (sx 3 (sv 4) z0 z0) (sx 1 (sv 3) (sv 1) z0) z0) (sv 1)) z0 (sv 1)) (sx 31 z0 z0 z0) z0) z0) z0) z0) (sv 304) z0) z0 z0) (sx 14 z0 z0 z0) z0) z0) (sx 25 (so 72 z0) (sx 2 (sx 9 (sx 32 (sx 30 (sx 3 (sv 1) z0 z0) (sx 31 z0 z0 z0) z0) (sv 41) z0) z0 z0) (sx 2 (sx 9 (sx 32 (sx 30 (sx 3 (sv 2) z0 z0) (sx 31 z0 z0 z0) z0) (sv 306) z0) z0 z0) (sx 14 z0 z0 z0) z0) z0) (sx 25 (so 74 z0) (sx 2 (sx 9 (sx 32 (sx 30 (sx 3 (sv 1) z0 z0) (sx 31 z0 z0 z0) z0) (sv 42) z0) z0 z0) (sx 2 (sx 9 (sx 32 (sx 30 (sx 3 (sv 2) z0 z0) (sx 31 z0 z0 z0) z0) (sv 307) z0) z0 z0) (sx 14 z0 z0 z0) z0) z0) (sx 25 (so 76 z0) (sx 2 (sx 20 (sx 2 (sx 3 (sv 5) (sx 32 (sx 30 (sx 3 (sv 1) z0 z0) (sx 30 (sx 7 (sx 3 z0 z0 z0) (sx 14 (sx 3 (sv 4) z0 z0) (sx 1 (sv 1) (sv 1) z0) z0) (sv 1)) (sx 30 (sx 7 (sx 3 z0 z0 z0) (sx 14 (sx 3 (sv 4) z0 z0) (sx 1 (sv 2) (sv 1) z0) z0) (sv 1)) (sx 30 (sx 7 (sx 3 z0 z0 z0) (sx 14 (sx 3 (sv 4) z0 z0) (sx 1 (sv 3) (sv 1) z0) z0) (sv 1)) (sx 30 (sx 3 (sv 3) z0 z0) (sx 31 z0 z0 z0) z0) z0) z0) z0) z0) (sv 331) z0) z0) (sx 3 (sv 6) (sx 32 (sx 30 (sx 3 (sv 2) z0 z0) (sx 30 (sx 7 (sx 3 z0 z0 z0) (sx 14 (sx 3 (sv 4) z0 z0) (sx 1 (sv 1) (sv 1) z0) z0) (sv 1)) (sx 30 (sx 7 (sx 3 z0 z0 z0) (sx 14 (sx 3 (sv 4) z0 z0) (sx 1 (sv 2) (sv 1) z0) z0) (sv 1)) (sx 30 (sx 7 (sx 3 z0 z0 z0) (sx 14 (sx 3 (sv 4) z0 z0) (sx 1 (sv 3) (sv 1) z0) z0) (sv 1)) (sx 31 z0 z0 z0) z0) z0) z0) z0) (sv 310) z0) z0) z0) z0 z0) (sx 14 z0 z0 z0) z0) (sx 25 (so 78 z0) (sx 2 (sx 9 (sx 32 (sx 30 (sx 3 (sv 1) z0 z0) (sx 30 (sx 7 (sx 3 z0 z0 z0) (sx 14 (sx 3 (sv 4) z0 z0) (sx 1 (sv 1) (sv 1) z0) z0) (sv 1)) (sx 30 (sx 21 (sx 7 (sx 3 z0 z0 z0) (sx 14 (sx 3 (sv 4) z0 z0) (sx 1 (sv 2) (sv 1) z0) z0) (sv 1)) z0 (sv 1)) (sx 31 z0 z0 z0) z0) z0) z0) (sv 48) z0) z0 z0) (sx 2 (sx 9 (sx 32 (sx 30 (sx 3 (sv 2) z0 z0) (sx 30 (sx 7 (sx 3 z0 z0 z0) (sx 14 (sx 3 (sv 4) z0 z0) (sx 1 (sv 1) (sv 1) z0) z0) (sv 1)) (sx 30 (sx 21 (sx 7 (sx 3 z0 z0 z0) (sx 14 (sx 3 (sv 4) z0 z0) (sx 1 (sv 2) (sv 1) z0) z0) (sv 1)) z0 (sv 1)) (sx 31 z0 z0 z0) z0) z0) z0) (sv 311) z0) z0 z0) (sx 14 z0 z0 z0) z0) z0) (sx 25 (so 80 z0) (sx 2 (sx 9 (sx 32 (sx 30 (sx 3 (sv 1) z0 z0) (sx 30 (sx 7 (sx 3 z0 z0 z0) (sx 14 (sx 3 (sv 4) z0 z0) (sx 1 (sv 1) (sv 1) z0) z0) (sv 1)) (sx 31 z0 z0 z0) z0) z0) (sv 51) z0) z0 z0) (sx 2 (sx 9 (sx 32 (sx 30 (sx 3 (sv 2) z0 z0) (sx 30 (sx 7 (sx 3 z0 z0 z0) (sx 14 (sx 3 (sv 4) z0 z0) (sx 1 (sv 1) (sv 1) z0) z0) (sv 1)) (sx 31 z0 z0 z0) z0) z0) (sv 313) z0) z0 z0) (sx 14 z0 z0 z0) z0) z0) (sx 26 (sx 14 z0 z0 z0) z0 z0)))))))))))))))))))))))))))))))))))))))))
def fwP : SX := (sx 4 (sv 4) (sv 7) z0)
theorem fd_a : bb_62 = sx 2 (sx 20 (sx 2 (sx 3 (sv 3) (sx 1 (sv 56) (sv 1) z0) z0) (sx 12 fdC fdB fdP) z0) z0 z0) (sx 17 z0 z0 z0) z0 := rfl
theorem fd_m : bb_184 = sx 2 (sx 20 (sx 2 (sx 3 (sv 3) (sx 1 (sv 56) (sv 1) z0) z0) (sx 12 fdC fmB fdP) z0) z0 z0) (sx 17 z0 z0 z0) z0 := rfl
theorem fw_r : lawR = sx 2 (sx 20 (sx 2 (sx 3 (sv 4) (sx 1 z0 (sv 1) z0) z0) (sx 12 fwC (sx 20 (sx 19 fwS (sx 25 (so 0 z0) fwX fwR) z0) z0 z0) fwP) z0) z0 z0) (sx 27 (sx 1 (sv 1) (sv 1) z0) z0 z0) z0 := rfl
section FEED
variable {xs : Nat → Int} {L K : Nat} {ck : Nat → List Nat} {F : XP} {cW : Nat → Nat → Int} {a b c : SX}
theorem ee_1 : evE xs L ck F cW (sx 1 a b c) = fun _ st => some ([if sx_n c = 0 then (sx_n a : Int) else -(sx_n a : Int)], st) := rfl
theorem ee_3 : evE xs L ck F cW (sx 3 a b c) = fun en st => some ([en.getD (sx_n a) 0], st) := rfl
theorem ee_4 : evE xs L ck F cW (sx 4 a b c) = fun en st => (evE xs L ck F cW a en st).bind fun x => some ([x.2.2 (j_hd x.1).toNat (sx_n b)], x.2) := rfl
theorem ee_5 : evE xs L ck F cW (sx 5 a b c) = fun en st => (evE xs L ck F cW a en st).bind fun x => (j_rf x.2.1.1 (j_hd x.1).toNat (sx_n b)).bind fun r => some ([r], x.2) := rfl
theorem ee_7 : evE xs L ck F cW (sx 7 a b c) = n_aload xs L (sx_n c) (evE xs L ck F cW a) (evE xs L ck F cW b) := rfl
theorem ee_10 : evE xs L ck F cW (sx 10 a b c) = n_alen L (sx_n c) (evE xs L ck F cW a) := rfl
theorem ee_14 : evE xs L ck F cW (sx 14 a b c) = n_bin (j_iop (sx_n c)) (evE xs L ck F cW a) (evE xs L ck F cW b) := rfl
theorem ee_15 : evE xs L ck F cW (sx 15 a b c) = n_bin (j_lop (sx_n c)) (evE xs L ck F cW a) (evE xs L ck F cW b) := rfl
theorem ee_16 : evE xs L ck F cW (sx 16 a b c) = n_bin (j_lsh (sx_n c)) (evE xs L ck F cW a) (evE xs L ck F cW b) := rfl
theorem ee_18 : evE xs L ck F cW (sx 18 a b c) = fun en st => (evE xs L ck F cW a en st).bind fun x => some ([j_un (sx_n c) (j_hd x.1)], x.2) := rfl
theorem ee_20 : evE xs L ck F cW (sx 20 a b c) = n_cmp (j_cmp (sx_n c)) (evE xs L ck F cW a) (evE xs L ck F cW b) := rfl
theorem ee_21 : evE xs L ck F cW (sx 21 a b c) = fun en st => (evE xs L ck F cW a en st).bind fun x => some ([j_b (j_cmp (sx_n c) (j_hd x.1) 0)], x.2) := rfl
theorem ee_24 : evE xs L ck F cW (sx 24 a b c) = evE xs L ck F cW a := rfl
theorem ee_25 : evE xs L ck F cW (sx 25 a b c) = n_ife (evE xs L ck F cW a) (n_nz (evE xs L ck F cW b)) (fun _ st => some ([0], st)) := rfl
theorem ee_26 : evE xs L ck F cW (sx 26 a b c) = n_ife (evE xs L ck F cW a) (fun _ st => some ([1], st)) (n_nz (evE xs L ck F cW b)) := rfl
theorem ee_30 : evE xs L ck F cW (sx 30 a b c) = fun en st => (evE xs L ck F cW a en st).bind fun x => (evE xs L ck F cW b en x.2).bind fun y => some (x.1 ++ y.1, y.2) := rfl
theorem ee_31 : evE xs L ck F cW (sx 31 a b c) = fun _ st => some ([], st) := rfl
theorem ee_32 : evE xs L ck F cW (sx 32 a b c) = n_call F (sx_n b) (evE xs L ck F cW a) := rfl
theorem es_2 : evS xs L ck F K cW (sx 2 a b c) = s_seq (evS xs L ck F K cW a) (evS xs L ck F K cW b) := rfl
theorem es_3 : evS xs L ck F K cW (sx 3 a b c) = fun en st => (evE xs L ck F cW b en st).bind fun x => some (0, [], en.set (sx_n a) (j_hd x.1), x.2) := rfl
theorem es_4 : evS xs L ck F K cW (sx 4 a b c) = fun en st => some (0, [], en.set (sx_n a) (j32 (en.getD (sx_n a) 0 + (if sx_n c = 0 then (sx_n b : Int) else -(sx_n b : Int)))), st) := rfl
theorem es_5 : evS xs L ck F K cW (sx 5 a b c) = s_putf (sx_n c) (evE xs L ck F cW a) (evE xs L ck F cW b) := rfl
theorem es_6 : evS xs L ck F K cW (sx 6 a b c) = s_putfC (sx_n c / 16) (sx_n c % 16) (evE xs L ck F cW a) (evE xs L ck F cW b) := rfl
theorem es_9 : evS xs L ck F K cW (sx 9 a b c) = fun en st => (evE xs L ck F cW a en st).bind fun x => some (0, [], en, x.2) := rfl
theorem es_10 : evS xs L ck F K cW (sx 10 a b c) = s_if (evE xs L ck F cW a) (evS xs L ck F K cW b) (fun en st => some (0, [], en, st)) := rfl
theorem es_12 : evS xs L ck F K cW (sx 12 a b c) = s_loop (evE xs L ck F cW a) (evS xs L ck F K cW b) (evS xs L ck F K cW c) K := rfl
theorem es_16 : evS xs L ck F K cW (sx 16 a b c) = fun en st => (evE xs L ck F cW a en st).bind fun x => some (1, x.1, en, x.2) := rfl
theorem es_17 : evS xs L ck F K cW (sx 17 a b c) = fun en st => some (1, [], en, st) := rfl
theorem es_19 : evS xs L ck F K cW (sx 19 a b c) = s_sw (evE xs L ck F cW a) (evS xs L ck F K cW b) := rfl
theorem es_20 : evS xs L ck F K cW (sx 20 a b c) = evS xs L ck F K cW a := rfl
theorem es_27 : evS xs L ck F K cW (sx 27 a b c) = fun en st => (evE xs L ck F cW a en st).bind fun x => if j_hd x.1 = 0 ∨ j_hd x.1 = 1 then some (1, x.1, en, x.2) else none := rfl
theorem es_28 : evS xs L ck F K cW (sx 28 a b c) = s_if (evE xs L ck F cW a) (evS xs L ck F K cW b) (fun en st => some (2, [], en, st)) := rfl
theorem es_25 : evS xs L ck F K cW (sx 25 a b c) = fun en st => if (sx_l a).any (fun n => decide (en.headD 0 = sx_z n)) then (evS xs L ck F K cW b en.tail st).bind fun r => if r.1 = 0 then none else some r else evS xs L ck F K cW c en st := rfl
theorem es_7 {ty : Nat} : evS xs L ck F K cW (sx 7 a b (so ty c)) = s_ast ty (evE xs L ck F cW a) (evE xs L ck F cW b) (evE xs L ck F cW c) := rfl
theorem n_sv {n : Nat} : sx_n (sv n) = n := rfl
theorem n_z0 : sx_n z0 = 0 := rfl
def sgC (v k : Int) : Int := j_iop 3 (j_un 3 (j_lsh 2 v k)) 255
def sgM (v k : Int) : Int := j_iop 3 (j_un 3 (j_lsh 1 v k)) 255
def rdP (s : Int) : Prop := s = 10 ∨ 32 ≤ s ∧ s ≤ 126
def rdB (s : Int) : Int := j_b (decide (s = 10) || (decide (32 ≤ s) && decide (s ≤ 126)))
theorem rd_ev {en : List Int} {st : XT} {s : Int} (h : en.getD 4 0 = s) : evE xs L ck F cW fdR en st = some ([rdB s], st) := by
  unfold fdR rdB
  simp only [ee_26, ee_25, ee_20, ee_3, ee_1, n_ife, n_nz, n_cmp, Option.bind_some, j_hd, List.headD_cons, n_sv, n_z0, h, j_cmp]
  by_cases h1 : s = 10 <;> by_cases h2 : 32 ≤ s <;> by_cases h3 : s ≤ 126 <;> simp [h1, h2, h3, j_b]
theorem byte_eq (V : BitVec 64) (k : Nat) (hk : k ≤ 56) : ((V >>> k).setWidth 32 &&& 255#32) = ((V.sshiftRight k).setWidth 32 &&& 255#32) := by
  apply BitVec.eq_of_getLsbD_eq
  intro i hi
  rw [BitVec.getLsbD_and, BitVec.getLsbD_and]
  by_cases h8 : i < 8
  · congr 1
    rw [BitVec.getLsbD_setWidth, BitVec.getLsbD_setWidth, BitVec.getLsbD_ushiftRight, BitVec.getLsbD_sshiftRight]
    have h1 : ¬ 64 ≤ i := by omega
    have h2 : k + i < 64 := by omega
    simp [h1, h2]
  · have e : ∀ j : Nat, j < 32 → ¬ j < 8 → (255#32).getLsbD j = false := by decide
    rw [e i hi h8, Bool.and_false, Bool.and_false]
theorem ofI_set (X : BitVec 64) : Int32.ofInt X.toInt = Int32.ofBitVec (X.setWidth 32) := by
  show Int32.ofBitVec (BitVec.ofInt 32 X.toInt) = _
  congr 1
  exact BitVec.signExtend_eq_setWidth_of_le X (by decide)
theorem sg_0 (v : Int) : sgC v 0 = sgM v 0 := by
  have e1 : j_lsh 2 v 0 = ((Int64.ofInt v).toBitVec >>> 0).toInt := rfl
  have e2 : j_lsh 1 v 0 = ((Int64.ofInt v).toBitVec.sshiftRight 0).toInt := rfl
  have k1 : ∀ X : BitVec 64, j_iop 3 (j_un 3 X.toInt) 255 = (Int32.ofBitVec (X.setWidth 32 &&& 255#32)).toInt := fun X => by
    show (Int32.ofInt (j32 X.toInt) &&& Int32.ofInt 255).toInt = _
    rw [of_j32, ofI_set]
    rfl
  unfold sgC sgM
  rw [e1, e2, k1, k1, byte_eq _ 0 (by decide)]
theorem sg_8 (v : Int) : sgC v 8 = sgM v 8 := by
  have e1 : j_lsh 2 v 8 = ((Int64.ofInt v).toBitVec >>> 8).toInt := rfl
  have e2 : j_lsh 1 v 8 = ((Int64.ofInt v).toBitVec.sshiftRight 8).toInt := rfl
  have k1 : ∀ X : BitVec 64, j_iop 3 (j_un 3 X.toInt) 255 = (Int32.ofBitVec (X.setWidth 32 &&& 255#32)).toInt := fun X => by
    show (Int32.ofInt (j32 X.toInt) &&& Int32.ofInt 255).toInt = _
    rw [of_j32, ofI_set]
    rfl
  unfold sgC sgM
  rw [e1, e2, k1, k1, byte_eq _ 8 (by decide)]
theorem sg_16 (v : Int) : sgC v 16 = sgM v 16 := by
  have e1 : j_lsh 2 v 16 = ((Int64.ofInt v).toBitVec >>> 16).toInt := rfl
  have e2 : j_lsh 1 v 16 = ((Int64.ofInt v).toBitVec.sshiftRight 16).toInt := rfl
  have k1 : ∀ X : BitVec 64, j_iop 3 (j_un 3 X.toInt) 255 = (Int32.ofBitVec (X.setWidth 32 &&& 255#32)).toInt := fun X => by
    show (Int32.ofInt (j32 X.toInt) &&& Int32.ofInt 255).toInt = _
    rw [of_j32, ofI_set]
    rfl
  unfold sgC sgM
  rw [e1, e2, k1, k1, byte_eq _ 16 (by decide)]
theorem sg_24 (v : Int) : sgC v 24 = sgM v 24 := by
  have e1 : j_lsh 2 v 24 = ((Int64.ofInt v).toBitVec >>> 24).toInt := rfl
  have e2 : j_lsh 1 v 24 = ((Int64.ofInt v).toBitVec.sshiftRight 24).toInt := rfl
  have k1 : ∀ X : BitVec 64, j_iop 3 (j_un 3 X.toInt) 255 = (Int32.ofBitVec (X.setWidth 32 &&& 255#32)).toInt := fun X => by
    show (Int32.ofInt (j32 X.toInt) &&& Int32.ofInt 255).toInt = _
    rw [of_j32, ofI_set]
    rfl
  unfold sgC sgM
  rw [e1, e2, k1, k1, byte_eq _ 24 (by decide)]
theorem sg_32 (v : Int) : sgC v 32 = sgM v 32 := by
  have e1 : j_lsh 2 v 32 = ((Int64.ofInt v).toBitVec >>> 32).toInt := rfl
  have e2 : j_lsh 1 v 32 = ((Int64.ofInt v).toBitVec.sshiftRight 32).toInt := rfl
  have k1 : ∀ X : BitVec 64, j_iop 3 (j_un 3 X.toInt) 255 = (Int32.ofBitVec (X.setWidth 32 &&& 255#32)).toInt := fun X => by
    show (Int32.ofInt (j32 X.toInt) &&& Int32.ofInt 255).toInt = _
    rw [of_j32, ofI_set]
    rfl
  unfold sgC sgM
  rw [e1, e2, k1, k1, byte_eq _ 32 (by decide)]
theorem sg_40 (v : Int) : sgC v 40 = sgM v 40 := by
  have e1 : j_lsh 2 v 40 = ((Int64.ofInt v).toBitVec >>> 40).toInt := rfl
  have e2 : j_lsh 1 v 40 = ((Int64.ofInt v).toBitVec.sshiftRight 40).toInt := rfl
  have k1 : ∀ X : BitVec 64, j_iop 3 (j_un 3 X.toInt) 255 = (Int32.ofBitVec (X.setWidth 32 &&& 255#32)).toInt := fun X => by
    show (Int32.ofInt (j32 X.toInt) &&& Int32.ofInt 255).toInt = _
    rw [of_j32, ofI_set]
    rfl
  unfold sgC sgM
  rw [e1, e2, k1, k1, byte_eq _ 40 (by decide)]
theorem sg_48 (v : Int) : sgC v 48 = sgM v 48 := by
  have e1 : j_lsh 2 v 48 = ((Int64.ofInt v).toBitVec >>> 48).toInt := rfl
  have e2 : j_lsh 1 v 48 = ((Int64.ofInt v).toBitVec.sshiftRight 48).toInt := rfl
  have k1 : ∀ X : BitVec 64, j_iop 3 (j_un 3 X.toInt) 255 = (Int32.ofBitVec (X.setWidth 32 &&& 255#32)).toInt := fun X => by
    show (Int32.ofInt (j32 X.toInt) &&& Int32.ofInt 255).toInt = _
    rw [of_j32, ofI_set]
    rfl
  unfold sgC sgM
  rw [e1, e2, k1, k1, byte_eq _ 48 (by decide)]
theorem sg_56 (v : Int) : sgC v 56 = sgM v 56 := by
  have e1 : j_lsh 2 v 56 = ((Int64.ofInt v).toBitVec >>> 56).toInt := rfl
  have e2 : j_lsh 1 v 56 = ((Int64.ofInt v).toBitVec.sshiftRight 56).toInt := rfl
  have k1 : ∀ X : BitVec 64, j_iop 3 (j_un 3 X.toInt) 255 = (Int32.ofBitVec (X.setWidth 32 &&& 255#32)).toInt := fun X => by
    show (Int32.ofInt (j32 X.toInt) &&& Int32.ofInt 255).toInt = _
    rw [of_j32, ofI_set]
    rfl
  unfold sgC sgM
  rw [e1, e2, k1, k1, byte_eq _ 56 (by decide)]
end FEED
end
section
/-! ===== feed: the loops, the calls, the law's first case ===== -/
section FEED2
variable {xs : Nat → Int} {L K : Nat} {ck : Nat → List Nat} {F : XP} {cW : Nat → Nat → Int}
theorem rdB_01 (s : Int) : rdB s = 0 ∨ rdB s = 1 := by
  unfold rdB j_b
  split
  · exact Or.inr rfl
  · exact Or.inl rfl
def byC (s : Int) : Int := ((Int32.ofInt (j_un 4 s)).toInt8.toInt32).toInt
theorem up_ne {h : XH} {o k : Nat} {v : Int} {a b : Nat} (hn : ¬ (a = o ∧ b = k)) : j_up h o k v a b = h a b := if_neg hn
theorem up_eq {h : XH} {o k : Nat} {v : Int} : j_up h o k v o k = v := if_pos ⟨rfl, rfl⟩
def upA (h : XH) (o sr : Nat) (m s : Int) : XH := if rdB s = 1 then j_up (j_up h sr m.toNat (byC s)) o 1 (j_iop 0 m 1) else h
def upM (h : XH) (o sr : Nat) (m s : Int) : XH := if rdB s = 1 then j_up (j_up h sr m.toNat s) o 2 (j_iop 0 m 1) else h
theorem itA {v o w k s4 s5 sr m : Int} {st : XT} (hr : j_rf st.1.1 o.toNat 0 = some sr) (hl : j_len st.1.1 sr.toNat = 1000) (hm : st.2 o.toNat 1 = m) (h0 : 0 ≤ m) (h1 : m < 1000) (hne : sr.toNat ≠ o.toNat) :
    evS xs L ck F K cW fdB [o, v, w, k, s4, s5] st = some (0, [], [o, v, w, k, sgC v k, rdB (sgC v k)], (st.1, upA st.2 o.toNat sr.toNat m (sgC v k))) := by
  have e1 : (evE xs L ck F cW fdR [o, v, w, k, sgC v k, s5] st) = some ([rdB (sgC v k)], st) := rd_ev rfl
  unfold fdB
  simp only [es_20, es_2, es_3, es_10, s_seq, s_if, ee_14, ee_18, ee_16, ee_3, ee_1, n_bin, Option.bind_some, j_hd, List.headD_cons, n_sv, n_z0, List.getD_cons_zero, List.getD_cons_succ, List.set_cons_succ, List.set_cons_zero, if_true]
  have e0 : j_iop 3 (j_un 3 (j_lsh 2 v k)) ((255 : Nat) : Int) = sgC v k := rfl
  rw [e0, e1]
  simp only [Option.bind_some, j_hd, List.headD_cons, List.set_cons_succ, List.set_cons_zero, if_true, ee_25, ee_24, ee_3, n_ife, n_nz, ee_21, ee_20, ee_4, ee_10, ee_5, n_cmp, n_alen, n_sv, n_z0, List.getD_cons_zero, List.getD_cons_succ, hm, hr, hl, j_cmp]
  unfold upA
  rcases rdB_01 (sgC v k) with e | e
  · rw [e]
    simp
  · rw [e]
    simp only [h0, h1, j_b, decide_true, if_true, es_7, es_6, s_ast, s_putfC, ee_5, ee_4, ee_3, ee_18, ee_1, Option.bind_some, j_hd, List.headD_cons, n_sv, n_z0, List.getD_cons_zero, List.getD_cons_succ, hm, hr, hl, ge_iff_le]
    have e3 : ∀ q : Int, j_up st.2 sr.toNat m.toNat q o.toNat 1 = m := fun q => by rw [up_ne (fun z => hne z.1.symm), hm]
    unfold byC
    simp [h0, h1, e3, hr, hl, hm]
theorem itM {v o w k s4 sr m : Int} {st : XT} (hr : j_rf st.1.1 o.toNat 1 = some sr) (hl : j_len st.1.1 sr.toNat = 1000) (hm : st.2 o.toNat 2 = m) (h0 : 0 ≤ m) (h1 : m < 1000) (hne : sr.toNat ≠ o.toNat) :
    evS xs L ck F K cW fmB [o, v, w, k, s4] st = some (0, [], [o, v, w, k, sgM v k], (st.1, upM st.2 o.toNat sr.toNat m (sgM v k))) := by
  have e1 : (evE xs L ck F cW fdR [o, v, w, k, sgM v k] st) = some ([rdB (sgM v k)], st) := rd_ev rfl
  unfold fmB
  simp only [es_20, es_2, es_3, es_10, s_seq, s_if, ee_14, ee_18, ee_16, ee_3, ee_1, n_bin, Option.bind_some, j_hd, List.headD_cons, n_sv, n_z0, List.getD_cons_zero, List.getD_cons_succ, List.set_cons_succ, List.set_cons_zero, if_true]
  have e0 : j_iop 3 (j_un 3 (j_lsh 1 v k)) ((255 : Nat) : Int) = sgM v k := rfl
  rw [e0, ee_25, n_ife, e1]
  simp only [Option.bind_some, j_hd, List.headD_cons, n_nz, ee_20, ee_4, ee_3, ee_1, n_cmp, n_sv, n_z0, List.getD_cons_zero, List.getD_cons_succ, hm, j_cmp, if_true]
  unfold upM
  rcases rdB_01 (sgM v k) with e | e
  · rw [e]
    simp
  · rw [e]
    simp only [h0, h1, j_b, decide_true, if_true, es_7, es_6, s_ast, s_putfC, ee_5, ee_4, ee_3, ee_18, ee_1, Option.bind_some, j_hd, List.headD_cons, n_sv, n_z0, List.getD_cons_zero, List.getD_cons_succ, hm, hr, hl, ge_iff_le]
    have e3 : ∀ q : Int, j_up st.2 sr.toNat m.toNat q o.toNat 2 = m := fun q => by rw [up_ne (fun z => hne z.1.symm), hm]
    simp [h0, h1, e3, hr, hl, hm]
def fcnt (v : Int) : Nat → Int
  | 0 => 0
  | j + 1 => rdB (sgC v (8 * (j : Int))) + fcnt v j
theorem fcnt_le {v : Int} : ∀ j, 0 ≤ fcnt v j ∧ fcnt v j ≤ j
  | 0 => ⟨Int.le_refl _, Int.le_refl _⟩
  | j + 1 => by
    have h := fcnt_le (v := v) j
    have e : fcnt v (j + 1) = rdB (sgC v (8 * (j : Int))) + fcnt v j := rfl
    rcases rdB_01 (sgC v (8 * (j : Int))) with e1 | e1 <;> rw [e, e1] <;> omega
theorem fdC_ev {o v w k : Int} {t : List Int} {st : XT} : evE xs L ck F cW fdC (o :: v :: w :: k :: t) st = some ([j_b (decide (k ≥ 0))], st) := rfl
theorem fdP_ev {o v w k : Int} {t : List Int} {st : XT} : evS xs L ck F K cW fdP (o :: v :: w :: k :: t) st = some (0, [], o :: v :: w :: j32 (k + -8) :: t, st) := rfl
theorem j32_8 {j : Nat} (h : j ≤ 8) : j32 (8 * (j : Int) + -8) = 8 * (j : Int) - 8 := by
  rw [j32_in ⟨by omega, by omega⟩]
  omega
theorem upA_m {h : XH} {o sr : Nat} {m s : Int} (h0 : 0 ≤ m) (h1 : m < 1000) (hm : h o 1 = m) : upA h o sr m s o 1 = m + rdB s ∧ ∀ a b, a ≠ sr → ¬ (a = o ∧ b = 1) → upA h o sr m s a b = h a b := by
  unfold upA
  rcases rdB_01 s with e | e
  · rw [e]
    refine ⟨?_, fun a b _ _ => rfl⟩
    show h o 1 = _
    omega
  · rw [e, if_pos rfl]
    refine ⟨?_, fun a b p q => ?_⟩
    · rw [up_eq]
      exact j32_in ⟨by omega, by omega⟩
    · rw [up_ne q, up_ne (fun z => p z.1)]
theorem upM_m {h : XH} {o sr : Nat} {m s : Int} (h0 : 0 ≤ m) (h1 : m < 1000) (hm : h o 2 = m) : upM h o sr m s o 2 = m + rdB s ∧ ∀ a b, a ≠ sr → ¬ (a = o ∧ b = 2) → upM h o sr m s a b = h a b := by
  unfold upM
  rcases rdB_01 s with e | e
  · rw [e]
    refine ⟨?_, fun a b _ _ => rfl⟩
    show h o 2 = _
    omega
  · rw [e, if_pos rfl]
    refine ⟨?_, fun a b p q => ?_⟩
    · rw [up_eq]
      exact j32_in ⟨by omega, by omega⟩
    · rw [up_ne q, up_ne (fun z => p z.1)]
theorem sg_all (v : Int) : ∀ j : Nat, j < 8 → sgC v (8 * (j : Int)) = sgM v (8 * (j : Int))
  | 0, _ => sg_0 v
  | 1, _ => sg_8 v
  | 2, _ => sg_16 v
  | 3, _ => sg_24 v
  | 4, _ => sg_32 v
  | 5, _ => sg_40 v
  | 6, _ => sg_48 v
  | 7, _ => sg_56 v
  | _ + 8, h => absurd h (by omega)
theorem lpA {v o w sr : Int} {g : XS × Nat × Nat} (hr : j_rf g.1 o.toNat 0 = some sr) (hl : j_len g.1 sr.toNat = 1000) (hne : sr.toNat ≠ o.toNat) : ∀ (j fuel : Nat) (s4 s5 m : Int) (h : XH), j ≤ 8 → j + 1 ≤ fuel → h o.toNat 1 = m → 0 ≤ m → m + j ≤ 1000 →
    ∃ en hh, s_loop (evE xs L ck F cW fdC) (evS xs L ck F K cW fdB) (evS xs L ck F K cW fdP) fuel [o, v, w, 8 * (j : Int) - 8, s4, s5] (g, h) = some (0, [], en, (g, hh)) ∧ hh o.toNat 1 = m + fcnt v j ∧ ∀ a b, a ≠ sr.toNat → ¬ (a = o.toNat ∧ b = 1) → hh a b = h a b
  | 0, fuel, s4, s5, m, h, _, hf, hm, _, _ => by
    obtain ⟨f, rfl⟩ : ∃ f, fuel = f + 1 := ⟨fuel - 1, by omega⟩
    refine ⟨[o, v, w, 8 * ((0 : Nat) : Int) - 8, s4, s5], h, ?_, by rw [hm]; exact (Int.add_zero m).symm, fun _ _ _ _ => rfl⟩
    unfold s_loop
    rw [fdC_ev, Option.bind_some]
    exact if_pos rfl
  | j + 1, fuel, s4, s5, m, h, hj, hf, hm, h0, h1 => by
    obtain ⟨f, rfl⟩ : ∃ f, fuel = f + 1 := ⟨fuel - 1, by omega⟩
    have ek : 8 * ((j + 1 : Nat) : Int) - 8 = 8 * (j : Int) := by omega
    rw [ek]
    have hb := itA (xs := xs) (L := L) (ck := ck) (F := F) (K := K) (cW := cW) (v := v) (w := w) (k := 8 * (j : Int)) (s4 := s4) (s5 := s5) (st := (g, h)) hr hl hm h0 (by omega) hne
    obtain ⟨hu, hv⟩ := upA_m (h := h) (o := o.toNat) (sr := sr.toNat) (s := sgC v (8 * (j : Int))) h0 (by omega) hm
    obtain ⟨en, hh, e1, e2, e3⟩ := lpA hr hl hne j f (sgC v (8 * (j : Int))) (rdB (sgC v (8 * (j : Int)))) _ (upA h o.toNat sr.toNat m (sgC v (8 * (j : Int)))) (by omega) (by omega) hu (by rcases rdB_01 (sgC v (8 * (j : Int))) with e | e <;> rw [e] <;> omega) (by rcases rdB_01 (sgC v (8 * (j : Int))) with e | e <;> rw [e] <;> omega)
    refine ⟨en, hh, ?_, ?_, fun a b p q => (e3 a b p q).trans (hv a b p q)⟩
    · unfold s_loop
      rw [fdC_ev, Option.bind_some]
      dsimp only
      rw [decide_eq_true (show 8 * (j : Int) ≥ 0 by omega)]
      refine (if_neg (by decide)).trans ?_
      rw [hb, Option.bind_some]
      refine (if_pos (Or.inl rfl)).trans ?_
      dsimp only
      rw [fdP_ev, Option.bind_some]
      refine (if_pos rfl).trans ?_
      dsimp only
      rw [j32_8 (by omega)]
      exact e1
    · rw [e2]
      show _ = m + (rdB (sgC v (8 * (j : Int))) + fcnt v j)
      omega
theorem lpM {v o w sr : Int} {g : XS × Nat × Nat} (hr : j_rf g.1 o.toNat 1 = some sr) (hl : j_len g.1 sr.toNat = 1000) (hne : sr.toNat ≠ o.toNat) : ∀ (j fuel : Nat) (s4 m : Int) (h : XH), j ≤ 8 → j + 1 ≤ fuel → h o.toNat 2 = m → 0 ≤ m → m + j ≤ 1000 →
    ∃ en hh, s_loop (evE xs L ck F cW fdC) (evS xs L ck F K cW fmB) (evS xs L ck F K cW fdP) fuel [o, v, w, 8 * (j : Int) - 8, s4] (g, h) = some (0, [], en, (g, hh)) ∧ hh o.toNat 2 = m + fcnt v j ∧ ∀ a b, a ≠ sr.toNat → ¬ (a = o.toNat ∧ b = 2) → hh a b = h a b
  | 0, fuel, s4, m, h, _, hf, hm, _, _ => by
    obtain ⟨f, rfl⟩ : ∃ f, fuel = f + 1 := ⟨fuel - 1, by omega⟩
    refine ⟨[o, v, w, 8 * ((0 : Nat) : Int) - 8, s4], h, ?_, by rw [hm]; exact (Int.add_zero m).symm, fun _ _ _ _ => rfl⟩
    unfold s_loop
    rw [fdC_ev, Option.bind_some]
    exact if_pos rfl
  | j + 1, fuel, s4, m, h, hj, hf, hm, h0, h1 => by
    obtain ⟨f, rfl⟩ : ∃ f, fuel = f + 1 := ⟨fuel - 1, by omega⟩
    have ek : 8 * ((j + 1 : Nat) : Int) - 8 = 8 * (j : Int) := by omega
    rw [ek]
    have hb := itM (xs := xs) (L := L) (ck := ck) (F := F) (K := K) (cW := cW) (v := v) (w := w) (k := 8 * (j : Int)) (s4 := s4) (st := (g, h)) hr hl hm h0 (by omega) hne
    obtain ⟨hu, hv⟩ := upM_m (h := h) (o := o.toNat) (sr := sr.toNat) (s := sgM v (8 * (j : Int))) h0 (by omega) hm
    obtain ⟨en, hh, e1, e2, e3⟩ := lpM hr hl hne j f (sgM v (8 * (j : Int))) _ (upM h o.toNat sr.toNat m (sgM v (8 * (j : Int)))) (by omega) (by omega) hu (by rcases rdB_01 (sgM v (8 * (j : Int))) with e | e <;> rw [e] <;> omega) (by rcases rdB_01 (sgM v (8 * (j : Int))) with e | e <;> rw [e] <;> omega)
    refine ⟨en, hh, ?_, ?_, fun a b p q => (e3 a b p q).trans (hv a b p q)⟩
    · unfold s_loop
      rw [fdC_ev, Option.bind_some]
      dsimp only
      rw [decide_eq_true (show 8 * (j : Int) ≥ 0 by omega)]
      refine (if_neg (by decide)).trans ?_
      rw [hb, Option.bind_some]
      refine (if_pos (Or.inl rfl)).trans ?_
      dsimp only
      rw [fdP_ev, Option.bind_some]
      refine (if_pos rfl).trans ?_
      dsimp only
      rw [j32_8 (by omega)]
      exact e1
    · rw [e2, ← sg_all v j (by omega)]
      show _ = m + (rdB (sgC v (8 * (j : Int))) + fcnt v j)
      omega
end FEED2
end
section
/-! ===== feed: the calls ===== -/
section FEED3
variable {xs : Nat → Int} {L K : Nat} {ck : Nat → List Nat} {F : XP} {cW : Nat → Nat → Int}
theorem evF_s {M : Nat → XM} {n f : Nat} {av : List Int} {st : XT} : evF xs L ck K cW M (n + 1) f av st = (evS xs L ck (evF xs L ck K cW M n) K cW (M f).2.2.2.2 (j_pad 0 (M f).2.1 (j_lay (M f).2.2.1 av)) st).bind fun r =>
      if (r.1 = 1 ∨ r.1 = 4) ∧ st.1.2.1 ≤ r.2.2.2.1.2.1 ∧ st.1.2.2 ≤ r.2.2.2.1.2.2 ∧ (st.1.1.map (·.1)).isPrefixOf (r.2.2.2.1.1.map (·.1)) = true then some (r.1, r.2.1, r.2.2.2) else none := rfl
theorem chk_self {g : XS × Nat × Nat} : ((1 : Nat) = 1 ∨ (1 : Nat) = 4) ∧ g.2.1 ≤ g.2.1 ∧ g.2.2 ≤ g.2.2 ∧ (g.1.map (·.1)).isPrefixOf (g.1.map (·.1)) = true := ⟨Or.inl rfl, Nat.le_refl _, Nat.le_refl _, List.isPrefixOf_iff_prefix.mpr (List.prefix_refl _)⟩
theorem gm_a : g_M 62 = (0, 6, [19, 2], [], bb_62) := rfl
theorem gm_m : g_M 184 = (0, 5, [20, 2], [], bb_184) := rfl
theorem gm_f : g_M 1 = (0, 7, [10, 2, 2, 2], [1], bb_1) := rfl
theorem gm_g : g_M 183 = (0, 7, [20, 2, 2, 2], [1], bb_183) := rfl
theorem adA {n : Nat} {o v sr m : Int} {g : XS × Nat × Nat} {h : XH} (hr : j_rf g.1 o.toNat 0 = some sr) (hl : j_len g.1 sr.toNat = 1000) (hne : sr.toNat ≠ o.toNat) (hm : h o.toNat 1 = m) (h0 : 0 ≤ m) (h1 : m + 8 ≤ 1000) :
    ∃ hh, evF xs L ck 2000 cW g_M (n + 1) 62 [o, v] (g, h) = some (1, [], (g, hh)) ∧ hh o.toNat 1 = m + fcnt v 8 ∧ ∀ a b, a ≠ sr.toNat → ¬ (a = o.toNat ∧ b = 1) → hh a b = h a b := by
  obtain ⟨en, hh, e1, e2, e3⟩ := lpA (xs := xs) (L := L) (K := 2000) (ck := ck) (cW := cW) (F := evF xs L ck 2000 cW g_M n) (v := v) (w := 0) hr hl hne 8 2000 0 0 m h (by omega) (by omega) hm h0 h1
  refine ⟨hh, ?_, e2, e3⟩
  rw [evF_s, gm_a]
  have k1 : evS xs L ck (evF xs L ck 2000 cW g_M n) 2000 cW bb_62 [o, v, 0, 0, 0, 0] (g, h) = some (1, [], en, (g, hh)) := by
    rw [fd_a, es_2, es_17, es_20, es_2, es_3, es_12, ee_1]
    unfold s_seq
    dsimp only
    simp only [Option.bind_some, if_true]
    have e4 : [o, v, 0, 0, 0, 0].set (sx_n (sv 3)) (j_hd [if sx_n z0 = 0 then (sx_n (sv 56) : Int) else -(sx_n (sv 56) : Int)]) = [o, v, 0, 8 * ((8 : Nat) : Int) - 8, 0, 0] := rfl
    rw [e4, e1]
    rfl
  show (evS xs L ck (evF xs L ck 2000 cW g_M n) 2000 cW bb_62 [o, v, 0, 0, 0, 0] (g, h)).bind _ = _
  rw [k1, Option.bind_some]
  exact if_pos chk_self
theorem adM {n : Nat} {o v sr m : Int} {g : XS × Nat × Nat} {h : XH} (hr : j_rf g.1 o.toNat 1 = some sr) (hl : j_len g.1 sr.toNat = 1000) (hne : sr.toNat ≠ o.toNat) (hm : h o.toNat 2 = m) (h0 : 0 ≤ m) (h1 : m + 8 ≤ 1000) :
    ∃ hh, evF xs L ck 2000 cW g_M (n + 1) 184 [o, v] (g, h) = some (1, [], (g, hh)) ∧ hh o.toNat 2 = m + fcnt v 8 ∧ ∀ a b, a ≠ sr.toNat → ¬ (a = o.toNat ∧ b = 2) → hh a b = h a b := by
  obtain ⟨en, hh, e1, e2, e3⟩ := lpM (xs := xs) (L := L) (K := 2000) (ck := ck) (cW := cW) (F := evF xs L ck 2000 cW g_M n) (v := v) (w := 0) hr hl hne 8 2000 0 m h (by omega) (by omega) hm h0 h1
  refine ⟨hh, ?_, e2, e3⟩
  rw [evF_s, gm_m]
  have k1 : evS xs L ck (evF xs L ck 2000 cW g_M n) 2000 cW bb_184 [o, v, 0, 0, 0] (g, h) = some (1, [], en, (g, hh)) := by
    rw [fd_m, es_2, es_17, es_20, es_2, es_3, es_12, ee_1]
    unfold s_seq
    dsimp only
    simp only [Option.bind_some, if_true]
    have e4 : [o, v, 0, 0, 0].set (sx_n (sv 3)) (j_hd [if sx_n z0 = 0 then (sx_n (sv 56) : Int) else -(sx_n (sv 56) : Int)]) = [o, v, 0, 8 * ((8 : Nat) : Int) - 8, 0] := rfl
    rw [e4, e1]
    rfl
  show (evS xs L ck (evF xs L ck 2000 cW g_M n) 2000 cW bb_184 [o, v, 0, 0, 0] (g, h)).bind _ = _
  rw [k1, Option.bind_some]
  exact if_pos chk_self
theorem feA {n : Nat} {x rr o sr m a b c : Int} {g : XS × Nat × Nat} {h : XH} (hx1 : j_rf g.1 x.toNat 0 = some rr) (hx2 : j_rf g.1 rr.toNat 0 = some o) (hr : j_rf g.1 o.toNat 0 = some sr) (hl : j_len g.1 sr.toNat = 1000) (hne : sr.toNat ≠ o.toNat) (hm : h o.toNat 1 = m) (h0 : 0 ≤ m) (h1 : m + 24 ≤ 1000) :
    ∃ hh, evF xs L ck 2000 cW g_M (n + 2) 1 [x, a, b, c] (g, h) = some (1, [m + fcnt a 8 + fcnt b 8 + fcnt c 8], (g, hh)) ∧ ∀ a b, a ≠ sr.toNat → ¬ (a = o.toNat ∧ b = 1) → hh a b = h a b := by
  have ha := fcnt_le (v := a) 8
  have hb := fcnt_le (v := b) 8
  obtain ⟨h2, e1, m1, f1⟩ := adA (xs := xs) (L := L) (ck := ck) (cW := cW) (n := n) (v := a) hr hl hne hm h0 (by omega)
  obtain ⟨h3, e2, m2, f2⟩ := adA (xs := xs) (L := L) (ck := ck) (cW := cW) (n := n) (v := b) hr hl hne m1 (by omega) (by omega)
  obtain ⟨h4, e3, m3, f3⟩ := adA (xs := xs) (L := L) (ck := ck) (cW := cW) (n := n) (v := c) hr hl hne m2 (by omega) (by omega)
  refine ⟨h4, ?_, fun p q r s => (f3 p q r s).trans ((f2 p q r s).trans (f1 p q r s))⟩
  rw [evF_s, gm_f]
  have k1 : evS xs L ck (evF xs L ck 2000 cW g_M (n + 1)) 2000 cW bb_1 [x, a, 0, b, 0, c, 0] (g, h) = some (1, [m + fcnt a 8 + fcnt b 8 + fcnt c 8], [x, a, 0, b, 0, c, 0], (g, h4)) := by
    generalize evF xs L ck 2000 cW g_M (n + 1) = F at e1 e2 e3 ⊢
    unfold bb_1
    simp only [es_2, es_9, es_16, ee_32, ee_30, ee_31, ee_5, ee_4, ee_3, s_seq, n_call, Option.bind_some, j_hd, List.headD_cons, n_sv, n_z0, List.getD_cons_zero, List.getD_cons_succ, hx1, hx2, List.cons_append, List.nil_append, e1, e2, e3, if_true, m3]
  show (evS xs L ck (evF xs L ck 2000 cW g_M (n + 1)) 2000 cW bb_1 [x, a, 0, b, 0, c, 0] (g, h)).bind _ = _
  rw [k1, Option.bind_some]
  exact if_pos chk_self
theorem feM {n : Nat} {o sr m a b c : Int} {g : XS × Nat × Nat} {h : XH} (hr : j_rf g.1 o.toNat 1 = some sr) (hl : j_len g.1 sr.toNat = 1000) (hne : sr.toNat ≠ o.toNat) (hm : h o.toNat 2 = m) (h0 : 0 ≤ m) (h1 : m + 24 ≤ 1000) :
    ∃ hh, evF xs L ck 2000 cW g_M (n + 2) 183 [o, a, b, c] (g, h) = some (1, [m + fcnt a 8 + fcnt b 8 + fcnt c 8], (g, hh)) := by
  have ha := fcnt_le (v := a) 8
  have hb := fcnt_le (v := b) 8
  have hm0 : j_up h o.toNat 0 ((0 : Nat) : Int) o.toNat 2 = m := by rw [up_ne (fun z => absurd z.2 (by decide)), hm]
  obtain ⟨h2, e1, m1, f1⟩ := adM (xs := xs) (L := L) (ck := ck) (cW := cW) (n := n) (v := a) hr hl hne hm0 h0 (by omega)
  obtain ⟨h3, e2, m2, f2⟩ := adM (xs := xs) (L := L) (ck := ck) (cW := cW) (n := n) (v := b) hr hl hne m1 (by omega) (by omega)
  obtain ⟨h4, e3, m3, f3⟩ := adM (xs := xs) (L := L) (ck := ck) (cW := cW) (n := n) (v := c) hr hl hne m2 (by omega) (by omega)
  refine ⟨h4, ?_⟩
  rw [evF_s, gm_g]
  have k1 : evS xs L ck (evF xs L ck 2000 cW g_M (n + 1)) 2000 cW bb_183 [o, a, 0, b, 0, c, 0] (g, h) = some (1, [m + fcnt a 8 + fcnt b 8 + fcnt c 8], [o, a, 0, b, 0, c, 0], (g, h4)) := by
    generalize evF xs L ck 2000 cW g_M (n + 1) = F at e1 e2 e3 ⊢
    unfold bb_183
    simp only [es_2, es_5, es_9, es_16, s_putf, ee_32, ee_30, ee_31, ee_5, ee_4, ee_3, ee_1, s_seq, n_call, Option.bind_some, j_hd, List.headD_cons, n_sv, n_z0, List.getD_cons_zero, List.getD_cons_succ, List.cons_append, List.nil_append, if_true, e1, e2, e3, m3]
  show (evS xs L ck (evF xs L ck 2000 cW g_M (n + 1)) 2000 cW bb_183 [o, a, 0, b, 0, c, 0] (g, h)).bind _ = _
  rw [k1, Option.bind_some]
  exact if_pos chk_self
end FEED3
end
section
/-! ===== where the two tapes lie ===== -/
theorem fg_1 : j_rf a_g3 (0 : Int).toNat 0 = some 1 := by decide +kernel
theorem fg_2 : j_rf a_g3 (1 : Int).toNat 0 = some 2 := by decide +kernel
theorem fg_3 : j_rf a_g3 (2 : Int).toNat 0 = some 3 := by decide +kernel
theorem fg_4 : j_len a_g3 (3 : Int).toNat = 1000 := by decide +kernel
theorem fg_5 : j_rf a_g3 (182 : Int).toNat 1 = some 183 := by decide +kernel
theorem fg_6 : j_len a_g3 (183 : Int).toNat = 1000 := by decide +kernel
end
section
/-! ===== a third reading: kinds alone; a tree that stands it comes to an end, whatever the numbers are ===== -/
/-- what a number is, by its kind: 1 int, 2 long, 3 Word, 6.. references, 100 truth, 300 + i the number z i -/
def TV (z : Nat → Int) (g : XS) (t : Nat) (v : Int) : Prop :=
  (t = 1 → InI v) ∧ (t = 2 → InL v) ∧ (t = 100 → v = 0 ∨ v = 1) ∧ (t = 3 → 0 ≤ v ∧ v < 24) ∧ (6 ≤ t → t < 100 → 0 ≤ v ∧ ∃ c, g[v.toNat]? = some c ∧ c.1 = t) ∧ (300 ≤ t → v = z (t - 300) ∧ InI v)
def VL (z : Nat → Int) (g : XS) : List Nat → List Int → Prop
  | [], [] => True
  | t :: ts, v :: vs => TV z g t v ∧ VL z g ts vs
  | _, _ => False
def t_sub (a b : Nat) : Bool := b == 0 || a == b || (b == 1 && (a == 100 || Nat.ble 300 a))
def t_subs : List Nat → List Nat → Bool
  | [], [] => true
  | a :: x, b :: y => t_sub a b && t_subs x y
  | _, _ => false
def t_lub (a b : Nat) : Nat := bif t_sub a b then b else bif t_sub b a then a else bif t_sub a 1 && t_sub b 1 then 1 else 0
def t_lubs : List Nat → List Nat → List Nat
  | a :: x, b :: y => t_lub a b :: t_lubs x y
  | _, _ => []
theorem TV.zero {z : Nat → Int} {g : XS} {v : Int} : TV z g 0 v := ⟨fun h => (by cases h), fun h => (by cases h), fun h => (by cases h), fun h => (by cases h), fun h => absurd h (by decide), fun h => absurd h (by decide)⟩
theorem TV.int {z : Nat → Int} {g : XS} {v : Int} (h : InI v) : TV z g 1 v := ⟨fun _ => h, fun h => (by cases h), fun h => (by cases h), fun h => (by cases h), fun h => absurd h (by decide), fun h => absurd h (by decide)⟩
theorem TV.long {z : Nat → Int} {g : XS} {v : Int} (h : InL v) : TV z g 2 v := ⟨fun h => (by cases h), fun _ => h, fun h => (by cases h), fun h => (by cases h), fun h => absurd h (by decide), fun h => absurd h (by decide)⟩
theorem TV.bool {z : Nat → Int} {g : XS} {v : Int} (h : v = 0 ∨ v = 1) : TV z g 100 v := ⟨fun h => (by cases h), fun h => (by cases h), fun _ => h, fun h => (by cases h), fun _ h => absurd h (by decide), fun h => absurd h (by decide)⟩
theorem TV.word {z : Nat → Int} {g : XS} {v : Int} (h : 0 ≤ v ∧ v < 24) : TV z g 3 v := ⟨fun h => (by cases h), fun h => (by cases h), fun h => (by cases h), fun _ => h, fun h => absurd h (by decide), fun h => absurd h (by decide)⟩
theorem TV.ref {z : Nat → Int} {g : XS} {v : Int} {t : Nat} (h6 : 6 ≤ t) (h7 : t < 100) (h : 0 ≤ v ∧ ∃ c, g[v.toNat]? = some c ∧ c.1 = t) : TV z g t v := ⟨fun h => (by omega), fun h => (by omega), fun h => (by omega), fun h => (by omega), fun _ _ => h, fun h => (by omega)⟩
theorem in_bool {v : Int} (h : v = 0 ∨ v = 1) : InI v := by
  unfold InI
  omega
theorem TV.sub {z : Nat → Int} {g : XS} {a b : Nat} {v : Int} (h : t_sub a b = true) (hv : TV z g a v) : TV z g b v := by
  simp only [t_sub, Bool.or_eq_true, Bool.and_eq_true, beq_iff_eq] at h
  rcases h with (rfl | rfl) | ⟨rfl, rfl | h⟩
  · exact TV.zero
  · exact hv
  · exact TV.int (in_bool (hv.2.2.1 rfl))
  · exact TV.int (hv.2.2.2.2.2 (Nat.le_of_ble_eq_true h)).2
theorem VL.len {z : Nat → Int} {g : XS} : ∀ {ts : List Nat} {vs : List Int}, VL z g ts vs → vs.length = ts.length
  | [], [], _ => rfl
  | _ :: _, _ :: _, h => by rw [List.length_cons, List.length_cons, VL.len h.2]
  | [], _ :: _, h => h.elim
  | _ :: _, [], h => h.elim
theorem VL.sub {z : Nat → Int} {g : XS} : ∀ {x y : List Nat} {vs : List Int}, t_subs x y = true → VL z g x vs → VL z g y vs
  | [], [], _, _, h => h
  | a :: x, b :: y, v :: vs, h, hv => ⟨TV.sub ((Bool.and_eq_true _ _).mp h).1 hv.1, VL.sub ((Bool.and_eq_true _ _).mp h).2 hv.2⟩
  | a :: x, b :: y, [], _, hv => hv.elim
  | [], _ :: _, _, h, _ => by cases h
  | _ :: _, [], _, h, _ => by cases h
theorem lub_l {a b : Nat} : t_sub a (t_lub a b) = true := by
  unfold t_lub
  cases h : t_sub a b with
  | true => exact h
  | false =>
    cases h2 : t_sub b a with
    | true =>
      show t_sub a a = true
      simp [t_sub]
    | false =>
      cases h3 : t_sub a 1 && t_sub b 1 with
      | true => exact ((Bool.and_eq_true _ _).mp h3).1
      | false => rfl
theorem lub_r {a b : Nat} : t_sub b (t_lub a b) = true := by
  unfold t_lub
  cases h : t_sub a b with
  | true =>
    show t_sub b b = true
    simp [t_sub]
  | false =>
    cases h2 : t_sub b a with
    | true => exact h2
    | false =>
      cases h3 : t_sub a 1 && t_sub b 1 with
      | true => exact ((Bool.and_eq_true _ _).mp h3).2
      | false => rfl
theorem lubs_l : ∀ {x y : List Nat}, x.length = y.length → t_subs x (t_lubs x y) = true
  | [], [], _ => rfl
  | a :: x, b :: y, h => (Bool.and_eq_true _ _).mpr ⟨lub_l, lubs_l (by simpa using h)⟩
  | [], _ :: _, h => by cases h
  | _ :: _, [], h => by cases h
theorem lubs_r : ∀ {x y : List Nat}, x.length = y.length → t_subs y (t_lubs x y) = true
  | [], [], _ => rfl
  | a :: x, b :: y, h => (Bool.and_eq_true _ _).mpr ⟨lub_r, lubs_r (by simpa using h)⟩
  | [], _ :: _, h => by cases h
  | _ :: _, [], h => by cases h
theorem VL.at {z : Nat → Int} {g : XS} : ∀ {ts : List Nat} {vs : List Int} (i : Nat), VL z g ts vs → TV z g (ts.getD i 0) (vs.getD i 0)
  | [], [], _, _ => TV.zero
  | _ :: _, _ :: _, 0, h => h.1
  | _ :: _, _ :: _, i + 1, h => VL.at i h.2
  | [], _ :: _, _, h => h.elim
  | _ :: _, [], _, h => h.elim
theorem VL.set {z : Nat → Int} {g : XS} {t : Nat} {v : Int} : ∀ {ts : List Nat} {vs : List Int} (i : Nat), VL z g ts vs → TV z g t v → VL z g (ts.set i t) (vs.set i v)
  | [], [], _, _, _ => trivial
  | _ :: _, _ :: _, 0, h, ht => ⟨ht, h.2⟩
  | _ :: _, _ :: _, i + 1, h, ht => ⟨h.1, VL.set i h.2 ht⟩
  | [], _ :: _, _, h, _ => h.elim
  | _ :: _, [], _, h, _ => h.elim
theorem VL.app {z : Nat → Int} {g : XS} : ∀ {x y : List Nat} {v w : List Int}, VL z g x v → VL z g y w → VL z g (x ++ y) (v ++ w)
  | [], _, [], _, _, h => h
  | _ :: _, _, _ :: _, _, h, h' => ⟨h.1, VL.app h.2 h'⟩
  | [], _, _ :: _, _, h, _ => h.elim
  | _ :: _, _, [], _, h, _ => h.elim
theorem VL.one {z : Nat → Int} {g : XS} {t : Nat} : ∀ {v : List Int}, VL z g [t] v → ∃ x, v = [x] ∧ TV z g t x
  | [x], h => ⟨x, rfl, h.1⟩
  | [], h => h.elim
  | _ :: _ :: _, h => h.2.elim
/-- the kind of a cell's place -/
def c_ty (fk : Nat → List Nat) (g : XS) (o k : Nat) : Nat := match g[o]? with
  | some (6, _) => 1
  | some (7, _) => 2
  | some (8, _) => 1
  | some (9, _) => 100
  | some (kd, _) => if 10 ≤ kd then (fk (kd - 10)).getD k 0 else 0
  | none => 0
def HT (fk : Nat → List Nat) (g : XS) (h : XH) : Prop := ∀ o k, (c_ty fk g o k = 1 → InI (h o k)) ∧ (c_ty fk g o k = 2 → InL (h o k)) ∧ (c_ty fk g o k = 100 → h o k = 0 ∨ h o k = 1)
theorem HT.up {fk : Nat → List Nat} {g : XS} {h : XH} {o k : Nat} {v : Int} (hh : HT fk g h) (h1 : c_ty fk g o k = 1 → InI v) (h2 : c_ty fk g o k = 2 → InL v) (h3 : c_ty fk g o k = 100 → v = 0 ∨ v = 1) : HT fk g (j_up h o k v) := by
  intro a b
  unfold j_up
  by_cases e : a = o ∧ b = k
  · obtain ⟨rfl, rfl⟩ := e
    rw [if_pos ⟨rfl, rfl⟩]
    exact ⟨h1, h2, h3⟩
  · rw [if_neg e]
    exact hh a b
/-- what is never written -/
def FR (ro : Nat → Nat → Bool) (h h' : XH) : Prop := ∀ o k, ro o k = true → h' o k = h o k
theorem FR.rf {ro : Nat → Nat → Bool} {h : XH} : FR ro h h := fun _ _ _ => rfl
theorem FR.tr {ro : Nat → Nat → Bool} {h h1 h2 : XH} (a : FR ro h h1) (b : FR ro h1 h2) : FR ro h h2 := fun o k e => (b o k e).trans (a o k e)
theorem FR.up {ro : Nat → Nat → Bool} {h : XH} {o k : Nat} {v : Int} (e : ro o k = false) : FR ro h (j_up h o k v) := fun a b hab => by
  refine up_ne (fun z => ?_)
  obtain ⟨rfl, rfl⟩ := z
  rw [e] at hab
  cases hab
theorem o_ty {fk : Nat → List Nat} {g : XS} {o k ci : Nat} {c : XC} (h : g[o]? = some c) (e : c.1 = 10 + ci) : c_ty fk g o k = (fk ci).getD k 0 := by
  obtain ⟨kd, n, sl⟩ := c
  dsimp only at e
  subst e
  unfold c_ty
  rw [h]
  split
  · rename_i e; simp only [Option.some.injEq, Prod.mk.injEq] at e; omega
  · rename_i e; simp only [Option.some.injEq, Prod.mk.injEq] at e; omega
  · rename_i e; simp only [Option.some.injEq, Prod.mk.injEq] at e; omega
  · rename_i e; simp only [Option.some.injEq, Prod.mk.injEq] at e; omega
  · rename_i kd' _ _ _ _ _ e
    simp only [Option.some.injEq, Prod.mk.injEq] at e
    obtain ⟨rfl, -⟩ := e
    rw [if_pos (by omega)]
    congr 2
    omega
  · rename_i e; cases e
end
section
/-! ===== the third reading of values ===== -/
def isI (t : Nat) : Bool := t == 1 || t == 100
def sx_c (a b c : SX) : Int := if sx_n c = 0 then (sx_n a : Int) else -(sx_n a : Int)
def t_one (x : Option (List Nat)) : Nat := match x with
  | some [t] => t
  | _ => 0
def okI (v : Int) : Bool := decide (-2147483648 ≤ v ∧ v < 2147483648)
def okL (v : Int) : Bool := decide (-9223372036854775808 ≤ v ∧ v < 9223372036854775808)
/-- the tables of the third reading: kinds of fields, of what methods take and give; which methods may be called; which fields may be written -/
abbrev TT : Type := (Nat → List Nat) × (Nat → List Nat) × (Nat → List Nat) × (Nat → Bool) × (Nat → Nat → Bool)
def tyN (T : TT) (τ : List Nat) (t : Nat) (a b c : SX) (A B C : Option (List Nat)) : Option (List Nat) := match t with
  | 1 => match sx_n b with
    | 1 => if sx_c a b c = 0 ∨ sx_c a b c = 1 then some [100] else if okI (sx_c a b c) then some [1] else none
    | 2 => if okL (sx_c a b c) then some [2] else none
    | 3 => if 0 ≤ sx_c a b c ∧ sx_c a b c < 24 then some [3] else none
    | _ => none
  | 3 => let u := τ.getD (sx_n a) 0
    if u = 0 then none else if 300 ≤ u then some [1] else some [u]
  | 4 => let ci := t_one A - 10
    let kd := (T.1 ci).getD (sx_n b) 0
    if 10 ≤ t_one A ∧ t_one A < 100 ∧ (kd = 1 ∨ kd = 2 ∨ kd = 100) then some [kd] else none
  | 5 => let ci := t_one A - 10
    let kd := (T.1 ci).getD (sx_n b) 0
    if 10 ≤ t_one A ∧ t_one A < 100 ∧ 6 ≤ kd ∧ kd < 100 then some [kd] else none
  | 10 => match sx_n c with
    | 0 => if 6 ≤ t_one A ∧ t_one A < 10 then some [1] else none
    | _ => none
  | 13 => if t_one A = 3 then (match sx_n c with
    | 0 => some [2]
    | 1 => some [1]
    | _ => none) else none
  | 14 => if isI (t_one A) ∧ isI (t_one B) then some [1] else none
  | 15 => if t_one A = 2 ∧ t_one B = 2 then some [2] else none
  | 16 => if t_one A = 2 ∧ isI (t_one B) then some [2] else none
  | 17 => match b with
    | .op (.var 1) (.op a' (.op b' c')) => if sx_c a' b' c' ≠ 0 then (if sx_n c < 2 then (if isI (t_one A) ∧ isI (t_one B) then some [1] else none) else if t_one A = 2 ∧ t_one B = 2 then some [2] else none) else none
    | _ => none
  | 18 => match sx_n c with
    | 0 => if isI (t_one A) then some [1] else none
    | 1 => if t_one A = 2 then some [2] else none
    | 2 => if isI (t_one A) then some [2] else none
    | 3 => if t_one A = 2 then some [1] else none
    | _ => if isI (t_one A) then some [1] else none
  | 20 => if isI (t_one A) ∧ isI (t_one B) then some [100] else none
  | 21 => if isI (t_one A) then some [100] else none
  | 22 => if t_one A = 2 ∧ t_one B = 2 then some [100] else none
  | 23 => if t_one A = 3 ∧ t_one B = 3 then some [100] else none
  | 24 => A
  | 25 => if isI (t_one A) ∧ isI (t_one B) then some [100] else none
  | 26 => if isI (t_one A) ∧ isI (t_one B) then some [100] else none
  | 27 => if isI (t_one A) then some [100] else none
  | 28 => let u := t_lub (t_one B) (t_one C)
    if isI (t_one A) ∧ t_one B ≠ 0 ∧ t_one C ≠ 0 ∧ u ≠ 0 then some [u] else none
  | 30 => match A, B with
    | some x, some y => some (x ++ y)
    | _, _ => none
  | 31 => some []
  | 32 => match A with
    | some x => if t_subs x (T.2.1 (sx_n b)) = true ∧ T.2.2.2.1 (sx_n b) = true then some (T.2.2.1 (sx_n b)) else none
    | none => none
  | _ => none
def tyE (T : TT) (τ : List Nat) : SX → Option (List Nat)
  | .op (.var t) (.op a (.op b c)) => tyN T τ t a b c (tyE T τ a) (tyE T τ b) (tyE T τ c)
  | _ => none
/-- what a method that may be called is known to do: it ends, within the kinds, and writes nothing that isn't to be written -/
def TotF (T : TT) (g : XS × Nat × Nat) (ro : Nat → Nat → Bool) (F : XP) (f : Nat) : Prop :=
  ∀ (av : List Int) (h : XH), HT T.1 g.1 h → VL (fun _ => 0) g.1 (T.2.1 f) av → ∃ r h', F f av (g, h) = some (1, r, (g, h')) ∧ HT T.1 g.1 h' ∧ FR ro h h' ∧ VL (fun _ => 0) g.1 (T.2.2.1 f) r
/-- what is said of the shape: no reference is null, each leads to its kind; lengths are ints -/
def GG (fk : Nat → List Nat) (g : XS) : Prop := (∀ (o : Nat) (c : XC), g[o]? = some c → c.1 < 100 ∧ c.2.1 < 2147483648) ∧
  ∀ (o : Nat) (c : XC) (ci k kd : Nat), g[o]? = some c → c.1 = 10 + ci → (fk ci)[k]? = some kd → 6 ≤ kd → kd < 100 → ∃ r, j_rf g o k = some r ∧ 0 ≤ r ∧ ∃ c' : XC, g[r.toNat]? = some c' ∧ c'.1 = kd
def TotE (T : TT) (g : XS × Nat × Nat) (ro : Nat → Nat → Bool) (z : Nat → Int) (τ ts : List Nat) (A : XE) : Prop :=
  ∀ (en : List Int) (h : XH), VL z g.1 τ en → HT T.1 g.1 h → ∃ r h', A en (g, h) = some (r, (g, h')) ∧ HT T.1 g.1 h' ∧ FR ro h h' ∧ VL z g.1 ts r
theorem isI_in {z : Nat → Int} {g : XS} {t : Nat} {v : Int} (h : isI t = true) (hv : TV z g t v) : InI v := by
  simp only [isI, Bool.or_eq_true, beq_iff_eq] at h
  rcases h with rfl | rfl
  · exact hv.1 rfl
  · exact in_bool (hv.2.2.1 rfl)
theorem t_one_some {x : Option (List Nat)} {t : Nat} (h : t_one x = t) (h0 : t ≠ 0) : x = some [t] := by
  unfold t_one at h
  split at h
  · rw [h]
  · exact absurd h.symm h0
theorem isI_sub {t : Nat} (h : isI t = true) : t_sub t 1 = true := by
  simp only [isI, Bool.or_eq_true, beq_iff_eq] at h
  rcases h with rfl | rfl <;> rfl
theorem isI_0 {t : Nat} (h : isI t = true) : t ≠ 0 := by
  rintro rfl
  cases h
theorem j_b01 (b : Bool) : j_b b = 0 ∨ j_b b = 1 := by
  cases b
  · exact Or.inl rfl
  · exact Or.inr rfl
theorem iop_in (k : Nat) (x y : Int) : InI (j_iop k x y) := by
  unfold j_iop
  split <;> first | exact in_i32 _
theorem lop_in (k : Nat) (x y : Int) : InL (j_lop k x y) := by
  unfold j_lop
  split <;> first | exact in_i64 _
theorem lsh_in (k : Nat) (x y : Int) : InL (j_lsh k x y) := by
  unfold j_lsh
  split <;> first | exact in_i64 _
theorem tmod_i {x y : Int} (h : InI x) : InI (x.tmod y) := by
  unfold InI at h ⊢
  rcases (show x < 0 ∨ 0 ≤ x by omega) with hx | hx
  · have h1 : x.tmod y = -((-x).tmod y) := by rw [Int.neg_tmod]; omega
    have h2 := Int.natAbs_tmod x y
    have h4 := Nat.mod_le x.natAbs y.natAbs
    have h3 : 0 ≤ (-x).tmod y := Int.tmod_nonneg _ (by omega)
    omega
  · have h2 := Int.natAbs_tmod x y
    have h4 := Nat.mod_le x.natAbs y.natAbs
    have h3 : 0 ≤ x.tmod y := Int.tmod_nonneg _ hx
    omega
theorem tmod_l {x y : Int} (h : InL x) : InL (x.tmod y) := by
  unfold InL at h ⊢
  rcases (show x < 0 ∨ 0 ≤ x by omega) with hx | hx
  · have h1 : x.tmod y = -((-x).tmod y) := by rw [Int.neg_tmod]; omega
    have h2 := Int.natAbs_tmod x y
    have h4 := Nat.mod_le x.natAbs y.natAbs
    have h3 : 0 ≤ (-x).tmod y := Int.tmod_nonneg _ (by omega)
    omega
  · have h2 := Int.natAbs_tmod x y
    have h4 := Nat.mod_le x.natAbs y.natAbs
    have h3 : 0 ≤ x.tmod y := Int.tmod_nonneg _ hx
    omega
theorem okI_in {v : Int} (h : okI v = true) : InI v := by
  simp only [okI, decide_eq_true_eq] at h
  exact h
theorem okL_in {v : Int} (h : okL v = true) : InL v := by
  simp only [okL, decide_eq_true_eq] at h
  exact h
section TYE
variable {xs : Nat → Int} {L : Nat} {ck : Nat → List Nat} {F : XP} {cW : Nat → Nat → Int} {T : TT} {g : XS × Nat × Nat} {ro : Nat → Nat → Bool} {z : Nat → Int} {τ ts : List Nat}
theorem te_one {A : XE} {t : Nat} (hA : TotE T g ro z τ [t] A) {en : List Int} {h : XH} (h1 : VL z g.1 τ en) (h2 : HT T.1 g.1 h) : ∃ v h', A en (g, h) = some ([v], (g, h')) ∧ HT T.1 g.1 h' ∧ FR ro h h' ∧ TV z g.1 t v := by
  obtain ⟨r, h', e1, e2, e3, e4⟩ := hA en h h1 h2
  obtain ⟨v, rfl, e5⟩ := VL.one e4
  exact ⟨v, h', e1, e2, e3, e5⟩
theorem te_un {A B : XE} {t u : Nat} {f : Int → Int} (hB : ∀ en st, B en st = (A en st).bind fun x => some ([f (j_hd x.1)], x.2)) (hA : TotE T g ro z τ [t] A) (hf : ∀ v, TV z g.1 t v → TV z g.1 u (f v)) : TotE T g ro z τ [u] B := by
  intro en h h1 h2
  obtain ⟨v, h', e1, e2, e3, e4⟩ := te_one hA h1 h2
  refine ⟨[f v], h', ?_, e2, e3, hf v e4, trivial⟩
  rw [hB, e1]
  rfl
theorem te_bin {A B : XE} {op : Int → Int → Int} {t u w : Nat} (hA : TotE T g ro z τ [t] A) (hB : TotE T g ro z τ [u] B) (hf : ∀ v v', TV z g.1 t v → TV z g.1 u v' → TV z g.1 w (op v v')) : TotE T g ro z τ [w] (n_bin op A B) := by
  intro en h h1 h2
  obtain ⟨v, h', e1, e2, e3, e4⟩ := te_one hA h1 h2
  obtain ⟨v', h3, f1, f2, f3, f4⟩ := te_one hB h1 e2
  refine ⟨[op v v'], h3, ?_, f2, e3.tr f3, hf v v' e4 f4, trivial⟩
  unfold n_bin
  rw [e1, Option.bind_some, f1]
  rfl
theorem te_cmp {A B : XE} {op : Int → Int → Bool} {t u : Nat} (hA : TotE T g ro z τ [t] A) (hB : TotE T g ro z τ [u] B) : TotE T g ro z τ [100] (n_cmp op A B) := by
  intro en h h1 h2
  obtain ⟨v, h', e1, e2, e3, e4⟩ := te_one hA h1 h2
  obtain ⟨v', h3, f1, f2, f3, f4⟩ := te_one hB h1 e2
  refine ⟨[j_b (op v v')], h3, ?_, f2, e3.tr f3, TV.bool (j_b01 _), trivial⟩
  unfold n_cmp
  rw [e1, Option.bind_some, f1]
  rfl
theorem te_ife {A B C : XE} {t : Nat} {us : List Nat} (hA : TotE T g ro z τ [t] A) (hB : TotE T g ro z τ us B) (hC : TotE T g ro z τ us C) : TotE T g ro z τ us (n_ife A B C) := by
  intro en h h1 h2
  obtain ⟨v, h', e1, e2, e3, e4⟩ := te_one hA h1 h2
  unfold n_ife
  rw [e1, Option.bind_some]
  dsimp only
  by_cases hv : j_hd [v] = 0
  · rw [if_pos hv]
    obtain ⟨r, h3, f1, f2, f3, f4⟩ := hC en h' h1 e2
    exact ⟨r, h3, f1, f2, e3.tr f3, f4⟩
  · rw [if_neg hv]
    obtain ⟨r, h3, f1, f2, f3, f4⟩ := hB en h' h1 e2
    exact ⟨r, h3, f1, f2, e3.tr f3, f4⟩
theorem te_nz {A : XE} {t : Nat} (hA : TotE T g ro z τ [t] A) : TotE T g ro z τ [100] (n_nz A) := te_un (f := fun v => j_b (decide (v ≠ 0))) (fun _ _ => rfl) hA (fun _ _ => TV.bool (j_b01 _))
theorem te_c {v : Int} {t : Nat} (hv : TV z g.1 t v) : TotE T g ro z τ [t] (fun _ st => some ([v], st)) := fun en h _ h2 => ⟨[v], h, rfl, h2, FR.rf, hv, trivial⟩
theorem te_sub {A : XE} {us : List Nat} (hs : t_subs ts us = true) (hA : TotE T g ro z τ ts A) : TotE T g ro z τ us A := fun en h h1 h2 => by
  obtain ⟨r, h', e1, e2, e3, e4⟩ := hA en h h1 h2
  exact ⟨r, h', e1, e2, e3, VL.sub hs e4⟩
theorem VL.z0 {z' : Nat → Int} : ∀ {ts : List Nat} {vs : List Int}, ts.all (fun t => Nat.blt t 300) = true → VL z g.1 ts vs → VL z' g.1 ts vs
  | [], [], _, _ => trivial
  | t :: ts, v :: vs, h, hv => by
    rw [List.all_cons, Bool.and_eq_true] at h
    have h3 : t < 300 := by
      have h4 := h.1
      simp [Nat.blt] at h4
      omega
    exact ⟨⟨hv.1.1, hv.1.2.1, hv.1.2.2.1, hv.1.2.2.2.1, hv.1.2.2.2.2.1, fun e => absurd e (by omega)⟩, VL.z0 h.2 hv.2⟩
  | [], _ :: _, _, h => h.elim
  | _ :: _, [], _, h => h.elim
theorem getD_s {l : List Nat} {k v : Nat} (h : l.getD k 0 = v) (h0 : v ≠ 0) : l[k]? = some v := by
  rw [List.getD_eq_getElem?_getD] at h
  cases hk : l[k]? with
  | none => rw [hk] at h; exact absurd h.symm h0
  | some x => rw [hk] at h; exact congrArg some h
/-- what the tables are to hold by themselves -/
def TG (T : TT) : Prop := ∀ f, T.2.2.2.1 f = true → (T.2.1 f).all (fun t => Nat.blt t 300) = true ∧ (T.2.2.1 f).all (fun t => Nat.blt t 300) = true
theorem ty_node (hg : GG T.1 g.1) (hTG : TG T) (hcW : ∀ k, k < 24 → InL (cW 0 k) ∧ InI (cW 1 k)) (hF : ∀ f, T.2.2.2.1 f = true → TotF T g ro F f) {t : Nat} {a b c : SX} {A B C : Option (List Nat)} {A' B' C' : XE}
    (hA : ∀ us, A = some us → TotE T g ro z τ us A') (hB : ∀ us, B = some us → TotE T g ro z τ us B') (hC : ∀ us, C = some us → TotE T g ro z τ us C') (hb : ∀ a' b' c', b = .op (.var 1) (.op a' (.op b' c')) → B' = fun _ st => some ([sx_c a' b' c'], st)) (h : tyN T τ t a b c A B C = some ts) : TotE T g ro z τ ts (nodeE xs L ck F cW t a b c A' B' C') := by
  have one : ∀ {X : Option (List Nat)} {X' : XE} {t : Nat}, (∀ us, X = some us → TotE T g ro z τ us X') → t_one X = t → t ≠ 0 → TotE T g ro z τ [t] X' := fun hX e h0 => hX _ (t_one_some e h0)
  unfold tyN at h
  split at h
  · -- constants
    show TotE T g ro z τ ts (fun _ st => some ([sx_c a b c], st))
    split at h
    · by_cases h1 : sx_c a b c = 0 ∨ sx_c a b c = 1
      · rw [if_pos h1] at h; cases h; exact te_c (TV.bool h1)
      · rw [if_neg h1] at h
        obtain ⟨h2, h⟩ := j_if h
        cases h
        exact te_c (TV.int (okI_in h2))
    · obtain ⟨h2, h⟩ := j_if h
      cases h
      exact te_c (TV.long (okL_in h2))
    · obtain ⟨h2, h⟩ := j_if h
      cases h
      exact te_c (TV.word h2)
    · cases h
  · -- locals
    dsimp only at h
    have key : ∀ (en : List Int), VL z g.1 τ en → TV z g.1 (τ.getD (sx_n a) 0) (en.getD (sx_n a) 0) := fun en hv => VL.at (sx_n a) hv
    split at h
    · cases h
    · split at h
      · rename_i h3
        cases h
        exact fun en hh hv hH => ⟨_, hh, rfl, hH, FR.rf, TV.int ((key en hv).2.2.2.2.2 h3).2, trivial⟩
      · cases h
        exact fun en hh hv hH => ⟨_, hh, rfl, hH, FR.rf, key en hv, trivial⟩
  · -- a number of an object
    dsimp only at h
    obtain ⟨⟨h1, h2, h3⟩, h⟩ := j_if h
    cases h
    intro en hh hv hH
    obtain ⟨v, h', e1, e2, e3, e4⟩ := te_one (one hA rfl (by omega)) hv hH
    obtain ⟨v0, cc, hc, hk⟩ := e4.2.2.2.2.1 (by omega) h2
    have ht := o_ty (fk := T.1) (k := sx_n b) (ci := t_one A - 10) hc (by omega)
    refine ⟨[h' v.toNat (sx_n b)], h', ?_, e2, e3, ?_, trivial⟩
    · show (A' en (g, hh)).bind _ = _
      rw [e1]
      rfl
    · have hx := e2 v.toNat (sx_n b)
      rw [ht] at hx
      rcases h3 with h3 | h3 | h3
      · rw [h3] at hx ⊢
        exact TV.int (hx.1 rfl)
      · rw [h3] at hx ⊢
        exact TV.long (hx.2.1 rfl)
      · rw [h3] at hx ⊢
        exact TV.bool (hx.2.2 rfl)
  · -- a reference of an object
    dsimp only at h
    obtain ⟨⟨h1, h2, h3, h4⟩, h⟩ := j_if h
    cases h
    intro en hh hv hH
    obtain ⟨v, h', e1, e2, e3, e4⟩ := te_one (one hA rfl (by omega)) hv hH
    obtain ⟨v0, cc, hc, hk⟩ := e4.2.2.2.2.1 (by omega) h2
    obtain ⟨r, hr, r0, c', hc', hk'⟩ := hg.2 _ cc (t_one A - 10) (sx_n b) _ hc (by omega) (getD_s rfl (by omega)) h3 h4
    refine ⟨[r], h', ?_, e2, e3, TV.ref h3 h4 ⟨r0, c', hc', hk'⟩, trivial⟩
    show (A' en (g, hh)).bind _ = _
    rw [e1, Option.bind_some]
    show (j_rf g.1 v.toNat (sx_n b)).bind _ = _
    rw [hr]
    rfl
  · -- lengths
    split at h
    · rename_i hc0
      obtain ⟨⟨h1, h2⟩, h⟩ := j_if h
      cases h
      intro en hh hv hH
      obtain ⟨v, h', e1, e2, e3, e4⟩ := te_one (one hA rfl (by omega)) hv hH
      obtain ⟨v0, cc, hc, hk⟩ := e4.2.2.2.2.1 (by omega) (by omega)
      have hl : j_len g.1 v.toNat = (cc.2.1 : Int) := by
        unfold j_len
        rw [hc]
      have hl2 := (hg.1 _ cc hc).2
      refine ⟨[j_len g.1 v.toNat], h', ?_, e2, e3, TV.int ?_, trivial⟩
      · show n_alen L (sx_n c) A' en (g, hh) = _
        unfold n_alen
        rw [e1, Option.bind_some, hc0]
        rfl
      · rw [hl]
        unfold InI
        omega
    · cases h
  · -- a Word's own
    obtain ⟨h1, h⟩ := j_ifx h
    have hA3 := one hA h1 (by decide)
    intro en hh hv hH
    obtain ⟨v, h', e1, e2, e3, e4⟩ := te_one hA3 hv hH
    have hw := e4.2.2.2.1 rfl
    have hw2 := hcW v.toNat (by omega)
    have hE : nodeE xs L ck F cW 13 a b c A' B' C' en (g, hh) = some ([cW (sx_n c) v.toNat], (g, h')) := by
      show n_wf cW (sx_n c) A' en (g, hh) = _
      unfold n_wf
      rw [e1]
      rfl
    split at h
    · rename_i hc0
      cases h
      rw [hc0] at hE
      exact ⟨_, h', hE, e2, e3, TV.long hw2.1, trivial⟩
    · rename_i hc0
      cases h
      rw [hc0] at hE
      exact ⟨_, h', hE, e2, e3, TV.int hw2.2, trivial⟩
    · cases h
  · obtain ⟨⟨h1, h2⟩, h⟩ := j_if h
    cases h
    exact te_bin (one hA rfl (isI_0 h1)) (one hB rfl (isI_0 h2)) (fun _ _ _ _ => TV.int (iop_in _ _ _))
  · obtain ⟨⟨h1, h2⟩, h⟩ := j_if h
    cases h
    exact te_bin (one hA h1 (by decide)) (one hB h2 (by decide)) (fun _ _ _ _ => TV.long (lop_in _ _ _))
  · obtain ⟨⟨h1, h2⟩, h⟩ := j_if h
    cases h
    exact te_bin (one hA h1 (by decide)) (one hB rfl (isI_0 h2)) (fun _ _ _ _ => TV.long (lsh_in _ _ _))
  · -- division
    split at h
    · rename_i a' b' c'
      obtain ⟨h0, h⟩ := j_ifx h
      have hB' := hb a' b' c' rfl
      subst hB'
      have key : ∀ {u : Nat}, TotE T g ro z τ [u] A' → (∀ v, TV z g.1 u v → TV z g.1 u (j_div (sx_n c) v (sx_c a' b' c'))) → TotE T g ro z τ [u] (nodeE xs L ck F cW 17 a (.op (.var 1) (.op a' (.op b' c'))) c A' (fun _ st => some ([sx_c a' b' c'], st)) C') := fun {u} hu hf en hh hv hH => by
        obtain ⟨v, h', e1, e2, e3, e4⟩ := te_one hu hv hH
        refine ⟨[j_div (sx_n c) v (sx_c a' b' c')], h', ?_, e2, e3, hf v e4, trivial⟩
        show (A' en (g, hh)).bind _ = _
        rw [e1, Option.bind_some]
        exact if_neg h0
      split at h
      · rename_i hk
        obtain ⟨⟨h1, h2⟩, h⟩ := j_if h
        cases h
        refine key (te_sub (ts := [t_one A]) ((Bool.and_eq_true _ _).mpr ⟨isI_sub h1, rfl⟩) (one hA rfl (isI_0 h1))) (fun v hv => TV.int ?_)
        match sx_n c, hk with
        | 0, _ => exact in_j32 _
        | 1, _ => exact tmod_i (hv.1 rfl)
        | _ + 2, hk => exact absurd hk (by omega)
      · rename_i hk
        obtain ⟨⟨h1, h2⟩, h⟩ := j_if h
        cases h
        refine key (one hA h1 (by decide)) (fun v hv => TV.long ?_)
        match sx_n c, hk with
        | 0, hk => exact absurd (by decide) hk
        | 1, hk => exact absurd (by decide) hk
        | 2, _ => exact in_j64 _
        | _ + 3, _ => exact tmod_l (hv.2.1 rfl)
    · cases h
  · -- one number
    split at h
    · rename_i hk
      obtain ⟨h1, h⟩ := j_if h
      cases h
      exact te_un (f := j_un (sx_n c)) (fun _ _ => rfl) (one hA rfl (isI_0 h1)) (fun v _ => by rw [hk]; exact TV.int (in_j32 _))
    · rename_i hk
      obtain ⟨h1, h⟩ := j_if h
      cases h
      exact te_un (f := j_un (sx_n c)) (fun _ _ => rfl) (one hA h1 (by decide)) (fun v _ => by rw [hk]; exact TV.long (in_j64 _))
    · rename_i hk
      obtain ⟨h1, h⟩ := j_if h
      cases h
      exact te_un (f := j_un (sx_n c)) (fun _ _ => rfl) (one hA rfl (isI_0 h1)) (fun v hv => by
        rw [hk]
        have := isI_in h1 hv
        unfold InI at this
        refine TV.long ?_
        show InL v
        unfold InL
        omega)
    · rename_i hk
      obtain ⟨h1, h⟩ := j_if h
      cases h
      exact te_un (f := j_un (sx_n c)) (fun _ _ => rfl) (one hA h1 (by decide)) (fun v _ => by rw [hk]; exact TV.int (in_j32 _))
    · rename_i k0 k1 k2 k3
      obtain ⟨h1, h⟩ := j_if h
      cases h
      refine te_un (f := j_un (sx_n c)) (fun _ _ => rfl) (one hA rfl (isI_0 h1)) (fun v _ => TV.int ?_)
      unfold j_un
      split
      · exact absurd (by assumption) k0
      · exact absurd (by assumption) k1
      · exact absurd (by assumption) k2
      · exact absurd (by assumption) k3
      · exact in_i32 _
  · obtain ⟨⟨h1, h2⟩, h⟩ := j_if h
    cases h
    exact te_cmp (one hA rfl (isI_0 h1)) (one hB rfl (isI_0 h2))
  · obtain ⟨h1, h⟩ := j_if h
    cases h
    exact te_un (f := fun v => j_b (j_cmp (sx_n c) v 0)) (fun _ _ => rfl) (one hA rfl (isI_0 h1)) (fun _ _ => TV.bool (j_b01 _))
  · obtain ⟨⟨h1, h2⟩, h⟩ := j_if h
    cases h
    exact te_cmp (one hA h1 (by decide)) (one hB h2 (by decide))
  · obtain ⟨⟨h1, h2⟩, h⟩ := j_if h
    cases h
    exact te_cmp (one hA h1 (by decide)) (one hB h2 (by decide))
  · exact hA _ h
  · obtain ⟨⟨h1, h2⟩, h⟩ := j_if h
    cases h
    exact te_ife (one hA rfl (isI_0 h1)) (te_nz (one hB rfl (isI_0 h2))) (te_c (TV.bool (Or.inl rfl)))
  · obtain ⟨⟨h1, h2⟩, h⟩ := j_if h
    cases h
    exact te_ife (one hA rfl (isI_0 h1)) (te_c (TV.bool (Or.inr rfl))) (te_nz (one hB rfl (isI_0 h2)))
  · obtain ⟨h1, h⟩ := j_if h
    cases h
    exact te_un (f := fun v => j_b (decide (v = 0))) (fun _ _ => rfl) (one hA rfl (isI_0 h1)) (fun _ _ => TV.bool (j_b01 _))
  · dsimp only at h
    obtain ⟨⟨h1, h2, h3, h4⟩, h⟩ := j_if h
    cases h
    exact te_ife (one hA rfl (isI_0 h1)) (te_sub (ts := [t_one B]) ((Bool.and_eq_true _ _).mpr ⟨lub_l, rfl⟩) (one hB rfl h2)) (te_sub (ts := [t_one C]) ((Bool.and_eq_true _ _).mpr ⟨lub_r, rfl⟩) (one hC rfl h3))
  · split at h
    · rename_i x y
      cases h
      intro en hh hv hH
      obtain ⟨r, h', e1, e2, e3, e4⟩ := hA x rfl en hh hv hH
      obtain ⟨q, h3, f1, f2, f3, f4⟩ := hB y rfl en h' hv e2
      refine ⟨r ++ q, h3, ?_, f2, e3.tr f3, VL.app e4 f4⟩
      show (A' en (g, hh)).bind _ = _
      rw [e1, Option.bind_some]
      dsimp only
      rw [f1]
      rfl
    · cases h
  · cases h
    exact fun en hh hv hH => ⟨[], hh, rfl, hH, FR.rf, trivial⟩
  · split at h
    · rename_i x
      obtain ⟨⟨h1, h2⟩, h⟩ := j_if h
      cases h
      intro en hh hv hH
      obtain ⟨r, h', e1, e2, e3, e4⟩ := te_sub h1 (hA x rfl) en hh hv hH
      obtain ⟨t1, t2⟩ := hTG _ h2
      obtain ⟨q, h3, f1, f2, f3, f4⟩ := hF _ h2 r h' e2 (VL.z0 t1 e4)
      refine ⟨q, h3, ?_, f2, e3.tr f3, VL.z0 t2 f4⟩
      show n_call F (sx_n b) A' en (g, hh) = _
      unfold n_call
      rw [e1, Option.bind_some]
      dsimp only
      rw [f1, Option.bind_some]
      exact if_pos rfl
    · cases h
  · cases h
end TYE
/-! ===== a division behind a test that its divisor isn't 0 or less ===== -/
def dv_x : SX → Option Nat
  | .op (.var 21) (.op (.op (.var 3) (.op (.var x) (.op _ _))) (.op _ (.var 5))) => some x
  | .op (.var 22) (.op (.op (.var 3) (.op (.var x) (.op _ _))) (.op (.op (.var 1) (.op a' (.op b' c'))) (.var 5))) => if sx_c a' b' c' = 0 then some x else none
  | _ => none
def dv_d (x : Nat) : SX → Bool
  | .op (.var 3) (.op (.var y) (.op _ _)) => y == x
  | .op (.var 18) (.op (.op (.var 3) (.op (.var y) (.op _ _))) (.op _ (.var 2))) => y == x
  | _ => false
def dv_k (T : TT) (τ : List Nat) (k : Nat) (P D : SX) : Nat := if k < 2 then (if isI (t_one (tyE T τ P)) = true ∧ isI (t_one (tyE T τ D)) = true then 1 else 0) else if t_one (tyE T τ P) = 2 ∧ t_one (tyE T τ D) = 2 then 2 else 0
def dv_c (T : TT) (τ : List Nat) (x : Nat) : SX → Nat
  | .op (.var 17) (.op P (.op D (.var k))) => if dv_d x D = true then dv_k T τ k P D else 0
  | .op (.var 18) (.op (.op (.var 17) (.op P (.op D (.var k)))) (.op _ (.var 3))) => if dv_d x D = true ∧ dv_k T τ k P D = 2 then 1 else 0
  | _ => 0
def dv_t (T : TT) (τ : List Nat) (a c : SX) (B : Option (List Nat)) : Option (List Nat) := match dv_x a with
  | some x => let u := t_lub (t_one B) (dv_c T τ x c)
    if isI (t_one (tyE T τ a)) = true ∧ dv_c T τ x c ≠ 0 ∧ t_one B ≠ 0 ∧ u ≠ 0 then some [u] else none
  | none => none
def tyF (T : TT) (τ : List Nat) : SX → Option (List Nat)
  | .op (.var t) (.op a (.op b c)) => if t = 28 then (match tyN T τ 28 a b c (tyF T τ a) (tyF T τ b) (tyF T τ c) with
    | some r => some r
    | none => dv_t T τ a c (tyF T τ b)) else tyN T τ t a b c (tyF T τ a) (tyF T τ b) (tyF T τ c)
  | _ => none
section TYG
variable {xs : Nat → Int} {L : Nat} {ck : Nat → List Nat} {F : XP} {cW : Nat → Nat → Int} {T : TT} {g : XS × Nat × Nat} {ro : Nat → Nat → Bool} {z : Nat → Int} {τ ts : List Nat}
theorem ty_all0 (hg : GG T.1 g.1) (hTG : TG T) (hcW : ∀ k, k < 24 → InL (cW 0 k) ∧ InI (cW 1 k)) (hF : ∀ f, T.2.2.2.1 f = true → TotF T g ro F f) : ∀ (t : SX) (z : Nat → Int) (τ us : List Nat), tyE T τ t = some us → TotE T g ro z τ us (evE xs L ck F cW t)
  | .op (.var t) (.op a (.op b c)), z, τ, us, h => ty_node hg hTG hcW hF (fun us h => ty_all0 hg hTG hcW hF a z τ us h) (fun us h => ty_all0 hg hTG hcW hF b z τ us h) (fun us h => ty_all0 hg hTG hcW hF c z τ us h) (fun a' b' c' e => by subst e; rfl) h
  | .var _, _, _, _, h => by cases h
  | .op (.op _ _) _, _, _, _, h => by cases h
  | .op (.var _) (.var _), _, _, _, h => by cases h
  | .op (.var _) (.op _ (.var _)), _, _, _, h => by cases h
theorem jb_pos {v : Int} (h : j_b (decide (v ≤ 0)) = 0) : 0 < v := by
  by_cases hv : v ≤ 0
  · rw [decide_eq_true hv] at h; cases h
  · omega
/-- the test leaves the counter above 0 -/
theorem dv_x_ok {a : SX} {x : Nat} (h : dv_x a = some x) {en : List Int} {st st' : XT} {v : Int} (e : evE xs L ck F cW a en st = some ([v], st')) (h0 : v = 0) : 0 < en.getD x 0 := by
  unfold dv_x at h
  split at h
  · cases h
    have e2 : some ([j_b (j_cmp 5 (en.getD x 0) 0)], st) = some ([v], st') := e
    have e3 := (Prod.mk.inj (Option.some.inj e2)).1
    have e4 : j_b (j_cmp 5 (en.getD x 0) 0) = v := List.cons.inj e3 |>.1
    rw [h0] at e4
    exact jb_pos e4
  · obtain ⟨h1, h⟩ := j_if h
    cases h
    rename_i a' b' c'
    have e2 : some ([j_b (j_cmp 5 (en.getD x 0) (sx_c a' b' c'))], st) = some ([v], st') := e
    rw [h1] at e2
    have e3 := (Prod.mk.inj (Option.some.inj e2)).1
    have e4 : j_b (j_cmp 5 (en.getD x 0) 0) = v := List.cons.inj e3 |>.1
    rw [h0] at e4
    exact jb_pos e4
  · cases h
theorem dv_d_ok {D : SX} {x : Nat} (h : dv_d x D = true) (en : List Int) (st : XT) : evE xs L ck F cW D en st = some ([en.getD x 0], st) := by
  unfold dv_d at h
  split at h
  · have := beq_iff_eq.mp h
    subst this
    rfl
  · have := beq_iff_eq.mp h
    subst this
    rfl
  · cases h
theorem dv_k_ok (hg : GG T.1 g.1) (hTG : TG T) (hcW : ∀ k, k < 24 → InL (cW 0 k) ∧ InI (cW 1 k)) (hF : ∀ f, T.2.2.2.1 f = true → TotF T g ro F f) {x k : Nat} {P D : SX} (hd : dv_d x D = true) (hk : dv_k T τ k P D ≠ 0) {en : List Int} {h : XH} (hv : VL z g.1 τ en) (hH : HT T.1 g.1 h) (hx : 0 < en.getD x 0) :
    ∃ v h', ((evE xs L ck F cW P en (g, h)).bind fun x => (evE xs L ck F cW D en x.2).bind fun y => if j_hd y.1 = 0 then none else some ([j_div k (j_hd x.1) (j_hd y.1)], y.2)) = some ([v], (g, h')) ∧ HT T.1 g.1 h' ∧ FR ro h h' ∧ TV z g.1 (dv_k T τ k P D) v := by
  have go : ∀ {u : Nat}, TotE T g ro z τ [u] (evE xs L ck F cW P) → ∃ w h', evE xs L ck F cW P en (g, h) = some ([w], (g, h')) ∧ HT T.1 g.1 h' ∧ FR ro h h' ∧ TV z g.1 u w ∧ ((evE xs L ck F cW P en (g, h)).bind fun x => (evE xs L ck F cW D en x.2).bind fun y => if j_hd y.1 = 0 then none else some ([j_div k (j_hd x.1) (j_hd y.1)], y.2)) = some ([j_div k w (en.getD x 0)], (g, h')) := fun hP => by
    obtain ⟨w, h', e1, e2, e3, e4⟩ := te_one hP hv hH
    refine ⟨w, h', e1, e2, e3, e4, ?_⟩
    rw [e1, Option.bind_some]
    dsimp only
    rw [dv_d_ok hd, Option.bind_some]
    refine (if_neg ?_).trans rfl
    show ¬ en.getD x 0 = 0
    omega
  unfold dv_k at hk ⊢
  by_cases h2 : k < 2
  · rw [if_pos h2] at hk ⊢
    by_cases h3 : isI (t_one (tyE T τ P)) = true ∧ isI (t_one (tyE T τ D)) = true
    · rw [if_pos h3] at hk ⊢
      obtain ⟨w, h', e1, e2, e3, e4, e5⟩ := go (te_sub (ts := [t_one (tyE T τ P)]) ((Bool.and_eq_true _ _).mpr ⟨isI_sub h3.1, rfl⟩) (ty_all0 (xs := xs) (L := L) (ck := ck) hg hTG hcW hF P z τ _ (t_one_some rfl (isI_0 h3.1))))
      refine ⟨_, h', e5, e2, e3, TV.int ?_⟩
      match k, h2 with
      | 0, _ => exact in_j32 _
      | 1, _ => exact tmod_i (e4.1 rfl)
      | _ + 2, h => exact absurd h (by omega)
    · rw [if_neg h3] at hk; exact absurd rfl hk
  · rw [if_neg h2] at hk ⊢
    by_cases h3 : t_one (tyE T τ P) = 2 ∧ t_one (tyE T τ D) = 2
    · rw [if_pos h3] at hk ⊢
      obtain ⟨w, h', e1, e2, e3, e4, e5⟩ := go (ty_all0 (xs := xs) (L := L) (ck := ck) hg hTG hcW hF P z τ _ (t_one_some h3.1 (by decide)))
      refine ⟨_, h', e5, e2, e3, TV.long ?_⟩
      match k, h2 with
      | 0, h => exact absurd (by decide) h
      | 1, h => exact absurd (by decide) h
      | 2, _ => exact in_j64 _
      | _ + 3, _ => exact tmod_l (e4.2.1 rfl)
    · rw [if_neg h3] at hk; exact absurd rfl hk
theorem dv_c_ok (hg : GG T.1 g.1) (hTG : TG T) (hcW : ∀ k, k < 24 → InL (cW 0 k) ∧ InI (cW 1 k)) (hF : ∀ f, T.2.2.2.1 f = true → TotF T g ro F f) {x : Nat} {c : SX} (hk : dv_c T τ x c ≠ 0) {en : List Int} {h : XH} (hv : VL z g.1 τ en) (hH : HT T.1 g.1 h) (hx : 0 < en.getD x 0) :
    ∃ v h', evE xs L ck F cW c en (g, h) = some ([v], (g, h')) ∧ HT T.1 g.1 h' ∧ FR ro h h' ∧ TV z g.1 (dv_c T τ x c) v := by
  unfold dv_c at hk ⊢
  split at hk
  · rename_i P D k
    by_cases hd : dv_d x D = true
    · rw [if_pos hd] at hk
      rw [if_pos hd]
      exact dv_k_ok (xs := xs) (L := L) (ck := ck) hg hTG hcW hF hd hk hv hH hx
    · rw [if_neg hd] at hk; exact absurd rfl hk
  · rename_i P D k w
    by_cases hd : dv_d x D = true ∧ dv_k T τ k P D = 2
    · rw [if_pos hd]
      obtain ⟨v, h', e1, e2, e3, e4⟩ := dv_k_ok (xs := xs) (L := L) (ck := ck) hg hTG hcW hF hd.1 (by rw [hd.2]; decide) hv hH hx
      refine ⟨j32 v, h', ?_, e2, e3, TV.int (in_j32 _)⟩
      show ((evE xs L ck F cW P en (g, h)).bind fun x => (evE xs L ck F cW D en x.2).bind fun y => if j_hd y.1 = 0 then none else some ([j_div k (j_hd x.1) (j_hd y.1)], y.2)).bind _ = _
      rw [e1]
      rfl
    · rw [if_neg hd] at hk; exact absurd rfl hk
  · exact absurd rfl hk
theorem ty_all (hg : GG T.1 g.1) (hTG : TG T) (hcW : ∀ k, k < 24 → InL (cW 0 k) ∧ InI (cW 1 k)) (hF : ∀ f, T.2.2.2.1 f = true → TotF T g ro F f) : ∀ (t : SX) (z : Nat → Int) (τ us : List Nat), tyF T τ t = some us → TotE T g ro z τ us (evE xs L ck F cW t)
  | .op (.var t) (.op a (.op b c)), z, τ, us, h => by
    have hA := fun us h => ty_all hg hTG hcW hF a z τ us h
    have hB := fun us h => ty_all hg hTG hcW hF b z τ us h
    have hC := fun us h => ty_all hg hTG hcW hF c z τ us h
    unfold tyF at h
    by_cases h28 : t = 28
    · rw [if_pos h28] at h
      subst h28
      split at h
      · rename_i r hr
        cases h
        exact ty_node hg hTG hcW hF hA hB hC (fun a' b' c' e => by subst e; rfl) hr
      · unfold dv_t at h
        split at h
        · rename_i x hx
          dsimp only at h
          obtain ⟨⟨h1, h2, h3, h4⟩, h⟩ := j_if h
          cases h
          intro en hh hv hH
          obtain ⟨v, h', e1, e2, e3, e4⟩ := te_one (ty_all0 (xs := xs) (L := L) (ck := ck) hg hTG hcW hF a z τ _ (t_one_some rfl (isI_0 h1))) hv hH
          show ∃ r h', n_ife (evE xs L ck F cW a) (evE xs L ck F cW b) (evE xs L ck F cW c) en (g, hh) = some (r, (g, h')) ∧ _
          unfold n_ife
          rw [e1, Option.bind_some]
          dsimp only
          by_cases hv0 : j_hd [v] = 0
          · rw [if_pos hv0]
            obtain ⟨w, h3', f1, f2, f3, f4⟩ := dv_c_ok (xs := xs) (L := L) (ck := ck) hg hTG hcW hF h2 hv e2 (dv_x_ok hx e1 hv0)
            exact ⟨[w], h3', f1, f2, e3.tr f3, TV.sub lub_r f4, trivial⟩
          · rw [if_neg hv0]
            obtain ⟨w, h3', f1, f2, f3, f4⟩ := te_one (hB _ (t_one_some rfl h3)) hv e2
            exact ⟨[w], h3', f1, f2, e3.tr f3, TV.sub lub_l f4, trivial⟩
        · cases h
    · rw [if_neg h28] at h
      exact ty_node hg hTG hcW hF hA hB hC (fun a' b' c' e => by subst e; rfl) h
  | .var _, _, _, _, h => by cases h
  | .op (.op _ _) _, _, _, _, h => by cases h
  | .op (.var _) (.var _), _, _, _, h => by cases h
  | .op (.var _) (.op _ (.var _)), _, _, _, h => by cases h
end TYG
end
section
/-! ===== the third reading of statements ===== -/
abbrev TO : Type := Option (List Nat) × Option (List Nat) × Option (List Nat)
def t_join (x y : Option (List Nat)) : Option (Option (List Nat)) := match x, y with
  | none, y => some y
  | x, none => some x
  | some a, some b => if a.length = b.length then some (some (t_lubs a b)) else none
def t_joins (x y : TO) : Option TO := (t_join x.1 y.1).bind fun a => (t_join x.2.1 y.2.1).bind fun b => (t_join x.2.2 y.2.2).bind fun c => some (a, b, c)
def t_no (i : Nat) (τ : List Nat) : Bool := τ.all fun t => !(t == 300 + i)
/-- a loop's counter: where it lies, does it go up -/
def lp_up (i : Nat) : SX → Bool
  | .op (.var 25) (.op a (.op b _)) => lp_up i a || lp_up i b
  | .op (.var 20) (.op (.op (.var 3) (.op (.var j) (.op _ _))) (.op b (.var k))) => j == i && (k == 2 || (k == 5 && (match b with
    | .op (.var 1) (.op a' (.op b' c')) => sx_n b' == 1 && decide (sx_c a' b' c' < 2147483647)
    | _ => false)))
  | _ => false
def lp_dn (i : Nat) : SX → Bool
  | .op (.var 25) (.op a (.op b _)) => lp_dn i a || lp_dn i b
  | .op (.var 21) (.op (.op (.var 3) (.op (.var j) (.op _ _))) (.op _ (.var k))) => j == i && k == 3
  | _ => false
def lp_inc : SX → Option (Nat × Bool)
  | .op (.var 4) (.op (.var i) (.op (.var 1) (.var c))) => some (i, c == 0)
  | _ => none
/-- the counter's step: behind the body, or the body itself -/
def lp_step (b c : SX) : Option (Nat × Bool × Bool) := match lp_inc c with
  | some (i, u) => some (i, u, true)
  | none => match c with
    | .op (.var 1) (.op _ (.op _ _)) => (match b with
      | .op (.var 20) (.op b' (.op _ _)) => (lp_inc b').map fun q => (q.1, q.2, false)
      | _ => none)
    | _ => none
/-- a loop's body from the kinds at its head: what stands behind it, and where it breaks -/
def ty_lp (T : TT) (i : Nat) (c3 : Bool) (A : List Nat → Option (List Nat)) (B : List Nat → Option TO) : Nat → List Nat → Option TO
  | 0, _ => none
  | n + 1, τ => let τ1 := τ.set i 1
    let th := τ1.set i (300 + i)
    if i < τ.length ∧ t_no i τ1 = true ∧ isI (t_one (A th)) = true ∧ t_sub (τ.getD i 0) 1 = true then
      (if c3 then B th else some (some th, none, none)).bind fun ob => (t_join ob.1 ob.2.2).bind fun e =>
        (t_join (some τ1) ob.2.1).bind fun ex => match ex with
        | none => none
        | some x => if t_no i x = true then match e with
            | none => some (some x, none, none)
            | some w => if w.getD i 0 = 300 + i then
                (if t_subs (w.set i 1) τ1 = true then some (some x, none, none) else if τ1.length = (w.set i 1).length then ty_lp T i c3 A B n (t_lubs τ1 (w.set i 1)) else none) else none
          else none
    else none
def ty_first (A : Option (List Nat)) (x : Option TO) : Option TO := if isI (t_one A) = true then x else none
def tySN (T : TT) (rt : List Nat) (thr : Bool) (t : Nat) (a b c : SX) (A B C : (List Nat → Option TO) × (List Nat → Option TO)) : (List Nat → Option TO) × (List Nat → Option TO) :=
  (fun τ => match t with
  | 1 => some (some τ, none, none)
  | 22 => some (some τ, none, none)
  | 2 => (A.1 τ).bind fun o => match o.1 with
    | none => some o
    | some τ1 => (B.1 τ1).bind fun q => t_joins (none, o.2) q
  | 3 => let u := t_one (tyF T τ b)
    if u ≠ 0 ∧ sx_n a < τ.length then some (some (τ.set (sx_n a) u), none, none) else none
  | 4 => if isI (τ.getD (sx_n a) 0) = true ∨ 300 ≤ τ.getD (sx_n a) 0 then some (some (τ.set (sx_n a) 1), none, none) else none
  | 5 => let ta := t_one (tyF T τ a)
    let kd := (T.1 (ta - 10)).getD (sx_n c) 0
    if 10 ≤ ta ∧ ta < 100 ∧ T.2.2.2.2 (ta - 10) (sx_n c) = true ∧ ((kd = 1 ∧ isI (t_one (tyF T τ b)) = true) ∨ (kd = 2 ∧ t_one (tyF T τ b) = 2)) then some (some τ, none, none) else none
  | 6 => let ta := t_one (tyF T τ a)
    let kd := (T.1 (ta - 10)).getD (sx_n c / 16) 0
    if 10 ≤ ta ∧ ta < 100 ∧ T.2.2.2.2 (ta - 10) (sx_n c / 16) = true ∧ kd = 1 ∧ isI (t_one (tyF T τ b)) = true then some (some τ, none, none) else none
  | 23 => let ta := t_one (tyF T τ a)
    let kd := (T.1 (ta - 10)).getD (sx_n c) 0
    if 10 ≤ ta ∧ ta < 100 ∧ T.2.2.2.2 (ta - 10) (sx_n c) = true ∧ kd = 100 ∧ t_one (tyF T τ b) = 100 then some (some τ, none, none) else none
  | 9 => match tyF T τ a with
    | some _ => some (some τ, none, none)
    | none => none
  | 10 => ty_first (tyF T τ a) ((B.1 τ).bind fun o => t_joins o (some τ, none, none))
  | 11 => ty_first (tyF T τ a) ((B.1 τ).bind fun o => (C.1 τ).bind fun q => t_joins o q)
  | 28 => ty_first (tyF T τ a) ((B.1 τ).bind fun o => t_joins o (none, some τ, none))
  | 12 => match lp_step b c with
    | some (i, u, c3) => if (if u then lp_up i a else lp_dn i a) = true then ty_lp T i c3 (fun t => tyF T t a) B.1 6 τ else none
    | none => none
  | 14 => some (none, some τ, none)
  | 15 => some (none, none, some τ)
  | 16 => match tyF T τ a with
    | some x => if t_subs x rt = true then some (none, none, none) else none
    | none => none
  | 27 => if t_one (tyF T τ a) = 100 ∧ rt = [100] then some (none, none, none) else none
  | 17 => if rt = [] then some (none, none, none) else none
  | 18 => if thr = true then some (none, none, none) else none
  | 19 => ty_first (tyF T τ a) ((B.2 τ).bind fun o => (t_join o.1 o.2.1).bind fun e => some (e, none, o.2.2))
  | 20 => A.1 τ
  | _ => none,
  fun τ => match t with
  | 25 => (B.1 τ).bind fun o => if o.1 = none then (C.2 τ).bind fun q => t_joins o q else none
  | 26 => A.1 τ
  | _ => none)
def tyS (T : TT) (rt : List Nat) (thr : Bool) : SX → (List Nat → Option TO) × (List Nat → Option TO)
  | .op (.var t) (.op a (.op b c)) => tySN T rt thr t a b c (tyS T rt thr a) (tyS T rt thr b) (tyS T rt thr c)
  | _ => (fun _ => none, fun _ => none)
/-- a method by itself -/
def tyM (T : TT) (M : Nat → XM) (THR : Nat → Bool) (f : Nat) : Bool := match (tyS T (T.2.2.1 f) (THR f) (M f).2.2.2.2).1 (j_pad 0 (M f).2.1 (j_layT (T.2.1 f))) with
  | some (none, none, none) => (j_layT (T.2.1 f)).length ≤ (M f).2.1
  | _ => false
end
