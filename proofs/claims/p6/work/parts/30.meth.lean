/-! ===== the methods (written by wip/tools/checks.py) ===== -/
theorem gK_144 : gdK 144 = true := by decide +kernel
theorem gH_144 : gdH 144 = true := gH_of rfl (by decide +kernel)
theorem gK_145 : gdK 145 = true := by decide +kernel
theorem gH_145 : gdH 145 = true := gH_of rfl (by decide +kernel)
theorem gK_146 : gdK 146 = true := by decide +kernel
theorem gH_146 : gdH 146 = true := gH_of rfl (by decide +kernel)
theorem gK_147 : gdK 147 = true := by decide +kernel
theorem gH_147 : gdH 147 = true := gH_of rfl (by decide +kernel)
theorem gK_148 : gdK 148 = true := by decide +kernel
theorem gH_148 : gdH 148 = true := gH_of rfl (by decide +kernel)
theorem gK_149 : gdK 149 = true := by decide +kernel
theorem gH_149 : gdH 149 = true := gH_of rfl (by decide +kernel)
theorem gK_150 : gdK 150 = true := by decide +kernel
theorem gH_150 : gdH 150 = true := gH_of rfl (by decide +kernel)
theorem gK_151 : gdK 151 = true := by decide +kernel
theorem gH_151 : gdH 151 = true := gH_of rfl (by decide +kernel)
theorem gK_152 : gdK 152 = true := by decide +kernel
theorem gH_152 : gdH 152 = true := gH_of rfl (by decide +kernel)
theorem gK_153 : gdK 153 = true := by decide +kernel
theorem gH_153 : gdH 153 = true := gH_of rfl (by decide +kernel)
theorem gK_154 : gdK 154 = true := by decide +kernel
theorem gH_154 : gdH 154 = true := gH_of rfl (by decide +kernel)
theorem gK_155 : gdK 155 = true := by decide +kernel
theorem gH_155 : gdH 155 = true := gH_of rfl (by decide +kernel)
theorem gK_156 : gdK 156 = true := by decide +kernel
theorem gH_156 : gdH 156 = true := gH_of rfl (by decide +kernel)
theorem gK_157 : gdK 157 = true := by decide +kernel
theorem gH_157 : gdH 157 = true := gH_of rfl (by decide +kernel)
theorem gK_158 : gdK 158 = true := by decide +kernel
theorem gH_158 : gdH 158 = true := gH_of rfl (by decide +kernel)
theorem gK_159 : gdK 159 = true := by decide +kernel
theorem gH_159 : gdH 159 = true := gH_of rfl (by decide +kernel)
theorem gK_160 : gdK 160 = true := by decide +kernel
theorem gH_160 : gdH 160 = true := gH_of rfl (by decide +kernel)
theorem gK_161 : gdK 161 = true := by decide +kernel
theorem gH_161 : gdH 161 = true := gH_of rfl (by decide +kernel)
theorem gK_162 : gdK 162 = true := by decide +kernel
theorem gH_162 : gdH 162 = true := gH_of rfl (by decide +kernel)
theorem gK_163 : gdK 163 = true := by decide +kernel
theorem gH_163 : gdH 163 = true := gH_of rfl (by decide +kernel)
theorem gK_164 : gdK 164 = true := by decide +kernel
theorem gH_164 : gdH 164 = true := gH_of rfl (by decide +kernel)
theorem gK_165 : gdK 165 = true := by decide +kernel
theorem gH_165 : gdH 165 = true := gH_of rfl (by decide +kernel)
theorem gK_166 : gdK 166 = true := by decide +kernel
theorem gH_166 : gdH 166 = true := gH_of rfl (by decide +kernel)
theorem gK_167 : gdK 167 = true := by decide +kernel
theorem gH_167 : gdH 167 = true := gH_of rfl (by decide +kernel)
theorem gK_168 : gdK 168 = true := by decide +kernel
theorem gH_168 : gdH 168 = true := gH_of rfl (by decide +kernel)
theorem gK_169 : gdK 169 = true := by decide +kernel
theorem gH_169 : gdH 169 = true := gH_of rfl (by decide +kernel)
theorem gK_170 : gdK 170 = true := by decide +kernel
theorem gH_170 : gdH 170 = true := gH_of rfl (by decide +kernel)
theorem gK_171 : gdK 171 = true := by decide +kernel
theorem gH_171 : gdH 171 = true := gH_of rfl (by decide +kernel)
theorem gK_172 : gdK 172 = true := by decide +kernel
theorem gH_172 : gdH 172 = true := gH_of rfl (by decide +kernel)
theorem gK_173 : gdK 173 = true := by decide +kernel
theorem gH_173 : gdH 173 = true := gH_of rfl (by decide +kernel)
theorem gK_174 : gdK 174 = true := by decide +kernel
theorem gH_174 : gdH 174 = true := gH_of rfl (by decide +kernel)
theorem gK_175 : gdK 175 = true := by decide +kernel
theorem gH_175 : gdH 175 = true := gH_of rfl (by decide +kernel)
theorem gK_176 : gdK 176 = true := by decide +kernel
theorem gH_176 : gdH 176 = true := gH_of rfl (by decide +kernel)
theorem gK_177 : gdK 177 = true := by decide +kernel
theorem gH_177 : gdH 177 = true := gH_of rfl (by decide +kernel)
theorem gK_178 : gdK 178 = true := by decide +kernel
theorem gH_178 : gdH 178 = true := gH_of rfl (by decide +kernel)
theorem gK_179 : gdK 179 = true := by decide +kernel
theorem gH_179 : gdH 179 = true := gH_of rfl (by decide +kernel)
theorem gK_180 : gdK 180 = true := by decide +kernel
theorem gH_180 : gdH 180 = true := gH_of rfl (by decide +kernel)
theorem gK_181 : gdK 181 = true := by decide +kernel
theorem gH_181 : gdH 181 = true := gH_of rfl (by decide +kernel)
theorem gK_183 : gdK 183 = true := by decide +kernel
theorem gH_183 : gdH 183 = true := gH_of rfl (by decide +kernel)
theorem gK_184 : gdK 184 = true := by decide +kernel
theorem gH_184 : gdH 184 = true := gH_of rfl (by decide +kernel)
theorem gK_185 : gdK 185 = true := by decide +kernel
theorem gH_185 : gdH 185 = true := gH_of rfl (by decide +kernel)
theorem gK_186 : gdK 186 = true := by decide +kernel
theorem gH_186 : gdH 186 = true := gH_of rfl (by decide +kernel)
theorem gK_187 : gdK 187 = true := by decide +kernel
theorem gH_187 : gdH 187 = true := gH_of rfl (by decide +kernel)
theorem gK_188 : gdK 188 = true := by decide +kernel
theorem gH_188 : gdH 188 = true := gH_of rfl (by decide +kernel)
theorem gK_189 : gdK 189 = true := by decide +kernel
theorem gH_189 : gdH 189 = true := gH_of rfl (by decide +kernel)
theorem gK_190 : gdK 190 = true := by decide +kernel
theorem gH_190 : gdH 190 = true := gH_of rfl (by decide +kernel)
theorem gK_191 : gdK 191 = true := by decide +kernel
theorem gH_191 : gdH 191 = true := gH_of rfl (by decide +kernel)
theorem gK_192 : gdK 192 = true := by decide +kernel
theorem gH_192 : gdH 192 = true := gH_of rfl (by decide +kernel)
