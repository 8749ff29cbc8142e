section
/-! ===== the methods (written by wip/tools/checks.py) ===== -/
theorem gK_48 : gdK 48 = true := by decide +kernel
theorem gH_48 : gdH 48 = true := gH_of rfl (by decide +kernel)
theorem gK_49 : gdK 49 = true := by decide +kernel
theorem gH_49 : gdH 49 = true := gH_of rfl (by decide +kernel)
theorem gK_50 : gdK 50 = true := by decide +kernel
theorem gH_50 : gdH 50 = true := gH_of rfl (by decide +kernel)
theorem gK_51 : gdK 51 = true := by decide +kernel
theorem gH_51 : gdH 51 = true := gH_of rfl (by decide +kernel)
theorem gK_52 : gdK 52 = true := by decide +kernel
theorem gH_52 : gdH 52 = true := gH_of rfl (by decide +kernel)
theorem gK_53 : gdK 53 = true := by decide +kernel
theorem gH_53 : gdH 53 = true := gH_of rfl (by decide +kernel)
theorem gK_54 : gdK 54 = true := by decide +kernel
theorem gH_54 : gdH 54 = true := gH_of rfl (by decide +kernel)
theorem gK_55 : gdK 55 = true := by decide +kernel
theorem gH_55 : gdH 55 = true := gH_of rfl (by decide +kernel)
theorem gK_56 : gdK 56 = true := by decide +kernel
theorem gH_56 : gdH 56 = true := gH_of rfl (by decide +kernel)
theorem gK_57 : gdK 57 = true := by decide +kernel
theorem gH_57 : gdH 57 = true := gH_of rfl (by decide +kernel)
theorem gK_58 : gdK 58 = true := by decide +kernel
theorem gH_58 : gdH 58 = true := gH_of rfl (by decide +kernel)
theorem gK_59 : gdK 59 = true := by decide +kernel
theorem gH_59 : gdH 59 = true := gH_of rfl (by decide +kernel)
theorem gK_60 : gdK 60 = true := by decide +kernel
theorem gH_60 : gdH 60 = true := gH_of rfl (by decide +kernel)
theorem gK_61 : gdK 61 = true := by decide +kernel
theorem gH_61 : gdH 61 = true := gH_of rfl (by decide +kernel)
theorem gK_62 : gdK 62 = true := by decide +kernel
theorem gH_62 : gdH 62 = true := gH_of rfl (by decide +kernel)
theorem gK_63 : gdK 63 = true := by decide +kernel
theorem gH_63 : gdH 63 = true := gH_of rfl (by decide +kernel)
theorem gK_64 : gdK 64 = true := by decide +kernel
theorem gH_64 : gdH 64 = true := gH_of rfl (by decide +kernel)
theorem gK_65 : gdK 65 = true := by decide +kernel
theorem gH_65 : gdH 65 = true := gH_of rfl (by decide +kernel)
theorem gK_66 : gdK 66 = true := by decide +kernel
theorem gH_66 : gdH 66 = true := gH_of rfl (by decide +kernel)
theorem gK_67 : gdK 67 = true := by decide +kernel
theorem gH_67 : gdH 67 = true := gH_of rfl (by decide +kernel)
theorem gK_68 : gdK 68 = true := by decide +kernel
theorem gH_68 : gdH 68 = true := gH_of rfl (by decide +kernel)
theorem gK_69 : gdK 69 = true := by decide +kernel
theorem gH_69 : gdH 69 = true := gH_of rfl (by decide +kernel)
theorem gK_70 : gdK 70 = true := by decide +kernel
theorem gH_70 : gdH 70 = true := gH_of rfl (by decide +kernel)
theorem gK_71 : gdK 71 = true := by decide +kernel
theorem gH_71 : gdH 71 = true := gH_of rfl (by decide +kernel)
theorem gK_72 : gdK 72 = true := by decide +kernel
theorem gH_72 : gdH 72 = true := gH_of rfl (by decide +kernel)
theorem gK_73 : gdK 73 = true := by decide +kernel
theorem gH_73 : gdH 73 = true := gH_of rfl (by decide +kernel)
theorem gK_74 : gdK 74 = true := by decide +kernel
theorem gH_74 : gdH 74 = true := gH_of rfl (by decide +kernel)
theorem gK_75 : gdK 75 = true := by decide +kernel
theorem gH_75 : gdH 75 = true := gH_of rfl (by decide +kernel)
theorem gK_76 : gdK 76 = true := by decide +kernel
theorem gH_76 : gdH 76 = true := gH_of rfl (by decide +kernel)
theorem gK_77 : gdK 77 = true := by decide +kernel
theorem gH_77 : gdH 77 = true := gH_of rfl (by decide +kernel)
theorem gK_78 : gdK 78 = true := by decide +kernel
theorem gH_78 : gdH 78 = true := gH_of rfl (by decide +kernel)
theorem gK_79 : gdK 79 = true := by decide +kernel
theorem gH_79 : gdH 79 = true := gH_of rfl (by decide +kernel)
theorem gK_80 : gdK 80 = true := by decide +kernel
theorem gH_80 : gdH 80 = true := gH_of rfl (by decide +kernel)
theorem gK_81 : gdK 81 = true := by decide +kernel
theorem gH_81 : gdH 81 = true := gH_of rfl (by decide +kernel)
theorem gK_82 : gdK 82 = true := by decide +kernel
theorem gH_82 : gdH 82 = true := gH_of rfl (by decide +kernel)
theorem gK_83 : gdK 83 = true := by decide +kernel
theorem gH_83 : gdH 83 = true := gH_of rfl (by decide +kernel)
theorem gK_84 : gdK 84 = true := by decide +kernel
theorem gH_84 : gdH 84 = true := gH_of rfl (by decide +kernel)
theorem gK_85 : gdK 85 = true := by decide +kernel
theorem gH_85 : gdH 85 = true := gH_of rfl (by decide +kernel)
theorem gK_86 : gdK 86 = true := by decide +kernel
theorem gH_86 : gdH 86 = true := gH_of rfl (by decide +kernel)
theorem gK_87 : gdK 87 = true := by decide +kernel
theorem gH_87 : gdH 87 = true := gH_of rfl (by decide +kernel)
theorem gK_88 : gdK 88 = true := by decide +kernel
theorem gH_88 : gdH 88 = true := gH_of rfl (by decide +kernel)
theorem gK_89 : gdK 89 = true := by decide +kernel
theorem gH_89 : gdH 89 = true := gH_of rfl (by decide +kernel)
theorem gK_90 : gdK 90 = true := by decide +kernel
theorem gH_90 : gdH 90 = true := gH_of rfl (by decide +kernel)
theorem gK_91 : gdK 91 = true := by decide +kernel
theorem gH_91 : gdH 91 = true := gH_of rfl (by decide +kernel)
theorem gK_92 : gdK 92 = true := by decide +kernel
theorem gH_92 : gdH 92 = true := gH_of rfl (by decide +kernel)
theorem gK_93 : gdK 93 = true := by decide +kernel
theorem gH_93 : gdH 93 = true := gH_of rfl (by decide +kernel)
theorem gK_94 : gdK 94 = true := by decide +kernel
theorem gH_94 : gdH 94 = true := gH_of rfl (by decide +kernel)
theorem gK_95 : gdK 95 = true := by decide +kernel
theorem gH_95 : gdH 95 = true := gH_of rfl (by decide +kernel)
end
section
/-! ===== the methods (written by wip/tools/checks.py) ===== -/
theorem gK_96 : gdK 96 = true := by decide +kernel
theorem gH_96 : gdH 96 = true := gH_of rfl (by decide +kernel)
theorem gK_97 : gdK 97 = true := by decide +kernel
theorem gH_97 : gdH 97 = true := gH_of rfl (by decide +kernel)
theorem gK_98 : gdK 98 = true := by decide +kernel
theorem gH_98 : gdH 98 = true := gH_of rfl (by decide +kernel)
theorem gK_99 : gdK 99 = true := by decide +kernel
theorem gH_99 : gdH 99 = true := gH_of rfl (by decide +kernel)
theorem gK_100 : gdK 100 = true := by decide +kernel
theorem gH_100 : gdH 100 = true := gH_of rfl (by decide +kernel)
theorem gK_101 : gdK 101 = true := by decide +kernel
theorem gH_101 : gdH 101 = true := gH_of rfl (by decide +kernel)
theorem gK_102 : gdK 102 = true := by decide +kernel
theorem gH_102 : gdH 102 = true := gH_of rfl (by decide +kernel)
theorem gK_103 : gdK 103 = true := by decide +kernel
theorem gH_103 : gdH 103 = true := gH_of rfl (by decide +kernel)
theorem gK_104 : gdK 104 = true := by decide +kernel
theorem gH_104 : gdH 104 = true := gH_of rfl (by decide +kernel)
theorem gK_105 : gdK 105 = true := by decide +kernel
theorem gH_105 : gdH 105 = true := gH_of rfl (by decide +kernel)
theorem gK_106 : gdK 106 = true := by decide +kernel
theorem gH_106 : gdH 106 = true := gH_of rfl (by decide +kernel)
theorem gK_107 : gdK 107 = true := by decide +kernel
theorem gH_107 : gdH 107 = true := gH_of rfl (by decide +kernel)
theorem gK_108 : gdK 108 = true := by decide +kernel
theorem gH_108 : gdH 108 = true := gH_of rfl (by decide +kernel)
theorem gK_109 : gdK 109 = true := by decide +kernel
theorem gH_109 : gdH 109 = true := gH_of rfl (by decide +kernel)
theorem gK_110 : gdK 110 = true := by decide +kernel
theorem gH_110 : gdH 110 = true := gH_of rfl (by decide +kernel)
theorem gK_111 : gdK 111 = true := by decide +kernel
theorem gH_111 : gdH 111 = true := gH_of rfl (by decide +kernel)
theorem gK_112 : gdK 112 = true := by decide +kernel
theorem gH_112 : gdH 112 = true := gH_of rfl (by decide +kernel)
theorem gK_113 : gdK 113 = true := by decide +kernel
theorem gH_113 : gdH 113 = true := gH_of rfl (by decide +kernel)
theorem gK_114 : gdK 114 = true := by decide +kernel
theorem gH_114 : gdH 114 = true := gH_of rfl (by decide +kernel)
theorem gK_115 : gdK 115 = true := by decide +kernel
theorem gH_115 : gdH 115 = true := gH_of rfl (by decide +kernel)
theorem gK_116 : gdK 116 = true := by decide +kernel
theorem gH_116 : gdH 116 = true := gH_of rfl (by decide +kernel)
theorem gK_117 : gdK 117 = true := by decide +kernel
theorem gH_117 : gdH 117 = true := gH_of rfl (by decide +kernel)
theorem gK_118 : gdK 118 = true := by decide +kernel
theorem gH_118 : gdH 118 = true := gH_of rfl (by decide +kernel)
theorem gK_119 : gdK 119 = true := by decide +kernel
theorem gH_119 : gdH 119 = true := gH_of rfl (by decide +kernel)
theorem gK_120 : gdK 120 = true := by decide +kernel
theorem gH_120 : gdH 120 = true := gH_of rfl (by decide +kernel)
theorem gK_121 : gdK 121 = true := by decide +kernel
theorem gH_121 : gdH 121 = true := gH_of rfl (by decide +kernel)
theorem gK_122 : gdK 122 = true := by decide +kernel
theorem gH_122 : gdH 122 = true := gH_of rfl (by decide +kernel)
theorem gK_123 : gdK 123 = true := by decide +kernel
theorem gH_123 : gdH 123 = true := gH_of rfl (by decide +kernel)
theorem gK_124 : gdK 124 = true := by decide +kernel
theorem gH_124 : gdH 124 = true := gH_of rfl (by decide +kernel)
theorem gK_125 : gdK 125 = true := by decide +kernel
theorem gH_125 : gdH 125 = true := gH_of rfl (by decide +kernel)
theorem gK_126 : gdK 126 = true := by decide +kernel
theorem gH_126 : gdH 126 = true := gH_of rfl (by decide +kernel)
theorem gK_127 : gdK 127 = true := by decide +kernel
theorem gH_127 : gdH 127 = true := gH_of rfl (by decide +kernel)
theorem gK_128 : gdK 128 = true := by decide +kernel
theorem gH_128 : gdH 128 = true := gH_of rfl (by decide +kernel)
theorem gK_129 : gdK 129 = true := by decide +kernel
theorem gH_129 : gdH 129 = true := gH_of rfl (by decide +kernel)
theorem gK_130 : gdK 130 = true := by decide +kernel
theorem gH_130 : gdH 130 = true := gH_of rfl (by decide +kernel)
theorem gK_131 : gdK 131 = true := by decide +kernel
theorem gH_131 : gdH 131 = true := gH_of rfl (by decide +kernel)
theorem gK_132 : gdK 132 = true := by decide +kernel
theorem gH_132 : gdH 132 = true := gH_of rfl (by decide +kernel)
theorem gK_133 : gdK 133 = true := by decide +kernel
theorem gH_133 : gdH 133 = true := gH_of rfl (by decide +kernel)
theorem gK_134 : gdK 134 = true := by decide +kernel
theorem gH_134 : gdH 134 = true := gH_of rfl (by decide +kernel)
theorem gK_135 : gdK 135 = true := by decide +kernel
theorem gH_135 : gdH 135 = true := gH_of rfl (by decide +kernel)
theorem gK_136 : gdK 136 = true := by decide +kernel
theorem gH_136 : gdH 136 = true := gH_of rfl (by decide +kernel)
theorem gK_137 : gdK 137 = true := by decide +kernel
theorem gH_137 : gdH 137 = true := gH_of rfl (by decide +kernel)
theorem gK_138 : gdK 138 = true := by decide +kernel
theorem gH_138 : gdH 138 = true := gH_of rfl (by decide +kernel)
theorem gK_139 : gdK 139 = true := by decide +kernel
theorem gH_139 : gdH 139 = true := gH_of rfl (by decide +kernel)
theorem gK_140 : gdK 140 = true := by decide +kernel
theorem gH_140 : gdH 140 = true := gH_of rfl (by decide +kernel)
theorem gK_141 : gdK 141 = true := by decide +kernel
theorem gH_141 : gdH 141 = true := gH_of rfl (by decide +kernel)
theorem gK_142 : gdK 142 = true := by decide +kernel
theorem gH_142 : gdH 142 = true := gH_of rfl (by decide +kernel)
theorem gK_143 : gdK 143 = true := by decide +kernel
theorem gH_143 : gdH 143 = true := gH_of rfl (by decide +kernel)
end
section
/-! ===== the methods (written by wip/tools/checks.py) ===== -/
theorem gK_144 : gdK 144 = true := by decide +kernel
theorem gH_144 : gdH 144 = true := gH_of rfl (by decide +kernel)
theorem gK_145 : gdK 145 = true := by decide +kernel
theorem gH_145 : gdH 145 = true := gH_of rfl (by decide +kernel)
theorem gK_146 : gdK 146 = true := by decide +kernel
theorem gH_146 : gdH 146 = true := gH_of rfl (by decide +kernel)
theorem gK_147 : gdK 147 = true := by decide +kernel
theorem gH_147 : gdH 147 = true := gH_of rfl (by decide +kernel)
theorem gK_148 : gdK 148 = true := by decide +kernel
theorem gH_148 : gdH 148 = true := gH_of rfl (by decide +kernel)
theorem gK_149 : gdK 149 = true := by decide +kernel
theorem gH_149 : gdH 149 = true := gH_of rfl (by decide +kernel)
theorem gK_150 : gdK 150 = true := by decide +kernel
theorem gH_150 : gdH 150 = true := gH_of rfl (by decide +kernel)
theorem gK_151 : gdK 151 = true := by decide +kernel
theorem gH_151 : gdH 151 = true := gH_of rfl (by decide +kernel)
theorem gK_152 : gdK 152 = true := by decide +kernel
theorem gH_152 : gdH 152 = true := gH_of rfl (by decide +kernel)
theorem gK_153 : gdK 153 = true := by decide +kernel
theorem gH_153 : gdH 153 = true := gH_of rfl (by decide +kernel)
theorem gK_154 : gdK 154 = true := by decide +kernel
theorem gH_154 : gdH 154 = true := gH_of rfl (by decide +kernel)
theorem gK_155 : gdK 155 = true := by decide +kernel
theorem gH_155 : gdH 155 = true := gH_of rfl (by decide +kernel)
theorem gK_156 : gdK 156 = true := by decide +kernel
theorem gH_156 : gdH 156 = true := gH_of rfl (by decide +kernel)
theorem gK_157 : gdK 157 = true := by decide +kernel
theorem gH_157 : gdH 157 = true := gH_of rfl (by decide +kernel)
theorem gK_158 : gdK 158 = true := by decide +kernel
theorem gH_158 : gdH 158 = true := gH_of rfl (by decide +kernel)
theorem gK_159 : gdK 159 = true := by decide +kernel
theorem gH_159 : gdH 159 = true := gH_of rfl (by decide +kernel)
theorem gK_160 : gdK 160 = true := by decide +kernel
theorem gH_160 : gdH 160 = true := gH_of rfl (by decide +kernel)
theorem gK_161 : gdK 161 = true := by decide +kernel
theorem gH_161 : gdH 161 = true := gH_of rfl (by decide +kernel)
theorem gK_162 : gdK 162 = true := by decide +kernel
theorem gH_162 : gdH 162 = true := gH_of rfl (by decide +kernel)
theorem gK_163 : gdK 163 = true := by decide +kernel
theorem gH_163 : gdH 163 = true := gH_of rfl (by decide +kernel)
theorem gK_164 : gdK 164 = true := by decide +kernel
theorem gH_164 : gdH 164 = true := gH_of rfl (by decide +kernel)
theorem gK_165 : gdK 165 = true := by decide +kernel
theorem gH_165 : gdH 165 = true := gH_of rfl (by decide +kernel)
theorem gK_166 : gdK 166 = true := by decide +kernel
theorem gH_166 : gdH 166 = true := gH_of rfl (by decide +kernel)
theorem gK_167 : gdK 167 = true := by decide +kernel
theorem gH_167 : gdH 167 = true := gH_of rfl (by decide +kernel)
theorem gK_168 : gdK 168 = true := by decide +kernel
theorem gH_168 : gdH 168 = true := gH_of rfl (by decide +kernel)
theorem gK_169 : gdK 169 = true := by decide +kernel
theorem gH_169 : gdH 169 = true := gH_of rfl (by decide +kernel)
theorem gK_170 : gdK 170 = true := by decide +kernel
theorem gH_170 : gdH 170 = true := gH_of rfl (by decide +kernel)
theorem gK_171 : gdK 171 = true := by decide +kernel
theorem gH_171 : gdH 171 = true := gH_of rfl (by decide +kernel)
theorem gK_172 : gdK 172 = true := by decide +kernel
theorem gH_172 : gdH 172 = true := gH_of rfl (by decide +kernel)
theorem gK_173 : gdK 173 = true := by decide +kernel
theorem gH_173 : gdH 173 = true := gH_of rfl (by decide +kernel)
theorem gK_174 : gdK 174 = true := by decide +kernel
theorem gH_174 : gdH 174 = true := gH_of rfl (by decide +kernel)
theorem gK_175 : gdK 175 = true := by decide +kernel
theorem gH_175 : gdH 175 = true := gH_of rfl (by decide +kernel)
theorem gK_176 : gdK 176 = true := by decide +kernel
theorem gH_176 : gdH 176 = true := gH_of rfl (by decide +kernel)
theorem gK_177 : gdK 177 = true := by decide +kernel
theorem gH_177 : gdH 177 = true := gH_of rfl (by decide +kernel)
theorem gK_178 : gdK 178 = true := by decide +kernel
theorem gH_178 : gdH 178 = true := gH_of rfl (by decide +kernel)
theorem gK_179 : gdK 179 = true := by decide +kernel
theorem gH_179 : gdH 179 = true := gH_of rfl (by decide +kernel)
theorem gK_180 : gdK 180 = true := by decide +kernel
theorem gH_180 : gdH 180 = true := gH_of rfl (by decide +kernel)
theorem gK_181 : gdK 181 = true := by decide +kernel
theorem gH_181 : gdH 181 = true := gH_of rfl (by decide +kernel)
theorem gK_183 : gdK 183 = true := by decide +kernel
theorem gH_183 : gdH 183 = true := gH_of rfl (by decide +kernel)
theorem gK_184 : gdK 184 = true := by decide +kernel
theorem gH_184 : gdH 184 = true := gH_of rfl (by decide +kernel)
theorem gK_185 : gdK 185 = true := by decide +kernel
theorem gH_185 : gdH 185 = true := gH_of rfl (by decide +kernel)
theorem gK_186 : gdK 186 = true := by decide +kernel
theorem gH_186 : gdH 186 = true := gH_of rfl (by decide +kernel)
theorem gK_187 : gdK 187 = true := by decide +kernel
theorem gH_187 : gdH 187 = true := gH_of rfl (by decide +kernel)
theorem gK_188 : gdK 188 = true := by decide +kernel
theorem gH_188 : gdH 188 = true := gH_of rfl (by decide +kernel)
theorem gK_189 : gdK 189 = true := by decide +kernel
theorem gH_189 : gdH 189 = true := gH_of rfl (by decide +kernel)
theorem gK_190 : gdK 190 = true := by decide +kernel
theorem gH_190 : gdH 190 = true := gH_of rfl (by decide +kernel)
theorem gK_191 : gdK 191 = true := by decide +kernel
theorem gH_191 : gdH 191 = true := gH_of rfl (by decide +kernel)
theorem gK_192 : gdK 192 = true := by decide +kernel
theorem gH_192 : gdH 192 = true := gH_of rfl (by decide +kernel)
end
section
/-! ===== the methods (written by wip/tools/checks.py) ===== -/
theorem gK_193 : gdK 193 = true := by decide +kernel
theorem gH_193 : gdH 193 = true := gH_of rfl (by decide +kernel)
theorem gK_194 : gdK 194 = true := by decide +kernel
theorem gH_194 : gdH 194 = true := gH_of rfl (by decide +kernel)
theorem gK_195 : gdK 195 = true := by decide +kernel
theorem gH_195 : gdH 195 = true := gH_of rfl (by decide +kernel)
theorem gK_196 : gdK 196 = true := by decide +kernel
theorem gH_196 : gdH 196 = true := gH_of rfl (by decide +kernel)
theorem gK_197 : gdK 197 = true := by decide +kernel
theorem gH_197 : gdH 197 = true := gH_of rfl (by decide +kernel)
theorem gK_198 : gdK 198 = true := by decide +kernel
theorem gH_198 : gdH 198 = true := gH_of rfl (by decide +kernel)
theorem gK_199 : gdK 199 = true := by decide +kernel
theorem gH_199 : gdH 199 = true := gH_of rfl (by decide +kernel)
theorem gK_200 : gdK 200 = true := by decide +kernel
theorem gH_200 : gdH 200 = true := gH_of rfl (by decide +kernel)
theorem gK_201 : gdK 201 = true := by decide +kernel
theorem gH_201 : gdH 201 = true := gH_of rfl (by decide +kernel)
theorem gK_202 : gdK 202 = true := by decide +kernel
theorem gH_202 : gdH 202 = true := gH_of rfl (by decide +kernel)
theorem gK_203 : gdK 203 = true := by decide +kernel
theorem gH_203 : gdH 203 = true := gH_of rfl (by decide +kernel)
theorem gK_204 : gdK 204 = true := by decide +kernel
theorem gH_204 : gdH 204 = true := gH_of rfl (by decide +kernel)
theorem gK_205 : gdK 205 = true := by decide +kernel
theorem gH_205 : gdH 205 = true := gH_of rfl (by decide +kernel)
theorem gK_206 : gdK 206 = true := by decide +kernel
theorem gH_206 : gdH 206 = true := gH_of rfl (by decide +kernel)
theorem gK_207 : gdK 207 = true := by decide +kernel
theorem gH_207 : gdH 207 = true := gH_of rfl (by decide +kernel)
theorem gK_208 : gdK 208 = true := by decide +kernel
theorem gH_208 : gdH 208 = true := gH_of rfl (by decide +kernel)
theorem gK_209 : gdK 209 = true := by decide +kernel
theorem gH_209 : gdH 209 = true := gH_of rfl (by decide +kernel)
theorem gK_210 : gdK 210 = true := by decide +kernel
theorem gH_210 : gdH 210 = true := gH_of rfl (by decide +kernel)
theorem gK_211 : gdK 211 = true := by decide +kernel
theorem gH_211 : gdH 211 = true := gH_of rfl (by decide +kernel)
theorem gK_212 : gdK 212 = true := by decide +kernel
theorem gH_212 : gdH 212 = true := gH_of rfl (by decide +kernel)
theorem gK_213 : gdK 213 = true := by decide +kernel
theorem gH_213 : gdH 213 = true := gH_of rfl (by decide +kernel)
theorem gK_214 : gdK 214 = true := by decide +kernel
theorem gH_214 : gdH 214 = true := gH_of rfl (by decide +kernel)
theorem gK_215 : gdK 215 = true := by decide +kernel
theorem gH_215 : gdH 215 = true := gH_of rfl (by decide +kernel)
theorem gK_216 : gdK 216 = true := by decide +kernel
theorem gH_216 : gdH 216 = true := gH_of rfl (by decide +kernel)
theorem gK_217 : gdK 217 = true := by decide +kernel
theorem gH_217 : gdH 217 = true := gH_of rfl (by decide +kernel)
theorem gK_218 : gdK 218 = true := by decide +kernel
theorem gH_218 : gdH 218 = true := gH_of rfl (by decide +kernel)
theorem gK_219 : gdK 219 = true := by decide +kernel
theorem gH_219 : gdH 219 = true := gH_of rfl (by decide +kernel)
theorem gK_220 : gdK 220 = true := by decide +kernel
theorem gH_220 : gdH 220 = true := gH_of rfl (by decide +kernel)
theorem gK_221 : gdK 221 = true := by decide +kernel
theorem gH_221 : gdH 221 = true := gH_of rfl (by decide +kernel)
theorem gK_222 : gdK 222 = true := by decide +kernel
theorem gH_222 : gdH 222 = true := gH_of rfl (by decide +kernel)
theorem gK_223 : gdK 223 = true := by decide +kernel
theorem gH_223 : gdH 223 = true := gH_of rfl (by decide +kernel)
theorem gK_224 : gdK 224 = true := by decide +kernel
theorem gH_224 : gdH 224 = true := gH_of rfl (by decide +kernel)
theorem gK_225 : gdK 225 = true := by decide +kernel
theorem gH_225 : gdH 225 = true := gH_of rfl (by decide +kernel)
theorem gK_226 : gdK 226 = true := by decide +kernel
theorem gH_226 : gdH 226 = true := gH_of rfl (by decide +kernel)
theorem gK_227 : gdK 227 = true := by decide +kernel
theorem gH_227 : gdH 227 = true := gH_of rfl (by decide +kernel)
theorem gK_228 : gdK 228 = true := by decide +kernel
theorem gH_228 : gdH 228 = true := gH_of rfl (by decide +kernel)
theorem gK_229 : gdK 229 = true := by decide +kernel
theorem gH_229 : gdH 229 = true := gH_of rfl (by decide +kernel)
theorem gK_230 : gdK 230 = true := by decide +kernel
theorem gH_230 : gdH 230 = true := gH_of rfl (by decide +kernel)
theorem gK_231 : gdK 231 = true := by decide +kernel
theorem gH_231 : gdH 231 = true := gH_of rfl (by decide +kernel)
theorem gK_232 : gdK 232 = true := by decide +kernel
theorem gH_232 : gdH 232 = true := gH_of rfl (by decide +kernel)
theorem gK_233 : gdK 233 = true := by decide +kernel
theorem gH_233 : gdH 233 = true := gH_of rfl (by decide +kernel)
theorem gK_234 : gdK 234 = true := by decide +kernel
theorem gH_234 : gdH 234 = true := gH_of rfl (by decide +kernel)
theorem gK_235 : gdK 235 = true := by decide +kernel
theorem gH_235 : gdH 235 = true := gH_of rfl (by decide +kernel)
theorem gK_236 : gdK 236 = true := by decide +kernel
theorem gH_236 : gdH 236 = true := gH_of rfl (by decide +kernel)
theorem gK_237 : gdK 237 = true := by decide +kernel
theorem gH_237 : gdH 237 = true := gH_of rfl (by decide +kernel)
theorem gK_238 : gdK 238 = true := by decide +kernel
theorem gH_238 : gdH 238 = true := gH_of rfl (by decide +kernel)
theorem gK_239 : gdK 239 = true := by decide +kernel
theorem gH_239 : gdH 239 = true := gH_of rfl (by decide +kernel)
theorem gK_240 : gdK 240 = true := by decide +kernel
theorem gH_240 : gdH 240 = true := gH_of rfl (by decide +kernel)
end
