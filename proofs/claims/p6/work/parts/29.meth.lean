/-! ===== the methods (written by wip/tools/checks.py) ===== -/
theorem gK_96 : gdK 96 = true := by decide +kernel
theorem gH_96 : gdH 96 = true := gH_of rfl (by decide +kernel)
theorem gK_97 : gdK 97 = true := by decide +kernel
theorem gH_97 : gdH 97 = true := gH_of rfl (by decide +kernel)
theorem gK_98 : gdK 98 = true := by decide +kernel
theorem gH_98 : gdH 98 = true := gH_of rfl (by decide +kernel)
theorem gK_99 : gdK 99 = true := by decide +kernel
theorem gH_99 : gdH 99 = true := gH_of rfl (by decide +kernel)
theorem gK_100 : gdK 100 = true := by decide +kernel
theorem gH_100 : gdH 100 = true := gH_of rfl (by decide +kernel)
theorem gK_101 : gdK 101 = true := by decide +kernel
theorem gH_101 : gdH 101 = true := gH_of rfl (by decide +kernel)
theorem gK_102 : gdK 102 = true := by decide +kernel
theorem gH_102 : gdH 102 = true := gH_of rfl (by decide +kernel)
theorem gK_103 : gdK 103 = true := by decide +kernel
theorem gH_103 : gdH 103 = true := gH_of rfl (by decide +kernel)
theorem gK_104 : gdK 104 = true := by decide +kernel
theorem gH_104 : gdH 104 = true := gH_of rfl (by decide +kernel)
theorem gK_105 : gdK 105 = true := by decide +kernel
theorem gH_105 : gdH 105 = true := gH_of rfl (by decide +kernel)
theorem gK_106 : gdK 106 = true := by decide +kernel
theorem gH_106 : gdH 106 = true := gH_of rfl (by decide +kernel)
theorem gK_107 : gdK 107 = true := by decide +kernel
theorem gH_107 : gdH 107 = true := gH_of rfl (by decide +kernel)
theorem gK_108 : gdK 108 = true := by decide +kernel
theorem gH_108 : gdH 108 = true := gH_of rfl (by decide +kernel)
theorem gK_109 : gdK 109 = true := by decide +kernel
theorem gH_109 : gdH 109 = true := gH_of rfl (by decide +kernel)
theorem gK_110 : gdK 110 = true := by decide +kernel
theorem gH_110 : gdH 110 = true := gH_of rfl (by decide +kernel)
theorem gK_111 : gdK 111 = true := by decide +kernel
theorem gH_111 : gdH 111 = true := gH_of rfl (by decide +kernel)
theorem gK_112 : gdK 112 = true := by decide +kernel
theorem gH_112 : gdH 112 = true := gH_of rfl (by decide +kernel)
theorem gK_113 : gdK 113 = true := by decide +kernel
theorem gH_113 : gdH 113 = true := gH_of rfl (by decide +kernel)
theorem gK_114 : gdK 114 = true := by decide +kernel
theorem gH_114 : gdH 114 = true := gH_of rfl (by decide +kernel)
theorem gK_115 : gdK 115 = true := by decide +kernel
theorem gH_115 : gdH 115 = true := gH_of rfl (by decide +kernel)
theorem gK_116 : gdK 116 = true := by decide +kernel
theorem gH_116 : gdH 116 = true := gH_of rfl (by decide +kernel)
theorem gK_117 : gdK 117 = true := by decide +kernel
theorem gH_117 : gdH 117 = true := gH_of rfl (by decide +kernel)
theorem gK_118 : gdK 118 = true := by decide +kernel
theorem gH_118 : gdH 118 = true := gH_of rfl (by decide +kernel)
theorem gK_119 : gdK 119 = true := by decide +kernel
theorem gH_119 : gdH 119 = true := gH_of rfl (by decide +kernel)
theorem gK_120 : gdK 120 = true := by decide +kernel
theorem gH_120 : gdH 120 = true := gH_of rfl (by decide +kernel)
theorem gK_121 : gdK 121 = true := by decide +kernel
theorem gH_121 : gdH 121 = true := gH_of rfl (by decide +kernel)
theorem gK_122 : gdK 122 = true := by decide +kernel
theorem gH_122 : gdH 122 = true := gH_of rfl (by decide +kernel)
theorem gK_123 : gdK 123 = true := by decide +kernel
theorem gH_123 : gdH 123 = true := gH_of rfl (by decide +kernel)
theorem gK_124 : gdK 124 = true := by decide +kernel
theorem gH_124 : gdH 124 = true := gH_of rfl (by decide +kernel)
theorem gK_125 : gdK 125 = true := by decide +kernel
theorem gH_125 : gdH 125 = true := gH_of rfl (by decide +kernel)
theorem gK_126 : gdK 126 = true := by decide +kernel
theorem gH_126 : gdH 126 = true := gH_of rfl (by decide +kernel)
theorem gK_127 : gdK 127 = true := by decide +kernel
theorem gH_127 : gdH 127 = true := gH_of rfl (by decide +kernel)
theorem gK_128 : gdK 128 = true := by decide +kernel
theorem gH_128 : gdH 128 = true := gH_of rfl (by decide +kernel)
theorem gK_129 : gdK 129 = true := by decide +kernel
theorem gH_129 : gdH 129 = true := gH_of rfl (by decide +kernel)
theorem gK_130 : gdK 130 = true := by decide +kernel
theorem gH_130 : gdH 130 = true := gH_of rfl (by decide +kernel)
theorem gK_131 : gdK 131 = true := by decide +kernel
theorem gH_131 : gdH 131 = true := gH_of rfl (by decide +kernel)
theorem gK_132 : gdK 132 = true := by decide +kernel
theorem gH_132 : gdH 132 = true := gH_of rfl (by decide +kernel)
theorem gK_133 : gdK 133 = true := by decide +kernel
theorem gH_133 : gdH 133 = true := gH_of rfl (by decide +kernel)
theorem gK_134 : gdK 134 = true := by decide +kernel
theorem gH_134 : gdH 134 = true := gH_of rfl (by decide +kernel)
theorem gK_135 : gdK 135 = true := by decide +kernel
theorem gH_135 : gdH 135 = true := gH_of rfl (by decide +kernel)
theorem gK_136 : gdK 136 = true := by decide +kernel
theorem gH_136 : gdH 136 = true := gH_of rfl (by decide +kernel)
theorem gK_137 : gdK 137 = true := by decide +kernel
theorem gH_137 : gdH 137 = true := gH_of rfl (by decide +kernel)
theorem gK_138 : gdK 138 = true := by decide +kernel
theorem gH_138 : gdH 138 = true := gH_of rfl (by decide +kernel)
theorem gK_139 : gdK 139 = true := by decide +kernel
theorem gH_139 : gdH 139 = true := gH_of rfl (by decide +kernel)
theorem gK_140 : gdK 140 = true := by decide +kernel
theorem gH_140 : gdH 140 = true := gH_of rfl (by decide +kernel)
theorem gK_141 : gdK 141 = true := by decide +kernel
theorem gH_141 : gdH 141 = true := gH_of rfl (by decide +kernel)
theorem gK_142 : gdK 142 = true := by decide +kernel
theorem gH_142 : gdH 142 = true := gH_of rfl (by decide +kernel)
theorem gK_143 : gdK 143 = true := by decide +kernel
theorem gH_143 : gdH 143 = true := gH_of rfl (by decide +kernel)
