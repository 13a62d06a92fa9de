/-! checked by the kernel, part 2 -/
set_option maxRecDepth 10000000 in
theorem ck_120 : ty_kok ty_h (ty_ex 1 6) 184 kc_120 = true := by decide +kernel
set_option maxRecDepth 10000000 in
theorem ck_121 : ty_kok ty_h (ty_ex 1 6) 184 kc_121 = true := by decide +kernel
set_option maxRecDepth 10000000 in
theorem ck_122 : ty_kok ty_h (ty_ex 1 6) 184 kc_122 = true := by decide +kernel
set_option maxRecDepth 10000000 in
theorem ck_123 : ty_kok ty_h (ty_ex 1 6) 184 kc_123 = true := by decide +kernel
set_option maxRecDepth 10000000 in
theorem ck_124 : ty_kok ty_h (ty_ex 1 6) 206 kc_124 = true := by decide +kernel
set_option maxRecDepth 10000000 in
theorem ck_125 : ty_kok ty_h (ty_ex 1 6) 206 kc_125 = true := by decide +kernel
set_option maxRecDepth 10000000 in
theorem ck_126 : ty_kok ty_h (ty_ex 1 6) 206 kc_126 = true := by decide +kernel
set_option maxRecDepth 10000000 in
theorem ck_127 : ty_kok ty_h (ty_ex 1 6) 206 kc_127 = true := by decide +kernel
set_option maxRecDepth 10000000 in
theorem ck_128 : ty_kok ty_h (ty_ex 1 6) 206 kc_128 = true := by decide +kernel
set_option maxRecDepth 10000000 in
theorem ck_129 : ty_kok ty_h (ty_ex 1 6) 206 kc_129 = true := by decide +kernel
set_option maxRecDepth 10000000 in
theorem ck_130 : ty_kok ty_h (ty_ex 1 6) 206 kc_130 = true := by decide +kernel
set_option maxRecDepth 10000000 in
theorem ck_131 : ty_kok ty_h (ty_ex 1 6) 206 kc_131 = true := by decide +kernel
set_option maxRecDepth 10000000 in
theorem ck_132 : ty_kok ty_h (ty_ex 1 6) 206 kc_132 = true := by decide +kernel
set_option maxRecDepth 10000000 in
theorem ck_133 : ty_kok ty_h (ty_ex 1 6) 206 kc_133 = true := by decide +kernel
set_option maxRecDepth 10000000 in
theorem ck_134 : ty_kok ty_h (ty_ex 1 6) 206 kc_134 = true := by decide +kernel
set_option maxRecDepth 10000000 in
theorem ck_135 : ty_kok ty_h (ty_ex 1 6) 206 kc_135 = true := by decide +kernel
set_option maxRecDepth 10000000 in
theorem ck_136 : ty_kok ty_h (ty_ex 1 6) 206 kc_136 = true := by decide +kernel
set_option maxRecDepth 10000000 in
theorem ck_137 : ty_kok ty_h (ty_ex 1 6) 206 kc_137 = true := by decide +kernel
set_option maxRecDepth 10000000 in
theorem ck_138 : ty_kok ty_h (ty_ex 1 6) 206 kc_138 = true := by decide +kernel
set_option maxRecDepth 10000000 in
theorem ck_139 : ty_kok ty_h (ty_ex 1 6) 206 kc_139 = true := by decide +kernel
set_option maxRecDepth 10000000 in
theorem ck_140 : ty_kok ty_h (ty_ex 1 6) 206 kc_140 = true := by decide +kernel
set_option maxRecDepth 10000000 in
theorem ck_141 : ty_kok ty_h (ty_ex 1 6) 206 kc_141 = true := by decide +kernel
set_option maxRecDepth 10000000 in
theorem ck_142 : ty_kok ty_h (ty_ex 1 6) 206 kc_142 = true := by decide +kernel
set_option maxRecDepth 10000000 in
theorem ck_143 : ty_kok ty_h (ty_ex 1 6) 206 kc_143 = true := by decide +kernel
set_option maxRecDepth 10000000 in
theorem ck_144 : ty_kok ty_h (ty_ex 1 6) 206 kc_144 = true := by decide +kernel
set_option maxRecDepth 10000000 in
theorem ck_145 : ty_kok ty_h (ty_ex 1 6) 206 kc_145 = true := by decide +kernel
set_option maxRecDepth 10000000 in
theorem ck_146 : ty_kok ty_h (ty_ex 1 6) 206 kc_146 = true := by decide +kernel
set_option maxRecDepth 10000000 in
theorem ck_147 : ty_kok ty_h (ty_ex 1 6) 206 kc_147 = true := by decide +kernel
set_option maxRecDepth 10000000 in
theorem ck_148 : ty_kok ty_h (ty_ex 1 6) 206 kc_148 = true := by decide +kernel
set_option maxRecDepth 10000000 in
theorem ck_149 : ty_kok ty_h (ty_ex 1 6) 206 kc_149 = true := by decide +kernel
set_option maxRecDepth 10000000 in
theorem ck_150 : ty_kok ty_h (ty_ex 1 6) 206 kc_150 = true := by decide +kernel
set_option maxRecDepth 10000000 in
theorem ck_151 : ty_kok ty_h (ty_ex 1 6) 206 kc_151 = true := by decide +kernel
set_option maxRecDepth 10000000 in
theorem ck_152 : ty_kok ty_h (ty_ex 1 6) 206 kc_152 = true := by decide +kernel
set_option maxRecDepth 10000000 in
theorem ck_153 : ty_kok ty_h (ty_ex 1 6) 206 kc_153 = true := by decide +kernel
set_option maxRecDepth 10000000 in
theorem ck_154 : ty_kok ty_h (ty_ex 1 6) 206 kc_154 = true := by decide +kernel
set_option maxRecDepth 10000000 in
theorem ck_155 : ty_kok ty_h (ty_ex 1 6) 206 kc_155 = true := by decide +kernel
set_option maxRecDepth 10000000 in
theorem ck_156 : ty_kok ty_h (ty_ex 1 6) 206 kc_156 = true := by decide +kernel
set_option maxRecDepth 10000000 in
theorem ck_157 : ty_kok ty_h (ty_ex 1 6) 206 kc_157 = true := by decide +kernel
set_option maxRecDepth 10000000 in
theorem ck_158 : ty_kok ty_h (ty_ex 1 6) 206 kc_158 = true := by decide +kernel
set_option maxRecDepth 10000000 in
theorem ck_159 : ty_kok ty_h (ty_ex 1 6) 206 kc_159 = true := by decide +kernel
set_option maxRecDepth 10000000 in
theorem ck_160 : ty_kok ty_h (ty_ex 1 6) 206 kc_160 = true := by decide +kernel
set_option maxRecDepth 10000000 in
theorem ck_161 : ty_kok ty_h (ty_ex 1 6) 206 kc_161 = true := by decide +kernel
set_option maxRecDepth 10000000 in
theorem ck_162 : ty_kok ty_h (ty_ex 1 6) 206 kc_162 = true := by decide +kernel
set_option maxRecDepth 10000000 in
theorem ck_163 : ty_kok ty_h (ty_ex 1 6) 206 kc_163 = true := by decide +kernel
set_option maxRecDepth 10000000 in
theorem ck_164 : ty_kok ty_h (ty_ex 2 6) 183 kc_164 = true := by decide +kernel
set_option maxRecDepth 10000000 in
theorem ck_165 : ty_kok ty_h (ty_ex 2 6) 183 kc_165 = true := by decide +kernel
set_option maxRecDepth 10000000 in
theorem ck_166 : ty_kok ty_h (ty_ex 2 6) 183 kc_166 = true := by decide +kernel
set_option maxRecDepth 10000000 in
theorem ck_167 : ty_kok ty_h (ty_ex 2 6) 183 kc_167 = true := by decide +kernel
set_option maxRecDepth 10000000 in
theorem ck_168 : ty_kok ty_h (ty_ex 2 6) 183 kc_168 = true := by decide +kernel
set_option maxRecDepth 10000000 in
theorem ck_169 : ty_kok ty_h (ty_ex 2 6) 183 kc_169 = true := by decide +kernel
set_option maxRecDepth 10000000 in
theorem ck_170 : ty_kok ty_h (ty_ex 2 6) 183 kc_170 = true := by decide +kernel
set_option maxRecDepth 10000000 in
theorem ck_171 : ty_kok ty_h (ty_ex 2 6) 183 kc_171 = true := by decide +kernel
set_option maxRecDepth 10000000 in
theorem ck_172 : ty_kok ty_h (ty_ex 2 6) 183 kc_172 = true := by decide +kernel
set_option maxRecDepth 10000000 in
theorem ck_173 : ty_kok ty_h (ty_ex 2 6) 183 kc_173 = true := by decide +kernel
set_option maxRecDepth 10000000 in
theorem ck_174 : ty_kok ty_h (ty_ex 2 6) 183 kc_174 = true := by decide +kernel
set_option maxRecDepth 10000000 in
theorem ck_175 : ty_kok ty_h (ty_ex 2 6) 183 kc_175 = true := by decide +kernel
set_option maxRecDepth 10000000 in
theorem ck_176 : ty_kok ty_h (ty_ex 2 6) 183 kc_176 = true := by decide +kernel
set_option maxRecDepth 10000000 in
theorem ck_177 : ty_kok ty_h (ty_ex 2 6) 183 kc_177 = true := by decide +kernel
set_option maxRecDepth 10000000 in
theorem ck_178 : ty_kok ty_h (ty_ex 2 6) 183 kc_178 = true := by decide +kernel
set_option maxRecDepth 10000000 in
theorem ck_179 : ty_kok ty_h (ty_ex 2 6) 183 kc_179 = true := by decide +kernel
