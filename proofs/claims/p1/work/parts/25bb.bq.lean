/-! the blocks are what s_cmp makes of the data: method by method -/
set_option maxRecDepth 100000 in
theorem bq_110 : bm_110 = s_bks 110 bc_110 := rfl
set_option maxRecDepth 100000 in
theorem bq_111 : bm_111 = s_bks 111 bc_111 := rfl
set_option maxRecDepth 100000 in
theorem bq_112 : bm_112 = s_bks 112 bc_112 := rfl
set_option maxRecDepth 100000 in
theorem bq_113 : bm_113 = s_bks 113 bc_113 := rfl
set_option maxRecDepth 100000 in
theorem bq_114 : bm_114 = s_bks 114 bc_114 := rfl
set_option maxRecDepth 100000 in
theorem bq_115 : bm_115 = s_bks 115 bc_115 := rfl
set_option maxRecDepth 100000 in
theorem bq_116 : bm_116 = s_bks 116 bc_116 := rfl
set_option maxRecDepth 100000 in
theorem bq_117 : bm_117 = s_bks 117 bc_117 := rfl
set_option maxRecDepth 100000 in
theorem bq_118 : bm_118 = s_bks 118 bc_118 := rfl
set_option maxRecDepth 100000 in
theorem bq_119 : bm_119 = s_bks 119 bc_119 := rfl
set_option maxRecDepth 100000 in
theorem bq_120 : bm_120 = s_bks 120 bc_120 := rfl
set_option maxRecDepth 100000 in
theorem bq_121 : bm_121 = s_bks 121 bc_121 := rfl
set_option maxRecDepth 100000 in
theorem bq_122 : bm_122 = s_bks 122 bc_122 := rfl
set_option maxRecDepth 100000 in
theorem bq_123 : bm_123 = s_bks 123 bc_123 := rfl
set_option maxRecDepth 100000 in
theorem bq_124 : bm_124 = s_bks 124 bc_124 := rfl
set_option maxRecDepth 100000 in
theorem bq_125 : bm_125 = s_bks 125 bc_125 := rfl
set_option maxRecDepth 100000 in
theorem bq_126 : bm_126 = s_bks 126 bc_126 := rfl
set_option maxRecDepth 100000 in
theorem bq_127 : bm_127 = s_bks 127 bc_127 := rfl
set_option maxRecDepth 100000 in
theorem bq_128 : bm_128 = s_bks 128 bc_128 := rfl
set_option maxRecDepth 100000 in
theorem bq_129 : bm_129 = s_bks 129 bc_129 := rfl
set_option maxRecDepth 100000 in
theorem bq_130 : bm_130 = s_bks 130 bc_130 := rfl
set_option maxRecDepth 100000 in
theorem bq_131 : bm_131 = s_bks 131 bc_131 := rfl
set_option maxRecDepth 100000 in
theorem bq_132 : bm_132 = s_bks 132 bc_132 := rfl
set_option maxRecDepth 100000 in
theorem bq_133 : bm_133 = s_bks 133 bc_133 := rfl
set_option maxRecDepth 100000 in
theorem bq_134 : bm_134 = s_bks 134 bc_134 := rfl
set_option maxRecDepth 100000 in
theorem bq_135 : bm_135 = s_bks 135 bc_135 := rfl
set_option maxRecDepth 100000 in
theorem bq_136 : bm_136 = s_bks 136 bc_136 := rfl
set_option maxRecDepth 100000 in
theorem bq_137 : bm_137 = s_bks 137 bc_137 := rfl
set_option maxRecDepth 100000 in
theorem bq_138 : bm_138 = s_bks 138 bc_138 := rfl
set_option maxRecDepth 100000 in
theorem bq_139 : bm_139 = s_bks 139 bc_139 := rfl
set_option maxRecDepth 100000 in
theorem bq_140 : bm_140 = s_bks 140 bc_140 := rfl
set_option maxRecDepth 100000 in
theorem bq_141 : bm_141 = s_bks 141 bc_141 := rfl
set_option maxRecDepth 100000 in
theorem bq_142 : bm_142 = s_bks 142 bc_142 := rfl
set_option maxRecDepth 100000 in
theorem bq_143 : bm_143 = s_bks 143 bc_143 := rfl
set_option maxRecDepth 100000 in
theorem bq_144 : bm_144 = s_bks 144 bc_144 := rfl
set_option maxRecDepth 100000 in
theorem bq_145 : bm_145 = s_bks 145 bc_145 := rfl
set_option maxRecDepth 100000 in
theorem bq_146 : bm_146 = s_bks 146 bc_146 := rfl
set_option maxRecDepth 100000 in
theorem bq_147 : bm_147 = s_bks 147 bc_147 := rfl
set_option maxRecDepth 100000 in
theorem bq_148 : bm_148 = s_bks 148 bc_148 := rfl
set_option maxRecDepth 100000 in
theorem bq_149 : bm_149 = s_bks 149 bc_149 := rfl
set_option maxRecDepth 100000 in
theorem bq_150 : bm_150 = s_bks 150 bc_150 := rfl
set_option maxRecDepth 100000 in
theorem bq_151 : bm_151 = s_bks 151 bc_151 := rfl
set_option maxRecDepth 100000 in
theorem bq_152 : bm_152 = s_bks 152 bc_152 := rfl
set_option maxRecDepth 100000 in
theorem bq_153 : bm_153 = s_bks 153 bc_153 := rfl
set_option maxRecDepth 100000 in
theorem bq_154 : bm_154 = s_bks 154 bc_154 := rfl
set_option maxRecDepth 100000 in
theorem bq_155 : bm_155 = s_bks 155 bc_155 := rfl
set_option maxRecDepth 100000 in
theorem bq_156 : bm_156 = s_bks 156 bc_156 := rfl
set_option maxRecDepth 100000 in
theorem bq_157 : bm_157 = s_bks 157 bc_157 := rfl
set_option maxRecDepth 100000 in
theorem bq_158 : bm_158 = s_bks 158 bc_158 := rfl
set_option maxRecDepth 100000 in
theorem bq_159 : bm_159 = s_bks 159 bc_159 := rfl
set_option maxRecDepth 100000 in
theorem bq_160 : bm_160 = s_bks 160 bc_160 := rfl
set_option maxRecDepth 100000 in
theorem bq_161 : bm_161 = s_bks 161 bc_161 := rfl
set_option maxRecDepth 100000 in
theorem bq_162 : bm_162 = s_bks 162 bc_162 := rfl
set_option maxRecDepth 100000 in
theorem bq_163 : bm_163 = s_bks 163 bc_163 := rfl
set_option maxRecDepth 100000 in
theorem bq_164 : bm_164 = s_bks 164 bc_164 := rfl
set_option maxRecDepth 100000 in
theorem bq_165 : bm_165 = s_bks 165 bc_165 := rfl
set_option maxRecDepth 100000 in
theorem bq_166 : bm_166 = s_bks 166 bc_166 := rfl
set_option maxRecDepth 100000 in
theorem bq_167 : bm_167 = s_bks 167 bc_167 := rfl
set_option maxRecDepth 100000 in
theorem bq_168 : bm_168 = s_bks 168 bc_168 := rfl
set_option maxRecDepth 100000 in
theorem bq_169 : bm_169 = s_bks 169 bc_169 := rfl
