/-! the data are the program: every row decodes so, and its links stand in the tables -/
set_option maxRecDepth 100000 in
theorem m_ok_104 : m_p_104.all (m_okE 104) = true := by decide +kernel
set_option maxRecDepth 100000 in
theorem m_okm_104 : m_okM 104 = true := by decide +kernel
set_option maxRecDepth 100000 in
theorem m_ok_105 : m_p_105.all (m_okE 105) = true := by decide +kernel
set_option maxRecDepth 100000 in
theorem m_okm_105 : m_okM 105 = true := by decide +kernel
set_option maxRecDepth 100000 in
theorem m_ok_106 : m_p_106.all (m_okE 106) = true := by decide +kernel
set_option maxRecDepth 100000 in
theorem m_okm_106 : m_okM 106 = true := by decide +kernel
set_option maxRecDepth 100000 in
theorem m_ok_107 : m_p_107.all (m_okE 107) = true := by decide +kernel
set_option maxRecDepth 100000 in
theorem m_okm_107 : m_okM 107 = true := by decide +kernel
set_option maxRecDepth 100000 in
theorem m_ok_108 : m_p_108.all (m_okE 108) = true := by decide +kernel
set_option maxRecDepth 100000 in
theorem m_okm_108 : m_okM 108 = true := by decide +kernel
set_option maxRecDepth 100000 in
theorem m_ok_109 : m_p_109.all (m_okE 109) = true := by decide +kernel
set_option maxRecDepth 100000 in
theorem m_okm_109 : m_okM 109 = true := by decide +kernel
set_option maxRecDepth 100000 in
theorem m_ok_110 : m_p_110.all (m_okE 110) = true := by decide +kernel
set_option maxRecDepth 100000 in
theorem m_okm_110 : m_okM 110 = true := by decide +kernel
set_option maxRecDepth 100000 in
theorem m_ok_111 : m_p_111.all (m_okE 111) = true := by decide +kernel
set_option maxRecDepth 100000 in
theorem m_okm_111 : m_okM 111 = true := by decide +kernel
set_option maxRecDepth 100000 in
theorem m_ok_112 : m_p_112.all (m_okE 112) = true := by decide +kernel
set_option maxRecDepth 100000 in
theorem m_okm_112 : m_okM 112 = true := by decide +kernel
set_option maxRecDepth 100000 in
theorem m_ok_113 : m_p_113.all (m_okE 113) = true := by decide +kernel
set_option maxRecDepth 100000 in
theorem m_okm_113 : m_okM 113 = true := by decide +kernel
set_option maxRecDepth 100000 in
theorem m_ok_114 : m_p_114.all (m_okE 114) = true := by decide +kernel
set_option maxRecDepth 100000 in
theorem m_okm_114 : m_okM 114 = true := by decide +kernel
set_option maxRecDepth 100000 in
theorem m_ok_115 : m_p_115.all (m_okE 115) = true := by decide +kernel
set_option maxRecDepth 100000 in
theorem m_okm_115 : m_okM 115 = true := by decide +kernel
set_option maxRecDepth 100000 in
theorem m_ok_116 : m_p_116.all (m_okE 116) = true := by decide +kernel
set_option maxRecDepth 100000 in
theorem m_okm_116 : m_okM 116 = true := by decide +kernel
set_option maxRecDepth 100000 in
theorem m_ok_117 : m_p_117.all (m_okE 117) = true := by decide +kernel
set_option maxRecDepth 100000 in
theorem m_okm_117 : m_okM 117 = true := by decide +kernel
set_option maxRecDepth 100000 in
theorem m_ok_118 : m_p_118.all (m_okE 118) = true := by decide +kernel
set_option maxRecDepth 100000 in
theorem m_okm_118 : m_okM 118 = true := by decide +kernel
set_option maxRecDepth 100000 in
theorem m_ok_119 : m_p_119.all (m_okE 119) = true := by decide +kernel
set_option maxRecDepth 100000 in
theorem m_okm_119 : m_okM 119 = true := by decide +kernel
set_option maxRecDepth 100000 in
theorem m_ok_120 : m_p_120.all (m_okE 120) = true := by decide +kernel
set_option maxRecDepth 100000 in
theorem m_okm_120 : m_okM 120 = true := by decide +kernel
set_option maxRecDepth 100000 in
theorem m_ok_121 : m_p_121.all (m_okE 121) = true := by decide +kernel
set_option maxRecDepth 100000 in
theorem m_okm_121 : m_okM 121 = true := by decide +kernel
set_option maxRecDepth 100000 in
theorem m_ok_122 : m_p_122.all (m_okE 122) = true := by decide +kernel
set_option maxRecDepth 100000 in
theorem m_okm_122 : m_okM 122 = true := by decide +kernel
set_option maxRecDepth 100000 in
theorem m_ok_123 : m_p_123.all (m_okE 123) = true := by decide +kernel
set_option maxRecDepth 100000 in
theorem m_okm_123 : m_okM 123 = true := by decide +kernel
set_option maxRecDepth 100000 in
theorem m_ok_124 : m_p_124.all (m_okE 124) = true := by decide +kernel
set_option maxRecDepth 100000 in
theorem m_okm_124 : m_okM 124 = true := by decide +kernel
set_option maxRecDepth 100000 in
theorem m_ok_125 : m_p_125.all (m_okE 125) = true := by decide +kernel
set_option maxRecDepth 100000 in
theorem m_okm_125 : m_okM 125 = true := by decide +kernel
set_option maxRecDepth 100000 in
theorem m_ok_126 : m_p_126.all (m_okE 126) = true := by decide +kernel
set_option maxRecDepth 100000 in
theorem m_okm_126 : m_okM 126 = true := by decide +kernel
set_option maxRecDepth 100000 in
theorem m_ok_127 : m_p_127.all (m_okE 127) = true := by decide +kernel
set_option maxRecDepth 100000 in
theorem m_okm_127 : m_okM 127 = true := by decide +kernel
set_option maxRecDepth 100000 in
theorem m_ok_128 : m_p_128.all (m_okE 128) = true := by decide +kernel
set_option maxRecDepth 100000 in
theorem m_okm_128 : m_okM 128 = true := by decide +kernel
set_option maxRecDepth 100000 in
theorem m_ok_129 : m_p_129.all (m_okE 129) = true := by decide +kernel
set_option maxRecDepth 100000 in
theorem m_okm_129 : m_okM 129 = true := by decide +kernel
set_option maxRecDepth 100000 in
theorem m_ok_130 : m_p_130.all (m_okE 130) = true := by decide +kernel
set_option maxRecDepth 100000 in
theorem m_okm_130 : m_okM 130 = true := by decide +kernel
set_option maxRecDepth 100000 in
theorem m_ok_131 : m_p_131.all (m_okE 131) = true := by decide +kernel
set_option maxRecDepth 100000 in
theorem m_okm_131 : m_okM 131 = true := by decide +kernel
set_option maxRecDepth 100000 in
theorem m_ok_132 : m_p_132.all (m_okE 132) = true := by decide +kernel
set_option maxRecDepth 100000 in
theorem m_okm_132 : m_okM 132 = true := by decide +kernel
set_option maxRecDepth 100000 in
theorem m_ok_133 : m_p_133.all (m_okE 133) = true := by decide +kernel
set_option maxRecDepth 100000 in
theorem m_okm_133 : m_okM 133 = true := by decide +kernel
set_option maxRecDepth 100000 in
theorem m_ok_134 : m_p_134.all (m_okE 134) = true := by decide +kernel
set_option maxRecDepth 100000 in
theorem m_okm_134 : m_okM 134 = true := by decide +kernel
set_option maxRecDepth 100000 in
theorem m_ok_135 : m_p_135.all (m_okE 135) = true := by decide +kernel
set_option maxRecDepth 100000 in
theorem m_okm_135 : m_okM 135 = true := by decide +kernel
set_option maxRecDepth 100000 in
theorem m_ok_136 : m_p_136.all (m_okE 136) = true := by decide +kernel
set_option maxRecDepth 100000 in
theorem m_okm_136 : m_okM 136 = true := by decide +kernel
set_option maxRecDepth 100000 in
theorem m_ok_137 : m_p_137.all (m_okE 137) = true := by decide +kernel
set_option maxRecDepth 100000 in
theorem m_okm_137 : m_okM 137 = true := by decide +kernel
set_option maxRecDepth 100000 in
theorem m_ok_138 : m_p_138.all (m_okE 138) = true := by decide +kernel
set_option maxRecDepth 100000 in
theorem m_okm_138 : m_okM 138 = true := by decide +kernel
set_option maxRecDepth 100000 in
theorem m_ok_139 : m_p_139.all (m_okE 139) = true := by decide +kernel
set_option maxRecDepth 100000 in
theorem m_okm_139 : m_okM 139 = true := by decide +kernel
set_option maxRecDepth 100000 in
theorem m_ok_140 : m_p_140.all (m_okE 140) = true := by decide +kernel
set_option maxRecDepth 100000 in
theorem m_okm_140 : m_okM 140 = true := by decide +kernel
set_option maxRecDepth 100000 in
theorem m_ok_141 : m_p_141.all (m_okE 141) = true := by decide +kernel
set_option maxRecDepth 100000 in
theorem m_okm_141 : m_okM 141 = true := by decide +kernel
set_option maxRecDepth 100000 in
theorem m_ok_142 : m_p_142.all (m_okE 142) = true := by decide +kernel
set_option maxRecDepth 100000 in
theorem m_okm_142 : m_okM 142 = true := by decide +kernel
set_option maxRecDepth 100000 in
theorem m_ok_143 : m_p_143.all (m_okE 143) = true := by decide +kernel
set_option maxRecDepth 100000 in
theorem m_okm_143 : m_okM 143 = true := by decide +kernel
set_option maxRecDepth 100000 in
theorem m_ok_144 : m_p_144.all (m_okE 144) = true := by decide +kernel
set_option maxRecDepth 100000 in
theorem m_okm_144 : m_okM 144 = true := by decide +kernel
set_option maxRecDepth 100000 in
theorem m_ok_145 : m_p_145.all (m_okE 145) = true := by decide +kernel
set_option maxRecDepth 100000 in
theorem m_okm_145 : m_okM 145 = true := by decide +kernel
set_option maxRecDepth 100000 in
theorem m_ok_146 : m_p_146.all (m_okE 146) = true := by decide +kernel
set_option maxRecDepth 100000 in
theorem m_okm_146 : m_okM 146 = true := by decide +kernel
set_option maxRecDepth 100000 in
theorem m_ok_147 : m_p_147.all (m_okE 147) = true := by decide +kernel
set_option maxRecDepth 100000 in
theorem m_okm_147 : m_okM 147 = true := by decide +kernel
set_option maxRecDepth 100000 in
theorem m_ok_148 : m_p_148.all (m_okE 148) = true := by decide +kernel
set_option maxRecDepth 100000 in
theorem m_okm_148 : m_okM 148 = true := by decide +kernel
set_option maxRecDepth 100000 in
theorem m_ok_149 : m_p_149.all (m_okE 149) = true := by decide +kernel
set_option maxRecDepth 100000 in
theorem m_okm_149 : m_okM 149 = true := by decide +kernel
