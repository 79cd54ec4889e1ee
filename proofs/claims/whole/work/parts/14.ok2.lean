set_option maxRecDepth 100000 in
theorem ok_108 : chkT m_108 = true := by decide +kernel
set_option maxRecDepth 100000 in
theorem ok_109 : chkT m_109 = true := by decide +kernel
set_option maxRecDepth 100000 in
theorem ok_110 : chkT m_110 = true := by decide +kernel
set_option maxRecDepth 100000 in
theorem ok_111 : chkT m_111 = true := by decide +kernel
set_option maxRecDepth 100000 in
theorem ok_112 : chkT m_112 = true := by decide +kernel
set_option maxRecDepth 100000 in
theorem ok_113 : chkT m_113 = true := by decide +kernel
set_option maxRecDepth 100000 in
theorem ok_114 : chkT m_114 = true := by decide +kernel
set_option maxRecDepth 100000 in
theorem ok_115 : chkT m_115 = true := by decide +kernel
set_option maxRecDepth 100000 in
theorem ok_116 : chkT m_116 = true := by decide +kernel
set_option maxRecDepth 100000 in
theorem ok_117 : chkT m_117 = true := by decide +kernel
set_option maxRecDepth 100000 in
theorem ok_118 : chkT m_118 = true := by decide +kernel
set_option maxRecDepth 100000 in
theorem ok_119 : chkT m_119 = true := by decide +kernel
set_option maxRecDepth 100000 in
theorem ok_120 : chkT m_120 = true := by decide +kernel
set_option maxRecDepth 100000 in
theorem ok_121 : chkT m_121 = true := by decide +kernel
set_option maxRecDepth 100000 in
theorem ok_122 : chkT m_122 = true := by decide +kernel
set_option maxRecDepth 100000 in
theorem ok_123 : chkT m_123 = true := by decide +kernel
set_option maxRecDepth 100000 in
theorem ok_124 : chkT m_124 = true := by decide +kernel
set_option maxRecDepth 100000 in
theorem ok_125 : chkT m_125 = true := by decide +kernel
set_option maxRecDepth 100000 in
theorem ok_126 : chkT m_126 = true := by decide +kernel
set_option maxRecDepth 100000 in
theorem ok_127 : chkT m_127 = true := by decide +kernel
set_option maxRecDepth 100000 in
theorem ok_128 : chkT m_128 = true := by decide +kernel
set_option maxRecDepth 100000 in
theorem ok_129 : chkT m_129 = true := by decide +kernel
set_option maxRecDepth 100000 in
theorem ok_130 : chkT m_130 = true := by decide +kernel
set_option maxRecDepth 100000 in
theorem ok_131 : chkT m_131 = true := by decide +kernel
set_option maxRecDepth 100000 in
theorem ok_132 : chkT m_132 = true := by decide +kernel
set_option maxRecDepth 100000 in
theorem ok_133 : chkT m_133 = true := by decide +kernel
set_option maxRecDepth 100000 in
theorem ok_134 : chkT m_134 = true := by decide +kernel
set_option maxRecDepth 100000 in
theorem ok_135 : chkT m_135 = true := by decide +kernel
set_option maxRecDepth 100000 in
theorem ok_136 : chkT m_136 = true := by decide +kernel
set_option maxRecDepth 100000 in
theorem ok_137 : chkT m_137 = true := by decide +kernel
set_option maxRecDepth 100000 in
theorem ok_138 : chkT m_138 = true := by decide +kernel
set_option maxRecDepth 100000 in
theorem ok_139 : chkT m_139 = true := by decide +kernel
set_option maxRecDepth 100000 in
theorem ok_140 : chkT m_140 = true := by decide +kernel
set_option maxRecDepth 100000 in
theorem ok_141 : chkT m_141 = true := by decide +kernel
set_option maxRecDepth 100000 in
theorem ok_142 : chkT m_142 = true := by decide +kernel
set_option maxRecDepth 100000 in
theorem ok_143 : chkT m_143 = true := by decide +kernel
set_option maxRecDepth 100000 in
theorem ok_144 : chkT m_144 = true := by decide +kernel
set_option maxRecDepth 100000 in
theorem ok_145 : chkT m_145 = true := by decide +kernel
set_option maxRecDepth 100000 in
theorem ok_146 : chkT m_146 = true := by decide +kernel
set_option maxRecDepth 100000 in
theorem ok_147 : chkT m_147 = true := by decide +kernel
set_option maxRecDepth 100000 in
theorem ok_148 : chkT m_148 = true := by decide +kernel
set_option maxRecDepth 100000 in
theorem ok_149 : chkT m_149 = true := by decide +kernel
set_option maxRecDepth 100000 in
theorem ok_150 : chkT m_150 = true := by decide +kernel
set_option maxRecDepth 100000 in
theorem ok_151 : chkT m_151 = true := by decide +kernel
set_option maxRecDepth 100000 in
theorem ok_152 : chkT m_152 = true := by decide +kernel
set_option maxRecDepth 100000 in
theorem ok_153 : chkT m_153 = true := by decide +kernel
set_option maxRecDepth 100000 in
theorem ok_154 : chkT m_154 = true := by decide +kernel
set_option maxRecDepth 100000 in
theorem ok_155 : chkT m_155 = true := by decide +kernel
set_option maxRecDepth 100000 in
theorem ok_156 : chkT m_156 = true := by decide +kernel
set_option maxRecDepth 100000 in
theorem ok_157 : chkT m_157 = true := by decide +kernel
set_option maxRecDepth 100000 in
theorem ok_158 : chkT m_158 = true := by decide +kernel
set_option maxRecDepth 100000 in
theorem ok_159 : chkT m_159 = true := by decide +kernel
set_option maxRecDepth 100000 in
theorem ok_160 : chkT m_160 = true := by decide +kernel
set_option maxRecDepth 100000 in
theorem ok_161 : chkT m_161 = true := by decide +kernel
set_option maxRecDepth 100000 in
theorem ok_162 : chkT m_162 = true := by decide +kernel
set_option maxRecDepth 100000 in
theorem ok_163 : chkT m_163 = true := by decide +kernel
set_option maxRecDepth 100000 in
theorem ok_164 : chkT m_164 = true := by decide +kernel
set_option maxRecDepth 100000 in
theorem ok_165 : chkT m_165 = true := by decide +kernel
set_option maxRecDepth 100000 in
theorem ok_166 : chkT m_166 = true := by decide +kernel
set_option maxRecDepth 100000 in
theorem ok_167 : chkT m_167 = true := by decide +kernel
