set_option maxRecDepth 100000 in
theorem ok_168 : chkT m_168 = true := by decide +kernel
set_option maxRecDepth 100000 in
theorem ok_169 : chkT m_169 = true := by decide +kernel
set_option maxRecDepth 100000 in
theorem ok_170 : chkT m_170 = true := by decide +kernel
set_option maxRecDepth 100000 in
theorem ok_171 : chkT m_171 = true := by decide +kernel
set_option maxRecDepth 100000 in
theorem ok_172 : chkT m_172 = true := by decide +kernel
set_option maxRecDepth 100000 in
theorem ok_173 : chkT m_173 = true := by decide +kernel
set_option maxRecDepth 100000 in
theorem ok_174 : chkT m_174 = true := by decide +kernel
set_option maxRecDepth 100000 in
theorem ok_175 : chkT m_175 = true := by decide +kernel
set_option maxRecDepth 100000 in
theorem ok_176 : chkT m_176 = true := by decide +kernel
set_option maxRecDepth 100000 in
theorem ok_177 : chkT m_177 = true := by decide +kernel
set_option maxRecDepth 100000 in
theorem ok_178 : chkT m_178 = true := by decide +kernel
set_option maxRecDepth 100000 in
theorem ok_179 : chkT m_179 = true := by decide +kernel
set_option maxRecDepth 100000 in
theorem ok_180 : chkT m_180 = true := by decide +kernel
set_option maxRecDepth 100000 in
theorem ok_181 : chkT m_181 = true := by decide +kernel
set_option maxRecDepth 100000 in
theorem ok_182 : chkT m_182 = true := by decide +kernel
set_option maxRecDepth 100000 in
theorem ok_183 : chkT m_183 = true := by decide +kernel
set_option maxRecDepth 100000 in
theorem ok_184 : chkT m_184 = true := by decide +kernel
set_option maxRecDepth 100000 in
theorem ok_185 : chkT m_185 = true := by decide +kernel
set_option maxRecDepth 100000 in
theorem ok_186 : chkT m_186 = true := by decide +kernel
set_option maxRecDepth 100000 in
theorem ok_187 : chkT m_187 = true := by decide +kernel
set_option maxRecDepth 100000 in
theorem ok_188 : chkT m_188 = true := by decide +kernel
set_option maxRecDepth 100000 in
theorem ok_189 : chkT m_189 = true := by decide +kernel
set_option maxRecDepth 100000 in
theorem ok_190 : chkT m_190 = true := by decide +kernel
set_option maxRecDepth 100000 in
theorem ok_191 : chkT m_191 = true := by decide +kernel
set_option maxRecDepth 100000 in
theorem ok_192 : chkT m_192 = true := by decide +kernel
set_option maxRecDepth 100000 in
theorem ok_193 : chkT m_193 = true := by decide +kernel
set_option maxRecDepth 100000 in
theorem ok_194 : chkT m_194 = true := by decide +kernel
set_option maxRecDepth 100000 in
theorem ok_195 : chkT m_195 = true := by decide +kernel
set_option maxRecDepth 100000 in
theorem ok_196 : chkT m_196 = true := by decide +kernel
set_option maxRecDepth 100000 in
theorem ok_197 : chkT m_197 = true := by decide +kernel
set_option maxRecDepth 100000 in
theorem ok_198 : chkT m_198 = true := by decide +kernel
set_option maxRecDepth 100000 in
theorem ok_199 : chkT m_199 = true := by decide +kernel
set_option maxRecDepth 100000 in
theorem ok_200 : chkT m_200 = true := by decide +kernel
set_option maxRecDepth 100000 in
theorem ok_201 : chkT m_201 = true := by decide +kernel
set_option maxRecDepth 100000 in
theorem ok_202 : chkT m_202 = true := by decide +kernel
set_option maxRecDepth 100000 in
theorem ok_203 : chkT m_203 = true := by decide +kernel
set_option maxRecDepth 100000 in
theorem ok_204 : chkT m_204 = true := by decide +kernel
set_option maxRecDepth 100000 in
theorem ok_205 : chkT m_205 = true := by decide +kernel
set_option maxRecDepth 100000 in
theorem ok_206 : chkT m_206 = true := by decide +kernel
set_option maxRecDepth 100000 in
theorem ok_207 : chkT m_207 = true := by decide +kernel
set_option maxRecDepth 100000 in
theorem ok_208 : chkT m_208 = true := by decide +kernel
set_option maxRecDepth 100000 in
theorem ok_209 : chkT m_209 = true := by decide +kernel
set_option maxRecDepth 100000 in
theorem ok_210 : chkT m_210 = true := by decide +kernel
set_option maxRecDepth 100000 in
theorem ok_211 : chkT m_211 = true := by decide +kernel
set_option maxRecDepth 100000 in
theorem ok_212 : chkT m_212 = true := by decide +kernel
set_option maxRecDepth 100000 in
theorem ok_213 : chkT m_213 = true := by decide +kernel
set_option maxRecDepth 100000 in
theorem ok_214 : chkT m_214 = true := by decide +kernel
set_option maxRecDepth 100000 in
theorem ok_215 : chkT m_215 = true := by decide +kernel
set_option maxRecDepth 100000 in
theorem ok_216 : chkT m_216 = true := by decide +kernel
set_option maxRecDepth 100000 in
theorem ok_217 : chkT m_217 = true := by decide +kernel
set_option maxRecDepth 100000 in
theorem ok_218 : chkT m_218 = true := by decide +kernel
set_option maxRecDepth 100000 in
theorem ok_219 : chkT m_219 = true := by decide +kernel
set_option maxRecDepth 100000 in
theorem ok_220 : chkT m_220 = true := by decide +kernel
set_option maxRecDepth 100000 in
theorem ok_221 : chkT m_221 = true := by decide +kernel
