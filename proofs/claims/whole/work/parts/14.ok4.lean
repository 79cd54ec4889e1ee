set_option maxRecDepth 100000 in
theorem ok_222 : chkT m_222 = true := by decide +kernel
set_option maxRecDepth 100000 in
theorem ok_223 : chkT m_223 = true := by decide +kernel
set_option maxRecDepth 100000 in
theorem ok_224 : chkT m_224 = true := by decide +kernel
set_option maxRecDepth 100000 in
theorem ok_225 : chkT m_225 = true := by decide +kernel
set_option maxRecDepth 100000 in
theorem ok_226 : chkT m_226 = true := by decide +kernel
set_option maxRecDepth 100000 in
theorem ok_227 : chkT m_227 = true := by decide +kernel
set_option maxRecDepth 100000 in
theorem ok_228 : chkT m_228 = true := by decide +kernel
set_option maxRecDepth 100000 in
theorem ok_229 : chkT m_229 = true := by decide +kernel
set_option maxRecDepth 100000 in
theorem ok_230 : chkT m_230 = true := by decide +kernel
set_option maxRecDepth 100000 in
theorem ok_231 : chkT m_231 = true := by decide +kernel
set_option maxRecDepth 100000 in
theorem ok_232 : chkT m_232 = true := by decide +kernel
set_option maxRecDepth 100000 in
theorem ok_233 : chkT m_233 = true := by decide +kernel
set_option maxRecDepth 100000 in
theorem ok_234 : chkT m_234 = true := by decide +kernel
set_option maxRecDepth 100000 in
theorem ok_235 : chkT m_235 = true := by decide +kernel
set_option maxRecDepth 100000 in
theorem ok_236 : chkT m_236 = true := by decide +kernel
set_option maxRecDepth 100000 in
theorem ok_237 : chkT m_237 = true := by decide +kernel
set_option maxRecDepth 100000 in
theorem ok_238 : chkT m_238 = true := by decide +kernel
set_option maxRecDepth 100000 in
theorem ok_239 : chkT m_239 = true := by decide +kernel
set_option maxRecDepth 100000 in
theorem ok_240 : chkT m_240 = true := by decide +kernel
set_option maxRecDepth 100000 in
theorem ok_241 : chkT m_241 = true := by decide +kernel
set_option maxRecDepth 100000 in
theorem ok_242 : chkT m_242 = true := by decide +kernel
set_option maxRecDepth 100000 in
theorem ok_243 : chkT m_243 = true := by decide +kernel
set_option maxRecDepth 100000 in
theorem ok_244 : chkT m_244 = true := by decide +kernel
set_option maxRecDepth 100000 in
theorem ok_245 : chkT m_245 = true := by decide +kernel
set_option maxRecDepth 100000 in
theorem ok_246 : chkT m_246 = true := by decide +kernel
set_option maxRecDepth 100000 in
theorem ok_247 : chkT m_247 = true := by decide +kernel
set_option maxRecDepth 100000 in
theorem ok_248 : chkT m_248 = true := by decide +kernel
set_option maxRecDepth 100000 in
theorem ok_249 : chkT m_249 = true := by decide +kernel
set_option maxRecDepth 100000 in
theorem ok_250 : chkT m_250 = true := by decide +kernel
set_option maxRecDepth 100000 in
theorem ok_251 : chkT m_251 = true := by decide +kernel
set_option maxRecDepth 100000 in
theorem ok_252 : chkT m_252 = true := by decide +kernel
set_option maxRecDepth 100000 in
theorem ok_253 : chkT m_253 = true := by decide +kernel
set_option maxRecDepth 100000 in
theorem ok_254 : chkT m_254 = true := by decide +kernel
set_option maxRecDepth 100000 in
theorem ok_255 : chkT m_255 = true := by decide +kernel
set_option maxRecDepth 100000 in
theorem ok_256 : chkT m_256 = true := by decide +kernel
set_option maxRecDepth 100000 in
theorem ok_257 : chkT m_257 = true := by decide +kernel
set_option maxRecDepth 100000 in
theorem ok_258 : chkT m_258 = true := by decide +kernel
set_option maxRecDepth 100000 in
theorem ok_259 : chkT m_259 = true := by decide +kernel
set_option maxRecDepth 100000 in
theorem ok_260 : chkT m_260 = true := by decide +kernel
set_option maxRecDepth 100000 in
theorem ok_261 : chkT m_261 = true := by decide +kernel
set_option maxRecDepth 100000 in
theorem ok_262 : chkT m_262 = true := by decide +kernel
set_option maxRecDepth 100000 in
theorem ok_263 : chkT m_263 = true := by decide +kernel
set_option maxRecDepth 100000 in
theorem ok_264 : chkT m_264 = true := by decide +kernel
set_option maxRecDepth 100000 in
theorem ok_265 : chkT m_265 = true := by decide +kernel
set_option maxRecDepth 100000 in
theorem ok_266 : chkT m_266 = true := by decide +kernel
set_option maxRecDepth 100000 in
theorem ok_267 : chkT m_267 = true := by decide +kernel
set_option maxRecDepth 100000 in
theorem ok_268 : chkT m_268 = true := by decide +kernel
set_option maxRecDepth 100000 in
theorem ok_269 : chkT m_269 = true := by decide +kernel
set_option maxRecDepth 100000 in
theorem ok_270 : chkT m_270 = true := by decide +kernel
