set_option maxRecDepth 100000 in
theorem ok_271 : chkT m_271 = true := by decide +kernel
set_option maxRecDepth 100000 in
theorem ok_272 : chkT m_272 = true := by decide +kernel
set_option maxRecDepth 100000 in
theorem ok_273 : chkT m_273 = true := by decide +kernel
set_option maxRecDepth 100000 in
theorem ok_274 : chkT m_274 = true := by decide +kernel
set_option maxRecDepth 100000 in
theorem ok_275 : chkT m_275 = true := by decide +kernel
set_option maxRecDepth 100000 in
theorem ok_276 : chkT m_276 = true := by decide +kernel
set_option maxRecDepth 100000 in
theorem ok_277 : chkT m_277 = true := by decide +kernel
set_option maxRecDepth 100000 in
theorem ok_278 : chkT m_278 = true := by decide +kernel
set_option maxRecDepth 100000 in
theorem ok_279 : chkT m_279 = true := by decide +kernel
set_option maxRecDepth 100000 in
theorem ok_280 : chkT m_280 = true := by decide +kernel
set_option maxRecDepth 100000 in
theorem ok_281 : chkT m_281 = true := by decide +kernel
set_option maxRecDepth 100000 in
theorem ok_282 : chkT m_282 = true := by decide +kernel
set_option maxRecDepth 100000 in
theorem ok_283 : chkT m_283 = true := by decide +kernel
set_option maxRecDepth 100000 in
theorem ok_284 : chkT m_284 = true := by decide +kernel
set_option maxRecDepth 100000 in
theorem ok_285 : chkT m_285 = true := by decide +kernel
set_option maxRecDepth 100000 in
theorem ok_286 : chkT m_286 = true := by decide +kernel
set_option maxRecDepth 100000 in
theorem ok_287 : chkT m_287 = true := by decide +kernel
set_option maxRecDepth 100000 in
theorem ok_288 : chkT m_288 = true := by decide +kernel
set_option maxRecDepth 100000 in
theorem ok_289 : chkT m_289 = true := by decide +kernel
set_option maxRecDepth 100000 in
theorem ok_290 : chkT m_290 = true := by decide +kernel
set_option maxRecDepth 100000 in
theorem ok_291 : chkT m_291 = true := by decide +kernel
set_option maxRecDepth 100000 in
theorem ok_292 : chkT m_292 = true := by decide +kernel
set_option maxRecDepth 100000 in
theorem ok_293 : chkT m_293 = true := by decide +kernel
set_option maxRecDepth 100000 in
theorem ok_294 : chkT m_294 = true := by decide +kernel
set_option maxRecDepth 100000 in
theorem ok_295 : chkT m_295 = true := by decide +kernel
set_option maxRecDepth 100000 in
theorem ok_296 : chkT m_296 = true := by decide +kernel
set_option maxRecDepth 100000 in
theorem ok_297 : chkT m_297 = true := by decide +kernel
set_option maxRecDepth 100000 in
theorem ok_298 : chkT m_298 = true := by decide +kernel
set_option maxRecDepth 100000 in
theorem ok_299 : chkT m_299 = true := by decide +kernel
set_option maxRecDepth 100000 in
theorem ok_300 : chkT m_300 = true := by decide +kernel
set_option maxRecDepth 100000 in
theorem ok_301 : chkT m_301 = true := by decide +kernel
set_option maxRecDepth 100000 in
theorem ok_302 : chkT m_302 = true := by decide +kernel
set_option maxRecDepth 100000 in
theorem ok_303 : chkT m_303 = true := by decide +kernel
set_option maxRecDepth 100000 in
theorem ok_304 : chkT m_304 = true := by decide +kernel
set_option maxRecDepth 100000 in
theorem ok_305 : chkT m_305 = true := by decide +kernel
set_option maxRecDepth 100000 in
theorem ok_306 : chkT m_306 = true := by decide +kernel
set_option maxRecDepth 100000 in
theorem ok_307 : chkT m_307 = true := by decide +kernel
set_option maxRecDepth 100000 in
theorem ok_308 : chkT m_308 = true := by decide +kernel
set_option maxRecDepth 100000 in
theorem ok_309 : chkT m_309 = true := by decide +kernel
