set_option maxRecDepth 100000 in
theorem ok_310 : chkT m_310 = true := by decide +kernel
set_option maxRecDepth 100000 in
theorem ok_311 : chkT m_311 = true := by decide +kernel
set_option maxRecDepth 100000 in
theorem ok_312 : chkT m_312 = true := by decide +kernel
set_option maxRecDepth 100000 in
theorem ok_313 : chkT m_313 = true := by decide +kernel
set_option maxRecDepth 100000 in
theorem ok_314 : chkT m_314 = true := by decide +kernel
