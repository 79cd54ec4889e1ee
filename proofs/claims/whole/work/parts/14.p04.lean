set_option maxRecDepth 100000 in
theorem okl_4 : chkL m_315 320 k_315_4 = true := by decide +kernel
