set_option maxRecDepth 100000 in
theorem okl_5 : chkL m_315 400 k_315_5 = true := by decide +kernel
