set_option maxRecDepth 100000 in
theorem okl_12 : chkL m_315 960 k_315_12 = true := by decide +kernel
