set_option maxRecDepth 100000 in
theorem okl_13 : chkL m_315 1040 k_315_13 = true := by decide +kernel
