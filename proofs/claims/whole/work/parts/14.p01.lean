set_option maxRecDepth 100000 in
theorem okl_1 : chkL m_315 80 k_315_1 = true := by decide +kernel
