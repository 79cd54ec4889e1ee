set_option maxRecDepth 100000 in
theorem okl_11 : chkL m_315 880 k_315_11 = true := by decide +kernel
