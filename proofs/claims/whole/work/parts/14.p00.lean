set_option maxRecDepth 100000 in
theorem okl_0 : chkL m_315 0 k_315_0 = true := by decide +kernel
