set_option maxRecDepth 100000 in
theorem okl_6 : chkL m_315 480 k_315_6 = true := by decide +kernel
