set_option maxRecDepth 100000 in
theorem okl_8 : chkL m_315 640 k_315_8 = true := by decide +kernel
