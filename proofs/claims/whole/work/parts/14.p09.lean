set_option maxRecDepth 100000 in
theorem okl_9 : chkL m_315 720 k_315_9 = true := by decide +kernel
