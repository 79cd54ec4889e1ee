set_option maxRecDepth 100000 in
theorem okl_10 : chkL m_315 800 k_315_10 = true := by decide +kernel
