set_option maxRecDepth 100000 in
theorem okl_2 : chkL m_315 160 k_315_2 = true := by decide +kernel
