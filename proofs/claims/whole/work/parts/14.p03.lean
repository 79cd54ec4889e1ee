set_option maxRecDepth 100000 in
theorem okl_3 : chkL m_315 240 k_315_3 = true := by decide +kernel
