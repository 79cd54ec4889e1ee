set_option maxRecDepth 100000 in
theorem okl_7 : chkL m_315 560 k_315_7 = true := by decide +kernel
