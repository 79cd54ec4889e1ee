set_option maxRecDepth 100000 in
theorem okl_14 : chkL m_315 1120 k_315_14 = true := by decide +kernel
