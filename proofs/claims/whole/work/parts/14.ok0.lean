set_option maxRecDepth 100000 in
theorem ok_0 : chkT m_0 = true := by decide +kernel
set_option maxRecDepth 100000 in
theorem ok_1 : chkT m_1 = true := by decide +kernel
set_option maxRecDepth 100000 in
theorem ok_2 : chkT m_2 = true := by decide +kernel
set_option maxRecDepth 100000 in
theorem ok_3 : chkT m_3 = true := by decide +kernel
set_option maxRecDepth 100000 in
theorem ok_4 : chkT m_4 = true := by decide +kernel
set_option maxRecDepth 100000 in
theorem ok_5 : chkT m_5 = true := by decide +kernel
set_option maxRecDepth 100000 in
theorem ok_6 : chkT m_6 = true := by decide +kernel
set_option maxRecDepth 100000 in
theorem ok_7 : chkT m_7 = true := by decide +kernel
set_option maxRecDepth 100000 in
theorem ok_8 : chkT m_8 = true := by decide +kernel
set_option maxRecDepth 100000 in
theorem ok_9 : chkT m_9 = true := by decide +kernel
set_option maxRecDepth 100000 in
theorem ok_10 : chkT m_10 = true := by decide +kernel
set_option maxRecDepth 100000 in
theorem ok_11 : chkT m_11 = true := by decide +kernel
set_option maxRecDepth 100000 in
theorem ok_12 : chkT m_12 = true := by decide +kernel
set_option maxRecDepth 100000 in
theorem ok_13 : chkT m_13 = true := by decide +kernel
set_option maxRecDepth 100000 in
theorem ok_14 : chkT m_14 = true := by decide +kernel
set_option maxRecDepth 100000 in
theorem ok_15 : chkT m_15 = true := by decide +kernel
set_option maxRecDepth 100000 in
theorem ok_16 : chkT m_16 = true := by decide +kernel
set_option maxRecDepth 100000 in
theorem ok_17 : chkT m_17 = true := by decide +kernel
set_option maxRecDepth 100000 in
theorem ok_18 : chkT m_18 = true := by decide +kernel
set_option maxRecDepth 100000 in
theorem ok_19 : chkT m_19 = true := by decide +kernel
set_option maxRecDepth 100000 in
theorem ok_20 : chkT m_20 = true := by decide +kernel
set_option maxRecDepth 100000 in
theorem ok_21 : chkT m_21 = true := by decide +kernel
set_option maxRecDepth 100000 in
theorem ok_22 : chkT m_22 = true := by decide +kernel
set_option maxRecDepth 100000 in
theorem ok_23 : chkT m_23 = true := by decide +kernel
set_option maxRecDepth 100000 in
theorem ok_24 : chkT m_24 = true := by decide +kernel
set_option maxRecDepth 100000 in
theorem ok_25 : chkT m_25 = true := by decide +kernel
set_option maxRecDepth 100000 in
theorem ok_26 : chkT m_26 = true := by decide +kernel
set_option maxRecDepth 100000 in
theorem ok_27 : chkT m_27 = true := by decide +kernel
set_option maxRecDepth 100000 in
theorem ok_28 : chkT m_28 = true := by decide +kernel
set_option maxRecDepth 100000 in
theorem ok_29 : chkT m_29 = true := by decide +kernel
set_option maxRecDepth 100000 in
theorem ok_30 : chkT m_30 = true := by decide +kernel
set_option maxRecDepth 100000 in
theorem ok_31 : chkT m_31 = true := by decide +kernel
set_option maxRecDepth 100000 in
theorem ok_32 : chkT m_32 = true := by decide +kernel
set_option maxRecDepth 100000 in
theorem ok_33 : chkT m_33 = true := by decide +kernel
set_option maxRecDepth 100000 in
theorem ok_34 : chkT m_34 = true := by decide +kernel
set_option maxRecDepth 100000 in
theorem ok_35 : chkT m_35 = true := by decide +kernel
set_option maxRecDepth 100000 in
theorem ok_36 : chkT m_36 = true := by decide +kernel
set_option maxRecDepth 100000 in
theorem ok_37 : chkT m_37 = true := by decide +kernel
set_option maxRecDepth 100000 in
theorem ok_38 : chkT m_38 = true := by decide +kernel
set_option maxRecDepth 100000 in
theorem ok_39 : chkT m_39 = true := by decide +kernel
set_option maxRecDepth 100000 in
theorem ok_40 : chkT m_40 = true := by decide +kernel
set_option maxRecDepth 100000 in
theorem ok_41 : chkT m_41 = true := by decide +kernel
set_option maxRecDepth 100000 in
theorem ok_42 : chkT m_42 = true := by decide +kernel
set_option maxRecDepth 100000 in
theorem ok_43 : chkT m_43 = true := by decide +kernel
set_option maxRecDepth 100000 in
theorem ok_44 : chkT m_44 = true := by decide +kernel
set_option maxRecDepth 100000 in
theorem ok_45 : chkT m_45 = true := by decide +kernel
set_option maxRecDepth 100000 in
theorem ok_46 : chkT m_46 = true := by decide +kernel
set_option maxRecDepth 100000 in
theorem ok_47 : chkT m_47 = true := by decide +kernel
set_option maxRecDepth 100000 in
theorem ok_48 : chkT m_48 = true := by decide +kernel
set_option maxRecDepth 100000 in
theorem ok_49 : chkT m_49 = true := by decide +kernel
set_option maxRecDepth 100000 in
theorem ok_50 : chkT m_50 = true := by decide +kernel
set_option maxRecDepth 100000 in
theorem ok_51 : chkT m_51 = true := by decide +kernel
set_option maxRecDepth 100000 in
theorem ok_52 : chkT m_52 = true := by decide +kernel
