set_option maxRecDepth 100000 in
theorem ok_53 : chkT m_53 = true := by decide +kernel
set_option maxRecDepth 100000 in
theorem ok_54 : chkT m_54 = true := by decide +kernel
set_option maxRecDepth 100000 in
theorem ok_55 : chkT m_55 = true := by decide +kernel
set_option maxRecDepth 100000 in
theorem ok_56 : chkT m_56 = true := by decide +kernel
set_option maxRecDepth 100000 in
theorem ok_57 : chkT m_57 = true := by decide +kernel
set_option maxRecDepth 100000 in
theorem ok_58 : chkT m_58 = true := by decide +kernel
set_option maxRecDepth 100000 in
theorem ok_59 : chkT m_59 = true := by decide +kernel
set_option maxRecDepth 100000 in
theorem ok_60 : chkT m_60 = true := by decide +kernel
set_option maxRecDepth 100000 in
theorem ok_61 : chkT m_61 = true := by decide +kernel
set_option maxRecDepth 100000 in
theorem ok_62 : chkT m_62 = true := by decide +kernel
set_option maxRecDepth 100000 in
theorem ok_63 : chkT m_63 = true := by decide +kernel
set_option maxRecDepth 100000 in
theorem ok_64 : chkT m_64 = true := by decide +kernel
set_option maxRecDepth 100000 in
theorem ok_65 : chkT m_65 = true := by decide +kernel
set_option maxRecDepth 100000 in
theorem ok_66 : chkT m_66 = true := by decide +kernel
set_option maxRecDepth 100000 in
theorem ok_67 : chkT m_67 = true := by decide +kernel
set_option maxRecDepth 100000 in
theorem ok_68 : chkT m_68 = true := by decide +kernel
set_option maxRecDepth 100000 in
theorem ok_69 : chkT m_69 = true := by decide +kernel
set_option maxRecDepth 100000 in
theorem ok_70 : chkT m_70 = true := by decide +kernel
set_option maxRecDepth 100000 in
theorem ok_71 : chkT m_71 = true := by decide +kernel
set_option maxRecDepth 100000 in
theorem ok_72 : chkT m_72 = true := by decide +kernel
set_option maxRecDepth 100000 in
theorem ok_73 : chkT m_73 = true := by decide +kernel
set_option maxRecDepth 100000 in
theorem ok_74 : chkT m_74 = true := by decide +kernel
set_option maxRecDepth 100000 in
theorem ok_75 : chkT m_75 = true := by decide +kernel
set_option maxRecDepth 100000 in
theorem ok_76 : chkT m_76 = true := by decide +kernel
set_option maxRecDepth 100000 in
theorem ok_77 : chkT m_77 = true := by decide +kernel
set_option maxRecDepth 100000 in
theorem ok_78 : chkT m_78 = true := by decide +kernel
set_option maxRecDepth 100000 in
theorem ok_79 : chkT m_79 = true := by decide +kernel
set_option maxRecDepth 100000 in
theorem ok_80 : chkT m_80 = true := by decide +kernel
set_option maxRecDepth 100000 in
theorem ok_81 : chkT m_81 = true := by decide +kernel
set_option maxRecDepth 100000 in
theorem ok_82 : chkT m_82 = true := by decide +kernel
set_option maxRecDepth 100000 in
theorem ok_83 : chkT m_83 = true := by decide +kernel
set_option maxRecDepth 100000 in
theorem ok_84 : chkT m_84 = true := by decide +kernel
set_option maxRecDepth 100000 in
theorem ok_85 : chkT m_85 = true := by decide +kernel
set_option maxRecDepth 100000 in
theorem ok_86 : chkT m_86 = true := by decide +kernel
set_option maxRecDepth 100000 in
theorem ok_87 : chkT m_87 = true := by decide +kernel
set_option maxRecDepth 100000 in
theorem ok_88 : chkT m_88 = true := by decide +kernel
set_option maxRecDepth 100000 in
theorem ok_89 : chkT m_89 = true := by decide +kernel
set_option maxRecDepth 100000 in
theorem ok_90 : chkT m_90 = true := by decide +kernel
set_option maxRecDepth 100000 in
theorem ok_91 : chkT m_91 = true := by decide +kernel
set_option maxRecDepth 100000 in
theorem ok_92 : chkT m_92 = true := by decide +kernel
set_option maxRecDepth 100000 in
theorem ok_93 : chkT m_93 = true := by decide +kernel
set_option maxRecDepth 100000 in
theorem ok_94 : chkT m_94 = true := by decide +kernel
set_option maxRecDepth 100000 in
theorem ok_95 : chkT m_95 = true := by decide +kernel
set_option maxRecDepth 100000 in
theorem ok_96 : chkT m_96 = true := by decide +kernel
set_option maxRecDepth 100000 in
theorem ok_97 : chkT m_97 = true := by decide +kernel
set_option maxRecDepth 100000 in
theorem ok_98 : chkT m_98 = true := by decide +kernel
set_option maxRecDepth 100000 in
theorem ok_99 : chkT m_99 = true := by decide +kernel
set_option maxRecDepth 100000 in
theorem ok_100 : chkT m_100 = true := by decide +kernel
set_option maxRecDepth 100000 in
theorem ok_101 : chkT m_101 = true := by decide +kernel
set_option maxRecDepth 100000 in
theorem ok_102 : chkT m_102 = true := by decide +kernel
set_option maxRecDepth 100000 in
theorem ok_103 : chkT m_103 = true := by decide +kernel
set_option maxRecDepth 100000 in
theorem ok_104 : chkT m_104 = true := by decide +kernel
set_option maxRecDepth 100000 in
theorem ok_105 : chkT m_105 = true := by decide +kernel
set_option maxRecDepth 100000 in
theorem ok_106 : chkT m_106 = true := by decide +kernel
set_option maxRecDepth 100000 in
theorem ok_107 : chkT m_107 = true := by decide +kernel
