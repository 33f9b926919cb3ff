/-! THE LAW, checked (printed by wip/gen/gen12.py). -/
theorem cl_45 : ck_ch m_0 l_45 720 = true := by decide +kernel
theorem cl_46 : ck_ch m_0 l_46 736 = true := by decide +kernel
theorem cl_47 : ck_ch m_0 l_47 752 = true := by decide +kernel
theorem cl_48 : ck_ch m_0 l_48 768 = true := by decide +kernel
theorem cl_49 : ck_ch m_0 l_49 784 = true := by decide +kernel
theorem cl_50 : ck_ch m_0 l_50 800 = true := by decide +kernel
theorem cl_51 : ck_ch m_0 l_51 816 = true := by decide +kernel
theorem cl_52 : ck_ch m_0 l_52 832 = true := by decide +kernel
theorem cl_53 : ck_ch m_0 l_53 848 = true := by decide +kernel
