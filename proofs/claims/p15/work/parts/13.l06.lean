/-! THE LAW, checked (printed by wip/gen/gen12.py). -/
theorem cl_54 : ck_ch m_0 l_54 864 = true := by decide +kernel
theorem cl_55 : ck_ch m_0 l_55 880 = true := by decide +kernel
theorem cl_56 : ck_ch m_0 l_56 896 = true := by decide +kernel
theorem cl_57 : ck_ch m_0 l_57 912 = true := by decide +kernel
theorem cl_58 : ck_ch m_0 l_58 928 = true := by decide +kernel
theorem cl_59 : ck_ch m_0 l_59 944 = true := by decide +kernel
theorem cl_60 : ck_ch m_0 l_60 960 = true := by decide +kernel
theorem cl_61 : ck_ch m_0 l_61 976 = true := by decide +kernel
theorem cl_62 : ck_ch m_0 l_62 992 = true := by decide +kernel
