/-! THE LAW, checked (printed by wip/gen/gen12.py). -/
theorem cl_9 : ck_ch m_0 l_9 144 = true := by decide +kernel
theorem cl_10 : ck_ch m_0 l_10 160 = true := by decide +kernel
theorem cl_11 : ck_ch m_0 l_11 176 = true := by decide +kernel
theorem cl_12 : ck_ch m_0 l_12 192 = true := by decide +kernel
theorem cl_13 : ck_ch m_0 l_13 208 = true := by decide +kernel
theorem cl_14 : ck_ch m_0 l_14 224 = true := by decide +kernel
theorem cl_15 : ck_ch m_0 l_15 240 = true := by decide +kernel
theorem cl_16 : ck_ch m_0 l_16 256 = true := by decide +kernel
theorem cl_17 : ck_ch m_0 l_17 272 = true := by decide +kernel
