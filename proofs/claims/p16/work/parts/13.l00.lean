/-! THE LAW, checked (printed by wip/gen/gen12.py). -/
theorem cl_0 : ck_ch m_0 l_0 0 ((pm_b m_0).data.toList.drop 0) = true := by decide +kernel
theorem cl_1 : ck_ch m_0 l_1 16 ((pm_b m_0).data.toList.drop 16) = true := by decide +kernel
theorem cl_2 : ck_ch m_0 l_2 32 ((pm_b m_0).data.toList.drop 32) = true := by decide +kernel
theorem cl_3 : ck_ch m_0 l_3 48 ((pm_b m_0).data.toList.drop 48) = true := by decide +kernel
theorem cl_4 : ck_ch m_0 l_4 64 ((pm_b m_0).data.toList.drop 64) = true := by decide +kernel
theorem cl_5 : ck_ch m_0 l_5 80 ((pm_b m_0).data.toList.drop 80) = true := by decide +kernel
theorem cl_6 : ck_ch m_0 l_6 96 ((pm_b m_0).data.toList.drop 96) = true := by decide +kernel
theorem cl_7 : ck_ch m_0 l_7 112 ((pm_b m_0).data.toList.drop 112) = true := by decide +kernel
theorem cl_8 : ck_ch m_0 l_8 128 ((pm_b m_0).data.toList.drop 128) = true := by decide +kernel
