/-! THE LAW, checked (printed by wip/gen/gen12.py). -/
theorem cl_9 : ck_ch m_0 l_9 144 ((pm_b m_0).data.toList.drop 144) = true := by decide +kernel
theorem cl_10 : ck_ch m_0 l_10 160 ((pm_b m_0).data.toList.drop 160) = true := by decide +kernel
theorem cl_11 : ck_ch m_0 l_11 176 ((pm_b m_0).data.toList.drop 176) = true := by decide +kernel
theorem cl_12 : ck_ch m_0 l_12 192 ((pm_b m_0).data.toList.drop 192) = true := by decide +kernel
theorem cl_13 : ck_ch m_0 l_13 208 ((pm_b m_0).data.toList.drop 208) = true := by decide +kernel
theorem cl_14 : ck_ch m_0 l_14 224 ((pm_b m_0).data.toList.drop 224) = true := by decide +kernel
theorem cl_15 : ck_ch m_0 l_15 240 ((pm_b m_0).data.toList.drop 240) = true := by decide +kernel
theorem cl_16 : ck_ch m_0 l_16 256 ((pm_b m_0).data.toList.drop 256) = true := by decide +kernel
theorem cl_17 : ck_ch m_0 l_17 272 ((pm_b m_0).data.toList.drop 272) = true := by decide +kernel
