/-! THE LAW, checked (printed by wip/gen/gen12.py). -/
theorem cl_63 : ck_ch m_0 l_63 1008 ((pm_b m_0).data.toList.drop 1008) = true := by decide +kernel
theorem cl_64 : ck_ch m_0 l_64 1024 ((pm_b m_0).data.toList.drop 1024) = true := by decide +kernel
theorem cl_65 : ck_ch m_0 l_65 1040 ((pm_b m_0).data.toList.drop 1040) = true := by decide +kernel
theorem cl_66 : ck_ch m_0 l_66 1056 ((pm_b m_0).data.toList.drop 1056) = true := by decide +kernel
theorem cl_67 : ck_ch m_0 l_67 1072 ((pm_b m_0).data.toList.drop 1072) = true := by decide +kernel
theorem cl_68 : ck_ch m_0 l_68 1088 ((pm_b m_0).data.toList.drop 1088) = true := by decide +kernel
theorem cl_69 : ck_ch m_0 l_69 1104 ((pm_b m_0).data.toList.drop 1104) = true := by decide +kernel
theorem cl_70 : ck_ch m_0 l_70 1120 ((pm_b m_0).data.toList.drop 1120) = true := by decide +kernel
theorem cl_71 : ck_ch m_0 l_71 1136 ((pm_b m_0).data.toList.drop 1136) = true := by decide +kernel
