/-! THE LAW, checked (printed by wip/gen/gen12.py). -/
theorem cl_72 : ck_ch m_0 l_72 1152 ((pm_b m_0).data.toList.drop 1152) = true := by decide +kernel
theorem cl_73 : ck_ch m_0 l_73 1168 ((pm_b m_0).data.toList.drop 1168) = true := by decide +kernel
theorem cl_74 : ck_ch m_0 l_74 1184 ((pm_b m_0).data.toList.drop 1184) = true := by decide +kernel
theorem cl_75 : ck_ch m_0 l_75 1200 ((pm_b m_0).data.toList.drop 1200) = true := by decide +kernel
theorem cl_76 : ck_ch m_0 l_76 1216 ((pm_b m_0).data.toList.drop 1216) = true := by decide +kernel
theorem cl_77 : ck_ch m_0 l_77 1232 ((pm_b m_0).data.toList.drop 1232) = true := by decide +kernel
theorem cl_78 : ck_ch m_0 l_78 1248 ((pm_b m_0).data.toList.drop 1248) = true := by decide +kernel
theorem cl_79 : ck_ch m_0 l_79 1264 ((pm_b m_0).data.toList.drop 1264) = true := by decide +kernel
theorem cl_80 : ck_ch m_0 l_80 1280 ((pm_b m_0).data.toList.drop 1280) = true := by decide +kernel
