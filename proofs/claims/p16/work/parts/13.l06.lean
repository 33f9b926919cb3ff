/-! THE LAW, checked (printed by wip/gen/gen12.py). -/
theorem cl_54 : ck_ch m_0 l_54 864 ((pm_b m_0).data.toList.drop 864) = true := by decide +kernel
theorem cl_55 : ck_ch m_0 l_55 880 ((pm_b m_0).data.toList.drop 880) = true := by decide +kernel
theorem cl_56 : ck_ch m_0 l_56 896 ((pm_b m_0).data.toList.drop 896) = true := by decide +kernel
theorem cl_57 : ck_ch m_0 l_57 912 ((pm_b m_0).data.toList.drop 912) = true := by decide +kernel
theorem cl_58 : ck_ch m_0 l_58 928 ((pm_b m_0).data.toList.drop 928) = true := by decide +kernel
theorem cl_59 : ck_ch m_0 l_59 944 ((pm_b m_0).data.toList.drop 944) = true := by decide +kernel
theorem cl_60 : ck_ch m_0 l_60 960 ((pm_b m_0).data.toList.drop 960) = true := by decide +kernel
theorem cl_61 : ck_ch m_0 l_61 976 ((pm_b m_0).data.toList.drop 976) = true := by decide +kernel
theorem cl_62 : ck_ch m_0 l_62 992 ((pm_b m_0).data.toList.drop 992) = true := by decide +kernel
