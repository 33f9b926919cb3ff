/-! THE LAW, checked (printed by wip/gen/gen12.py). -/
theorem cl_45 : ck_ch m_0 l_45 720 ((pm_b m_0).data.toList.drop 720) = true := by decide +kernel
theorem cl_46 : ck_ch m_0 l_46 736 ((pm_b m_0).data.toList.drop 736) = true := by decide +kernel
theorem cl_47 : ck_ch m_0 l_47 752 ((pm_b m_0).data.toList.drop 752) = true := by decide +kernel
theorem cl_48 : ck_ch m_0 l_48 768 ((pm_b m_0).data.toList.drop 768) = true := by decide +kernel
theorem cl_49 : ck_ch m_0 l_49 784 ((pm_b m_0).data.toList.drop 784) = true := by decide +kernel
theorem cl_50 : ck_ch m_0 l_50 800 ((pm_b m_0).data.toList.drop 800) = true := by decide +kernel
theorem cl_51 : ck_ch m_0 l_51 816 ((pm_b m_0).data.toList.drop 816) = true := by decide +kernel
theorem cl_52 : ck_ch m_0 l_52 832 ((pm_b m_0).data.toList.drop 832) = true := by decide +kernel
theorem cl_53 : ck_ch m_0 l_53 848 ((pm_b m_0).data.toList.drop 848) = true := by decide +kernel
