/-! THE LAW, checked (printed by wip/gen/gen12.py). -/
theorem cl_81 : ck_ch m_0 l_81 1296 ((pm_b m_0).data.toList.drop 1296) = true := by decide +kernel
theorem cl_82 : ck_ch m_0 l_82 1312 ((pm_b m_0).data.toList.drop 1312) = true := by decide +kernel
theorem cl_83 : ck_ch m_0 l_83 1328 ((pm_b m_0).data.toList.drop 1328) = true := by decide +kernel
