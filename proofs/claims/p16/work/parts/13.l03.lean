/-! THE LAW, checked (printed by wip/gen/gen12.py). -/
theorem cl_27 : ck_ch m_0 l_27 432 ((pm_b m_0).data.toList.drop 432) = true := by decide +kernel
theorem cl_28 : ck_ch m_0 l_28 448 ((pm_b m_0).data.toList.drop 448) = true := by decide +kernel
theorem cl_29 : ck_ch m_0 l_29 464 ((pm_b m_0).data.toList.drop 464) = true := by decide +kernel
theorem cl_30 : ck_ch m_0 l_30 480 ((pm_b m_0).data.toList.drop 480) = true := by decide +kernel
theorem cl_31 : ck_ch m_0 l_31 496 ((pm_b m_0).data.toList.drop 496) = true := by decide +kernel
theorem cl_32 : ck_ch m_0 l_32 512 ((pm_b m_0).data.toList.drop 512) = true := by decide +kernel
theorem cl_33 : ck_ch m_0 l_33 528 ((pm_b m_0).data.toList.drop 528) = true := by decide +kernel
theorem cl_34 : ck_ch m_0 l_34 544 ((pm_b m_0).data.toList.drop 544) = true := by decide +kernel
theorem cl_35 : ck_ch m_0 l_35 560 ((pm_b m_0).data.toList.drop 560) = true := by decide +kernel
