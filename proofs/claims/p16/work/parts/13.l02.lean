/-! THE LAW, checked (printed by wip/gen/gen12.py). -/
theorem cl_18 : ck_ch m_0 l_18 288 ((pm_b m_0).data.toList.drop 288) = true := by decide +kernel
theorem cl_19 : ck_ch m_0 l_19 304 ((pm_b m_0).data.toList.drop 304) = true := by decide +kernel
theorem cl_20 : ck_ch m_0 l_20 320 ((pm_b m_0).data.toList.drop 320) = true := by decide +kernel
theorem cl_21 : ck_ch m_0 l_21 336 ((pm_b m_0).data.toList.drop 336) = true := by decide +kernel
theorem cl_22 : ck_ch m_0 l_22 352 ((pm_b m_0).data.toList.drop 352) = true := by decide +kernel
theorem cl_23 : ck_ch m_0 l_23 368 ((pm_b m_0).data.toList.drop 368) = true := by decide +kernel
theorem cl_24 : ck_ch m_0 l_24 384 ((pm_b m_0).data.toList.drop 384) = true := by decide +kernel
theorem cl_25 : ck_ch m_0 l_25 400 ((pm_b m_0).data.toList.drop 400) = true := by decide +kernel
theorem cl_26 : ck_ch m_0 l_26 416 ((pm_b m_0).data.toList.drop 416) = true := by decide +kernel
