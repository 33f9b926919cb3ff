/-! THE LAW, checked (printed by wip/gen/gen12.py). -/
theorem cl_36 : ck_ch m_0 l_36 576 ((pm_b m_0).data.toList.drop 576) = true := by decide +kernel
theorem cl_37 : ck_ch m_0 l_37 592 ((pm_b m_0).data.toList.drop 592) = true := by decide +kernel
theorem cl_38 : ck_ch m_0 l_38 608 ((pm_b m_0).data.toList.drop 608) = true := by decide +kernel
theorem cl_39 : ck_ch m_0 l_39 624 ((pm_b m_0).data.toList.drop 624) = true := by decide +kernel
theorem cl_40 : ck_ch m_0 l_40 640 ((pm_b m_0).data.toList.drop 640) = true := by decide +kernel
theorem cl_41 : ck_ch m_0 l_41 656 ((pm_b m_0).data.toList.drop 656) = true := by decide +kernel
theorem cl_42 : ck_ch m_0 l_42 672 ((pm_b m_0).data.toList.drop 672) = true := by decide +kernel
theorem cl_43 : ck_ch m_0 l_43 688 ((pm_b m_0).data.toList.drop 688) = true := by decide +kernel
theorem cl_44 : ck_ch m_0 l_44 704 ((pm_b m_0).data.toList.drop 704) = true := by decide +kernel
