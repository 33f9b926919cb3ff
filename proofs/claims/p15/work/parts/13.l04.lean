/-! THE LAW, checked (printed by wip/gen/gen12.py). -/
theorem cl_36 : ck_ch m_0 l_36 576 = true := by decide +kernel
theorem cl_37 : ck_ch m_0 l_37 592 = true := by decide +kernel
theorem cl_38 : ck_ch m_0 l_38 608 = true := by decide +kernel
theorem cl_39 : ck_ch m_0 l_39 624 = true := by decide +kernel
theorem cl_40 : ck_ch m_0 l_40 640 = true := by decide +kernel
theorem cl_41 : ck_ch m_0 l_41 656 = true := by decide +kernel
theorem cl_42 : ck_ch m_0 l_42 672 = true := by decide +kernel
theorem cl_43 : ck_ch m_0 l_43 688 = true := by decide +kernel
theorem cl_44 : ck_ch m_0 l_44 704 = true := by decide +kernel
