section
/-! THE LAW, checked (printed by wip/gen/gen12.py). -/
theorem cl_0 : ck_ch m_0 l_0 0 ((pm_b m_0).data.toList.drop 0) = true := by decide +kernel
theorem cl_1 : ck_ch m_0 l_1 16 ((pm_b m_0).data.toList.drop 16) = true := by decide +kernel
theorem cl_2 : ck_ch m_0 l_2 32 ((pm_b m_0).data.toList.drop 32) = true := by decide +kernel
theorem cl_3 : ck_ch m_0 l_3 48 ((pm_b m_0).data.toList.drop 48) = true := by decide +kernel
theorem cl_4 : ck_ch m_0 l_4 64 ((pm_b m_0).data.toList.drop 64) = true := by decide +kernel
theorem cl_5 : ck_ch m_0 l_5 80 ((pm_b m_0).data.toList.drop 80) = true := by decide +kernel
theorem cl_6 : ck_ch m_0 l_6 96 ((pm_b m_0).data.toList.drop 96) = true := by decide +kernel
theorem cl_7 : ck_ch m_0 l_7 112 ((pm_b m_0).data.toList.drop 112) = true := by decide +kernel
theorem cl_8 : ck_ch m_0 l_8 128 ((pm_b m_0).data.toList.drop 128) = true := by decide +kernel
end
section
/-! THE LAW, checked (printed by wip/gen/gen12.py). -/
theorem cl_9 : ck_ch m_0 l_9 144 ((pm_b m_0).data.toList.drop 144) = true := by decide +kernel
theorem cl_10 : ck_ch m_0 l_10 160 ((pm_b m_0).data.toList.drop 160) = true := by decide +kernel
theorem cl_11 : ck_ch m_0 l_11 176 ((pm_b m_0).data.toList.drop 176) = true := by decide +kernel
theorem cl_12 : ck_ch m_0 l_12 192 ((pm_b m_0).data.toList.drop 192) = true := by decide +kernel
theorem cl_13 : ck_ch m_0 l_13 208 ((pm_b m_0).data.toList.drop 208) = true := by decide +kernel
theorem cl_14 : ck_ch m_0 l_14 224 ((pm_b m_0).data.toList.drop 224) = true := by decide +kernel
theorem cl_15 : ck_ch m_0 l_15 240 ((pm_b m_0).data.toList.drop 240) = true := by decide +kernel
theorem cl_16 : ck_ch m_0 l_16 256 ((pm_b m_0).data.toList.drop 256) = true := by decide +kernel
theorem cl_17 : ck_ch m_0 l_17 272 ((pm_b m_0).data.toList.drop 272) = true := by decide +kernel
end
section
/-! THE LAW, checked (printed by wip/gen/gen12.py). -/
theorem cl_18 : ck_ch m_0 l_18 288 ((pm_b m_0).data.toList.drop 288) = true := by decide +kernel
theorem cl_19 : ck_ch m_0 l_19 304 ((pm_b m_0).data.toList.drop 304) = true := by decide +kernel
theorem cl_20 : ck_ch m_0 l_20 320 ((pm_b m_0).data.toList.drop 320) = true := by decide +kernel
theorem cl_21 : ck_ch m_0 l_21 336 ((pm_b m_0).data.toList.drop 336) = true := by decide +kernel
theorem cl_22 : ck_ch m_0 l_22 352 ((pm_b m_0).data.toList.drop 352) = true := by decide +kernel
theorem cl_23 : ck_ch m_0 l_23 368 ((pm_b m_0).data.toList.drop 368) = true := by decide +kernel
theorem cl_24 : ck_ch m_0 l_24 384 ((pm_b m_0).data.toList.drop 384) = true := by decide +kernel
theorem cl_25 : ck_ch m_0 l_25 400 ((pm_b m_0).data.toList.drop 400) = true := by decide +kernel
theorem cl_26 : ck_ch m_0 l_26 416 ((pm_b m_0).data.toList.drop 416) = true := by decide +kernel
end
section
/-! THE LAW, checked (printed by wip/gen/gen12.py). -/
theorem cl_27 : ck_ch m_0 l_27 432 ((pm_b m_0).data.toList.drop 432) = true := by decide +kernel
theorem cl_28 : ck_ch m_0 l_28 448 ((pm_b m_0).data.toList.drop 448) = true := by decide +kernel
theorem cl_29 : ck_ch m_0 l_29 464 ((pm_b m_0).data.toList.drop 464) = true := by decide +kernel
theorem cl_30 : ck_ch m_0 l_30 480 ((pm_b m_0).data.toList.drop 480) = true := by decide +kernel
theorem cl_31 : ck_ch m_0 l_31 496 ((pm_b m_0).data.toList.drop 496) = true := by decide +kernel
theorem cl_32 : ck_ch m_0 l_32 512 ((pm_b m_0).data.toList.drop 512) = true := by decide +kernel
theorem cl_33 : ck_ch m_0 l_33 528 ((pm_b m_0).data.toList.drop 528) = true := by decide +kernel
theorem cl_34 : ck_ch m_0 l_34 544 ((pm_b m_0).data.toList.drop 544) = true := by decide +kernel
theorem cl_35 : ck_ch m_0 l_35 560 ((pm_b m_0).data.toList.drop 560) = true := by decide +kernel
end
section
/-! THE LAW, checked (printed by wip/gen/gen12.py). -/
theorem cl_36 : ck_ch m_0 l_36 576 ((pm_b m_0).data.toList.drop 576) = true := by decide +kernel
theorem cl_37 : ck_ch m_0 l_37 592 ((pm_b m_0).data.toList.drop 592) = true := by decide +kernel
theorem cl_38 : ck_ch m_0 l_38 608 ((pm_b m_0).data.toList.drop 608) = true := by decide +kernel
theorem cl_39 : ck_ch m_0 l_39 624 ((pm_b m_0).data.toList.drop 624) = true := by decide +kernel
theorem cl_40 : ck_ch m_0 l_40 640 ((pm_b m_0).data.toList.drop 640) = true := by decide +kernel
theorem cl_41 : ck_ch m_0 l_41 656 ((pm_b m_0).data.toList.drop 656) = true := by decide +kernel
theorem cl_42 : ck_ch m_0 l_42 672 ((pm_b m_0).data.toList.drop 672) = true := by decide +kernel
theorem cl_43 : ck_ch m_0 l_43 688 ((pm_b m_0).data.toList.drop 688) = true := by decide +kernel
theorem cl_44 : ck_ch m_0 l_44 704 ((pm_b m_0).data.toList.drop 704) = true := by decide +kernel
end
section
/-! THE LAW, checked (printed by wip/gen/gen12.py). -/
theorem cl_45 : ck_ch m_0 l_45 720 ((pm_b m_0).data.toList.drop 720) = true := by decide +kernel
theorem cl_46 : ck_ch m_0 l_46 736 ((pm_b m_0).data.toList.drop 736) = true := by decide +kernel
theorem cl_47 : ck_ch m_0 l_47 752 ((pm_b m_0).data.toList.drop 752) = true := by decide +kernel
theorem cl_48 : ck_ch m_0 l_48 768 ((pm_b m_0).data.toList.drop 768) = true := by decide +kernel
theorem cl_49 : ck_ch m_0 l_49 784 ((pm_b m_0).data.toList.drop 784) = true := by decide +kernel
theorem cl_50 : ck_ch m_0 l_50 800 ((pm_b m_0).data.toList.drop 800) = true := by decide +kernel
theorem cl_51 : ck_ch m_0 l_51 816 ((pm_b m_0).data.toList.drop 816) = true := by decide +kernel
theorem cl_52 : ck_ch m_0 l_52 832 ((pm_b m_0).data.toList.drop 832) = true := by decide +kernel
theorem cl_53 : ck_ch m_0 l_53 848 ((pm_b m_0).data.toList.drop 848) = true := by decide +kernel
end
section
/-! THE LAW, checked (printed by wip/gen/gen12.py). -/
theorem cl_54 : ck_ch m_0 l_54 864 ((pm_b m_0).data.toList.drop 864) = true := by decide +kernel
theorem cl_55 : ck_ch m_0 l_55 880 ((pm_b m_0).data.toList.drop 880) = true := by decide +kernel
theorem cl_56 : ck_ch m_0 l_56 896 ((pm_b m_0).data.toList.drop 896) = true := by decide +kernel
theorem cl_57 : ck_ch m_0 l_57 912 ((pm_b m_0).data.toList.drop 912) = true := by decide +kernel
theorem cl_58 : ck_ch m_0 l_58 928 ((pm_b m_0).data.toList.drop 928) = true := by decide +kernel
theorem cl_59 : ck_ch m_0 l_59 944 ((pm_b m_0).data.toList.drop 944) = true := by decide +kernel
theorem cl_60 : ck_ch m_0 l_60 960 ((pm_b m_0).data.toList.drop 960) = true := by decide +kernel
theorem cl_61 : ck_ch m_0 l_61 976 ((pm_b m_0).data.toList.drop 976) = true := by decide +kernel
theorem cl_62 : ck_ch m_0 l_62 992 ((pm_b m_0).data.toList.drop 992) = true := by decide +kernel
end
section
/-! THE LAW, checked (printed by wip/gen/gen12.py). -/
theorem cl_63 : ck_ch m_0 l_63 1008 ((pm_b m_0).data.toList.drop 1008) = true := by decide +kernel
theorem cl_64 : ck_ch m_0 l_64 1024 ((pm_b m_0).data.toList.drop 1024) = true := by decide +kernel
theorem cl_65 : ck_ch m_0 l_65 1040 ((pm_b m_0).data.toList.drop 1040) = true := by decide +kernel
theorem cl_66 : ck_ch m_0 l_66 1056 ((pm_b m_0).data.toList.drop 1056) = true := by decide +kernel
theorem cl_67 : ck_ch m_0 l_67 1072 ((pm_b m_0).data.toList.drop 1072) = true := by decide +kernel
theorem cl_68 : ck_ch m_0 l_68 1088 ((pm_b m_0).data.toList.drop 1088) = true := by decide +kernel
theorem cl_69 : ck_ch m_0 l_69 1104 ((pm_b m_0).data.toList.drop 1104) = true := by decide +kernel
theorem cl_70 : ck_ch m_0 l_70 1120 ((pm_b m_0).data.toList.drop 1120) = true := by decide +kernel
theorem cl_71 : ck_ch m_0 l_71 1136 ((pm_b m_0).data.toList.drop 1136) = true := by decide +kernel
end
section
/-! THE LAW, checked (printed by wip/gen/gen12.py). -/
theorem cl_72 : ck_ch m_0 l_72 1152 ((pm_b m_0).data.toList.drop 1152) = true := by decide +kernel
theorem cl_73 : ck_ch m_0 l_73 1168 ((pm_b m_0).data.toList.drop 1168) = true := by decide +kernel
theorem cl_74 : ck_ch m_0 l_74 1184 ((pm_b m_0).data.toList.drop 1184) = true := by decide +kernel
theorem cl_75 : ck_ch m_0 l_75 1200 ((pm_b m_0).data.toList.drop 1200) = true := by decide +kernel
theorem cl_76 : ck_ch m_0 l_76 1216 ((pm_b m_0).data.toList.drop 1216) = true := by decide +kernel
theorem cl_77 : ck_ch m_0 l_77 1232 ((pm_b m_0).data.toList.drop 1232) = true := by decide +kernel
theorem cl_78 : ck_ch m_0 l_78 1248 ((pm_b m_0).data.toList.drop 1248) = true := by decide +kernel
theorem cl_79 : ck_ch m_0 l_79 1264 ((pm_b m_0).data.toList.drop 1264) = true := by decide +kernel
theorem cl_80 : ck_ch m_0 l_80 1280 ((pm_b m_0).data.toList.drop 1280) = true := by decide +kernel
end
section
/-! THE LAW, checked (printed by wip/gen/gen12.py). -/
theorem cl_81 : ck_ch m_0 l_81 1296 ((pm_b m_0).data.toList.drop 1296) = true := by decide +kernel
theorem cl_82 : ck_ch m_0 l_82 1312 ((pm_b m_0).data.toList.drop 1312) = true := by decide +kernel
theorem cl_83 : ck_ch m_0 l_83 1328 ((pm_b m_0).data.toList.drop 1328) = true := by decide +kernel
end
