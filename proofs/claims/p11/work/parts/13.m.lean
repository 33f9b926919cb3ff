section
/-! THE METHODS, checked (printed by wip/gen/gen12.py). -/
theorem ck_1 : ck_P m_1 := ⟨plainFor_of_name pl_0, rfl, by decide +kernel⟩
theorem ck_2 : ck_P m_2 := ⟨plainFor_of_name pl_3, rfl, by decide +kernel⟩
theorem ck_3 : ck_P m_3 := ⟨plainFor_of_name pl_4, rfl, by decide +kernel⟩
theorem ck_4 : ck_P m_4 := ⟨plainFor_of_name pl_5, rfl, by decide +kernel⟩
theorem ck_5 : ck_P m_5 := ⟨plainFor_of_name pl_5, rfl, by decide +kernel⟩
theorem ck_6 : ck_P m_6 := ⟨by decide +kernel, rfl, by decide +kernel⟩
theorem ck_7 : ck_P m_7 := ⟨plainFor_of_name pl_6, rfl, by decide +kernel⟩
theorem ck_8 : ck_P m_8 := ⟨plainFor_of_name pl_1, rfl, by decide +kernel⟩
theorem ck_9 : ck_P m_9 := ⟨plainFor_of_name pl_2, rfl, by decide +kernel⟩
theorem ck_10 : ck_P m_10 := ⟨plainFor_of_name pl_0, rfl, by decide +kernel⟩
theorem ck_11 : ck_P m_11 := ⟨plainFor_of_name pl_3, rfl, by decide +kernel⟩
theorem ck_12 : ck_P m_12 := ⟨plainFor_of_name pl_0, rfl, by decide +kernel⟩
theorem ck_13 : ck_P m_13 := ⟨plainFor_of_name pl_0, rfl, by decide +kernel⟩
theorem ck_14 : ck_P m_14 := ⟨plainFor_of_name pl_4, rfl, by decide +kernel⟩
theorem ck_15 : ck_P m_15 := ⟨plainFor_of_name pl_3, rfl, by decide +kernel⟩
theorem ck_16 : ck_P m_16 := ⟨plainFor_of_name pl_3, rfl, by decide +kernel⟩
theorem ck_17 : ck_P m_17 := ⟨plainFor_of_name pl_3, rfl, by decide +kernel⟩
theorem ck_18 : ck_P m_18 := ⟨plainFor_of_name pl_3, rfl, by decide +kernel⟩
theorem ck_19 : ck_P m_19 := ⟨plainFor_of_name pl_4, rfl, by decide +kernel⟩
theorem ck_20 : ck_P m_20 := ⟨plainFor_of_name pl_4, rfl, by decide +kernel⟩
theorem ck_21 : ck_P m_21 := ⟨plainFor_of_name pl_3, rfl, by decide +kernel⟩
theorem ck_22 : ck_P m_22 := ⟨plainFor_of_name pl_4, rfl, by decide +kernel⟩
theorem ck_23 : ck_P m_23 := ⟨plainFor_of_name pl_4, rfl, by decide +kernel⟩
theorem ck_24 : ck_P m_24 := ⟨plainFor_of_name pl_4, rfl, by decide +kernel⟩
theorem ck_25 : ck_P m_25 := ⟨plainFor_of_name pl_4, rfl, by decide +kernel⟩
theorem ck_26 : ck_P m_26 := ⟨plainFor_of_name pl_4, rfl, by decide +kernel⟩
theorem ck_27 : ck_P m_27 := ⟨plainFor_of_name pl_4, rfl, by decide +kernel⟩
theorem ck_28 : ck_P m_28 := ⟨plainFor_of_name pl_5, rfl, by decide +kernel⟩
theorem ck_29 : ck_P m_29 := ⟨plainFor_of_name pl_5, rfl, by decide +kernel⟩
theorem ck_30 : ck_P m_30 := ⟨plainFor_of_name pl_5, rfl, by decide +kernel⟩
theorem ck_31 : ck_P m_31 := ⟨plainFor_of_name pl_4, rfl, by decide +kernel⟩
theorem ck_32 : ck_P m_32 := ⟨plainFor_of_name pl_5, rfl, by decide +kernel⟩
theorem ck_33 : ck_P m_33 := ⟨plainFor_of_name pl_4, rfl, by decide +kernel⟩
theorem ck_34 : ck_P m_34 := ⟨plainFor_of_name pl_4, rfl, by decide +kernel⟩
theorem ck_35 : ck_P m_35 := ⟨plainFor_of_name pl_4, rfl, by decide +kernel⟩
theorem ck_36 : ck_P m_36 := ⟨plainFor_of_name pl_4, rfl, by decide +kernel⟩
theorem ck_37 : ck_P m_37 := ⟨plainFor_of_name pl_4, rfl, by decide +kernel⟩
theorem ck_38 : ck_P m_38 := ⟨plainFor_of_name pl_5, rfl, by decide +kernel⟩
theorem ck_39 : ck_P m_39 := ⟨plainFor_of_name pl_5, rfl, by decide +kernel⟩
theorem ck_40 : ck_P m_40 := ⟨plainFor_of_name pl_5, rfl, by decide +kernel⟩
theorem ck_41 : ck_P m_41 := ⟨plainFor_of_name pl_5, rfl, by decide +kernel⟩
theorem ck_42 : ck_P m_42 := ⟨plainFor_of_name pl_5, rfl, by decide +kernel⟩
theorem ck_43 : ck_P m_43 := ⟨plainFor_of_name pl_0, rfl, by decide +kernel⟩
theorem ck_44 : ck_P m_44 := ⟨plainFor_of_name pl_0, rfl, by decide +kernel⟩
theorem ck_45 : ck_P m_45 := ⟨plainFor_of_name pl_0, rfl, by decide +kernel⟩
end
section
/-! THE METHODS, checked (printed by wip/gen/gen12.py). -/
theorem ck_46 : ck_P m_46 := ⟨plainFor_of_name pl_0, rfl, by decide +kernel⟩
theorem ck_47 : ck_P m_47 := ⟨plainFor_of_name pl_0, rfl, by decide +kernel⟩
theorem ck_48 : ck_P m_48 := ⟨plainFor_of_name pl_0, rfl, by decide +kernel⟩
theorem ck_49 : ck_P m_49 := ⟨plainFor_of_name pl_0, rfl, by decide +kernel⟩
theorem ck_50 : ck_P m_50 := ⟨plainFor_of_name pl_5, rfl, by decide +kernel⟩
theorem ck_51 : ck_P m_51 := ⟨plainFor_of_name pl_0, rfl, by decide +kernel⟩
theorem ck_52 : ck_P m_52 := ⟨plainFor_of_name pl_0, rfl, by decide +kernel⟩
theorem ck_53 : ck_P m_53 := ⟨plainFor_of_name pl_0, rfl, by decide +kernel⟩
theorem ck_54 : ck_P m_54 := ⟨plainFor_of_name pl_0, rfl, by decide +kernel⟩
theorem ck_55 : ck_P m_55 := ⟨plainFor_of_name pl_0, rfl, by decide +kernel⟩
theorem ck_56 : ck_P m_56 := ⟨plainFor_of_name pl_0, rfl, by decide +kernel⟩
theorem ck_57 : ck_P m_57 := ⟨plainFor_of_name pl_0, rfl, by decide +kernel⟩
theorem ck_58 : ck_P m_58 := ⟨plainFor_of_name pl_6, rfl, by decide +kernel⟩
theorem ck_59 : ck_P m_59 := ⟨plainFor_of_name pl_5, rfl, by decide +kernel⟩
theorem ck_60 : ck_P m_60 := ⟨plainFor_of_name pl_5, rfl, by decide +kernel⟩
theorem ck_61 : ck_P m_61 := ⟨plainFor_of_name pl_6, rfl, by decide +kernel⟩
theorem ck_62 : ck_P m_62 := ⟨by decide +kernel, rfl, by decide +kernel⟩
theorem ck_63 : ck_P m_63 := ⟨by decide +kernel, rfl, by decide +kernel⟩
theorem ck_64 : ck_P m_64 := ⟨plainFor_of_name pl_6, rfl, by decide +kernel⟩
theorem ck_65 : ck_P m_65 := ⟨plainFor_of_name pl_0, rfl, by decide +kernel⟩
theorem ck_66 : ck_P m_66 := ⟨plainFor_of_name pl_0, rfl, by decide +kernel⟩
theorem ck_67 : ck_P m_67 := ⟨plainFor_of_name pl_1, rfl, by decide +kernel⟩
theorem ck_68 : ck_P m_68 := ⟨plainFor_of_name pl_6, rfl, by decide +kernel⟩
theorem ck_69 : ck_P m_69 := ⟨plainFor_of_name pl_6, rfl, by decide +kernel⟩
theorem ck_70 : ck_P m_70 := ⟨plainFor_of_name pl_6, rfl, by decide +kernel⟩
theorem ck_71 : ck_P m_71 := ⟨plainFor_of_name pl_6, rfl, by decide +kernel⟩
theorem ck_72 : ck_P m_72 := ⟨plainFor_of_name pl_0, rfl, by decide +kernel⟩
theorem ck_73 : ck_P m_73 := ⟨plainFor_of_name pl_6, rfl, by decide +kernel⟩
theorem ck_74 : ck_P m_74 := ⟨plainFor_of_name pl_0, rfl, by decide +kernel⟩
theorem ck_75 : ck_P m_75 := ⟨plainFor_of_name pl_0, rfl, by decide +kernel⟩
theorem ck_76 : ck_P m_76 := ⟨plainFor_of_name pl_6, rfl, by decide +kernel⟩
theorem ck_77 : ck_P m_77 := ⟨plainFor_of_name pl_6, rfl, by decide +kernel⟩
theorem ck_78 : ck_P m_78 := ⟨plainFor_of_name pl_5, rfl, by decide +kernel⟩
theorem ck_79 : ck_P m_79 := ⟨plainFor_of_name pl_0, rfl, by decide +kernel⟩
theorem ck_80 : ck_P m_80 := ⟨plainFor_of_name pl_1, rfl, by decide +kernel⟩
theorem ck_81 : ck_P m_81 := ⟨plainFor_of_name pl_0, rfl, by decide +kernel⟩
theorem ck_82 : ck_P m_82 := ⟨plainFor_of_name pl_1, rfl, by decide +kernel⟩
theorem ck_83 : ck_P m_83 := ⟨plainFor_of_name pl_1, rfl, by decide +kernel⟩
theorem ck_84 : ck_P m_84 := ⟨plainFor_of_name pl_0, rfl, by decide +kernel⟩
theorem ck_85 : ck_P m_85 := ⟨plainFor_of_name pl_1, rfl, by decide +kernel⟩
theorem ck_86 : ck_P m_86 := ⟨plainFor_of_name pl_5, rfl, by decide +kernel⟩
theorem ck_87 : ck_P m_87 := ⟨plainFor_of_name pl_1, rfl, by decide +kernel⟩
theorem ck_88 : ck_P m_88 := ⟨plainFor_of_name pl_1, rfl, by decide +kernel⟩
theorem ck_89 : ck_P m_89 := ⟨plainFor_of_name pl_0, rfl, by decide +kernel⟩
theorem ck_90 : ck_P m_90 := ⟨plainFor_of_name pl_0, rfl, by decide +kernel⟩
end
section
/-! THE METHODS, checked (printed by wip/gen/gen12.py). -/
theorem ck_91 : ck_P m_91 := ⟨plainFor_of_name pl_0, rfl, by decide +kernel⟩
theorem ck_92 : ck_P m_92 := ⟨plainFor_of_name pl_1, rfl, by decide +kernel⟩
theorem ck_93 : ck_P m_93 := ⟨plainFor_of_name pl_0, rfl, by decide +kernel⟩
theorem ck_94 : ck_P m_94 := ⟨plainFor_of_name pl_5, rfl, by decide +kernel⟩
theorem ck_95 : ck_P m_95 := ⟨plainFor_of_name pl_5, rfl, by decide +kernel⟩
theorem ck_96 : ck_P m_96 := ⟨plainFor_of_name pl_0, rfl, by decide +kernel⟩
theorem ck_97 : ck_P m_97 := ⟨plainFor_of_name pl_1, rfl, by decide +kernel⟩
theorem ck_98 : ck_P m_98 := ⟨plainFor_of_name pl_5, rfl, by decide +kernel⟩
theorem ck_99 : ck_P m_99 := ⟨plainFor_of_name pl_5, rfl, by decide +kernel⟩
theorem ck_100 : ck_P m_100 := ⟨plainFor_of_name pl_5, rfl, by decide +kernel⟩
theorem ck_101 : ck_P m_101 := ⟨plainFor_of_name pl_0, rfl, by decide +kernel⟩
theorem ck_102 : ck_P m_102 := ⟨plainFor_of_name pl_1, rfl, by decide +kernel⟩
theorem ck_103 : ck_P m_103 := ⟨plainFor_of_name pl_5, rfl, by decide +kernel⟩
theorem ck_104 : ck_P m_104 := ⟨plainFor_of_name pl_0, rfl, by decide +kernel⟩
theorem ck_105 : ck_P m_105 := ⟨plainFor_of_name pl_1, rfl, by decide +kernel⟩
theorem ck_106 : ck_P m_106 := ⟨plainFor_of_name pl_0, rfl, by decide +kernel⟩
theorem ck_107 : ck_P m_107 := ⟨plainFor_of_name pl_1, rfl, by decide +kernel⟩
theorem ck_108 : ck_P m_108 := ⟨plainFor_of_name pl_1, rfl, by decide +kernel⟩
theorem ck_109 : ck_P m_109 := ⟨plainFor_of_name pl_5, rfl, by decide +kernel⟩
theorem ck_110 : ck_P m_110 := ⟨plainFor_of_name pl_0, rfl, by decide +kernel⟩
theorem ck_111 : ck_P m_111 := ⟨plainFor_of_name pl_1, rfl, by decide +kernel⟩
theorem ck_112 : ck_P m_112 := ⟨plainFor_of_name pl_0, rfl, by decide +kernel⟩
theorem ck_113 : ck_P m_113 := ⟨plainFor_of_name pl_1, rfl, by decide +kernel⟩
theorem ck_114 : ck_P m_114 := ⟨plainFor_of_name pl_1, rfl, by decide +kernel⟩
theorem ck_115 : ck_P m_115 := ⟨plainFor_of_name pl_1, rfl, by decide +kernel⟩
theorem ck_116 : ck_P m_116 := ⟨plainFor_of_name pl_5, rfl, by decide +kernel⟩
theorem ck_117 : ck_P m_117 := ⟨plainFor_of_name pl_0, rfl, by decide +kernel⟩
theorem ck_118 : ck_P m_118 := ⟨plainFor_of_name pl_0, rfl, by decide +kernel⟩
theorem ck_119 : ck_P m_119 := ⟨plainFor_of_name pl_0, rfl, by decide +kernel⟩
theorem ck_120 : ck_P m_120 := ⟨plainFor_of_name pl_0, rfl, by decide +kernel⟩
theorem ck_121 : ck_P m_121 := ⟨plainFor_of_name pl_1, rfl, by decide +kernel⟩
theorem ck_122 : ck_P m_122 := ⟨plainFor_of_name pl_1, rfl, by decide +kernel⟩
theorem ck_123 : ck_P m_123 := ⟨plainFor_of_name pl_6, rfl, by decide +kernel⟩
theorem ck_124 : ck_P m_124 := ⟨plainFor_of_name pl_1, rfl, by decide +kernel⟩
theorem ck_125 : ck_P m_125 := ⟨plainFor_of_name pl_0, rfl, by decide +kernel⟩
theorem ck_126 : ck_P m_126 := ⟨plainFor_of_name pl_1, rfl, by decide +kernel⟩
theorem ck_127 : ck_P m_127 := ⟨by decide +kernel, rfl, by decide +kernel⟩
theorem ck_128 : ck_P m_128 := ⟨plainFor_of_name pl_0, rfl, by decide +kernel⟩
theorem ck_129 : ck_P m_129 := ⟨plainFor_of_name pl_0, rfl, by decide +kernel⟩
theorem ck_130 : ck_P m_130 := ⟨plainFor_of_name pl_0, rfl, by decide +kernel⟩
theorem ck_131 : ck_P m_131 := ⟨plainFor_of_name pl_0, rfl, by decide +kernel⟩
theorem ck_132 : ck_P m_132 := ⟨plainFor_of_name pl_0, rfl, by decide +kernel⟩
theorem ck_133 : ck_P m_133 := ⟨plainFor_of_name pl_2, rfl, by decide +kernel⟩
theorem ck_134 : ck_P m_134 := ⟨plainFor_of_name pl_0, rfl, by decide +kernel⟩
theorem ck_135 : ck_P m_135 := ⟨plainFor_of_name pl_2, rfl, by decide +kernel⟩
end
section
/-! THE METHODS, checked (printed by wip/gen/gen12.py). -/
theorem ck_136 : ck_P m_136 := ⟨plainFor_of_name pl_2, rfl, by decide +kernel⟩
theorem ck_137 : ck_P m_137 := ⟨plainFor_of_name pl_2, rfl, by decide +kernel⟩
theorem ck_138 : ck_P m_138 := ⟨plainFor_of_name pl_0, rfl, by decide +kernel⟩
theorem ck_139 : ck_P m_139 := ⟨plainFor_of_name pl_2, rfl, by decide +kernel⟩
theorem ck_140 : ck_P m_140 := ⟨plainFor_of_name pl_2, rfl, by decide +kernel⟩
theorem ck_141 : ck_P m_141 := ⟨plainFor_of_name pl_0, rfl, by decide +kernel⟩
theorem ck_142 : ck_P m_142 := ⟨plainFor_of_name pl_0, rfl, by decide +kernel⟩
theorem ck_143 : ck_P m_143 := ⟨plainFor_of_name pl_0, rfl, by decide +kernel⟩
theorem ck_144 : ck_P m_144 := ⟨plainFor_of_name pl_5, rfl, by decide +kernel⟩
theorem ck_145 : ck_P m_145 := ⟨plainFor_of_name pl_8, rfl, by decide +kernel⟩
theorem ck_146 : ck_P m_146 := ⟨plainFor_of_name pl_8, rfl, by decide +kernel⟩
theorem ck_147 : ck_P m_147 := ⟨plainFor_of_name pl_8, rfl, by decide +kernel⟩
theorem ck_148 : ck_P m_148 := ⟨plainFor_of_name pl_8, rfl, by decide +kernel⟩
theorem ck_149 : ck_P m_149 := ⟨plainFor_of_name pl_8, rfl, by decide +kernel⟩
theorem ck_150 : ck_P m_150 := ⟨plainFor_of_name pl_8, rfl, by decide +kernel⟩
theorem ck_151 : ck_P m_151 := ⟨plainFor_of_name pl_8, rfl, by decide +kernel⟩
theorem ck_152 : ck_P m_152 := ⟨plainFor_of_name pl_8, rfl, by decide +kernel⟩
theorem ck_153 : ck_P m_153 := ⟨plainFor_of_name pl_8, rfl, by decide +kernel⟩
theorem ck_154 : ck_P m_154 := ⟨plainFor_of_name pl_8, rfl, by decide +kernel⟩
theorem ck_155 : ck_P m_155 := ⟨plainFor_of_name pl_8, rfl, by decide +kernel⟩
theorem ck_156 : ck_P m_156 := ⟨plainFor_of_name pl_8, rfl, by decide +kernel⟩
theorem ck_157 : ck_P m_157 := ⟨plainFor_of_name pl_8, rfl, by decide +kernel⟩
theorem ck_158 : ck_P m_158 := ⟨plainFor_of_name pl_8, rfl, by decide +kernel⟩
theorem ck_159 : ck_P m_159 := ⟨plainFor_of_name pl_8, rfl, by decide +kernel⟩
theorem ck_160 : ck_P m_160 := ⟨plainFor_of_name pl_8, rfl, by decide +kernel⟩
theorem ck_161 : ck_P m_161 := ⟨plainFor_of_name pl_8, rfl, by decide +kernel⟩
theorem ck_162 : ck_P m_162 := ⟨plainFor_of_name pl_8, rfl, by decide +kernel⟩
theorem ck_163 : ck_P m_163 := ⟨plainFor_of_name pl_8, rfl, by decide +kernel⟩
theorem ck_164 : ck_P m_164 := ⟨plainFor_of_name pl_8, rfl, by decide +kernel⟩
theorem ck_165 : ck_P m_165 := ⟨plainFor_of_name pl_8, rfl, by decide +kernel⟩
theorem ck_166 : ck_P m_166 := ⟨plainFor_of_name pl_8, rfl, by decide +kernel⟩
theorem ck_167 : ck_P m_167 := ⟨plainFor_of_name pl_8, rfl, by decide +kernel⟩
theorem ck_168 : ck_P m_168 := ⟨plainFor_of_name pl_8, rfl, by decide +kernel⟩
theorem ck_169 : ck_P m_169 := ⟨plainFor_of_name pl_8, rfl, by decide +kernel⟩
theorem ck_170 : ck_P m_170 := ⟨plainFor_of_name pl_8, rfl, by decide +kernel⟩
theorem ck_171 : ck_P m_171 := ⟨plainFor_of_name pl_8, rfl, by decide +kernel⟩
theorem ck_172 : ck_P m_172 := ⟨plainFor_of_name pl_8, rfl, by decide +kernel⟩
theorem ck_173 : ck_P m_173 := ⟨plainFor_of_name pl_8, rfl, by decide +kernel⟩
theorem ck_174 : ck_P m_174 := ⟨plainFor_of_name pl_8, rfl, by decide +kernel⟩
theorem ck_175 : ck_P m_175 := ⟨plainFor_of_name pl_8, rfl, by decide +kernel⟩
theorem ck_176 : ck_P m_176 := ⟨plainFor_of_name pl_8, rfl, by decide +kernel⟩
theorem ck_177 : ck_P m_177 := ⟨plainFor_of_name pl_8, rfl, by decide +kernel⟩
theorem ck_178 : ck_P m_178 := ⟨plainFor_of_name pl_8, rfl, by decide +kernel⟩
theorem ck_179 : ck_P m_179 := ⟨plainFor_of_name pl_8, rfl, by decide +kernel⟩
theorem ck_180 : ck_P m_180 := ⟨plainFor_of_name pl_8, rfl, by decide +kernel⟩
end
section
/-! THE METHODS, checked (printed by wip/gen/gen12.py). -/
theorem ck_181 : ck_P m_181 := ⟨plainFor_of_name pl_8, rfl, by decide +kernel⟩
theorem ck_182 : ck_P m_182 := ⟨plainFor_of_name pl_8, rfl, by decide +kernel⟩
theorem ck_183 : ck_P m_183 := ⟨plainFor_of_name pl_8, rfl, by decide +kernel⟩
theorem ck_184 : ck_P m_184 := ⟨plainFor_of_name pl_8, rfl, by decide +kernel⟩
theorem ck_185 : ck_P m_185 := ⟨plainFor_of_name pl_8, rfl, by decide +kernel⟩
theorem ck_186 : ck_P m_186 := ⟨plainFor_of_name pl_8, rfl, by decide +kernel⟩
theorem ck_187 : ck_P m_187 := ⟨plainFor_of_name pl_8, rfl, by decide +kernel⟩
theorem ck_188 : ck_P m_188 := ⟨plainFor_of_name pl_8, rfl, by decide +kernel⟩
theorem ck_189 : ck_P m_189 := ⟨plainFor_of_name pl_8, rfl, by decide +kernel⟩
theorem ck_190 : ck_P m_190 := ⟨plainFor_of_name pl_8, rfl, by decide +kernel⟩
theorem ck_191 : ck_P m_191 := ⟨plainFor_of_name pl_8, rfl, by decide +kernel⟩
theorem ck_192 : ck_P m_192 := ⟨plainFor_of_name pl_8, rfl, by decide +kernel⟩
theorem ck_193 : ck_P m_193 := ⟨plainFor_of_name pl_8, rfl, by decide +kernel⟩
theorem ck_194 : ck_P m_194 := ⟨plainFor_of_name pl_8, rfl, by decide +kernel⟩
theorem ck_195 : ck_P m_195 := ⟨plainFor_of_name pl_8, rfl, by decide +kernel⟩
theorem ck_196 : ck_P m_196 := ⟨plainFor_of_name pl_8, rfl, by decide +kernel⟩
theorem ck_197 : ck_P m_197 := ⟨plainFor_of_name pl_8, rfl, by decide +kernel⟩
theorem ck_198 : ck_P m_198 := ⟨plainFor_of_name pl_8, rfl, by decide +kernel⟩
theorem ck_199 : ck_P m_199 := ⟨plainFor_of_name pl_8, rfl, by decide +kernel⟩
theorem ck_200 : ck_P m_200 := ⟨plainFor_of_name pl_8, rfl, by decide +kernel⟩
theorem ck_201 : ck_P m_201 := ⟨plainFor_of_name pl_8, rfl, by decide +kernel⟩
theorem ck_202 : ck_P m_202 := ⟨plainFor_of_name pl_8, rfl, by decide +kernel⟩
theorem ck_203 : ck_P m_203 := ⟨plainFor_of_name pl_8, rfl, by decide +kernel⟩
theorem ck_204 : ck_P m_204 := ⟨plainFor_of_name pl_8, rfl, by decide +kernel⟩
theorem ck_205 : ck_P m_205 := ⟨plainFor_of_name pl_8, rfl, by decide +kernel⟩
theorem ck_206 : ck_P m_206 := ⟨plainFor_of_name pl_8, rfl, by decide +kernel⟩
theorem ck_207 : ck_P m_207 := ⟨plainFor_of_name pl_8, rfl, by decide +kernel⟩
theorem ck_208 : ck_P m_208 := ⟨plainFor_of_name pl_8, rfl, by decide +kernel⟩
theorem ck_209 : ck_P m_209 := ⟨plainFor_of_name pl_8, rfl, by decide +kernel⟩
theorem ck_210 : ck_P m_210 := ⟨plainFor_of_name pl_8, rfl, by decide +kernel⟩
theorem ck_211 : ck_P m_211 := ⟨plainFor_of_name pl_8, rfl, by decide +kernel⟩
theorem ck_212 : ck_P m_212 := ⟨plainFor_of_name pl_8, rfl, by decide +kernel⟩
theorem ck_213 : ck_P m_213 := ⟨plainFor_of_name pl_8, rfl, by decide +kernel⟩
theorem ck_214 : ck_P m_214 := ⟨plainFor_of_name pl_8, rfl, by decide +kernel⟩
theorem ck_215 : ck_P m_215 := ⟨plainFor_of_name pl_8, rfl, by decide +kernel⟩
theorem ck_216 : ck_P m_216 := ⟨plainFor_of_name pl_8, rfl, by decide +kernel⟩
theorem ck_217 : ck_P m_217 := ⟨plainFor_of_name pl_8, rfl, by decide +kernel⟩
theorem ck_218 : ck_P m_218 := ⟨plainFor_of_name pl_8, rfl, by decide +kernel⟩
theorem ck_219 : ck_P m_219 := ⟨plainFor_of_name pl_8, rfl, by decide +kernel⟩
theorem ck_220 : ck_P m_220 := ⟨plainFor_of_name pl_8, rfl, by decide +kernel⟩
theorem ck_221 : ck_P m_221 := ⟨plainFor_of_name pl_8, rfl, by decide +kernel⟩
theorem ck_222 : ck_P m_222 := ⟨plainFor_of_name pl_8, rfl, by decide +kernel⟩
theorem ck_223 : ck_P m_223 := ⟨plainFor_of_name pl_8, rfl, by decide +kernel⟩
theorem ck_224 : ck_P m_224 := ⟨plainFor_of_name pl_8, rfl, by decide +kernel⟩
end
section
/-! ALL METHODS, checked. -/
theorem ck_cons {m : pm_M} {ch : List (Option pm_E)} {r : List (List (Option pm_E))} {q : Nat} (h1 : ck_ch m ch (16 * q) ((pm_b m).data.toList.drop (16 * q)) = true) (h2 : ck_t m r (q + 1) = true) : ck_t m (ch :: r) q = true := by
  show (ck_ch m ch (16 * q) ((pm_b m).data.toList.drop (16 * q)) && ck_t m r (q + 1)) = true
  rw [h1, h2]
  rfl
set_option maxRecDepth 20000 in
theorem ck_0 : ck_P m_0 := ⟨by decide +kernel, rfl, ck_cons (q := 0) cl_0 (ck_cons (q := 1) cl_1 (ck_cons (q := 2) cl_2 (ck_cons (q := 3) cl_3 (ck_cons (q := 4) cl_4 (ck_cons (q := 5) cl_5 (ck_cons (q := 6) cl_6 (ck_cons (q := 7) cl_7 (ck_cons (q := 8) cl_8 (ck_cons (q := 9) cl_9 (ck_cons (q := 10) cl_10 (ck_cons (q := 11) cl_11 (ck_cons (q := 12) cl_12 (ck_cons (q := 13) cl_13 (ck_cons (q := 14) cl_14 (ck_cons (q := 15) cl_15 (ck_cons (q := 16) cl_16 (ck_cons (q := 17) cl_17 (ck_cons (q := 18) cl_18 (ck_cons (q := 19) cl_19 (ck_cons (q := 20) cl_20 (ck_cons (q := 21) cl_21 (ck_cons (q := 22) cl_22 (ck_cons (q := 23) cl_23 (ck_cons (q := 24) cl_24 (ck_cons (q := 25) cl_25 (ck_cons (q := 26) cl_26 (ck_cons (q := 27) cl_27 (ck_cons (q := 28) cl_28 (ck_cons (q := 29) cl_29 (ck_cons (q := 30) cl_30 (ck_cons (q := 31) cl_31 (ck_cons (q := 32) cl_32 (ck_cons (q := 33) cl_33 (ck_cons (q := 34) cl_34 (ck_cons (q := 35) cl_35 (ck_cons (q := 36) cl_36 (ck_cons (q := 37) cl_37 (ck_cons (q := 38) cl_38 (ck_cons (q := 39) cl_39 (ck_cons (q := 40) cl_40 (ck_cons (q := 41) cl_41 (ck_cons (q := 42) cl_42 (ck_cons (q := 43) cl_43 (ck_cons (q := 44) cl_44 (ck_cons (q := 45) cl_45 (ck_cons (q := 46) cl_46 (ck_cons (q := 47) cl_47 (ck_cons (q := 48) cl_48 (ck_cons (q := 49) cl_49 (ck_cons (q := 50) cl_50 (ck_cons (q := 51) cl_51 (ck_cons (q := 52) cl_52 (ck_cons (q := 53) cl_53 (ck_cons (q := 54) cl_54 (ck_cons (q := 55) cl_55 (ck_cons (q := 56) cl_56 (ck_cons (q := 57) cl_57 (ck_cons (q := 58) cl_58 (ck_cons (q := 59) cl_59 (ck_cons (q := 60) cl_60 (ck_cons (q := 61) cl_61 (ck_cons (q := 62) cl_62 (ck_cons (q := 63) cl_63 (ck_cons (q := 64) cl_64 (ck_cons (q := 65) cl_65 (ck_cons (q := 66) cl_66 (ck_cons (q := 67) cl_67 (ck_cons (q := 68) cl_68 (ck_cons (q := 69) cl_69 (ck_cons (q := 70) cl_70 (ck_cons (q := 71) cl_71 (ck_cons (q := 72) cl_72 (ck_cons (q := 73) cl_73 (ck_cons (q := 74) cl_74 (ck_cons (q := 75) cl_75 (ck_cons (q := 76) cl_76 (ck_cons (q := 77) cl_77 (ck_cons (q := 78) cl_78 (ck_cons (q := 79) cl_79 (ck_cons (q := 80) cl_80 (ck_cons (q := 81) cl_81 (ck_cons (q := 82) cl_82 (ck_cons (q := 83) cl_83 (rfl))))))))))))))))))))))))))))))))))))))))))))))))))))))))))))))))))))))))))))))))))))⟩
theorem ck_q0 : ∀ m ∈ pm_q0, ck_P m := List.forall_mem_cons.mpr ⟨ck_0, List.forall_mem_cons.mpr ⟨ck_1, List.forall_mem_cons.mpr ⟨ck_2, List.forall_mem_cons.mpr ⟨ck_3, List.forall_mem_cons.mpr ⟨ck_4, List.forall_mem_cons.mpr ⟨ck_5, List.forall_mem_cons.mpr ⟨ck_6, List.forall_mem_cons.mpr ⟨ck_7, List.forall_mem_cons.mpr ⟨ck_8, List.forall_mem_cons.mpr ⟨ck_9, List.forall_mem_cons.mpr ⟨ck_10, List.forall_mem_cons.mpr ⟨ck_11, List.forall_mem_cons.mpr ⟨ck_12, List.forall_mem_cons.mpr ⟨ck_13, List.forall_mem_cons.mpr ⟨ck_14, List.forall_mem_cons.mpr ⟨ck_15, fun _ h => absurd h List.not_mem_nil⟩⟩⟩⟩⟩⟩⟩⟩⟩⟩⟩⟩⟩⟩⟩⟩
theorem ck_q1 : ∀ m ∈ pm_q1, ck_P m := List.forall_mem_cons.mpr ⟨ck_16, List.forall_mem_cons.mpr ⟨ck_17, List.forall_mem_cons.mpr ⟨ck_18, List.forall_mem_cons.mpr ⟨ck_19, List.forall_mem_cons.mpr ⟨ck_20, List.forall_mem_cons.mpr ⟨ck_21, List.forall_mem_cons.mpr ⟨ck_22, List.forall_mem_cons.mpr ⟨ck_23, List.forall_mem_cons.mpr ⟨ck_24, List.forall_mem_cons.mpr ⟨ck_25, List.forall_mem_cons.mpr ⟨ck_26, List.forall_mem_cons.mpr ⟨ck_27, List.forall_mem_cons.mpr ⟨ck_28, List.forall_mem_cons.mpr ⟨ck_29, List.forall_mem_cons.mpr ⟨ck_30, List.forall_mem_cons.mpr ⟨ck_31, fun _ h => absurd h List.not_mem_nil⟩⟩⟩⟩⟩⟩⟩⟩⟩⟩⟩⟩⟩⟩⟩⟩
theorem ck_q2 : ∀ m ∈ pm_q2, ck_P m := List.forall_mem_cons.mpr ⟨ck_32, List.forall_mem_cons.mpr ⟨ck_33, List.forall_mem_cons.mpr ⟨ck_34, List.forall_mem_cons.mpr ⟨ck_35, List.forall_mem_cons.mpr ⟨ck_36, List.forall_mem_cons.mpr ⟨ck_37, List.forall_mem_cons.mpr ⟨ck_38, List.forall_mem_cons.mpr ⟨ck_39, List.forall_mem_cons.mpr ⟨ck_40, List.forall_mem_cons.mpr ⟨ck_41, List.forall_mem_cons.mpr ⟨ck_42, List.forall_mem_cons.mpr ⟨ck_43, List.forall_mem_cons.mpr ⟨ck_44, List.forall_mem_cons.mpr ⟨ck_45, List.forall_mem_cons.mpr ⟨ck_46, List.forall_mem_cons.mpr ⟨ck_47, fun _ h => absurd h List.not_mem_nil⟩⟩⟩⟩⟩⟩⟩⟩⟩⟩⟩⟩⟩⟩⟩⟩
theorem ck_q3 : ∀ m ∈ pm_q3, ck_P m := List.forall_mem_cons.mpr ⟨ck_48, List.forall_mem_cons.mpr ⟨ck_49, List.forall_mem_cons.mpr ⟨ck_50, List.forall_mem_cons.mpr ⟨ck_51, List.forall_mem_cons.mpr ⟨ck_52, List.forall_mem_cons.mpr ⟨ck_53, List.forall_mem_cons.mpr ⟨ck_54, List.forall_mem_cons.mpr ⟨ck_55, List.forall_mem_cons.mpr ⟨ck_56, List.forall_mem_cons.mpr ⟨ck_57, List.forall_mem_cons.mpr ⟨ck_58, List.forall_mem_cons.mpr ⟨ck_59, List.forall_mem_cons.mpr ⟨ck_60, List.forall_mem_cons.mpr ⟨ck_61, List.forall_mem_cons.mpr ⟨ck_62, List.forall_mem_cons.mpr ⟨ck_63, fun _ h => absurd h List.not_mem_nil⟩⟩⟩⟩⟩⟩⟩⟩⟩⟩⟩⟩⟩⟩⟩⟩
theorem ck_q4 : ∀ m ∈ pm_q4, ck_P m := List.forall_mem_cons.mpr ⟨ck_64, List.forall_mem_cons.mpr ⟨ck_65, List.forall_mem_cons.mpr ⟨ck_66, List.forall_mem_cons.mpr ⟨ck_67, List.forall_mem_cons.mpr ⟨ck_68, List.forall_mem_cons.mpr ⟨ck_69, List.forall_mem_cons.mpr ⟨ck_70, List.forall_mem_cons.mpr ⟨ck_71, List.forall_mem_cons.mpr ⟨ck_72, List.forall_mem_cons.mpr ⟨ck_73, List.forall_mem_cons.mpr ⟨ck_74, List.forall_mem_cons.mpr ⟨ck_75, List.forall_mem_cons.mpr ⟨ck_76, List.forall_mem_cons.mpr ⟨ck_77, List.forall_mem_cons.mpr ⟨ck_78, List.forall_mem_cons.mpr ⟨ck_79, fun _ h => absurd h List.not_mem_nil⟩⟩⟩⟩⟩⟩⟩⟩⟩⟩⟩⟩⟩⟩⟩⟩
theorem ck_q5 : ∀ m ∈ pm_q5, ck_P m := List.forall_mem_cons.mpr ⟨ck_80, List.forall_mem_cons.mpr ⟨ck_81, List.forall_mem_cons.mpr ⟨ck_82, List.forall_mem_cons.mpr ⟨ck_83, List.forall_mem_cons.mpr ⟨ck_84, List.forall_mem_cons.mpr ⟨ck_85, List.forall_mem_cons.mpr ⟨ck_86, List.forall_mem_cons.mpr ⟨ck_87, List.forall_mem_cons.mpr ⟨ck_88, List.forall_mem_cons.mpr ⟨ck_89, List.forall_mem_cons.mpr ⟨ck_90, List.forall_mem_cons.mpr ⟨ck_91, List.forall_mem_cons.mpr ⟨ck_92, List.forall_mem_cons.mpr ⟨ck_93, List.forall_mem_cons.mpr ⟨ck_94, List.forall_mem_cons.mpr ⟨ck_95, fun _ h => absurd h List.not_mem_nil⟩⟩⟩⟩⟩⟩⟩⟩⟩⟩⟩⟩⟩⟩⟩⟩
theorem ck_q6 : ∀ m ∈ pm_q6, ck_P m := List.forall_mem_cons.mpr ⟨ck_96, List.forall_mem_cons.mpr ⟨ck_97, List.forall_mem_cons.mpr ⟨ck_98, List.forall_mem_cons.mpr ⟨ck_99, List.forall_mem_cons.mpr ⟨ck_100, List.forall_mem_cons.mpr ⟨ck_101, List.forall_mem_cons.mpr ⟨ck_102, List.forall_mem_cons.mpr ⟨ck_103, List.forall_mem_cons.mpr ⟨ck_104, List.forall_mem_cons.mpr ⟨ck_105, List.forall_mem_cons.mpr ⟨ck_106, List.forall_mem_cons.mpr ⟨ck_107, List.forall_mem_cons.mpr ⟨ck_108, List.forall_mem_cons.mpr ⟨ck_109, List.forall_mem_cons.mpr ⟨ck_110, List.forall_mem_cons.mpr ⟨ck_111, fun _ h => absurd h List.not_mem_nil⟩⟩⟩⟩⟩⟩⟩⟩⟩⟩⟩⟩⟩⟩⟩⟩
theorem ck_q7 : ∀ m ∈ pm_q7, ck_P m := List.forall_mem_cons.mpr ⟨ck_112, List.forall_mem_cons.mpr ⟨ck_113, List.forall_mem_cons.mpr ⟨ck_114, List.forall_mem_cons.mpr ⟨ck_115, List.forall_mem_cons.mpr ⟨ck_116, List.forall_mem_cons.mpr ⟨ck_117, List.forall_mem_cons.mpr ⟨ck_118, List.forall_mem_cons.mpr ⟨ck_119, List.forall_mem_cons.mpr ⟨ck_120, List.forall_mem_cons.mpr ⟨ck_121, List.forall_mem_cons.mpr ⟨ck_122, List.forall_mem_cons.mpr ⟨ck_123, List.forall_mem_cons.mpr ⟨ck_124, List.forall_mem_cons.mpr ⟨ck_125, List.forall_mem_cons.mpr ⟨ck_126, List.forall_mem_cons.mpr ⟨ck_127, fun _ h => absurd h List.not_mem_nil⟩⟩⟩⟩⟩⟩⟩⟩⟩⟩⟩⟩⟩⟩⟩⟩
theorem ck_q8 : ∀ m ∈ pm_q8, ck_P m := List.forall_mem_cons.mpr ⟨ck_128, List.forall_mem_cons.mpr ⟨ck_129, List.forall_mem_cons.mpr ⟨ck_130, List.forall_mem_cons.mpr ⟨ck_131, List.forall_mem_cons.mpr ⟨ck_132, List.forall_mem_cons.mpr ⟨ck_133, List.forall_mem_cons.mpr ⟨ck_134, List.forall_mem_cons.mpr ⟨ck_135, List.forall_mem_cons.mpr ⟨ck_136, List.forall_mem_cons.mpr ⟨ck_137, List.forall_mem_cons.mpr ⟨ck_138, List.forall_mem_cons.mpr ⟨ck_139, List.forall_mem_cons.mpr ⟨ck_140, List.forall_mem_cons.mpr ⟨ck_141, List.forall_mem_cons.mpr ⟨ck_142, List.forall_mem_cons.mpr ⟨ck_143, fun _ h => absurd h List.not_mem_nil⟩⟩⟩⟩⟩⟩⟩⟩⟩⟩⟩⟩⟩⟩⟩⟩
theorem ck_q9 : ∀ m ∈ pm_q9, ck_P m := List.forall_mem_cons.mpr ⟨ck_144, List.forall_mem_cons.mpr ⟨ck_145, List.forall_mem_cons.mpr ⟨ck_146, List.forall_mem_cons.mpr ⟨ck_147, List.forall_mem_cons.mpr ⟨ck_148, List.forall_mem_cons.mpr ⟨ck_149, List.forall_mem_cons.mpr ⟨ck_150, List.forall_mem_cons.mpr ⟨ck_151, List.forall_mem_cons.mpr ⟨ck_152, List.forall_mem_cons.mpr ⟨ck_153, List.forall_mem_cons.mpr ⟨ck_154, List.forall_mem_cons.mpr ⟨ck_155, List.forall_mem_cons.mpr ⟨ck_156, List.forall_mem_cons.mpr ⟨ck_157, List.forall_mem_cons.mpr ⟨ck_158, List.forall_mem_cons.mpr ⟨ck_159, fun _ h => absurd h List.not_mem_nil⟩⟩⟩⟩⟩⟩⟩⟩⟩⟩⟩⟩⟩⟩⟩⟩
theorem ck_q10 : ∀ m ∈ pm_q10, ck_P m := List.forall_mem_cons.mpr ⟨ck_160, List.forall_mem_cons.mpr ⟨ck_161, List.forall_mem_cons.mpr ⟨ck_162, List.forall_mem_cons.mpr ⟨ck_163, List.forall_mem_cons.mpr ⟨ck_164, List.forall_mem_cons.mpr ⟨ck_165, List.forall_mem_cons.mpr ⟨ck_166, List.forall_mem_cons.mpr ⟨ck_167, List.forall_mem_cons.mpr ⟨ck_168, List.forall_mem_cons.mpr ⟨ck_169, List.forall_mem_cons.mpr ⟨ck_170, List.forall_mem_cons.mpr ⟨ck_171, List.forall_mem_cons.mpr ⟨ck_172, List.forall_mem_cons.mpr ⟨ck_173, List.forall_mem_cons.mpr ⟨ck_174, List.forall_mem_cons.mpr ⟨ck_175, fun _ h => absurd h List.not_mem_nil⟩⟩⟩⟩⟩⟩⟩⟩⟩⟩⟩⟩⟩⟩⟩⟩
theorem ck_q11 : ∀ m ∈ pm_q11, ck_P m := List.forall_mem_cons.mpr ⟨ck_176, List.forall_mem_cons.mpr ⟨ck_177, List.forall_mem_cons.mpr ⟨ck_178, List.forall_mem_cons.mpr ⟨ck_179, List.forall_mem_cons.mpr ⟨ck_180, List.forall_mem_cons.mpr ⟨ck_181, List.forall_mem_cons.mpr ⟨ck_182, List.forall_mem_cons.mpr ⟨ck_183, List.forall_mem_cons.mpr ⟨ck_184, List.forall_mem_cons.mpr ⟨ck_185, List.forall_mem_cons.mpr ⟨ck_186, List.forall_mem_cons.mpr ⟨ck_187, List.forall_mem_cons.mpr ⟨ck_188, List.forall_mem_cons.mpr ⟨ck_189, List.forall_mem_cons.mpr ⟨ck_190, List.forall_mem_cons.mpr ⟨ck_191, fun _ h => absurd h List.not_mem_nil⟩⟩⟩⟩⟩⟩⟩⟩⟩⟩⟩⟩⟩⟩⟩⟩
theorem ck_q12 : ∀ m ∈ pm_q12, ck_P m := List.forall_mem_cons.mpr ⟨ck_192, List.forall_mem_cons.mpr ⟨ck_193, List.forall_mem_cons.mpr ⟨ck_194, List.forall_mem_cons.mpr ⟨ck_195, List.forall_mem_cons.mpr ⟨ck_196, List.forall_mem_cons.mpr ⟨ck_197, List.forall_mem_cons.mpr ⟨ck_198, List.forall_mem_cons.mpr ⟨ck_199, List.forall_mem_cons.mpr ⟨ck_200, List.forall_mem_cons.mpr ⟨ck_201, List.forall_mem_cons.mpr ⟨ck_202, List.forall_mem_cons.mpr ⟨ck_203, List.forall_mem_cons.mpr ⟨ck_204, List.forall_mem_cons.mpr ⟨ck_205, List.forall_mem_cons.mpr ⟨ck_206, List.forall_mem_cons.mpr ⟨ck_207, fun _ h => absurd h List.not_mem_nil⟩⟩⟩⟩⟩⟩⟩⟩⟩⟩⟩⟩⟩⟩⟩⟩
theorem ck_q13 : ∀ m ∈ pm_q13, ck_P m := List.forall_mem_cons.mpr ⟨ck_208, List.forall_mem_cons.mpr ⟨ck_209, List.forall_mem_cons.mpr ⟨ck_210, List.forall_mem_cons.mpr ⟨ck_211, List.forall_mem_cons.mpr ⟨ck_212, List.forall_mem_cons.mpr ⟨ck_213, List.forall_mem_cons.mpr ⟨ck_214, List.forall_mem_cons.mpr ⟨ck_215, List.forall_mem_cons.mpr ⟨ck_216, List.forall_mem_cons.mpr ⟨ck_217, List.forall_mem_cons.mpr ⟨ck_218, List.forall_mem_cons.mpr ⟨ck_219, List.forall_mem_cons.mpr ⟨ck_220, List.forall_mem_cons.mpr ⟨ck_221, List.forall_mem_cons.mpr ⟨ck_222, List.forall_mem_cons.mpr ⟨ck_223, fun _ h => absurd h List.not_mem_nil⟩⟩⟩⟩⟩⟩⟩⟩⟩⟩⟩⟩⟩⟩⟩⟩
theorem ck_q14 : ∀ m ∈ pm_q14, ck_P m := List.forall_mem_cons.mpr ⟨ck_224, fun _ h => absurd h List.not_mem_nil⟩
theorem ck_mt : ∀ q ∈ pm_mt, ∀ m ∈ q, ck_P m := List.forall_mem_cons.mpr ⟨ck_q0, List.forall_mem_cons.mpr ⟨ck_q1, List.forall_mem_cons.mpr ⟨ck_q2, List.forall_mem_cons.mpr ⟨ck_q3, List.forall_mem_cons.mpr ⟨ck_q4, List.forall_mem_cons.mpr ⟨ck_q5, List.forall_mem_cons.mpr ⟨ck_q6, List.forall_mem_cons.mpr ⟨ck_q7, List.forall_mem_cons.mpr ⟨ck_q8, List.forall_mem_cons.mpr ⟨ck_q9, List.forall_mem_cons.mpr ⟨ck_q10, List.forall_mem_cons.mpr ⟨ck_q11, List.forall_mem_cons.mpr ⟨ck_q12, List.forall_mem_cons.mpr ⟨ck_q13, List.forall_mem_cons.mpr ⟨ck_q14, fun _ h => absurd h List.not_mem_nil⟩⟩⟩⟩⟩⟩⟩⟩⟩⟩⟩⟩⟩⟩⟩
theorem pm_tab : pm_tabok pm_m := by
  intro M mm hM
  unfold pm_m at hM
  split at hM
  · cases hM
  · split at hM
    · rename_i q hq
      have h := ck_mt q (List.mem_of_getElem? hq) mm (List.mem_of_getElem? hM)
      exact ⟨h.1, h.2.1, ck_ok h.2.2⟩
    · cases hM
end
