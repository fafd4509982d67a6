theorem xT_0 : xckT 0 = true := by decide +kernel
theorem xT_1 : xckT 1 = true := by decide +kernel
theorem xT_2 : xckT 2 = true := by decide +kernel
theorem xT_3 : xckT 3 = true := by decide +kernel
theorem xT_4 : xckT 4 = true := by decide +kernel
theorem xT_5 : xckT 5 = true := by decide +kernel
theorem xT_6 : xckT 6 = true := by decide +kernel
theorem xT_7 : xckT 7 = true := by decide +kernel
theorem xT_8 : xckT 8 = true := by decide +kernel
theorem xT_9 : xckT 9 = true := by decide +kernel
theorem xT_10 : xckT 10 = true := by decide +kernel
theorem xT_11 : xckT 11 = true := by decide +kernel
theorem xT_12 : xckT 12 = true := by decide +kernel
theorem xT_13 : xckT 13 = true := by decide +kernel
theorem xT_14 : xckT 14 = true := by decide +kernel
theorem xT_15 : xckT 15 = true := by decide +kernel
theorem xT_16 : xckT 16 = true := by decide +kernel
theorem xT_17 : xckT 17 = true := by decide +kernel
theorem xT_18 : xckT 18 = true := by decide +kernel
theorem xT_19 : xckT 19 = true := by decide +kernel
theorem xT_20 : xckT 20 = true := by decide +kernel
theorem xT_21 : xckT 21 = true := by decide +kernel
theorem xT_22 : xckT 22 = true := by decide +kernel
theorem xT_23 : xckT 23 = true := by decide +kernel
theorem xT_24 : xckT 24 = true := by decide +kernel
theorem xT_25 : xckT 25 = true := by decide +kernel
theorem xT_26 : xckT 26 = true := by decide +kernel
theorem xT_27 : xckT 27 = true := by decide +kernel
theorem xT_28 : xckT 28 = true := by decide +kernel
theorem xT_29 : xckT 29 = true := by decide +kernel
theorem xT_30 : xckT 30 = true := by decide +kernel
theorem xT_31 : xckT 31 = true := by decide +kernel
theorem xT_32 : xckT 32 = true := by decide +kernel
theorem xT_33 : xckT 33 = true := by decide +kernel
theorem xT_34 : xckT 34 = true := by decide +kernel
theorem xT_35 : xckT 35 = true := by decide +kernel
theorem xT_36 : xckT 36 = true := by decide +kernel
theorem xT_37 : xckT 37 = true := by decide +kernel
theorem xT_38 : xckT 38 = true := by decide +kernel
theorem xT_39 : xckT 39 = true := by decide +kernel
theorem xT_40 : xckT 40 = true := by decide +kernel
theorem xT_41 : xckT 41 = true := by decide +kernel
theorem xT_42 : xckT 42 = true := by decide +kernel
theorem xT_43 : xckT 43 = true := by decide +kernel
theorem xT_44 : xckT 44 = true := by decide +kernel
theorem xT_45 : xckT 45 = true := by decide +kernel
theorem xT_46 : xckT 46 = true := by decide +kernel
theorem xT_47 : xckT 47 = true := by decide +kernel
theorem xT_48 : xckT 48 = true := by decide +kernel
theorem xT_49 : xckT 49 = true := by decide +kernel
theorem xT_50 : xckT 50 = true := by decide +kernel
theorem xT_51 : xckT 51 = true := by decide +kernel
theorem xT_52 : xckT 52 = true := by decide +kernel
theorem xT_53 : xckT 53 = true := by decide +kernel
theorem xT_54 : xckT 54 = true := by decide +kernel
theorem xT_55 : xckT 55 = true := by decide +kernel
theorem xT_56 : xckT 56 = true := by decide +kernel
theorem xT_57 : xckT 57 = true := by decide +kernel
theorem xT_58 : xckT 58 = true := by decide +kernel
theorem xT_59 : xckT 59 = true := by decide +kernel
theorem xT_60 : xckT 60 = true := by decide +kernel
theorem xT_61 : xckT 61 = true := by decide +kernel
theorem xT_62 : xckT 62 = true := by decide +kernel
theorem xT_63 : xckT 63 = true := by decide +kernel
theorem xT_64 : xckT 64 = true := by decide +kernel
theorem xT_65 : xckT 65 = true := by decide +kernel
theorem xT_66 : xckT 66 = true := by decide +kernel
theorem xT_67 : xckT 67 = true := by decide +kernel
theorem xT_68 : xckT 68 = true := by decide +kernel
theorem xT_69 : xckT 69 = true := by decide +kernel
theorem xT_70 : xckT 70 = true := by decide +kernel
theorem xT_71 : xckT 71 = true := by decide +kernel
theorem xT_72 : xckT 72 = true := by decide +kernel
theorem xT_73 : xckT 73 = true := by decide +kernel
theorem xT_74 : xckT 74 = true := by decide +kernel
theorem xT_75 : xckT 75 = true := by decide +kernel
theorem xT_76 : xckT 76 = true := by decide +kernel
theorem xT_77 : xckT 77 = true := by decide +kernel
theorem xT_78 : xckT 78 = true := by decide +kernel
theorem xT_79 : xckT 79 = true := by decide +kernel
theorem xT_80 : xckT 80 = true := by decide +kernel
theorem xT_81 : xckT 81 = true := by decide +kernel
theorem xT_82 : xckT 82 = true := by decide +kernel
theorem xT_83 : xckT 83 = true := by decide +kernel
theorem xT_84 : xckT 84 = true := by decide +kernel
theorem xT_85 : xckT 85 = true := by decide +kernel
theorem xT_86 : xckT 86 = true := by decide +kernel
theorem xT_87 : xckT 87 = true := by decide +kernel
theorem xT_88 : xckT 88 = true := by decide +kernel
theorem xT_89 : xckT 89 = true := by decide +kernel
theorem xT_90 : xckT 90 = true := by decide +kernel
theorem xT_91 : xckT 91 = true := by decide +kernel
theorem xT_92 : xckT 92 = true := by decide +kernel
theorem xT_93 : xckT 93 = true := by decide +kernel
theorem xT_94 : xckT 94 = true := by decide +kernel
theorem xT_95 : xckT 95 = true := by decide +kernel
theorem xT_96 : xckT 96 = true := by decide +kernel
theorem xT_97 : xckT 97 = true := by decide +kernel
theorem xT_98 : xckT 98 = true := by decide +kernel
theorem xT_99 : xckT 99 = true := by decide +kernel
theorem xT_100 : xckT 100 = true := by decide +kernel
theorem xT_101 : xckT 101 = true := by decide +kernel
theorem xT_102 : xckT 102 = true := by decide +kernel
theorem xT_103 : xckT 103 = true := by decide +kernel
theorem xT_104 : xckT 104 = true := by decide +kernel
theorem xT_105 : xckT 105 = true := by decide +kernel
theorem xT_106 : xckT 106 = true := by decide +kernel
theorem xT_107 : xckT 107 = true := by decide +kernel
theorem xT_108 : xckT 108 = true := by decide +kernel
theorem xT_109 : xckT 109 = true := by decide +kernel
theorem xT_110 : xckT 110 = true := by decide +kernel
theorem xT_111 : xckT 111 = true := by decide +kernel
theorem xT_112 : xckT 112 = true := by decide +kernel
theorem xT_113 : xckT 113 = true := by decide +kernel
theorem xT_114 : xckT 114 = true := by decide +kernel
theorem xT_115 : xckT 115 = true := by decide +kernel
theorem xT_116 : xckT 116 = true := by decide +kernel
theorem xT_117 : xckT 117 = true := by decide +kernel
theorem xT_118 : xckT 118 = true := by decide +kernel
theorem xT_119 : xckT 119 = true := by decide +kernel
theorem xT_120 : xckT 120 = true := by decide +kernel
theorem xT_121 : xckT 121 = true := by decide +kernel
theorem xT_122 : xckT 122 = true := by decide +kernel
theorem xT_123 : xckT 123 = true := by decide +kernel
theorem xT_124 : xckT 124 = true := by decide +kernel
theorem xT_125 : xckT 125 = true := by decide +kernel
theorem xT_126 : xckT 126 = true := by decide +kernel
theorem xT_127 : xckT 127 = true := by decide +kernel
theorem xT_128 : xckT 128 = true := by decide +kernel
theorem xT_129 : xckT 129 = true := by decide +kernel
theorem xT_130 : xckT 130 = true := by decide +kernel
theorem xT_131 : xckT 131 = true := by decide +kernel
theorem xT_132 : xckT 132 = true := by decide +kernel
theorem xT_133 : xckT 133 = true := by decide +kernel
theorem xT_134 : xckT 134 = true := by decide +kernel
theorem xT_135 : xckT 135 = true := by decide +kernel
theorem xT_136 : xckT 136 = true := by decide +kernel
theorem xT_137 : xckT 137 = true := by decide +kernel
theorem xT_138 : xckT 138 = true := by decide +kernel
theorem xT_139 : xckT 139 = true := by decide +kernel
theorem xT_140 : xckT 140 = true := by decide +kernel
theorem xT_141 : xckT 141 = true := by decide +kernel
theorem xT_142 : xckT 142 = true := by decide +kernel
theorem xT_143 : xckT 143 = true := by decide +kernel
theorem xT_144 : xckT 144 = true := by decide +kernel
theorem xT_145 : xckT 145 = true := by decide +kernel
theorem xT_146 : xckT 146 = true := by decide +kernel
theorem xT_147 : xckT 147 = true := by decide +kernel
theorem xT_148 : xckT 148 = true := by decide +kernel
theorem xT_149 : xckT 149 = true := by decide +kernel
theorem xT_150 : xckT 150 = true := by decide +kernel
theorem xT_151 : xckT 151 = true := by decide +kernel
theorem xT_152 : xckT 152 = true := by decide +kernel
theorem xT_153 : xckT 153 = true := by decide +kernel
theorem xT_154 : xckT 154 = true := by decide +kernel
theorem xT_155 : xckT 155 = true := by decide +kernel
theorem xT_156 : xckT 156 = true := by decide +kernel
theorem xT_157 : xckT 157 = true := by decide +kernel
theorem xT_158 : xckT 158 = true := by decide +kernel
theorem xT_159 : xckT 159 = true := by decide +kernel
theorem xT_160 : xckT 160 = true := by decide +kernel
theorem xT_161 : xckT 161 = true := by decide +kernel
theorem xT_162 : xckT 162 = true := by decide +kernel
theorem xT_163 : xckT 163 = true := by decide +kernel
theorem xT_164 : xckT 164 = true := by decide +kernel
theorem xT_165 : xckT 165 = true := by decide +kernel
theorem xT_166 : xckT 166 = true := by decide +kernel
theorem xT_167 : xckT 167 = true := by decide +kernel
theorem xT_168 : xckT 168 = true := by decide +kernel
theorem xT_169 : xckT 169 = true := by decide +kernel
theorem xT_170 : xckT 170 = true := by decide +kernel
theorem xT_171 : xckT 171 = true := by decide +kernel
theorem xT_172 : xckT 172 = true := by decide +kernel
theorem xT_173 : xckT 173 = true := by decide +kernel
theorem xT_174 : xckT 174 = true := by decide +kernel
theorem xT_175 : xckT 175 = true := by decide +kernel
theorem xT_176 : xckT 176 = true := by decide +kernel
theorem xT_177 : xckT 177 = true := by decide +kernel
theorem xT_178 : xckT 178 = true := by decide +kernel
theorem xT_179 : xckT 179 = true := by decide +kernel
theorem xT_180 : xckT 180 = true := by decide +kernel
theorem xT_181 : xckT 181 = true := by decide +kernel
theorem xT_182 : xckT 182 = true := by decide +kernel
theorem xT_183 : xckT 183 = true := by decide +kernel
theorem xT_184 : xckT 184 = true := by decide +kernel
theorem xT_185 : xckT 185 = true := by decide +kernel
theorem xT_186 : xckT 186 = true := by decide +kernel
theorem xT_187 : xckT 187 = true := by decide +kernel
theorem xT_188 : xckT 188 = true := by decide +kernel
theorem xT_189 : xckT 189 = true := by decide +kernel
theorem xT_190 : xckT 190 = true := by decide +kernel
theorem xT_191 : xckT 191 = true := by decide +kernel
theorem xT_192 : xckT 192 = true := by decide +kernel
theorem xT_193 : xckT 193 = true := by decide +kernel
theorem xT_194 : xckT 194 = true := by decide +kernel
theorem xT_195 : xckT 195 = true := by decide +kernel
theorem xT_196 : xckT 196 = true := by decide +kernel
theorem xT_197 : xckT 197 = true := by decide +kernel
theorem xT_198 : xckT 198 = true := by decide +kernel
theorem xT_199 : xckT 199 = true := by decide +kernel
theorem xT_200 : xckT 200 = true := by decide +kernel
theorem xT_201 : xckT 201 = true := by decide +kernel
theorem xT_202 : xckT 202 = true := by decide +kernel
theorem xT_203 : xckT 203 = true := by decide +kernel
theorem xT_204 : xckT 204 = true := by decide +kernel
theorem xT_205_0 : t_law_0.all (xckE (⟨"BaredCurtainLaw", "law", "([I)Z"⟩, code, 4, (some .boolean), 9, 220, 0, 0, 54, 0, 0)) = true := by decide +kernel
theorem xT_205_1 : t_law_1.all (xckE (⟨"BaredCurtainLaw", "law", "([I)Z"⟩, code, 4, (some .boolean), 9, 220, 0, 0, 54, 0, 0)) = true := by decide +kernel
theorem xT_205_2 : t_law_2.all (xckE (⟨"BaredCurtainLaw", "law", "([I)Z"⟩, code, 4, (some .boolean), 9, 220, 0, 0, 54, 0, 0)) = true := by decide +kernel
theorem xT_205_3 : t_law_3.all (xckE (⟨"BaredCurtainLaw", "law", "([I)Z"⟩, code, 4, (some .boolean), 9, 220, 0, 0, 54, 0, 0)) = true := by decide +kernel
theorem xT_205_4 : t_law_4.all (xckE (⟨"BaredCurtainLaw", "law", "([I)Z"⟩, code, 4, (some .boolean), 9, 220, 0, 0, 54, 0, 0)) = true := by decide +kernel
theorem xT_205_5 : t_law_5.all (xckE (⟨"BaredCurtainLaw", "law", "([I)Z"⟩, code, 4, (some .boolean), 9, 220, 0, 0, 54, 0, 0)) = true := by decide +kernel
theorem xT_205_6 : t_law_6.all (xckE (⟨"BaredCurtainLaw", "law", "([I)Z"⟩, code, 4, (some .boolean), 9, 220, 0, 0, 54, 0, 0)) = true := by decide +kernel
theorem xT_205_7 : t_law_7.all (xckE (⟨"BaredCurtainLaw", "law", "([I)Z"⟩, code, 4, (some .boolean), 9, 220, 0, 0, 54, 0, 0)) = true := by decide +kernel
theorem xT_205_8 : t_law_8.all (xckE (⟨"BaredCurtainLaw", "law", "([I)Z"⟩, code, 4, (some .boolean), 9, 220, 0, 0, 54, 0, 0)) = true := by decide +kernel
theorem xT_205_9 : t_law_9.all (xckE (⟨"BaredCurtainLaw", "law", "([I)Z"⟩, code, 4, (some .boolean), 9, 220, 0, 0, 54, 0, 0)) = true := by decide +kernel
theorem xT_205_10 : t_law_10.all (xckE (⟨"BaredCurtainLaw", "law", "([I)Z"⟩, code, 4, (some .boolean), 9, 220, 0, 0, 54, 0, 0)) = true := by decide +kernel
theorem xT_205_11 : t_law_11.all (xckE (⟨"BaredCurtainLaw", "law", "([I)Z"⟩, code, 4, (some .boolean), 9, 220, 0, 0, 54, 0, 0)) = true := by decide +kernel
theorem xT_205 : xckT 205 = true := by
  show (t_law_0 ++ (t_law_1 ++ (t_law_2 ++ (t_law_3 ++ (t_law_4 ++ (t_law_5 ++ (t_law_6 ++ (t_law_7 ++ (t_law_8 ++ (t_law_9 ++ (t_law_10 ++ (t_law_11)))))))))))).all (xckE (⟨"BaredCurtainLaw", "law", "([I)Z"⟩, code, 4, (some .boolean), 9, 220, 0, 0, 54, 0, 0)) = true
  simp only [List.all_append, xT_205_0, xT_205_1, xT_205_2, xT_205_3, xT_205_4, xT_205_5, xT_205_6, xT_205_7, xT_205_8, xT_205_9, xT_205_10, xT_205_11, Bool.and_true]
theorem xTc_0 : ∀ q ∈ ([0, 1, 2, 3, 4, 5, 6, 7, 8, 9, 10, 11, 12, 13, 14, 15, 16, 17, 18, 19, 20, 21, 22, 23, 24, 25, 26, 27, 28, 29] : List Nat), xckT q = true := List.forall_mem_cons.mpr ⟨xT_0, List.forall_mem_cons.mpr ⟨xT_1, List.forall_mem_cons.mpr ⟨xT_2, List.forall_mem_cons.mpr ⟨xT_3, List.forall_mem_cons.mpr ⟨xT_4, List.forall_mem_cons.mpr ⟨xT_5, List.forall_mem_cons.mpr ⟨xT_6, List.forall_mem_cons.mpr ⟨xT_7, List.forall_mem_cons.mpr ⟨xT_8, List.forall_mem_cons.mpr ⟨xT_9, List.forall_mem_cons.mpr ⟨xT_10, List.forall_mem_cons.mpr ⟨xT_11, List.forall_mem_cons.mpr ⟨xT_12, List.forall_mem_cons.mpr ⟨xT_13, List.forall_mem_cons.mpr ⟨xT_14, List.forall_mem_cons.mpr ⟨xT_15, List.forall_mem_cons.mpr ⟨xT_16, List.forall_mem_cons.mpr ⟨xT_17, List.forall_mem_cons.mpr ⟨xT_18, List.forall_mem_cons.mpr ⟨xT_19, List.forall_mem_cons.mpr ⟨xT_20, List.forall_mem_cons.mpr ⟨xT_21, List.forall_mem_cons.mpr ⟨xT_22, List.forall_mem_cons.mpr ⟨xT_23, List.forall_mem_cons.mpr ⟨xT_24, List.forall_mem_cons.mpr ⟨xT_25, List.forall_mem_cons.mpr ⟨xT_26, List.forall_mem_cons.mpr ⟨xT_27, List.forall_mem_cons.mpr ⟨xT_28, List.forall_mem_cons.mpr ⟨xT_29, fun _ h => absurd h List.not_mem_nil⟩⟩⟩⟩⟩⟩⟩⟩⟩⟩⟩⟩⟩⟩⟩⟩⟩⟩⟩⟩⟩⟩⟩⟩⟩⟩⟩⟩⟩⟩
theorem xTc_1 : ∀ q ∈ ([30, 31, 32, 33, 34, 35, 36, 37, 38, 39, 40, 41, 42, 43, 44, 45, 46, 47, 48, 49, 50, 51, 52, 53, 54, 55, 56, 57, 58, 59] : List Nat), xckT q = true := List.forall_mem_cons.mpr ⟨xT_30, List.forall_mem_cons.mpr ⟨xT_31, List.forall_mem_cons.mpr ⟨xT_32, List.forall_mem_cons.mpr ⟨xT_33, List.forall_mem_cons.mpr ⟨xT_34, List.forall_mem_cons.mpr ⟨xT_35, List.forall_mem_cons.mpr ⟨xT_36, List.forall_mem_cons.mpr ⟨xT_37, List.forall_mem_cons.mpr ⟨xT_38, List.forall_mem_cons.mpr ⟨xT_39, List.forall_mem_cons.mpr ⟨xT_40, List.forall_mem_cons.mpr ⟨xT_41, List.forall_mem_cons.mpr ⟨xT_42, List.forall_mem_cons.mpr ⟨xT_43, List.forall_mem_cons.mpr ⟨xT_44, List.forall_mem_cons.mpr ⟨xT_45, List.forall_mem_cons.mpr ⟨xT_46, List.forall_mem_cons.mpr ⟨xT_47, List.forall_mem_cons.mpr ⟨xT_48, List.forall_mem_cons.mpr ⟨xT_49, List.forall_mem_cons.mpr ⟨xT_50, List.forall_mem_cons.mpr ⟨xT_51, List.forall_mem_cons.mpr ⟨xT_52, List.forall_mem_cons.mpr ⟨xT_53, List.forall_mem_cons.mpr ⟨xT_54, List.forall_mem_cons.mpr ⟨xT_55, List.forall_mem_cons.mpr ⟨xT_56, List.forall_mem_cons.mpr ⟨xT_57, List.forall_mem_cons.mpr ⟨xT_58, List.forall_mem_cons.mpr ⟨xT_59, fun _ h => absurd h List.not_mem_nil⟩⟩⟩⟩⟩⟩⟩⟩⟩⟩⟩⟩⟩⟩⟩⟩⟩⟩⟩⟩⟩⟩⟩⟩⟩⟩⟩⟩⟩⟩
theorem xTc_2 : ∀ q ∈ ([60, 61, 62, 63, 64, 65, 66, 67, 68, 69, 70, 71, 72, 73, 74, 75, 76, 77, 78, 79, 80, 81, 82, 83, 84, 85, 86, 87, 88, 89] : List Nat), xckT q = true := List.forall_mem_cons.mpr ⟨xT_60, List.forall_mem_cons.mpr ⟨xT_61, List.forall_mem_cons.mpr ⟨xT_62, List.forall_mem_cons.mpr ⟨xT_63, List.forall_mem_cons.mpr ⟨xT_64, List.forall_mem_cons.mpr ⟨xT_65, List.forall_mem_cons.mpr ⟨xT_66, List.forall_mem_cons.mpr ⟨xT_67, List.forall_mem_cons.mpr ⟨xT_68, List.forall_mem_cons.mpr ⟨xT_69, List.forall_mem_cons.mpr ⟨xT_70, List.forall_mem_cons.mpr ⟨xT_71, List.forall_mem_cons.mpr ⟨xT_72, List.forall_mem_cons.mpr ⟨xT_73, List.forall_mem_cons.mpr ⟨xT_74, List.forall_mem_cons.mpr ⟨xT_75, List.forall_mem_cons.mpr ⟨xT_76, List.forall_mem_cons.mpr ⟨xT_77, List.forall_mem_cons.mpr ⟨xT_78, List.forall_mem_cons.mpr ⟨xT_79, List.forall_mem_cons.mpr ⟨xT_80, List.forall_mem_cons.mpr ⟨xT_81, List.forall_mem_cons.mpr ⟨xT_82, List.forall_mem_cons.mpr ⟨xT_83, List.forall_mem_cons.mpr ⟨xT_84, List.forall_mem_cons.mpr ⟨xT_85, List.forall_mem_cons.mpr ⟨xT_86, List.forall_mem_cons.mpr ⟨xT_87, List.forall_mem_cons.mpr ⟨xT_88, List.forall_mem_cons.mpr ⟨xT_89, fun _ h => absurd h List.not_mem_nil⟩⟩⟩⟩⟩⟩⟩⟩⟩⟩⟩⟩⟩⟩⟩⟩⟩⟩⟩⟩⟩⟩⟩⟩⟩⟩⟩⟩⟩⟩
theorem xTc_3 : ∀ q ∈ ([90, 91, 92, 93, 94, 95, 96, 97, 98, 99, 100, 101, 102, 103, 104, 105, 106, 107, 108, 109, 110, 111, 112, 113, 114, 115, 116, 117, 118, 119] : List Nat), xckT q = true := List.forall_mem_cons.mpr ⟨xT_90, List.forall_mem_cons.mpr ⟨xT_91, List.forall_mem_cons.mpr ⟨xT_92, List.forall_mem_cons.mpr ⟨xT_93, List.forall_mem_cons.mpr ⟨xT_94, List.forall_mem_cons.mpr ⟨xT_95, List.forall_mem_cons.mpr ⟨xT_96, List.forall_mem_cons.mpr ⟨xT_97, List.forall_mem_cons.mpr ⟨xT_98, List.forall_mem_cons.mpr ⟨xT_99, List.forall_mem_cons.mpr ⟨xT_100, List.forall_mem_cons.mpr ⟨xT_101, List.forall_mem_cons.mpr ⟨xT_102, List.forall_mem_cons.mpr ⟨xT_103, List.forall_mem_cons.mpr ⟨xT_104, List.forall_mem_cons.mpr ⟨xT_105, List.forall_mem_cons.mpr ⟨xT_106, List.forall_mem_cons.mpr ⟨xT_107, List.forall_mem_cons.mpr ⟨xT_108, List.forall_mem_cons.mpr ⟨xT_109, List.forall_mem_cons.mpr ⟨xT_110, List.forall_mem_cons.mpr ⟨xT_111, List.forall_mem_cons.mpr ⟨xT_112, List.forall_mem_cons.mpr ⟨xT_113, List.forall_mem_cons.mpr ⟨xT_114, List.forall_mem_cons.mpr ⟨xT_115, List.forall_mem_cons.mpr ⟨xT_116, List.forall_mem_cons.mpr ⟨xT_117, List.forall_mem_cons.mpr ⟨xT_118, List.forall_mem_cons.mpr ⟨xT_119, fun _ h => absurd h List.not_mem_nil⟩⟩⟩⟩⟩⟩⟩⟩⟩⟩⟩⟩⟩⟩⟩⟩⟩⟩⟩⟩⟩⟩⟩⟩⟩⟩⟩⟩⟩⟩
theorem xTc_4 : ∀ q ∈ ([120, 121, 122, 123, 124, 125, 126, 127, 128, 129, 130, 131, 132, 133, 134, 135, 136, 137, 138, 139, 140, 141, 142, 143, 144, 145, 146, 147, 148, 149] : List Nat), xckT q = true := List.forall_mem_cons.mpr ⟨xT_120, List.forall_mem_cons.mpr ⟨xT_121, List.forall_mem_cons.mpr ⟨xT_122, List.forall_mem_cons.mpr ⟨xT_123, List.forall_mem_cons.mpr ⟨xT_124, List.forall_mem_cons.mpr ⟨xT_125, List.forall_mem_cons.mpr ⟨xT_126, List.forall_mem_cons.mpr ⟨xT_127, List.forall_mem_cons.mpr ⟨xT_128, List.forall_mem_cons.mpr ⟨xT_129, List.forall_mem_cons.mpr ⟨xT_130, List.forall_mem_cons.mpr ⟨xT_131, List.forall_mem_cons.mpr ⟨xT_132, List.forall_mem_cons.mpr ⟨xT_133, List.forall_mem_cons.mpr ⟨xT_134, List.forall_mem_cons.mpr ⟨xT_135, List.forall_mem_cons.mpr ⟨xT_136, List.forall_mem_cons.mpr ⟨xT_137, List.forall_mem_cons.mpr ⟨xT_138, List.forall_mem_cons.mpr ⟨xT_139, List.forall_mem_cons.mpr ⟨xT_140, List.forall_mem_cons.mpr ⟨xT_141, List.forall_mem_cons.mpr ⟨xT_142, List.forall_mem_cons.mpr ⟨xT_143, List.forall_mem_cons.mpr ⟨xT_144, List.forall_mem_cons.mpr ⟨xT_145, List.forall_mem_cons.mpr ⟨xT_146, List.forall_mem_cons.mpr ⟨xT_147, List.forall_mem_cons.mpr ⟨xT_148, List.forall_mem_cons.mpr ⟨xT_149, fun _ h => absurd h List.not_mem_nil⟩⟩⟩⟩⟩⟩⟩⟩⟩⟩⟩⟩⟩⟩⟩⟩⟩⟩⟩⟩⟩⟩⟩⟩⟩⟩⟩⟩⟩⟩
theorem xTc_5 : ∀ q ∈ ([150, 151, 152, 153, 154, 155, 156, 157, 158, 159, 160, 161, 162, 163, 164, 165, 166, 167, 168, 169, 170, 171, 172, 173, 174, 175, 176, 177, 178, 179] : List Nat), xckT q = true := List.forall_mem_cons.mpr ⟨xT_150, List.forall_mem_cons.mpr ⟨xT_151, List.forall_mem_cons.mpr ⟨xT_152, List.forall_mem_cons.mpr ⟨xT_153, List.forall_mem_cons.mpr ⟨xT_154, List.forall_mem_cons.mpr ⟨xT_155, List.forall_mem_cons.mpr ⟨xT_156, List.forall_mem_cons.mpr ⟨xT_157, List.forall_mem_cons.mpr ⟨xT_158, List.forall_mem_cons.mpr ⟨xT_159, List.forall_mem_cons.mpr ⟨xT_160, List.forall_mem_cons.mpr ⟨xT_161, List.forall_mem_cons.mpr ⟨xT_162, List.forall_mem_cons.mpr ⟨xT_163, List.forall_mem_cons.mpr ⟨xT_164, List.forall_mem_cons.mpr ⟨xT_165, List.forall_mem_cons.mpr ⟨xT_166, List.forall_mem_cons.mpr ⟨xT_167, List.forall_mem_cons.mpr ⟨xT_168, List.forall_mem_cons.mpr ⟨xT_169, List.forall_mem_cons.mpr ⟨xT_170, List.forall_mem_cons.mpr ⟨xT_171, List.forall_mem_cons.mpr ⟨xT_172, List.forall_mem_cons.mpr ⟨xT_173, List.forall_mem_cons.mpr ⟨xT_174, List.forall_mem_cons.mpr ⟨xT_175, List.forall_mem_cons.mpr ⟨xT_176, List.forall_mem_cons.mpr ⟨xT_177, List.forall_mem_cons.mpr ⟨xT_178, List.forall_mem_cons.mpr ⟨xT_179, fun _ h => absurd h List.not_mem_nil⟩⟩⟩⟩⟩⟩⟩⟩⟩⟩⟩⟩⟩⟩⟩⟩⟩⟩⟩⟩⟩⟩⟩⟩⟩⟩⟩⟩⟩⟩
theorem xTc_6 : ∀ q ∈ ([180, 181, 182, 183, 184, 185, 186, 187, 188, 189, 190, 191, 192, 193, 194, 195, 196, 197, 198, 199, 200, 201, 202, 203, 204, 205] : List Nat), xckT q = true := List.forall_mem_cons.mpr ⟨xT_180, List.forall_mem_cons.mpr ⟨xT_181, List.forall_mem_cons.mpr ⟨xT_182, List.forall_mem_cons.mpr ⟨xT_183, List.forall_mem_cons.mpr ⟨xT_184, List.forall_mem_cons.mpr ⟨xT_185, List.forall_mem_cons.mpr ⟨xT_186, List.forall_mem_cons.mpr ⟨xT_187, List.forall_mem_cons.mpr ⟨xT_188, List.forall_mem_cons.mpr ⟨xT_189, List.forall_mem_cons.mpr ⟨xT_190, List.forall_mem_cons.mpr ⟨xT_191, List.forall_mem_cons.mpr ⟨xT_192, List.forall_mem_cons.mpr ⟨xT_193, List.forall_mem_cons.mpr ⟨xT_194, List.forall_mem_cons.mpr ⟨xT_195, List.forall_mem_cons.mpr ⟨xT_196, List.forall_mem_cons.mpr ⟨xT_197, List.forall_mem_cons.mpr ⟨xT_198, List.forall_mem_cons.mpr ⟨xT_199, List.forall_mem_cons.mpr ⟨xT_200, List.forall_mem_cons.mpr ⟨xT_201, List.forall_mem_cons.mpr ⟨xT_202, List.forall_mem_cons.mpr ⟨xT_203, List.forall_mem_cons.mpr ⟨xT_204, List.forall_mem_cons.mpr ⟨xT_205, fun _ h => absurd h List.not_mem_nil⟩⟩⟩⟩⟩⟩⟩⟩⟩⟩⟩⟩⟩⟩⟩⟩⟩⟩⟩⟩⟩⟩⟩⟩⟩⟩
theorem xT_all : ∀ mi, xckT mi = true := by
  intro mi
  by_cases h : mi < 206
  · have hm : mi ∈ List.range 206 := List.mem_range.mpr h
    have e : List.range 206 = [0, 1, 2, 3, 4, 5, 6, 7, 8, 9, 10, 11, 12, 13, 14, 15, 16, 17, 18, 19, 20, 21, 22, 23, 24, 25, 26, 27, 28, 29] ++ ([30, 31, 32, 33, 34, 35, 36, 37, 38, 39, 40, 41, 42, 43, 44, 45, 46, 47, 48, 49, 50, 51, 52, 53, 54, 55, 56, 57, 58, 59] ++ ([60, 61, 62, 63, 64, 65, 66, 67, 68, 69, 70, 71, 72, 73, 74, 75, 76, 77, 78, 79, 80, 81, 82, 83, 84, 85, 86, 87, 88, 89] ++ ([90, 91, 92, 93, 94, 95, 96, 97, 98, 99, 100, 101, 102, 103, 104, 105, 106, 107, 108, 109, 110, 111, 112, 113, 114, 115, 116, 117, 118, 119] ++ ([120, 121, 122, 123, 124, 125, 126, 127, 128, 129, 130, 131, 132, 133, 134, 135, 136, 137, 138, 139, 140, 141, 142, 143, 144, 145, 146, 147, 148, 149] ++ ([150, 151, 152, 153, 154, 155, 156, 157, 158, 159, 160, 161, 162, 163, 164, 165, 166, 167, 168, 169, 170, 171, 172, 173, 174, 175, 176, 177, 178, 179] ++ ([180, 181, 182, 183, 184, 185, 186, 187, 188, 189, 190, 191, 192, 193, 194, 195, 196, 197, 198, 199, 200, 201, 202, 203, 204, 205])))))) := by decide +kernel
    rw [e] at hm
    exact (List.forall_mem_append.mpr ⟨xTc_0, List.forall_mem_append.mpr ⟨xTc_1, List.forall_mem_append.mpr ⟨xTc_2, List.forall_mem_append.mpr ⟨xTc_3, List.forall_mem_append.mpr ⟨xTc_4, List.forall_mem_append.mpr ⟨xTc_5, xTc_6⟩⟩⟩⟩⟩⟩) mi hm
  · unfold xckT
    rw [List.getElem?_eq_none (by have : xMs.length = 206 := by decide +kernel
                                  omega)]
