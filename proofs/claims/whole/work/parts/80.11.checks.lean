/-! each method's instructions are its bytes' -/
theorem all_cut {y : Nat} {l : List (Nat × aI)} (n : Nat) (h1 : (l.take n).all (fun q => ckI y q.1 q.2) = true) (h2 : (l.drop n).all (fun q => ckI y q.1 q.2) = true) : l.all (fun q => ckI y q.1 q.2) = true := by rw [← List.take_append_drop n l, List.all_append, h1, h2]; rfl
theorem ck_0_0 : (List.take 50 (codes.getD 0 [])).all (fun q => ckI 0 q.1 q.2) = true := by decide +kernel
theorem ck_0_1 : (List.take 50 (List.drop 50 (codes.getD 0 []))).all (fun q => ckI 0 q.1 q.2) = true := by decide +kernel
theorem ck_0_2 : (List.take 50 (List.drop 50 (List.drop 50 (codes.getD 0 [])))).all (fun q => ckI 0 q.1 q.2) = true := by decide +kernel
theorem ck_0_3 : (List.take 50 (List.drop 50 (List.drop 50 (List.drop 50 (codes.getD 0 []))))).all (fun q => ckI 0 q.1 q.2) = true := by decide +kernel
theorem ck_0_4 : (List.take 50 (List.drop 50 (List.drop 50 (List.drop 50 (List.drop 50 (codes.getD 0 [])))))).all (fun q => ckI 0 q.1 q.2) = true := by decide +kernel
theorem ck_0_5 : (List.take 50 (List.drop 50 (List.drop 50 (List.drop 50 (List.drop 50 (List.drop 50 (codes.getD 0 []))))))).all (fun q => ckI 0 q.1 q.2) = true := by decide +kernel
theorem ck_0_6 : (List.take 50 (List.drop 50 (List.drop 50 (List.drop 50 (List.drop 50 (List.drop 50 (List.drop 50 (codes.getD 0 [])))))))).all (fun q => ckI 0 q.1 q.2) = true := by decide +kernel
theorem ck_0_7 : (List.take 50 (List.drop 50 (List.drop 50 (List.drop 50 (List.drop 50 (List.drop 50 (List.drop 50 (List.drop 50 (codes.getD 0 []))))))))).all (fun q => ckI 0 q.1 q.2) = true := by decide +kernel
theorem ck_0_8 : (List.take 50 (List.drop 50 (List.drop 50 (List.drop 50 (List.drop 50 (List.drop 50 (List.drop 50 (List.drop 50 (List.drop 50 (codes.getD 0 [])))))))))).all (fun q => ckI 0 q.1 q.2) = true := by decide +kernel
theorem ck_0_9 : (List.take 50 (List.drop 50 (List.drop 50 (List.drop 50 (List.drop 50 (List.drop 50 (List.drop 50 (List.drop 50 (List.drop 50 (List.drop 50 (codes.getD 0 []))))))))))).all (fun q => ckI 0 q.1 q.2) = true := by decide +kernel
theorem ck_0_10 : (List.take 50 (List.drop 50 (List.drop 50 (List.drop 50 (List.drop 50 (List.drop 50 (List.drop 50 (List.drop 50 (List.drop 50 (List.drop 50 (List.drop 50 (codes.getD 0 [])))))))))))).all (fun q => ckI 0 q.1 q.2) = true := by decide +kernel
theorem ck_0_11 : (List.take 50 (List.drop 50 (List.drop 50 (List.drop 50 (List.drop 50 (List.drop 50 (List.drop 50 (List.drop 50 (List.drop 50 (List.drop 50 (List.drop 50 (List.drop 50 (codes.getD 0 []))))))))))))).all (fun q => ckI 0 q.1 q.2) = true := by decide +kernel
theorem ck_0_12 : (List.take 50 (List.drop 50 (List.drop 50 (List.drop 50 (List.drop 50 (List.drop 50 (List.drop 50 (List.drop 50 (List.drop 50 (List.drop 50 (List.drop 50 (List.drop 50 (List.drop 50 (codes.getD 0 [])))))))))))))).all (fun q => ckI 0 q.1 q.2) = true := by decide +kernel
theorem ck_0_13 : (List.take 50 (List.drop 50 (List.drop 50 (List.drop 50 (List.drop 50 (List.drop 50 (List.drop 50 (List.drop 50 (List.drop 50 (List.drop 50 (List.drop 50 (List.drop 50 (List.drop 50 (List.drop 50 (codes.getD 0 []))))))))))))))).all (fun q => ckI 0 q.1 q.2) = true := by decide +kernel
theorem ck_0_14 : (List.take 50 (List.drop 50 (List.drop 50 (List.drop 50 (List.drop 50 (List.drop 50 (List.drop 50 (List.drop 50 (List.drop 50 (List.drop 50 (List.drop 50 (List.drop 50 (List.drop 50 (List.drop 50 (List.drop 50 (codes.getD 0 [])))))))))))))))).all (fun q => ckI 0 q.1 q.2) = true := by decide +kernel
theorem ck_0_15 : (List.take 50 (List.drop 50 (List.drop 50 (List.drop 50 (List.drop 50 (List.drop 50 (List.drop 50 (List.drop 50 (List.drop 50 (List.drop 50 (List.drop 50 (List.drop 50 (List.drop 50 (List.drop 50 (List.drop 50 (List.drop 50 (codes.getD 0 []))))))))))))))))).all (fun q => ckI 0 q.1 q.2) = true := by decide +kernel
theorem ck_0_16 : ((List.drop 50 (List.drop 50 (List.drop 50 (List.drop 50 (List.drop 50 (List.drop 50 (List.drop 50 (List.drop 50 (List.drop 50 (List.drop 50 (List.drop 50 (List.drop 50 (List.drop 50 (List.drop 50 (List.drop 50 (List.drop 50 (codes.getD 0 [])))))))))))))))))).all (fun q => ckI 0 q.1 q.2) = true := by decide +kernel
theorem ck_0 : ckM 0 = true := all_cut 50 ck_0_0 (all_cut 50 ck_0_1 (all_cut 50 ck_0_2 (all_cut 50 ck_0_3 (all_cut 50 ck_0_4 (all_cut 50 ck_0_5 (all_cut 50 ck_0_6 (all_cut 50 ck_0_7 (all_cut 50 ck_0_8 (all_cut 50 ck_0_9 (all_cut 50 ck_0_10 (all_cut 50 ck_0_11 (all_cut 50 ck_0_12 (all_cut 50 ck_0_13 (all_cut 50 ck_0_14 (all_cut 50 ck_0_15 (ck_0_16))))))))))))))))
theorem ck_1 : ckM 1 = true := by decide +kernel
theorem ck_2 : ckM 2 = true := by decide +kernel
theorem ck_3 : ckM 3 = true := by decide +kernel
theorem ck_4 : ckM 4 = true := by decide +kernel
theorem ck_5 : ckM 5 = true := by decide +kernel
theorem ck_6 : ckM 6 = true := by decide +kernel
theorem ck_7 : ckM 7 = true := by decide +kernel
theorem ck_8 : ckM 8 = true := by decide +kernel
theorem ck_9 : ckM 9 = true := by decide +kernel
theorem ck_10 : ckM 10 = true := by decide +kernel
theorem ck_11 : ckM 11 = true := by decide +kernel
theorem ck_12 : ckM 12 = true := by decide +kernel
theorem ck_13 : ckM 13 = true := by decide +kernel
theorem ck_14 : ckM 14 = true := by decide +kernel
theorem ck_15 : ckM 15 = true := by decide +kernel
theorem ck_16 : ckM 16 = true := by decide +kernel
theorem ck_17 : ckM 17 = true := by decide +kernel
theorem ck_18 : ckM 18 = true := by decide +kernel
theorem ck_19 : ckM 19 = true := by decide +kernel
theorem ck_20 : ckM 20 = true := by decide +kernel
theorem ck_21 : ckM 21 = true := by decide +kernel
theorem ck_22 : ckM 22 = true := by decide +kernel
theorem ck_23 : ckM 23 = true := by decide +kernel
theorem ck_24 : ckM 24 = true := by decide +kernel
theorem ck_25 : ckM 25 = true := by decide +kernel
theorem ck_26 : ckM 26 = true := by decide +kernel
theorem ck_27 : ckM 27 = true := by decide +kernel
theorem ck_28 : ckM 28 = true := by decide +kernel
theorem ck_29 : ckM 29 = true := by decide +kernel
theorem ck_30 : ckM 30 = true := by decide +kernel
theorem ck_31_0 : (List.take 80 (codes.getD 31 [])).all (fun q => ckI 31 q.1 q.2) = true := by decide +kernel
theorem ck_31_1 : (List.take 80 (List.drop 80 (codes.getD 31 []))).all (fun q => ckI 31 q.1 q.2) = true := by decide +kernel
theorem ck_31_2 : ((List.drop 80 (List.drop 80 (codes.getD 31 [])))).all (fun q => ckI 31 q.1 q.2) = true := by decide +kernel
theorem ck_31 : ckM 31 = true := all_cut 80 ck_31_0 (all_cut 80 ck_31_1 (ck_31_2))
theorem ck_32 : ckM 32 = true := by decide +kernel
theorem ck_33 : ckM 33 = true := by decide +kernel
theorem ck_34 : ckM 34 = true := by decide +kernel
theorem ck_35 : ckM 35 = true := by decide +kernel
theorem ck_36 : ckM 36 = true := by decide +kernel
theorem ck_37 : ckM 37 = true := by decide +kernel
theorem ck_38 : ckM 38 = true := by decide +kernel
theorem ck_39 : ckM 39 = true := by decide +kernel
theorem ck_40 : ckM 40 = true := by decide +kernel
theorem ck_41 : ckM 41 = true := by decide +kernel
theorem ck_42 : ckM 42 = true := by decide +kernel
theorem ck_43 : ckM 43 = true := by decide +kernel
theorem ck_44 : ckM 44 = true := by decide +kernel
theorem ck_45 : ckM 45 = true := by decide +kernel
theorem ck_46 : ckM 46 = true := by decide +kernel
theorem ck_47 : ckM 47 = true := by decide +kernel
theorem ck_48 : ckM 48 = true := by decide +kernel
theorem ck_49 : ckM 49 = true := by decide +kernel
theorem ck_50 : ckM 50 = true := by decide +kernel
theorem ck_51_0 : (List.take 80 (codes.getD 51 [])).all (fun q => ckI 51 q.1 q.2) = true := by decide +kernel
theorem ck_51_1 : ((List.drop 80 (codes.getD 51 []))).all (fun q => ckI 51 q.1 q.2) = true := by decide +kernel
theorem ck_51 : ckM 51 = true := all_cut 80 ck_51_0 (ck_51_1)
theorem ck_52 : ckM 52 = true := by decide +kernel
theorem ck_53 : ckM 53 = true := by decide +kernel
theorem ck_54 : ckM 54 = true := by decide +kernel
theorem ck_55 : ckM 55 = true := by decide +kernel
theorem ck_56 : ckM 56 = true := by decide +kernel
theorem ck_57 : ckM 57 = true := by decide +kernel
theorem ck_58 : ckM 58 = true := by decide +kernel
theorem ck_59 : ckM 59 = true := by decide +kernel
theorem ck_60 : ckM 60 = true := by decide +kernel
theorem ck_61_0 : (List.take 80 (codes.getD 61 [])).all (fun q => ckI 61 q.1 q.2) = true := by decide +kernel
theorem ck_61_1 : ((List.drop 80 (codes.getD 61 []))).all (fun q => ckI 61 q.1 q.2) = true := by decide +kernel
theorem ck_61 : ckM 61 = true := all_cut 80 ck_61_0 (ck_61_1)
theorem ck_62 : ckM 62 = true := by decide +kernel
theorem ck_63 : ckM 63 = true := by decide +kernel
theorem ck_64 : ckM 64 = true := by decide +kernel
theorem ck_65 : ckM 65 = true := by decide +kernel
theorem ck_66 : ckM 66 = true := by decide +kernel
theorem ck_67 : ckM 67 = true := by decide +kernel
theorem ck_68 : ckM 68 = true := by decide +kernel
theorem ck_69 : ckM 69 = true := by decide +kernel
theorem ck_70 : ckM 70 = true := by decide +kernel
theorem ck_71 : ckM 71 = true := by decide +kernel
theorem ck_72 : ckM 72 = true := by decide +kernel
theorem ck_73 : ckM 73 = true := by decide +kernel
theorem ck_74 : ckM 74 = true := by decide +kernel
theorem ck_75 : ckM 75 = true := by decide +kernel
theorem ck_76 : ckM 76 = true := by decide +kernel
theorem ck_77 : ckM 77 = true := by decide +kernel
theorem ck_78 : ckM 78 = true := by decide +kernel
theorem ck_79 : ckM 79 = true := by decide +kernel
theorem ck_80 : ckM 80 = true := by decide +kernel
theorem ck_81 : ckM 81 = true := by decide +kernel
theorem ck_82 : ckM 82 = true := by decide +kernel
theorem ck_83 : ckM 83 = true := by decide +kernel
theorem ck_84 : ckM 84 = true := by decide +kernel
theorem ck_85 : ckM 85 = true := by decide +kernel
theorem ck_86 : ckM 86 = true := by decide +kernel
theorem ck_87 : ckM 87 = true := by decide +kernel
theorem ck_88 : ckM 88 = true := by decide +kernel
theorem ck_89 : ckM 89 = true := by decide +kernel
theorem ck_90 : ckM 90 = true := by decide +kernel
theorem ck_91_0 : (List.take 80 (codes.getD 91 [])).all (fun q => ckI 91 q.1 q.2) = true := by decide +kernel
theorem ck_91_1 : ((List.drop 80 (codes.getD 91 []))).all (fun q => ckI 91 q.1 q.2) = true := by decide +kernel
theorem ck_91 : ckM 91 = true := all_cut 80 ck_91_0 (ck_91_1)
theorem ck_92 : ckM 92 = true := by decide +kernel
theorem ck_93 : ckM 93 = true := by decide +kernel
theorem ck_94 : ckM 94 = true := by decide +kernel
theorem ck_95 : ckM 95 = true := by decide +kernel
theorem ck_96 : ckM 96 = true := by decide +kernel
theorem ck_97 : ckM 97 = true := by decide +kernel
theorem ck_98 : ckM 98 = true := by decide +kernel
theorem ck_99 : ckM 99 = true := by decide +kernel
theorem ck_100 : ckM 100 = true := by decide +kernel
theorem ck_101 : ckM 101 = true := by decide +kernel
theorem ck_102 : ckM 102 = true := by decide +kernel
theorem ck_103 : ckM 103 = true := by decide +kernel
theorem ck_104 : ckM 104 = true := by decide +kernel
theorem ck_105 : ckM 105 = true := by decide +kernel
theorem ck_106 : ckM 106 = true := by decide +kernel
theorem ck_107 : ckM 107 = true := by decide +kernel
theorem ck_108 : ckM 108 = true := by decide +kernel
theorem ck_109 : ckM 109 = true := by decide +kernel
theorem ck_110 : ckM 110 = true := by decide +kernel
theorem ck_111 : ckM 111 = true := by decide +kernel
theorem ck_112 : ckM 112 = true := by decide +kernel
theorem ck_113 : ckM 113 = true := by decide +kernel
theorem ck_114 : ckM 114 = true := by decide +kernel
theorem ck_115 : ckM 115 = true := by decide +kernel
theorem ck_116 : ckM 116 = true := by decide +kernel
theorem ck_117 : ckM 117 = true := by decide +kernel
theorem ck_118 : ckM 118 = true := by decide +kernel
theorem ck_119 : ckM 119 = true := by decide +kernel
theorem ck_120 : ckM 120 = true := by decide +kernel
theorem ck_121 : ckM 121 = true := by decide +kernel
theorem ck_122 : ckM 122 = true := by decide +kernel
theorem ck_123 : ckM 123 = true := by decide +kernel
theorem ck_124 : ckM 124 = true := by decide +kernel
theorem ck_125 : ckM 125 = true := by decide +kernel
theorem ck_126 : ckM 126 = true := by decide +kernel
theorem ck_127 : ckM 127 = true := by decide +kernel
theorem ck_128 : ckM 128 = true := by decide +kernel
theorem ck_129 : ckM 129 = true := by decide +kernel
theorem ck_130 : ckM 130 = true := by decide +kernel
theorem ck_131 : ckM 131 = true := by decide +kernel
theorem ck_132 : ckM 132 = true := by decide +kernel
theorem ck_133 : ckM 133 = true := by decide +kernel
theorem ck_134 : ckM 134 = true := by decide +kernel
theorem ck_135 : ckM 135 = true := by decide +kernel
theorem ck_136 : ckM 136 = true := by decide +kernel
theorem ck_137 : ckM 137 = true := by decide +kernel
theorem ck_138 : ckM 138 = true := by decide +kernel
theorem ck_139 : ckM 139 = true := by decide +kernel
theorem ck_140 : ckM 140 = true := by decide +kernel
theorem ck_141 : ckM 141 = true := by decide +kernel
theorem ck_142 : ckM 142 = true := by decide +kernel
theorem ck_143 : ckM 143 = true := by decide +kernel
theorem ck_144 : ckM 144 = true := by decide +kernel
theorem ck_145 : ckM 145 = true := by decide +kernel
theorem ck_146 : ckM 146 = true := by decide +kernel
theorem ck_147 : ckM 147 = true := by decide +kernel
theorem ck_148 : ckM 148 = true := by decide +kernel
theorem ck_149 : ckM 149 = true := by decide +kernel
theorem ck_150 : ckM 150 = true := by decide +kernel
theorem ck_151 : ckM 151 = true := by decide +kernel
theorem ck_152 : ckM 152 = true := by decide +kernel
theorem ck_153 : ckM 153 = true := by decide +kernel
theorem ck_154 : ckM 154 = true := by decide +kernel
theorem ck_155 : ckM 155 = true := by decide +kernel
theorem ck_156 : ckM 156 = true := by decide +kernel
theorem ck_157 : ckM 157 = true := by decide +kernel
theorem ck_158 : ckM 158 = true := by decide +kernel
theorem ck_159 : ckM 159 = true := by decide +kernel
theorem ck_160 : ckM 160 = true := by decide +kernel
theorem ck_161_0 : (List.take 80 (codes.getD 161 [])).all (fun q => ckI 161 q.1 q.2) = true := by decide +kernel
theorem ck_161_1 : (List.take 80 (List.drop 80 (codes.getD 161 []))).all (fun q => ckI 161 q.1 q.2) = true := by decide +kernel
theorem ck_161_2 : ((List.drop 80 (List.drop 80 (codes.getD 161 [])))).all (fun q => ckI 161 q.1 q.2) = true := by decide +kernel
theorem ck_161 : ckM 161 = true := all_cut 80 ck_161_0 (all_cut 80 ck_161_1 (ck_161_2))
theorem ck_162 : ckM 162 = true := by decide +kernel
theorem ck_163 : ckM 163 = true := by decide +kernel
theorem ck_164 : ckM 164 = true := by decide +kernel
theorem ck_165 : ckM 165 = true := by decide +kernel
theorem ck_166 : ckM 166 = true := by decide +kernel
theorem ck_167 : ckM 167 = true := by decide +kernel
theorem ck_168 : ckM 168 = true := by decide +kernel
theorem ck_169 : ckM 169 = true := by decide +kernel
theorem ck_170 : ckM 170 = true := by decide +kernel
theorem ck_171 : ckM 171 = true := by decide +kernel
theorem ck_172 : ckM 172 = true := by decide +kernel
theorem ck_173 : ckM 173 = true := by decide +kernel
theorem ck_174 : ckM 174 = true := by decide +kernel
theorem ck_175 : ckM 175 = true := by decide +kernel
theorem ck_176 : ckM 176 = true := by decide +kernel
theorem ck_177 : ckM 177 = true := by decide +kernel
theorem ck_178 : ckM 178 = true := by decide +kernel
theorem ck_179 : ckM 179 = true := by decide +kernel
theorem ck_180 : ckM 180 = true := by decide +kernel
theorem ck_181 : ckM 181 = true := by decide +kernel
theorem ck_182 : ckM 182 = true := by decide +kernel
theorem ck_183 : ckM 183 = true := by decide +kernel
theorem ck_184 : ckM 184 = true := by decide +kernel
theorem ck_185 : ckM 185 = true := by decide +kernel
theorem ck_186 : ckM 186 = true := by decide +kernel
theorem ck_187 : ckM 187 = true := by decide +kernel
theorem ck_188 : ckM 188 = true := by decide +kernel
theorem ck_189_0 : (List.take 80 (codes.getD 189 [])).all (fun q => ckI 189 q.1 q.2) = true := by decide +kernel
theorem ck_189_1 : (List.take 80 (List.drop 80 (codes.getD 189 []))).all (fun q => ckI 189 q.1 q.2) = true := by decide +kernel
theorem ck_189_2 : ((List.drop 80 (List.drop 80 (codes.getD 189 [])))).all (fun q => ckI 189 q.1 q.2) = true := by decide +kernel
theorem ck_189 : ckM 189 = true := all_cut 80 ck_189_0 (all_cut 80 ck_189_1 (ck_189_2))
theorem ck_190 : ckM 190 = true := by decide +kernel
theorem ck_191 : ckM 191 = true := by decide +kernel
theorem ck_192 : ckM 192 = true := by decide +kernel
theorem ck_193 : ckM 193 = true := by decide +kernel
theorem ck_194 : ckM 194 = true := by decide +kernel
theorem ck_195 : ckM 195 = true := by decide +kernel
theorem ck_196 : ckM 196 = true := by decide +kernel
theorem ck_197 : ckM 197 = true := by decide +kernel
theorem ck_198 : ckM 198 = true := by decide +kernel
theorem ck_199 : ckM 199 = true := by decide +kernel
theorem ck_200 : ckM 200 = true := by decide +kernel
theorem ck_201 : ckM 201 = true := by decide +kernel
theorem ck_202 : ckM 202 = true := by decide +kernel
theorem ck_203 : ckM 203 = true := by decide +kernel
theorem ck_204 : ckM 204 = true := by decide +kernel
theorem ck_205_0 : (List.take 80 (codes.getD 205 [])).all (fun q => ckI 205 q.1 q.2) = true := by decide +kernel
theorem ck_205_1 : ((List.drop 80 (codes.getD 205 []))).all (fun q => ckI 205 q.1 q.2) = true := by decide +kernel
theorem ck_205 : ckM 205 = true := all_cut 80 ck_205_0 (ck_205_1)
theorem ck_206 : ckM 206 = true := by decide +kernel
theorem ck_207 : ckM 207 = true := by decide +kernel
theorem ck_208 : ckM 208 = true := by decide +kernel
theorem ck_209 : ckM 209 = true := by decide +kernel
theorem ck_210_0 : (List.take 80 (codes.getD 210 [])).all (fun q => ckI 210 q.1 q.2) = true := by decide +kernel
theorem ck_210_1 : ((List.drop 80 (codes.getD 210 []))).all (fun q => ckI 210 q.1 q.2) = true := by decide +kernel
theorem ck_210 : ckM 210 = true := all_cut 80 ck_210_0 (ck_210_1)
theorem ck_211 : ckM 211 = true := by decide +kernel
theorem ck_212 : ckM 212 = true := by decide +kernel
theorem ck_213 : ckM 213 = true := by decide +kernel
theorem ck_214 : ckM 214 = true := by decide +kernel
theorem ck_215_0 : (List.take 80 (codes.getD 215 [])).all (fun q => ckI 215 q.1 q.2) = true := by decide +kernel
theorem ck_215_1 : ((List.drop 80 (codes.getD 215 []))).all (fun q => ckI 215 q.1 q.2) = true := by decide +kernel
theorem ck_215 : ckM 215 = true := all_cut 80 ck_215_0 (ck_215_1)
theorem ck_216 : ckM 216 = true := by decide +kernel
theorem ck_217 : ckM 217 = true := by decide +kernel
theorem ck_218 : ckM 218 = true := by decide +kernel
theorem ck_219 : ckM 219 = true := by decide +kernel
theorem ck_220 : ckM 220 = true := by decide +kernel
theorem ck_221 : ckM 221 = true := by decide +kernel
theorem ck_222 : ckM 222 = true := by decide +kernel
theorem ck_223 : ckM 223 = true := by decide +kernel
theorem ck_224 : ckM 224 = true := by decide +kernel
theorem ck_225 : ckM 225 = true := by decide +kernel
theorem ck_226 : ckM 226 = true := by decide +kernel
theorem ck_227_0 : (List.take 80 (codes.getD 227 [])).all (fun q => ckI 227 q.1 q.2) = true := by decide +kernel
theorem ck_227_1 : (List.take 80 (List.drop 80 (codes.getD 227 []))).all (fun q => ckI 227 q.1 q.2) = true := by decide +kernel
theorem ck_227_2 : ((List.drop 80 (List.drop 80 (codes.getD 227 [])))).all (fun q => ckI 227 q.1 q.2) = true := by decide +kernel
theorem ck_227 : ckM 227 = true := all_cut 80 ck_227_0 (all_cut 80 ck_227_1 (ck_227_2))
theorem ck_228 : ckM 228 = true := by decide +kernel
theorem ck_229 : ckM 229 = true := by decide +kernel
theorem ck_230 : ckM 230 = true := by decide +kernel
theorem ck_231 : ckM 231 = true := by decide +kernel
theorem ck_232 : ckM 232 = true := by decide +kernel
theorem ck_233 : ckM 233 = true := by decide +kernel
theorem ck_234 : ckM 234 = true := by decide +kernel
theorem ck_235_0 : (List.take 80 (codes.getD 235 [])).all (fun q => ckI 235 q.1 q.2) = true := by decide +kernel
theorem ck_235_1 : (List.take 80 (List.drop 80 (codes.getD 235 []))).all (fun q => ckI 235 q.1 q.2) = true := by decide +kernel
theorem ck_235_2 : ((List.drop 80 (List.drop 80 (codes.getD 235 [])))).all (fun q => ckI 235 q.1 q.2) = true := by decide +kernel
theorem ck_235 : ckM 235 = true := all_cut 80 ck_235_0 (all_cut 80 ck_235_1 (ck_235_2))
theorem ck_236_0 : (List.take 80 (codes.getD 236 [])).all (fun q => ckI 236 q.1 q.2) = true := by decide +kernel
theorem ck_236_1 : ((List.drop 80 (codes.getD 236 []))).all (fun q => ckI 236 q.1 q.2) = true := by decide +kernel
theorem ck_236 : ckM 236 = true := all_cut 80 ck_236_0 (ck_236_1)
theorem ck_237 : ckM 237 = true := by decide +kernel
theorem ck_238 : ckM 238 = true := by decide +kernel
theorem ck_239 : ckM 239 = true := by decide +kernel
theorem ck_240 : ckM 240 = true := by decide +kernel
theorem ck_241 : ckM 241 = true := by decide +kernel
theorem ck_242 : ckM 242 = true := by decide +kernel
theorem ck_243 : ckM 243 = true := by decide +kernel
theorem ck_244 : ckM 244 = true := by decide +kernel
theorem ck_245_0 : (List.take 80 (codes.getD 245 [])).all (fun q => ckI 245 q.1 q.2) = true := by decide +kernel
theorem ck_245_1 : ((List.drop 80 (codes.getD 245 []))).all (fun q => ckI 245 q.1 q.2) = true := by decide +kernel
theorem ck_245 : ckM 245 = true := all_cut 80 ck_245_0 (ck_245_1)
theorem ck_246 : ckM 246 = true := by decide +kernel
theorem ck_247 : ckM 247 = true := by decide +kernel
theorem ck_248 : ckM 248 = true := by decide +kernel
theorem ck_249 : ckM 249 = true := by decide +kernel
theorem ck_250 : ckM 250 = true := by decide +kernel
theorem ck_251_0 : (List.take 80 (codes.getD 251 [])).all (fun q => ckI 251 q.1 q.2) = true := by decide +kernel
theorem ck_251_1 : ((List.drop 80 (codes.getD 251 []))).all (fun q => ckI 251 q.1 q.2) = true := by decide +kernel
theorem ck_251 : ckM 251 = true := all_cut 80 ck_251_0 (ck_251_1)
theorem ck_252 : ckM 252 = true := by decide +kernel
theorem ck_253 : ckM 253 = true := by decide +kernel
theorem ck_254_0 : (List.take 80 (codes.getD 254 [])).all (fun q => ckI 254 q.1 q.2) = true := by decide +kernel
theorem ck_254_1 : ((List.drop 80 (codes.getD 254 []))).all (fun q => ckI 254 q.1 q.2) = true := by decide +kernel
theorem ck_254 : ckM 254 = true := all_cut 80 ck_254_0 (ck_254_1)
theorem ck_255 : ckM 255 = true := by decide +kernel
theorem ck_256 : ckM 256 = true := by decide +kernel
theorem ck_257 : ckM 257 = true := by decide +kernel
theorem ck_258 : ckM 258 = true := by decide +kernel
theorem ck_259 : ckM 259 = true := by decide +kernel
theorem ck_260 : ckM 260 = true := by decide +kernel
theorem ck_261 : ckM 261 = true := by decide +kernel
theorem ck_262 : ckM 262 = true := by decide +kernel
theorem ck_263 : ckM 263 = true := by decide +kernel
theorem ck_264 : ckM 264 = true := by decide +kernel
theorem ck_265 : ckM 265 = true := by decide +kernel
theorem ck_266 : ckM 266 = true := by decide +kernel
theorem ck_267 : ckM 267 = true := by decide +kernel
theorem ck_268 : ckM 268 = true := by decide +kernel
theorem ck_269 : ckM 269 = true := by decide +kernel
theorem cks_0 : ∀ y ∈ [0, 1, 2, 3, 4, 5, 6, 7, 8, 9, 10, 11, 12, 13, 14, 15, 16, 17, 18, 19], ckM y = true := List.forall_mem_cons.mpr ⟨ck_0, List.forall_mem_cons.mpr ⟨ck_1, List.forall_mem_cons.mpr ⟨ck_2, List.forall_mem_cons.mpr ⟨ck_3, List.forall_mem_cons.mpr ⟨ck_4, List.forall_mem_cons.mpr ⟨ck_5, List.forall_mem_cons.mpr ⟨ck_6, List.forall_mem_cons.mpr ⟨ck_7, List.forall_mem_cons.mpr ⟨ck_8, List.forall_mem_cons.mpr ⟨ck_9, List.forall_mem_cons.mpr ⟨ck_10, List.forall_mem_cons.mpr ⟨ck_11, List.forall_mem_cons.mpr ⟨ck_12, List.forall_mem_cons.mpr ⟨ck_13, List.forall_mem_cons.mpr ⟨ck_14, List.forall_mem_cons.mpr ⟨ck_15, List.forall_mem_cons.mpr ⟨ck_16, List.forall_mem_cons.mpr ⟨ck_17, List.forall_mem_cons.mpr ⟨ck_18, List.forall_mem_cons.mpr ⟨ck_19, fun _ h => absurd h List.not_mem_nil⟩⟩⟩⟩⟩⟩⟩⟩⟩⟩⟩⟩⟩⟩⟩⟩⟩⟩⟩⟩
theorem cks_1 : ∀ y ∈ [20, 21, 22, 23, 24, 25, 26, 27, 28, 29, 30, 31, 32, 33, 34, 35, 36, 37, 38, 39], ckM y = true := List.forall_mem_cons.mpr ⟨ck_20, List.forall_mem_cons.mpr ⟨ck_21, List.forall_mem_cons.mpr ⟨ck_22, List.forall_mem_cons.mpr ⟨ck_23, List.forall_mem_cons.mpr ⟨ck_24, List.forall_mem_cons.mpr ⟨ck_25, List.forall_mem_cons.mpr ⟨ck_26, List.forall_mem_cons.mpr ⟨ck_27, List.forall_mem_cons.mpr ⟨ck_28, List.forall_mem_cons.mpr ⟨ck_29, List.forall_mem_cons.mpr ⟨ck_30, List.forall_mem_cons.mpr ⟨ck_31, List.forall_mem_cons.mpr ⟨ck_32, List.forall_mem_cons.mpr ⟨ck_33, List.forall_mem_cons.mpr ⟨ck_34, List.forall_mem_cons.mpr ⟨ck_35, List.forall_mem_cons.mpr ⟨ck_36, List.forall_mem_cons.mpr ⟨ck_37, List.forall_mem_cons.mpr ⟨ck_38, List.forall_mem_cons.mpr ⟨ck_39, fun _ h => absurd h List.not_mem_nil⟩⟩⟩⟩⟩⟩⟩⟩⟩⟩⟩⟩⟩⟩⟩⟩⟩⟩⟩⟩
theorem cks_2 : ∀ y ∈ [40, 41, 42, 43, 44, 45, 46, 47, 48, 49, 50, 51, 52, 53, 54, 55, 56, 57, 58, 59], ckM y = true := List.forall_mem_cons.mpr ⟨ck_40, List.forall_mem_cons.mpr ⟨ck_41, List.forall_mem_cons.mpr ⟨ck_42, List.forall_mem_cons.mpr ⟨ck_43, List.forall_mem_cons.mpr ⟨ck_44, List.forall_mem_cons.mpr ⟨ck_45, List.forall_mem_cons.mpr ⟨ck_46, List.forall_mem_cons.mpr ⟨ck_47, List.forall_mem_cons.mpr ⟨ck_48, List.forall_mem_cons.mpr ⟨ck_49, List.forall_mem_cons.mpr ⟨ck_50, List.forall_mem_cons.mpr ⟨ck_51, List.forall_mem_cons.mpr ⟨ck_52, List.forall_mem_cons.mpr ⟨ck_53, List.forall_mem_cons.mpr ⟨ck_54, List.forall_mem_cons.mpr ⟨ck_55, List.forall_mem_cons.mpr ⟨ck_56, List.forall_mem_cons.mpr ⟨ck_57, List.forall_mem_cons.mpr ⟨ck_58, List.forall_mem_cons.mpr ⟨ck_59, fun _ h => absurd h List.not_mem_nil⟩⟩⟩⟩⟩⟩⟩⟩⟩⟩⟩⟩⟩⟩⟩⟩⟩⟩⟩⟩
theorem cks_3 : ∀ y ∈ [60, 61, 62, 63, 64, 65, 66, 67, 68, 69, 70, 71, 72, 73, 74, 75, 76, 77, 78, 79], ckM y = true := List.forall_mem_cons.mpr ⟨ck_60, List.forall_mem_cons.mpr ⟨ck_61, List.forall_mem_cons.mpr ⟨ck_62, List.forall_mem_cons.mpr ⟨ck_63, List.forall_mem_cons.mpr ⟨ck_64, List.forall_mem_cons.mpr ⟨ck_65, List.forall_mem_cons.mpr ⟨ck_66, List.forall_mem_cons.mpr ⟨ck_67, List.forall_mem_cons.mpr ⟨ck_68, List.forall_mem_cons.mpr ⟨ck_69, List.forall_mem_cons.mpr ⟨ck_70, List.forall_mem_cons.mpr ⟨ck_71, List.forall_mem_cons.mpr ⟨ck_72, List.forall_mem_cons.mpr ⟨ck_73, List.forall_mem_cons.mpr ⟨ck_74, List.forall_mem_cons.mpr ⟨ck_75, List.forall_mem_cons.mpr ⟨ck_76, List.forall_mem_cons.mpr ⟨ck_77, List.forall_mem_cons.mpr ⟨ck_78, List.forall_mem_cons.mpr ⟨ck_79, fun _ h => absurd h List.not_mem_nil⟩⟩⟩⟩⟩⟩⟩⟩⟩⟩⟩⟩⟩⟩⟩⟩⟩⟩⟩⟩
theorem cks_4 : ∀ y ∈ [80, 81, 82, 83, 84, 85, 86, 87, 88, 89, 90, 91, 92, 93, 94, 95, 96, 97, 98, 99], ckM y = true := List.forall_mem_cons.mpr ⟨ck_80, List.forall_mem_cons.mpr ⟨ck_81, List.forall_mem_cons.mpr ⟨ck_82, List.forall_mem_cons.mpr ⟨ck_83, List.forall_mem_cons.mpr ⟨ck_84, List.forall_mem_cons.mpr ⟨ck_85, List.forall_mem_cons.mpr ⟨ck_86, List.forall_mem_cons.mpr ⟨ck_87, List.forall_mem_cons.mpr ⟨ck_88, List.forall_mem_cons.mpr ⟨ck_89, List.forall_mem_cons.mpr ⟨ck_90, List.forall_mem_cons.mpr ⟨ck_91, List.forall_mem_cons.mpr ⟨ck_92, List.forall_mem_cons.mpr ⟨ck_93, List.forall_mem_cons.mpr ⟨ck_94, List.forall_mem_cons.mpr ⟨ck_95, List.forall_mem_cons.mpr ⟨ck_96, List.forall_mem_cons.mpr ⟨ck_97, List.forall_mem_cons.mpr ⟨ck_98, List.forall_mem_cons.mpr ⟨ck_99, fun _ h => absurd h List.not_mem_nil⟩⟩⟩⟩⟩⟩⟩⟩⟩⟩⟩⟩⟩⟩⟩⟩⟩⟩⟩⟩
theorem cks_5 : ∀ y ∈ [100, 101, 102, 103, 104, 105, 106, 107, 108, 109, 110, 111, 112, 113, 114, 115, 116, 117, 118, 119], ckM y = true := List.forall_mem_cons.mpr ⟨ck_100, List.forall_mem_cons.mpr ⟨ck_101, List.forall_mem_cons.mpr ⟨ck_102, List.forall_mem_cons.mpr ⟨ck_103, List.forall_mem_cons.mpr ⟨ck_104, List.forall_mem_cons.mpr ⟨ck_105, List.forall_mem_cons.mpr ⟨ck_106, List.forall_mem_cons.mpr ⟨ck_107, List.forall_mem_cons.mpr ⟨ck_108, List.forall_mem_cons.mpr ⟨ck_109, List.forall_mem_cons.mpr ⟨ck_110, List.forall_mem_cons.mpr ⟨ck_111, List.forall_mem_cons.mpr ⟨ck_112, List.forall_mem_cons.mpr ⟨ck_113, List.forall_mem_cons.mpr ⟨ck_114, List.forall_mem_cons.mpr ⟨ck_115, List.forall_mem_cons.mpr ⟨ck_116, List.forall_mem_cons.mpr ⟨ck_117, List.forall_mem_cons.mpr ⟨ck_118, List.forall_mem_cons.mpr ⟨ck_119, fun _ h => absurd h List.not_mem_nil⟩⟩⟩⟩⟩⟩⟩⟩⟩⟩⟩⟩⟩⟩⟩⟩⟩⟩⟩⟩
theorem cks_6 : ∀ y ∈ [120, 121, 122, 123, 124, 125, 126, 127, 128, 129, 130, 131, 132, 133, 134, 135, 136, 137, 138, 139], ckM y = true := List.forall_mem_cons.mpr ⟨ck_120, List.forall_mem_cons.mpr ⟨ck_121, List.forall_mem_cons.mpr ⟨ck_122, List.forall_mem_cons.mpr ⟨ck_123, List.forall_mem_cons.mpr ⟨ck_124, List.forall_mem_cons.mpr ⟨ck_125, List.forall_mem_cons.mpr ⟨ck_126, List.forall_mem_cons.mpr ⟨ck_127, List.forall_mem_cons.mpr ⟨ck_128, List.forall_mem_cons.mpr ⟨ck_129, List.forall_mem_cons.mpr ⟨ck_130, List.forall_mem_cons.mpr ⟨ck_131, List.forall_mem_cons.mpr ⟨ck_132, List.forall_mem_cons.mpr ⟨ck_133, List.forall_mem_cons.mpr ⟨ck_134, List.forall_mem_cons.mpr ⟨ck_135, List.forall_mem_cons.mpr ⟨ck_136, List.forall_mem_cons.mpr ⟨ck_137, List.forall_mem_cons.mpr ⟨ck_138, List.forall_mem_cons.mpr ⟨ck_139, fun _ h => absurd h List.not_mem_nil⟩⟩⟩⟩⟩⟩⟩⟩⟩⟩⟩⟩⟩⟩⟩⟩⟩⟩⟩⟩
theorem cks_7 : ∀ y ∈ [140, 141, 142, 143, 144, 145, 146, 147, 148, 149, 150, 151, 152, 153, 154, 155, 156, 157, 158, 159], ckM y = true := List.forall_mem_cons.mpr ⟨ck_140, List.forall_mem_cons.mpr ⟨ck_141, List.forall_mem_cons.mpr ⟨ck_142, List.forall_mem_cons.mpr ⟨ck_143, List.forall_mem_cons.mpr ⟨ck_144, List.forall_mem_cons.mpr ⟨ck_145, List.forall_mem_cons.mpr ⟨ck_146, List.forall_mem_cons.mpr ⟨ck_147, List.forall_mem_cons.mpr ⟨ck_148, List.forall_mem_cons.mpr ⟨ck_149, List.forall_mem_cons.mpr ⟨ck_150, List.forall_mem_cons.mpr ⟨ck_151, List.forall_mem_cons.mpr ⟨ck_152, List.forall_mem_cons.mpr ⟨ck_153, List.forall_mem_cons.mpr ⟨ck_154, List.forall_mem_cons.mpr ⟨ck_155, List.forall_mem_cons.mpr ⟨ck_156, List.forall_mem_cons.mpr ⟨ck_157, List.forall_mem_cons.mpr ⟨ck_158, List.forall_mem_cons.mpr ⟨ck_159, fun _ h => absurd h List.not_mem_nil⟩⟩⟩⟩⟩⟩⟩⟩⟩⟩⟩⟩⟩⟩⟩⟩⟩⟩⟩⟩
theorem cks_8 : ∀ y ∈ [160, 161, 162, 163, 164, 165, 166, 167, 168, 169, 170, 171, 172, 173, 174, 175, 176, 177, 178, 179], ckM y = true := List.forall_mem_cons.mpr ⟨ck_160, List.forall_mem_cons.mpr ⟨ck_161, List.forall_mem_cons.mpr ⟨ck_162, List.forall_mem_cons.mpr ⟨ck_163, List.forall_mem_cons.mpr ⟨ck_164, List.forall_mem_cons.mpr ⟨ck_165, List.forall_mem_cons.mpr ⟨ck_166, List.forall_mem_cons.mpr ⟨ck_167, List.forall_mem_cons.mpr ⟨ck_168, List.forall_mem_cons.mpr ⟨ck_169, List.forall_mem_cons.mpr ⟨ck_170, List.forall_mem_cons.mpr ⟨ck_171, List.forall_mem_cons.mpr ⟨ck_172, List.forall_mem_cons.mpr ⟨ck_173, List.forall_mem_cons.mpr ⟨ck_174, List.forall_mem_cons.mpr ⟨ck_175, List.forall_mem_cons.mpr ⟨ck_176, List.forall_mem_cons.mpr ⟨ck_177, List.forall_mem_cons.mpr ⟨ck_178, List.forall_mem_cons.mpr ⟨ck_179, fun _ h => absurd h List.not_mem_nil⟩⟩⟩⟩⟩⟩⟩⟩⟩⟩⟩⟩⟩⟩⟩⟩⟩⟩⟩⟩
theorem cks_9 : ∀ y ∈ [180, 181, 182, 183, 184, 185, 186, 187, 188, 189, 190, 191, 192, 193, 194, 195, 196, 197, 198, 199], ckM y = true := List.forall_mem_cons.mpr ⟨ck_180, List.forall_mem_cons.mpr ⟨ck_181, List.forall_mem_cons.mpr ⟨ck_182, List.forall_mem_cons.mpr ⟨ck_183, List.forall_mem_cons.mpr ⟨ck_184, List.forall_mem_cons.mpr ⟨ck_185, List.forall_mem_cons.mpr ⟨ck_186, List.forall_mem_cons.mpr ⟨ck_187, List.forall_mem_cons.mpr ⟨ck_188, List.forall_mem_cons.mpr ⟨ck_189, List.forall_mem_cons.mpr ⟨ck_190, List.forall_mem_cons.mpr ⟨ck_191, List.forall_mem_cons.mpr ⟨ck_192, List.forall_mem_cons.mpr ⟨ck_193, List.forall_mem_cons.mpr ⟨ck_194, List.forall_mem_cons.mpr ⟨ck_195, List.forall_mem_cons.mpr ⟨ck_196, List.forall_mem_cons.mpr ⟨ck_197, List.forall_mem_cons.mpr ⟨ck_198, List.forall_mem_cons.mpr ⟨ck_199, fun _ h => absurd h List.not_mem_nil⟩⟩⟩⟩⟩⟩⟩⟩⟩⟩⟩⟩⟩⟩⟩⟩⟩⟩⟩⟩
theorem cks_10 : ∀ y ∈ [200, 201, 202, 203, 204, 205, 206, 207, 208, 209, 210, 211, 212, 213, 214, 215, 216, 217, 218, 219], ckM y = true := List.forall_mem_cons.mpr ⟨ck_200, List.forall_mem_cons.mpr ⟨ck_201, List.forall_mem_cons.mpr ⟨ck_202, List.forall_mem_cons.mpr ⟨ck_203, List.forall_mem_cons.mpr ⟨ck_204, List.forall_mem_cons.mpr ⟨ck_205, List.forall_mem_cons.mpr ⟨ck_206, List.forall_mem_cons.mpr ⟨ck_207, List.forall_mem_cons.mpr ⟨ck_208, List.forall_mem_cons.mpr ⟨ck_209, List.forall_mem_cons.mpr ⟨ck_210, List.forall_mem_cons.mpr ⟨ck_211, List.forall_mem_cons.mpr ⟨ck_212, List.forall_mem_cons.mpr ⟨ck_213, List.forall_mem_cons.mpr ⟨ck_214, List.forall_mem_cons.mpr ⟨ck_215, List.forall_mem_cons.mpr ⟨ck_216, List.forall_mem_cons.mpr ⟨ck_217, List.forall_mem_cons.mpr ⟨ck_218, List.forall_mem_cons.mpr ⟨ck_219, fun _ h => absurd h List.not_mem_nil⟩⟩⟩⟩⟩⟩⟩⟩⟩⟩⟩⟩⟩⟩⟩⟩⟩⟩⟩⟩
theorem cks_11 : ∀ y ∈ [220, 221, 222, 223, 224, 225, 226, 227, 228, 229, 230, 231, 232, 233, 234, 235, 236, 237, 238, 239], ckM y = true := List.forall_mem_cons.mpr ⟨ck_220, List.forall_mem_cons.mpr ⟨ck_221, List.forall_mem_cons.mpr ⟨ck_222, List.forall_mem_cons.mpr ⟨ck_223, List.forall_mem_cons.mpr ⟨ck_224, List.forall_mem_cons.mpr ⟨ck_225, List.forall_mem_cons.mpr ⟨ck_226, List.forall_mem_cons.mpr ⟨ck_227, List.forall_mem_cons.mpr ⟨ck_228, List.forall_mem_cons.mpr ⟨ck_229, List.forall_mem_cons.mpr ⟨ck_230, List.forall_mem_cons.mpr ⟨ck_231, List.forall_mem_cons.mpr ⟨ck_232, List.forall_mem_cons.mpr ⟨ck_233, List.forall_mem_cons.mpr ⟨ck_234, List.forall_mem_cons.mpr ⟨ck_235, List.forall_mem_cons.mpr ⟨ck_236, List.forall_mem_cons.mpr ⟨ck_237, List.forall_mem_cons.mpr ⟨ck_238, List.forall_mem_cons.mpr ⟨ck_239, fun _ h => absurd h List.not_mem_nil⟩⟩⟩⟩⟩⟩⟩⟩⟩⟩⟩⟩⟩⟩⟩⟩⟩⟩⟩⟩
theorem cks_12 : ∀ y ∈ [240, 241, 242, 243, 244, 245, 246, 247, 248, 249, 250, 251, 252, 253, 254, 255, 256, 257, 258, 259], ckM y = true := List.forall_mem_cons.mpr ⟨ck_240, List.forall_mem_cons.mpr ⟨ck_241, List.forall_mem_cons.mpr ⟨ck_242, List.forall_mem_cons.mpr ⟨ck_243, List.forall_mem_cons.mpr ⟨ck_244, List.forall_mem_cons.mpr ⟨ck_245, List.forall_mem_cons.mpr ⟨ck_246, List.forall_mem_cons.mpr ⟨ck_247, List.forall_mem_cons.mpr ⟨ck_248, List.forall_mem_cons.mpr ⟨ck_249, List.forall_mem_cons.mpr ⟨ck_250, List.forall_mem_cons.mpr ⟨ck_251, List.forall_mem_cons.mpr ⟨ck_252, List.forall_mem_cons.mpr ⟨ck_253, List.forall_mem_cons.mpr ⟨ck_254, List.forall_mem_cons.mpr ⟨ck_255, List.forall_mem_cons.mpr ⟨ck_256, List.forall_mem_cons.mpr ⟨ck_257, List.forall_mem_cons.mpr ⟨ck_258, List.forall_mem_cons.mpr ⟨ck_259, fun _ h => absurd h List.not_mem_nil⟩⟩⟩⟩⟩⟩⟩⟩⟩⟩⟩⟩⟩⟩⟩⟩⟩⟩⟩⟩
theorem cks_13 : ∀ y ∈ [260, 261, 262, 263, 264, 265, 266, 267, 268, 269], ckM y = true := List.forall_mem_cons.mpr ⟨ck_260, List.forall_mem_cons.mpr ⟨ck_261, List.forall_mem_cons.mpr ⟨ck_262, List.forall_mem_cons.mpr ⟨ck_263, List.forall_mem_cons.mpr ⟨ck_264, List.forall_mem_cons.mpr ⟨ck_265, List.forall_mem_cons.mpr ⟨ck_266, List.forall_mem_cons.mpr ⟨ck_267, List.forall_mem_cons.mpr ⟨ck_268, List.forall_mem_cons.mpr ⟨ck_269, fun _ h => absurd h List.not_mem_nil⟩⟩⟩⟩⟩⟩⟩⟩⟩⟩
theorem ck_all : ∀ y, y < 270 → ckM y = true := by
  intro y h
  rcases Nat.lt_or_ge y 20 with q0 | q0
  · refine cks_0 y ?_
    have : y ∈ (List.range 20).map (fun k => k + 0) := List.mem_map.mpr ⟨y - 0, List.mem_range.mpr (by omega), by omega⟩
    exact this
  rcases Nat.lt_or_ge y 40 with q1 | q1
  · refine cks_1 y ?_
    have : y ∈ (List.range 20).map (fun k => k + 20) := List.mem_map.mpr ⟨y - 20, List.mem_range.mpr (by omega), by omega⟩
    exact this
  rcases Nat.lt_or_ge y 60 with q2 | q2
  · refine cks_2 y ?_
    have : y ∈ (List.range 20).map (fun k => k + 40) := List.mem_map.mpr ⟨y - 40, List.mem_range.mpr (by omega), by omega⟩
    exact this
  rcases Nat.lt_or_ge y 80 with q3 | q3
  · refine cks_3 y ?_
    have : y ∈ (List.range 20).map (fun k => k + 60) := List.mem_map.mpr ⟨y - 60, List.mem_range.mpr (by omega), by omega⟩
    exact this
  rcases Nat.lt_or_ge y 100 with q4 | q4
  · refine cks_4 y ?_
    have : y ∈ (List.range 20).map (fun k => k + 80) := List.mem_map.mpr ⟨y - 80, List.mem_range.mpr (by omega), by omega⟩
    exact this
  rcases Nat.lt_or_ge y 120 with q5 | q5
  · refine cks_5 y ?_
    have : y ∈ (List.range 20).map (fun k => k + 100) := List.mem_map.mpr ⟨y - 100, List.mem_range.mpr (by omega), by omega⟩
    exact this
  rcases Nat.lt_or_ge y 140 with q6 | q6
  · refine cks_6 y ?_
    have : y ∈ (List.range 20).map (fun k => k + 120) := List.mem_map.mpr ⟨y - 120, List.mem_range.mpr (by omega), by omega⟩
    exact this
  rcases Nat.lt_or_ge y 160 with q7 | q7
  · refine cks_7 y ?_
    have : y ∈ (List.range 20).map (fun k => k + 140) := List.mem_map.mpr ⟨y - 140, List.mem_range.mpr (by omega), by omega⟩
    exact this
  rcases Nat.lt_or_ge y 180 with q8 | q8
  · refine cks_8 y ?_
    have : y ∈ (List.range 20).map (fun k => k + 160) := List.mem_map.mpr ⟨y - 160, List.mem_range.mpr (by omega), by omega⟩
    exact this
  rcases Nat.lt_or_ge y 200 with q9 | q9
  · refine cks_9 y ?_
    have : y ∈ (List.range 20).map (fun k => k + 180) := List.mem_map.mpr ⟨y - 180, List.mem_range.mpr (by omega), by omega⟩
    exact this
  rcases Nat.lt_or_ge y 220 with q10 | q10
  · refine cks_10 y ?_
    have : y ∈ (List.range 20).map (fun k => k + 200) := List.mem_map.mpr ⟨y - 200, List.mem_range.mpr (by omega), by omega⟩
    exact this
  rcases Nat.lt_or_ge y 240 with q11 | q11
  · refine cks_11 y ?_
    have : y ∈ (List.range 20).map (fun k => k + 220) := List.mem_map.mpr ⟨y - 220, List.mem_range.mpr (by omega), by omega⟩
    exact this
  rcases Nat.lt_or_ge y 260 with q12 | q12
  · refine cks_12 y ?_
    have : y ∈ (List.range 20).map (fun k => k + 240) := List.mem_map.mpr ⟨y - 240, List.mem_range.mpr (by omega), by omega⟩
    exact this
  rcases Nat.lt_or_ge y 270 with q13 | q13
  · refine cks_13 y ?_
    have : y ∈ (List.range 10).map (fun k => k + 260) := List.mem_map.mpr ⟨y - 260, List.mem_range.mpr (by omega), by omega⟩
    exact this
  omega
