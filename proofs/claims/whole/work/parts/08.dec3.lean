/-! What stands at each place of the code. -/
theorem d_Model_init_0 : decode b_Model_init 0 = .ok (.aload_n 0, 1) := by decide +kernel
theorem d_Model_init_1 : decode b_Model_init 1 = .ok (.invokespecial 1, 3) := by decide +kernel
theorem d_Model_init_4 : decode b_Model_init 4 = .ok (.aload_n 0, 1) := by decide +kernel
theorem d_Model_init_5 : decode b_Model_init 5 = .ok (.bipush 24, 2) := by decide +kernel
theorem d_Model_init_7 : decode b_Model_init 7 = .ok (.newarray .int, 2) := by decide +kernel
theorem d_Model_init_9 : decode b_Model_init 9 = .ok (.putfield 7, 3) := by decide +kernel
theorem d_Model_init_12 : decode b_Model_init 12 = .ok (.aload_n 0, 1) := by decide +kernel
theorem d_Model_init_13 : decode b_Model_init 13 = .ok (.bipush 24, 2) := by decide +kernel
theorem d_Model_init_15 : decode b_Model_init 15 = .ok (.newarray .int, 2) := by decide +kernel
theorem d_Model_init_17 : decode b_Model_init 17 = .ok (.putfield 13, 3) := by decide +kernel
theorem d_Model_init_20 : decode b_Model_init 20 = .ok (.aload_n 0, 1) := by decide +kernel
theorem d_Model_init_21 : decode b_Model_init 21 = .ok (.bipush 24, 2) := by decide +kernel
theorem d_Model_init_23 : decode b_Model_init 23 = .ok (.newarray .int, 2) := by decide +kernel
theorem d_Model_init_25 : decode b_Model_init 25 = .ok (.putfield 16, 3) := by decide +kernel
theorem d_Model_init_28 : decode b_Model_init 28 = .ok (.aload_n 0, 1) := by decide +kernel
theorem d_Model_init_29 : decode b_Model_init 29 = .ok (.bipush 24, 2) := by decide +kernel
theorem d_Model_init_31 : decode b_Model_init 31 = .ok (.newarray .int, 2) := by decide +kernel
theorem d_Model_init_33 : decode b_Model_init 33 = .ok (.putfield 19, 3) := by decide +kernel
theorem d_Model_init_36 : decode b_Model_init 36 = .ok (.aload_n 0, 1) := by decide +kernel
theorem d_Model_init_37 : decode b_Model_init 37 = .ok (.bipush 24, 2) := by decide +kernel
theorem d_Model_init_39 : decode b_Model_init 39 = .ok (.newarray .int, 2) := by decide +kernel
theorem d_Model_init_41 : decode b_Model_init 41 = .ok (.putfield 22, 3) := by decide +kernel
theorem d_Model_init_44 : decode b_Model_init 44 = .ok (.aload_n 0, 1) := by decide +kernel
theorem d_Model_init_45 : decode b_Model_init 45 = .ok (.bipush 40, 2) := by decide +kernel
theorem d_Model_init_47 : decode b_Model_init 47 = .ok (.newarray .int, 2) := by decide +kernel
theorem d_Model_init_49 : decode b_Model_init 49 = .ok (.putfield 25, 3) := by decide +kernel
theorem d_Model_init_52 : decode b_Model_init 52 = .ok (.aload_n 0, 1) := by decide +kernel
theorem d_Model_init_53 : decode b_Model_init 53 = .ok (.bipush 40, 2) := by decide +kernel
theorem d_Model_init_55 : decode b_Model_init 55 = .ok (.newarray .int, 2) := by decide +kernel
theorem d_Model_init_57 : decode b_Model_init 57 = .ok (.putfield 28, 3) := by decide +kernel
theorem d_Model_init_60 : decode b_Model_init 60 = .ok (.aload_n 0, 1) := by decide +kernel
theorem d_Model_init_61 : decode b_Model_init 61 = .ok (.bipush 40, 2) := by decide +kernel
theorem d_Model_init_63 : decode b_Model_init 63 = .ok (.newarray .int, 2) := by decide +kernel
theorem d_Model_init_65 : decode b_Model_init 65 = .ok (.putfield 31, 3) := by decide +kernel
theorem d_Model_init_68 : decode b_Model_init 68 = .ok (.aload_n 0, 1) := by decide +kernel
theorem d_Model_init_69 : decode b_Model_init 69 = .ok (.bipush 40, 2) := by decide +kernel
theorem d_Model_init_71 : decode b_Model_init 71 = .ok (.newarray .int, 2) := by decide +kernel
theorem d_Model_init_73 : decode b_Model_init 73 = .ok (.putfield 34, 3) := by decide +kernel
theorem d_Model_init_76 : decode b_Model_init 76 = .ok (.aload_n 0, 1) := by decide +kernel
theorem d_Model_init_77 : decode b_Model_init 77 = .ok (.bipush 40, 2) := by decide +kernel
theorem d_Model_init_79 : decode b_Model_init 79 = .ok (.newarray .int, 2) := by decide +kernel
theorem d_Model_init_81 : decode b_Model_init 81 = .ok (.putfield 37, 3) := by decide +kernel
theorem d_Model_init_84 : decode b_Model_init 84 = .ok (.aload_n 0, 1) := by decide +kernel
theorem d_Model_init_85 : decode b_Model_init 85 = .ok (.sipush 160, 3) := by decide +kernel
theorem d_Model_init_88 : decode b_Model_init 88 = .ok (.newarray .long, 2) := by decide +kernel
theorem d_Model_init_90 : decode b_Model_init 90 = .ok (.putfield 40, 3) := by decide +kernel
theorem d_Model_init_93 : decode b_Model_init 93 = .ok (.aload_n 0, 1) := by decide +kernel
theorem d_Model_init_94 : decode b_Model_init 94 = .ok (.sipush 160, 3) := by decide +kernel
theorem d_Model_init_97 : decode b_Model_init 97 = .ok (.newarray .int, 2) := by decide +kernel
theorem d_Model_init_99 : decode b_Model_init 99 = .ok (.putfield 44, 3) := by decide +kernel
theorem d_Model_init_102 : decode b_Model_init 102 = .ok (.aload_n 0, 1) := by decide +kernel
theorem d_Model_init_103 : decode b_Model_init 103 = .ok (.iconst 4, 1) := by decide +kernel
theorem d_Model_init_104 : decode b_Model_init 104 = .ok (.newarray .long, 2) := by decide +kernel
theorem d_Model_init_106 : decode b_Model_init 106 = .ok (.putfield 47, 3) := by decide +kernel
theorem d_Model_init_109 : decode b_Model_init 109 = .ok (.aload_n 0, 1) := by decide +kernel
theorem d_Model_init_110 : decode b_Model_init 110 = .ok (.iconst 4, 1) := by decide +kernel
theorem d_Model_init_111 : decode b_Model_init 111 = .ok (.newarray .long, 2) := by decide +kernel
theorem d_Model_init_113 : decode b_Model_init 113 = .ok (.putfield 50, 3) := by decide +kernel
theorem d_Model_init_116 : decode b_Model_init 116 = .ok (.aload_n 0, 1) := by decide +kernel
theorem d_Model_init_117 : decode b_Model_init 117 = .ok (.iconst 4, 1) := by decide +kernel
theorem d_Model_init_118 : decode b_Model_init 118 = .ok (.newarray .long, 2) := by decide +kernel
theorem d_Model_init_120 : decode b_Model_init 120 = .ok (.putfield 53, 3) := by decide +kernel
theorem d_Model_init_123 : decode b_Model_init 123 = .ok (.aload_n 0, 1) := by decide +kernel
theorem d_Model_init_124 : decode b_Model_init 124 = .ok (.iconst 4, 1) := by decide +kernel
theorem d_Model_init_125 : decode b_Model_init 125 = .ok (.newarray .int, 2) := by decide +kernel
theorem d_Model_init_127 : decode b_Model_init 127 = .ok (.putfield 56, 3) := by decide +kernel
theorem d_Model_init_130 : decode b_Model_init 130 = .ok (.aload_n 0, 1) := by decide +kernel
theorem d_Model_init_131 : decode b_Model_init 131 = .ok (.sipush 164, 3) := by decide +kernel
theorem d_Model_init_134 : decode b_Model_init 134 = .ok (.newarray .long, 2) := by decide +kernel
theorem d_Model_init_136 : decode b_Model_init 136 = .ok (.putfield 59, 3) := by decide +kernel
theorem d_Model_init_139 : decode b_Model_init 139 = .ok (.aload_n 0, 1) := by decide +kernel
theorem d_Model_init_140 : decode b_Model_init 140 = .ok (.sipush 164, 3) := by decide +kernel
theorem d_Model_init_143 : decode b_Model_init 143 = .ok (.newarray .int, 2) := by decide +kernel
theorem d_Model_init_145 : decode b_Model_init 145 = .ok (.putfield 62, 3) := by decide +kernel
theorem d_Model_init_148 : decode b_Model_init 148 = .ok (.aload_n 0, 1) := by decide +kernel
theorem d_Model_init_149 : decode b_Model_init 149 = .ok (.iconst 3, 1) := by decide +kernel
theorem d_Model_init_150 : decode b_Model_init 150 = .ok (.putfield 65, 3) := by decide +kernel
theorem d_Model_init_153 : decode b_Model_init 153 = .ok (.aload_n 0, 1) := by decide +kernel
theorem d_Model_init_154 : decode b_Model_init 154 = .ok (.sipush 160, 3) := by decide +kernel
theorem d_Model_init_157 : decode b_Model_init 157 = .ok (.newarray .int, 2) := by decide +kernel
theorem d_Model_init_159 : decode b_Model_init 159 = .ok (.putfield 69, 3) := by decide +kernel
theorem d_Model_init_162 : decode b_Model_init 162 = .ok (.aload_n 0, 1) := by decide +kernel
theorem d_Model_init_163 : decode b_Model_init 163 = .ok (.sipush 160, 3) := by decide +kernel
theorem d_Model_init_166 : decode b_Model_init 166 = .ok (.newarray .int, 2) := by decide +kernel
theorem d_Model_init_168 : decode b_Model_init 168 = .ok (.putfield 72, 3) := by decide +kernel
theorem d_Model_init_171 : decode b_Model_init 171 = .ok (.aload_n 0, 1) := by decide +kernel
theorem d_Model_init_172 : decode b_Model_init 172 = .ok (.sipush 160, 3) := by decide +kernel
theorem d_Model_init_175 : decode b_Model_init 175 = .ok (.newarray .int, 2) := by decide +kernel
theorem d_Model_init_177 : decode b_Model_init 177 = .ok (.putfield 75, 3) := by decide +kernel
theorem d_Model_init_180 : decode b_Model_init 180 = .ok (.aload_n 0, 1) := by decide +kernel
theorem d_Model_init_181 : decode b_Model_init 181 = .ok (.sipush 160, 3) := by decide +kernel
theorem d_Model_init_184 : decode b_Model_init 184 = .ok (.newarray .int, 2) := by decide +kernel
theorem d_Model_init_186 : decode b_Model_init 186 = .ok (.putfield 78, 3) := by decide +kernel
theorem d_Model_init_189 : decode b_Model_init 189 = .ok (.aload_n 0, 1) := by decide +kernel
theorem d_Model_init_190 : decode b_Model_init 190 = .ok (.sipush 160, 3) := by decide +kernel
theorem d_Model_init_193 : decode b_Model_init 193 = .ok (.newarray .int, 2) := by decide +kernel
theorem d_Model_init_195 : decode b_Model_init 195 = .ok (.putfield 81, 3) := by decide +kernel
theorem d_Model_init_198 : decode b_Model_init 198 = .ok (.aload_n 0, 1) := by decide +kernel
theorem d_Model_init_199 : decode b_Model_init 199 = .ok (.sipush 160, 3) := by decide +kernel
theorem d_Model_init_202 : decode b_Model_init 202 = .ok (.newarray .int, 2) := by decide +kernel
theorem d_Model_init_204 : decode b_Model_init 204 = .ok (.putfield 84, 3) := by decide +kernel
theorem d_Model_init_207 : decode b_Model_init 207 = .ok (.aload_n 0, 1) := by decide +kernel
theorem d_Model_init_208 : decode b_Model_init 208 = .ok (.sipush 160, 3) := by decide +kernel
theorem d_Model_init_211 : decode b_Model_init 211 = .ok (.newarray .int, 2) := by decide +kernel
theorem d_Model_init_213 : decode b_Model_init 213 = .ok (.putfield 87, 3) := by decide +kernel
theorem d_Model_init_216 : decode b_Model_init 216 = .ok (.aload_n 0, 1) := by decide +kernel
theorem d_Model_init_217 : decode b_Model_init 217 = .ok (.sipush 160, 3) := by decide +kernel
theorem d_Model_init_220 : decode b_Model_init 220 = .ok (.newarray .int, 2) := by decide +kernel
theorem d_Model_init_222 : decode b_Model_init 222 = .ok (.putfield 90, 3) := by decide +kernel
theorem d_Model_init_225 : decode b_Model_init 225 = .ok (.aload_n 0, 1) := by decide +kernel
theorem d_Model_init_226 : decode b_Model_init 226 = .ok (.sipush 160, 3) := by decide +kernel
theorem d_Model_init_229 : decode b_Model_init 229 = .ok (.newarray .int, 2) := by decide +kernel
theorem d_Model_init_231 : decode b_Model_init 231 = .ok (.putfield 93, 3) := by decide +kernel
theorem d_Model_init_234 : decode b_Model_init 234 = .ok (.aload_n 0, 1) := by decide +kernel
theorem d_Model_init_235 : decode b_Model_init 235 = .ok (.bipush 40, 2) := by decide +kernel
theorem d_Model_init_237 : decode b_Model_init 237 = .ok (.newarray .int, 2) := by decide +kernel
theorem d_Model_init_239 : decode b_Model_init 239 = .ok (.putfield 96, 3) := by decide +kernel
theorem d_Model_init_242 : decode b_Model_init 242 = .ok (.aload_n 0, 1) := by decide +kernel
theorem d_Model_init_243 : decode b_Model_init 243 = .ok (.bipush 40, 2) := by decide +kernel
theorem d_Model_init_245 : decode b_Model_init 245 = .ok (.newarray .int, 2) := by decide +kernel
theorem d_Model_init_247 : decode b_Model_init 247 = .ok (.putfield 99, 3) := by decide +kernel
theorem d_Model_init_250 : decode b_Model_init 250 = .ok (.aload_n 0, 1) := by decide +kernel
theorem d_Model_init_251 : decode b_Model_init 251 = .ok (.bipush 8, 2) := by decide +kernel
theorem d_Model_init_253 : decode b_Model_init 253 = .ok (.newarray .int, 2) := by decide +kernel
theorem d_Model_init_255 : decode b_Model_init 255 = .ok (.putfield 102, 3) := by decide +kernel
theorem d_Model_init_258 : decode b_Model_init 258 = .ok (.aload_n 0, 1) := by decide +kernel
theorem d_Model_init_259 : decode b_Model_init 259 = .ok (.bipush 8, 2) := by decide +kernel
theorem d_Model_init_261 : decode b_Model_init 261 = .ok (.newarray .int, 2) := by decide +kernel
theorem d_Model_init_263 : decode b_Model_init 263 = .ok (.putfield 105, 3) := by decide +kernel
theorem d_Model_init_266 : decode b_Model_init 266 = .ok (.aload_n 0, 1) := by decide +kernel
theorem d_Model_init_267 : decode b_Model_init 267 = .ok (.bipush 40, 2) := by decide +kernel
theorem d_Model_init_269 : decode b_Model_init 269 = .ok (.newarray .int, 2) := by decide +kernel
theorem d_Model_init_271 : decode b_Model_init 271 = .ok (.putfield 108, 3) := by decide +kernel
theorem d_Model_init_274 : decode b_Model_init 274 = .ok (.return_, 1) := by decide +kernel
theorem d_Model_rule_0 : decode b_Model_rule 0 = .ok (.iload_n 1, 1) := by decide +kernel
theorem d_Model_rule_1 : decode b_Model_rule 1 = .ok (.iconst 3, 1) := by decide +kernel
theorem d_Model_rule_2 : decode b_Model_rule 2 = .ok (.invokestatic 111, 3) := by decide +kernel
theorem d_Model_rule_5 : decode b_Model_rule 5 = .ok (.ifCond .ne 54, 3) := by decide +kernel
theorem d_Model_rule_8 : decode b_Model_rule 8 = .ok (.iload_n 2, 1) := by decide +kernel
theorem d_Model_rule_9 : decode b_Model_rule 9 = .ok (.bipush 8, 2) := by decide +kernel
theorem d_Model_rule_11 : decode b_Model_rule 11 = .ok (.invokestatic 111, 3) := by decide +kernel
theorem d_Model_rule_14 : decode b_Model_rule 14 = .ok (.ifCond .ne 45, 3) := by decide +kernel
theorem d_Model_rule_17 : decode b_Model_rule 17 = .ok (.iload_n 3, 1) := by decide +kernel
theorem d_Model_rule_18 : decode b_Model_rule 18 = .ok (.iconst 3, 1) := by decide +kernel
theorem d_Model_rule_19 : decode b_Model_rule 19 = .ok (.invokestatic 111, 3) := by decide +kernel
theorem d_Model_rule_22 : decode b_Model_rule 22 = .ok (.ifCond .ne 37, 3) := by decide +kernel
theorem d_Model_rule_25 : decode b_Model_rule 25 = .ok (.iload 4, 2) := by decide +kernel
theorem d_Model_rule_27 : decode b_Model_rule 27 = .ok (.iconst 3, 1) := by decide +kernel
theorem d_Model_rule_28 : decode b_Model_rule 28 = .ok (.invokestatic 111, 3) := by decide +kernel
theorem d_Model_rule_31 : decode b_Model_rule 31 = .ok (.ifCond .ne 28, 3) := by decide +kernel
theorem d_Model_rule_34 : decode b_Model_rule 34 = .ok (.iload_n 2, 1) := by decide +kernel
theorem d_Model_rule_35 : decode b_Model_rule 35 = .ok (.iconst 3, 1) := by decide +kernel
theorem d_Model_rule_36 : decode b_Model_rule 36 = .ok (.if_icmp .ge 7, 3) := by decide +kernel
theorem d_Model_rule_39 : decode b_Model_rule 39 = .ok (.iload_n 3, 1) := by decide +kernel
theorem d_Model_rule_40 : decode b_Model_rule 40 = .ok (.ifCond .ne 19, 3) := by decide +kernel
theorem d_Model_rule_43 : decode b_Model_rule 43 = .ok (.iload_n 2, 1) := by decide +kernel
theorem d_Model_rule_44 : decode b_Model_rule 44 = .ok (.iconst 5, 1) := by decide +kernel
theorem d_Model_rule_45 : decode b_Model_rule 45 = .ok (.if_icmp .lt 9, 3) := by decide +kernel
theorem d_Model_rule_48 : decode b_Model_rule 48 = .ok (.iload_n 2, 1) := by decide +kernel
theorem d_Model_rule_49 : decode b_Model_rule 49 = .ok (.bipush 8, 2) := by decide +kernel
theorem d_Model_rule_51 : decode b_Model_rule 51 = .ok (.if_icmp .ne 10, 3) := by decide +kernel
theorem d_Model_rule_54 : decode b_Model_rule 54 = .ok (.iload 4, 2) := by decide +kernel
theorem d_Model_rule_56 : decode b_Model_rule 56 = .ok (.ifCond .eq 5, 3) := by decide +kernel
theorem d_Model_rule_59 : decode b_Model_rule 59 = .ok (.iconst (-1), 1) := by decide +kernel
theorem d_Model_rule_60 : decode b_Model_rule 60 = .ok (.ireturn, 1) := by decide +kernel
theorem d_Model_rule_61 : decode b_Model_rule 61 = .ok (.iload_n 2, 1) := by decide +kernel
theorem d_Model_rule_62 : decode b_Model_rule 62 = .ok (.bipush 8, 2) := by decide +kernel
theorem d_Model_rule_64 : decode b_Model_rule 64 = .ok (.if_icmp .ne 8, 3) := by decide +kernel
theorem d_Model_rule_67 : decode b_Model_rule 67 = .ok (.iload_n 3, 1) := by decide +kernel
theorem d_Model_rule_68 : decode b_Model_rule 68 = .ok (.iload_n 1, 1) := by decide +kernel
theorem d_Model_rule_69 : decode b_Model_rule 69 = .ok (.if_icmp .eq 24, 3) := by decide +kernel
theorem d_Model_rule_72 : decode b_Model_rule 72 = .ok (.iload 5, 2) := by decide +kernel
theorem d_Model_rule_74 : decode b_Model_rule 74 = .ok (.bipush 9, 2) := by decide +kernel
theorem d_Model_rule_76 : decode b_Model_rule 76 = .ok (.invokestatic 111, 3) := by decide +kernel
theorem d_Model_rule_79 : decode b_Model_rule 79 = .ok (.ifCond .ne 14, 3) := by decide +kernel
theorem d_Model_rule_82 : decode b_Model_rule 82 = .ok (.iload_n 2, 1) := by decide +kernel
theorem d_Model_rule_83 : decode b_Model_rule 83 = .ok (.bipush 8, 2) := by decide +kernel
theorem d_Model_rule_85 : decode b_Model_rule 85 = .ok (.if_icmp .ne 10, 3) := by decide +kernel
theorem d_Model_rule_88 : decode b_Model_rule 88 = .ok (.iload 5, 2) := by decide +kernel
theorem d_Model_rule_90 : decode b_Model_rule 90 = .ok (.ifCond .ne 5, 3) := by decide +kernel
theorem d_Model_rule_93 : decode b_Model_rule 93 = .ok (.iconst (-1), 1) := by decide +kernel
theorem d_Model_rule_94 : decode b_Model_rule 94 = .ok (.ireturn, 1) := by decide +kernel
theorem d_Model_rule_95 : decode b_Model_rule 95 = .ok (.aload_n 0, 1) := by decide +kernel
theorem d_Model_rule_96 : decode b_Model_rule 96 = .ok (.getfield 115, 3) := by decide +kernel
theorem d_Model_rule_99 : decode b_Model_rule 99 = .ok (.bipush 24, 2) := by decide +kernel
theorem d_Model_rule_101 : decode b_Model_rule 101 = .ok (.if_icmp .ne 6, 3) := by decide +kernel
theorem d_Model_rule_104 : decode b_Model_rule 104 = .ok (.bipush (-2), 2) := by decide +kernel
theorem d_Model_rule_106 : decode b_Model_rule 106 = .ok (.ireturn, 1) := by decide +kernel
theorem d_Model_rule_107 : decode b_Model_rule 107 = .ok (.aload_n 0, 1) := by decide +kernel
theorem d_Model_rule_108 : decode b_Model_rule 108 = .ok (.getfield 7, 3) := by decide +kernel
theorem d_Model_rule_111 : decode b_Model_rule 111 = .ok (.aload_n 0, 1) := by decide +kernel
theorem d_Model_rule_112 : decode b_Model_rule 112 = .ok (.getfield 115, 3) := by decide +kernel
theorem d_Model_rule_115 : decode b_Model_rule 115 = .ok (.iload_n 1, 1) := by decide +kernel
theorem d_Model_rule_116 : decode b_Model_rule 116 = .ok (.iastore, 1) := by decide +kernel
theorem d_Model_rule_117 : decode b_Model_rule 117 = .ok (.aload_n 0, 1) := by decide +kernel
theorem d_Model_rule_118 : decode b_Model_rule 118 = .ok (.getfield 13, 3) := by decide +kernel
theorem d_Model_rule_121 : decode b_Model_rule 121 = .ok (.aload_n 0, 1) := by decide +kernel
theorem d_Model_rule_122 : decode b_Model_rule 122 = .ok (.getfield 115, 3) := by decide +kernel
theorem d_Model_rule_125 : decode b_Model_rule 125 = .ok (.iload_n 2, 1) := by decide +kernel
theorem d_Model_rule_126 : decode b_Model_rule 126 = .ok (.iastore, 1) := by decide +kernel
theorem d_Model_rule_127 : decode b_Model_rule 127 = .ok (.aload_n 0, 1) := by decide +kernel
theorem d_Model_rule_128 : decode b_Model_rule 128 = .ok (.getfield 16, 3) := by decide +kernel
theorem d_Model_rule_131 : decode b_Model_rule 131 = .ok (.aload_n 0, 1) := by decide +kernel
theorem d_Model_rule_132 : decode b_Model_rule 132 = .ok (.getfield 115, 3) := by decide +kernel
theorem d_Model_rule_135 : decode b_Model_rule 135 = .ok (.iload_n 3, 1) := by decide +kernel
theorem d_Model_rule_136 : decode b_Model_rule 136 = .ok (.iastore, 1) := by decide +kernel
theorem d_Model_rule_137 : decode b_Model_rule 137 = .ok (.aload_n 0, 1) := by decide +kernel
theorem d_Model_rule_138 : decode b_Model_rule 138 = .ok (.getfield 19, 3) := by decide +kernel
theorem d_Model_rule_141 : decode b_Model_rule 141 = .ok (.aload_n 0, 1) := by decide +kernel
theorem d_Model_rule_142 : decode b_Model_rule 142 = .ok (.getfield 115, 3) := by decide +kernel
theorem d_Model_rule_145 : decode b_Model_rule 145 = .ok (.iload 4, 2) := by decide +kernel
theorem d_Model_rule_147 : decode b_Model_rule 147 = .ok (.iastore, 1) := by decide +kernel
theorem d_Model_rule_148 : decode b_Model_rule 148 = .ok (.aload_n 0, 1) := by decide +kernel
theorem d_Model_rule_149 : decode b_Model_rule 149 = .ok (.getfield 22, 3) := by decide +kernel
theorem d_Model_rule_152 : decode b_Model_rule 152 = .ok (.aload_n 0, 1) := by decide +kernel
theorem d_Model_rule_153 : decode b_Model_rule 153 = .ok (.getfield 115, 3) := by decide +kernel
theorem d_Model_rule_156 : decode b_Model_rule 156 = .ok (.iload 5, 2) := by decide +kernel
theorem d_Model_rule_158 : decode b_Model_rule 158 = .ok (.iastore, 1) := by decide +kernel
theorem d_Model_rule_159 : decode b_Model_rule 159 = .ok (.aload_n 0, 1) := by decide +kernel
theorem d_Model_rule_160 : decode b_Model_rule 160 = .ok (.dup, 1) := by decide +kernel
theorem d_Model_rule_161 : decode b_Model_rule 161 = .ok (.getfield 115, 3) := by decide +kernel
theorem d_Model_rule_164 : decode b_Model_rule 164 = .ok (.iconst 1, 1) := by decide +kernel
theorem d_Model_rule_165 : decode b_Model_rule 165 = .ok (.iadd, 1) := by decide +kernel
theorem d_Model_rule_166 : decode b_Model_rule 166 = .ok (.putfield 115, 3) := by decide +kernel
theorem d_Model_rule_169 : decode b_Model_rule 169 = .ok (.aload_n 0, 1) := by decide +kernel
theorem d_Model_rule_170 : decode b_Model_rule 170 = .ok (.getfield 115, 3) := by decide +kernel
theorem d_Model_rule_173 : decode b_Model_rule 173 = .ok (.iconst 1, 1) := by decide +kernel
theorem d_Model_rule_174 : decode b_Model_rule 174 = .ok (.isub, 1) := by decide +kernel
theorem d_Model_rule_175 : decode b_Model_rule 175 = .ok (.ireturn, 1) := by decide +kernel
theorem d_Model_outside_0 : decode b_Model_outside 0 = .ok (.iload_n 0, 1) := by decide +kernel
theorem d_Model_outside_1 : decode b_Model_outside 1 = .ok (.ifCond .lt 8, 3) := by decide +kernel
theorem d_Model_outside_4 : decode b_Model_outside 4 = .ok (.iload_n 0, 1) := by decide +kernel
theorem d_Model_outside_5 : decode b_Model_outside 5 = .ok (.iload_n 1, 1) := by decide +kernel
theorem d_Model_outside_6 : decode b_Model_outside 6 = .ok (.if_icmp .le 7, 3) := by decide +kernel
theorem d_Model_outside_9 : decode b_Model_outside 9 = .ok (.iconst 1, 1) := by decide +kernel
theorem d_Model_outside_10 : decode b_Model_outside 10 = .ok (.goto 4, 3) := by decide +kernel
theorem d_Model_outside_13 : decode b_Model_outside 13 = .ok (.iconst 0, 1) := by decide +kernel
theorem d_Model_outside_14 : decode b_Model_outside 14 = .ok (.ireturn, 1) := by decide +kernel
theorem d_Model_clear_0 : decode b_Model_clear 0 = .ok (.aload_n 0, 1) := by decide +kernel
theorem d_Model_clear_1 : decode b_Model_clear 1 = .ok (.iconst 0, 1) := by decide +kernel
theorem d_Model_clear_2 : decode b_Model_clear 2 = .ok (.putfield 115, 3) := by decide +kernel
theorem d_Model_clear_5 : decode b_Model_clear 5 = .ok (.return_, 1) := by decide +kernel
theorem d_Model_states_0 : decode b_Model_states 0 = .ok (.aload_n 0, 1) := by decide +kernel
theorem d_Model_states_1 : decode b_Model_states 1 = .ok (.iconst 0, 1) := by decide +kernel
theorem d_Model_states_2 : decode b_Model_states 2 = .ok (.putfield 145, 3) := by decide +kernel
theorem d_Model_states_5 : decode b_Model_states 5 = .ok (.iconst 0, 1) := by decide +kernel
theorem d_Model_states_6 : decode b_Model_states 6 = .ok (.istore_n 1, 1) := by decide +kernel
theorem d_Model_states_7 : decode b_Model_states 7 = .ok (.iload_n 1, 1) := by decide +kernel
theorem d_Model_states_8 : decode b_Model_states 8 = .ok (.iconst 3, 1) := by decide +kernel
theorem d_Model_states_9 : decode b_Model_states 9 = .ok (.if_icmp .ge 19, 3) := by decide +kernel
theorem d_Model_states_12 : decode b_Model_states 12 = .ok (.aload_n 0, 1) := by decide +kernel
theorem d_Model_states_13 : decode b_Model_states 13 = .ok (.iload_n 1, 1) := by decide +kernel
theorem d_Model_states_14 : decode b_Model_states 14 = .ok (.invokevirtual 138, 3) := by decide +kernel
theorem d_Model_states_17 : decode b_Model_states 17 = .ok (.aload_n 0, 1) := by decide +kernel
theorem d_Model_states_18 : decode b_Model_states 18 = .ok (.invokevirtual 148, 3) := by decide +kernel
theorem d_Model_states_21 : decode b_Model_states 21 = .ok (.istore_n 2, 1) := by decide +kernel
theorem d_Model_states_22 : decode b_Model_states 22 = .ok (.iinc 1 1, 3) := by decide +kernel
theorem d_Model_states_25 : decode b_Model_states 25 = .ok (.goto (-18), 3) := by decide +kernel
theorem d_Model_states_28 : decode b_Model_states 28 = .ok (.iconst 0, 1) := by decide +kernel
theorem d_Model_states_29 : decode b_Model_states 29 = .ok (.istore_n 1, 1) := by decide +kernel
theorem d_Model_states_30 : decode b_Model_states 30 = .ok (.iload_n 1, 1) := by decide +kernel
theorem d_Model_states_31 : decode b_Model_states 31 = .ok (.aload_n 0, 1) := by decide +kernel
theorem d_Model_states_32 : decode b_Model_states 32 = .ok (.getfield 145, 3) := by decide +kernel
theorem d_Model_states_35 : decode b_Model_states 35 = .ok (.if_icmp .ge 85, 3) := by decide +kernel
theorem d_Model_states_38 : decode b_Model_states 38 = .ok (.iconst 3, 1) := by decide +kernel
theorem d_Model_states_39 : decode b_Model_states 39 = .ok (.istore_n 2, 1) := by decide +kernel
theorem d_Model_states_40 : decode b_Model_states 40 = .ok (.iload_n 2, 1) := by decide +kernel
theorem d_Model_states_41 : decode b_Model_states 41 = .ok (.iconst 5, 1) := by decide +kernel
theorem d_Model_states_42 : decode b_Model_states 42 = .ok (.if_icmp .ge 22, 3) := by decide +kernel
theorem d_Model_states_45 : decode b_Model_states 45 = .ok (.aload_n 0, 1) := by decide +kernel
theorem d_Model_states_46 : decode b_Model_states 46 = .ok (.iload_n 2, 1) := by decide +kernel
theorem d_Model_states_47 : decode b_Model_states 47 = .ok (.iload_n 1, 1) := by decide +kernel
theorem d_Model_states_48 : decode b_Model_states 48 = .ok (.iload_n 1, 1) := by decide +kernel
theorem d_Model_states_49 : decode b_Model_states 49 = .ok (.invokevirtual 152, 3) := by decide +kernel
theorem d_Model_states_52 : decode b_Model_states 52 = .ok (.ifCond .ne 6, 3) := by decide +kernel
theorem d_Model_states_55 : decode b_Model_states 55 = .ok (.bipush (-4), 2) := by decide +kernel
theorem d_Model_states_57 : decode b_Model_states 57 = .ok (.ireturn, 1) := by decide +kernel
theorem d_Model_states_58 : decode b_Model_states 58 = .ok (.iinc 2 1, 3) := by decide +kernel
theorem d_Model_states_61 : decode b_Model_states 61 = .ok (.goto (-21), 3) := by decide +kernel
theorem d_Model_states_64 : decode b_Model_states 64 = .ok (.iconst 5, 1) := by decide +kernel
theorem d_Model_states_65 : decode b_Model_states 65 = .ok (.istore_n 2, 1) := by decide +kernel
theorem d_Model_states_66 : decode b_Model_states 66 = .ok (.iload_n 2, 1) := by decide +kernel
theorem d_Model_states_67 : decode b_Model_states 67 = .ok (.bipush 8, 2) := by decide +kernel
theorem d_Model_states_69 : decode b_Model_states 69 = .ok (.if_icmp .ge 45, 3) := by decide +kernel
theorem d_Model_states_72 : decode b_Model_states 72 = .ok (.iconst 0, 1) := by decide +kernel
theorem d_Model_states_73 : decode b_Model_states 73 = .ok (.istore_n 3, 1) := by decide +kernel
theorem d_Model_states_74 : decode b_Model_states 74 = .ok (.iload_n 3, 1) := by decide +kernel
theorem d_Model_states_75 : decode b_Model_states 75 = .ok (.iload_n 1, 1) := by decide +kernel
theorem d_Model_states_76 : decode b_Model_states 76 = .ok (.if_icmp .gt 32, 3) := by decide +kernel
theorem d_Model_states_79 : decode b_Model_states 79 = .ok (.aload_n 0, 1) := by decide +kernel
theorem d_Model_states_80 : decode b_Model_states 80 = .ok (.iload_n 2, 1) := by decide +kernel
theorem d_Model_states_81 : decode b_Model_states 81 = .ok (.iload_n 1, 1) := by decide +kernel
theorem d_Model_states_82 : decode b_Model_states 82 = .ok (.iload_n 3, 1) := by decide +kernel
theorem d_Model_states_83 : decode b_Model_states 83 = .ok (.invokevirtual 152, 3) := by decide +kernel
theorem d_Model_states_86 : decode b_Model_states 86 = .ok (.ifCond .eq 13, 3) := by decide +kernel
theorem d_Model_states_89 : decode b_Model_states 89 = .ok (.aload_n 0, 1) := by decide +kernel
theorem d_Model_states_90 : decode b_Model_states 90 = .ok (.iload_n 2, 1) := by decide +kernel
theorem d_Model_states_91 : decode b_Model_states 91 = .ok (.iload_n 3, 1) := by decide +kernel
theorem d_Model_states_92 : decode b_Model_states 92 = .ok (.iload_n 1, 1) := by decide +kernel
theorem d_Model_states_93 : decode b_Model_states 93 = .ok (.invokevirtual 152, 3) := by decide +kernel
theorem d_Model_states_96 : decode b_Model_states 96 = .ok (.ifCond .ne 6, 3) := by decide +kernel
theorem d_Model_states_99 : decode b_Model_states 99 = .ok (.bipush (-4), 2) := by decide +kernel
theorem d_Model_states_101 : decode b_Model_states 101 = .ok (.ireturn, 1) := by decide +kernel
theorem d_Model_states_102 : decode b_Model_states 102 = .ok (.iinc 3 1, 3) := by decide +kernel
theorem d_Model_states_105 : decode b_Model_states 105 = .ok (.goto (-31), 3) := by decide +kernel
theorem d_Model_states_108 : decode b_Model_states 108 = .ok (.iinc 2 1, 3) := by decide +kernel
theorem d_Model_states_111 : decode b_Model_states 111 = .ok (.goto (-45), 3) := by decide +kernel
theorem d_Model_states_114 : decode b_Model_states 114 = .ok (.iinc 1 1, 3) := by decide +kernel
theorem d_Model_states_117 : decode b_Model_states 117 = .ok (.goto (-87), 3) := by decide +kernel
theorem d_Model_states_120 : decode b_Model_states 120 = .ok (.aload_n 0, 1) := by decide +kernel
theorem d_Model_states_121 : decode b_Model_states 121 = .ok (.getfield 145, 3) := by decide +kernel
theorem d_Model_states_124 : decode b_Model_states 124 = .ok (.ireturn, 1) := by decide +kernel
theorem d_Model_combine_0 : decode b_Model_combine 0 = .ok (.iconst 0, 1) := by decide +kernel
theorem d_Model_combine_1 : decode b_Model_combine 1 = .ok (.istore_n 2, 1) := by decide +kernel
theorem d_Model_combine_2 : decode b_Model_combine 2 = .ok (.iload_n 2, 1) := by decide +kernel
theorem d_Model_combine_3 : decode b_Model_combine 3 = .ok (.iconst 4, 1) := by decide +kernel
theorem d_Model_combine_4 : decode b_Model_combine 4 = .ok (.if_icmp .ge 26, 3) := by decide +kernel
theorem d_Model_combine_7 : decode b_Model_combine 7 = .ok (.aload_n 0, 1) := by decide +kernel
theorem d_Model_combine_8 : decode b_Model_combine 8 = .ok (.getfield 53, 3) := by decide +kernel
theorem d_Model_combine_11 : decode b_Model_combine 11 = .ok (.iload_n 2, 1) := by decide +kernel
theorem d_Model_combine_12 : decode b_Model_combine 12 = .ok (.ldc2_w 118, 3) := by decide +kernel
theorem d_Model_combine_15 : decode b_Model_combine 15 = .ok (.lastore, 1) := by decide +kernel
theorem d_Model_combine_16 : decode b_Model_combine 16 = .ok (.aload_n 0, 1) := by decide +kernel
theorem d_Model_combine_17 : decode b_Model_combine 17 = .ok (.getfield 56, 3) := by decide +kernel
theorem d_Model_combine_20 : decode b_Model_combine 20 = .ok (.iload_n 2, 1) := by decide +kernel
theorem d_Model_combine_21 : decode b_Model_combine 21 = .ok (.bipush (-3), 2) := by decide +kernel
theorem d_Model_combine_23 : decode b_Model_combine 23 = .ok (.iastore, 1) := by decide +kernel
theorem d_Model_combine_24 : decode b_Model_combine 24 = .ok (.iinc 2 1, 3) := by decide +kernel
theorem d_Model_combine_27 : decode b_Model_combine 27 = .ok (.goto (-25), 3) := by decide +kernel
theorem d_Model_combine_30 : decode b_Model_combine 30 = .ok (.iconst 0, 1) := by decide +kernel
theorem d_Model_combine_31 : decode b_Model_combine 31 = .ok (.istore_n 2, 1) := by decide +kernel
theorem d_Model_combine_32 : decode b_Model_combine 32 = .ok (.iload_n 2, 1) := by decide +kernel
theorem d_Model_combine_33 : decode b_Model_combine 33 = .ok (.iconst 5, 1) := by decide +kernel
theorem d_Model_combine_34 : decode b_Model_combine 34 = .ok (.if_icmp .ge 77, 3) := by decide +kernel
theorem d_Model_combine_37 : decode b_Model_combine 37 = .ok (.iconst 0, 1) := by decide +kernel
theorem d_Model_combine_38 : decode b_Model_combine 38 = .ok (.istore_n 3, 1) := by decide +kernel
theorem d_Model_combine_39 : decode b_Model_combine 39 = .ok (.iload_n 3, 1) := by decide +kernel
theorem d_Model_combine_40 : decode b_Model_combine 40 = .ok (.aload_n 0, 1) := by decide +kernel
theorem d_Model_combine_41 : decode b_Model_combine 41 = .ok (.getfield 115, 3) := by decide +kernel
theorem d_Model_combine_44 : decode b_Model_combine 44 = .ok (.if_icmp .ge 61, 3) := by decide +kernel
theorem d_Model_combine_47 : decode b_Model_combine 47 = .ok (.aload_n 0, 1) := by decide +kernel
theorem d_Model_combine_48 : decode b_Model_combine 48 = .ok (.iload_n 3, 1) := by decide +kernel
theorem d_Model_combine_49 : decode b_Model_combine 49 = .ok (.iload_n 1, 1) := by decide +kernel
theorem d_Model_combine_50 : decode b_Model_combine 50 = .ok (.invokevirtual 124, 3) := by decide +kernel
theorem d_Model_combine_53 : decode b_Model_combine 53 = .ok (.lstore 4, 2) := by decide +kernel
theorem d_Model_combine_55 : decode b_Model_combine 55 = .ok (.aload_n 0, 1) := by decide +kernel
theorem d_Model_combine_56 : decode b_Model_combine 56 = .ok (.getfield 53, 3) := by decide +kernel
theorem d_Model_combine_59 : decode b_Model_combine 59 = .ok (.aload_n 0, 1) := by decide +kernel
theorem d_Model_combine_60 : decode b_Model_combine 60 = .ok (.getfield 7, 3) := by decide +kernel
theorem d_Model_combine_63 : decode b_Model_combine 63 = .ok (.iload_n 3, 1) := by decide +kernel
theorem d_Model_combine_64 : decode b_Model_combine 64 = .ok (.iaload, 1) := by decide +kernel
theorem d_Model_combine_65 : decode b_Model_combine 65 = .ok (.lload 4, 2) := by decide +kernel
theorem d_Model_combine_67 : decode b_Model_combine 67 = .ok (.aload_n 0, 1) := by decide +kernel
theorem d_Model_combine_68 : decode b_Model_combine 68 = .ok (.getfield 53, 3) := by decide +kernel
theorem d_Model_combine_71 : decode b_Model_combine 71 = .ok (.aload_n 0, 1) := by decide +kernel
theorem d_Model_combine_72 : decode b_Model_combine 72 = .ok (.getfield 7, 3) := by decide +kernel
theorem d_Model_combine_75 : decode b_Model_combine 75 = .ok (.iload_n 3, 1) := by decide +kernel
theorem d_Model_combine_76 : decode b_Model_combine 76 = .ok (.iaload, 1) := by decide +kernel
theorem d_Model_combine_77 : decode b_Model_combine 77 = .ok (.laload, 1) := by decide +kernel
theorem d_Model_combine_78 : decode b_Model_combine 78 = .ok (.lcmp, 1) := by decide +kernel
theorem d_Model_combine_79 : decode b_Model_combine 79 = .ok (.ifCond .ge 8, 3) := by decide +kernel
theorem d_Model_combine_82 : decode b_Model_combine 82 = .ok (.lload 4, 2) := by decide +kernel
theorem d_Model_combine_84 : decode b_Model_combine 84 = .ok (.goto 14, 3) := by decide +kernel
theorem d_Model_combine_87 : decode b_Model_combine 87 = .ok (.aload_n 0, 1) := by decide +kernel
theorem d_Model_combine_88 : decode b_Model_combine 88 = .ok (.getfield 53, 3) := by decide +kernel
theorem d_Model_combine_91 : decode b_Model_combine 91 = .ok (.aload_n 0, 1) := by decide +kernel
theorem d_Model_combine_92 : decode b_Model_combine 92 = .ok (.getfield 7, 3) := by decide +kernel
theorem d_Model_combine_95 : decode b_Model_combine 95 = .ok (.iload_n 3, 1) := by decide +kernel
theorem d_Model_combine_96 : decode b_Model_combine 96 = .ok (.iaload, 1) := by decide +kernel
theorem d_Model_combine_97 : decode b_Model_combine 97 = .ok (.laload, 1) := by decide +kernel
theorem d_Model_combine_98 : decode b_Model_combine 98 = .ok (.lastore, 1) := by decide +kernel
theorem d_Model_combine_99 : decode b_Model_combine 99 = .ok (.iinc 3 1, 3) := by decide +kernel
theorem d_Model_combine_102 : decode b_Model_combine 102 = .ok (.goto (-63), 3) := by decide +kernel
theorem d_Model_combine_105 : decode b_Model_combine 105 = .ok (.iinc 2 1, 3) := by decide +kernel
theorem d_Model_combine_108 : decode b_Model_combine 108 = .ok (.goto (-76), 3) := by decide +kernel
theorem d_Model_combine_111 : decode b_Model_combine 111 = .ok (.aload_n 0, 1) := by decide +kernel
theorem d_Model_combine_112 : decode b_Model_combine 112 = .ok (.getfield 115, 3) := by decide +kernel
theorem d_Model_combine_115 : decode b_Model_combine 115 = .ok (.iconst 1, 1) := by decide +kernel
theorem d_Model_combine_116 : decode b_Model_combine 116 = .ok (.isub, 1) := by decide +kernel
theorem d_Model_combine_117 : decode b_Model_combine 117 = .ok (.istore_n 2, 1) := by decide +kernel
theorem d_Model_combine_118 : decode b_Model_combine 118 = .ok (.iload_n 2, 1) := by decide +kernel
theorem d_Model_combine_119 : decode b_Model_combine 119 = .ok (.ifCond .lt 65, 3) := by decide +kernel
theorem d_Model_combine_122 : decode b_Model_combine 122 = .ok (.aload_n 0, 1) := by decide +kernel
theorem d_Model_combine_123 : decode b_Model_combine 123 = .ok (.getfield 7, 3) := by decide +kernel
theorem d_Model_combine_126 : decode b_Model_combine 126 = .ok (.iload_n 2, 1) := by decide +kernel
theorem d_Model_combine_127 : decode b_Model_combine 127 = .ok (.iaload, 1) := by decide +kernel
theorem d_Model_combine_128 : decode b_Model_combine 128 = .ok (.istore_n 3, 1) := by decide +kernel
theorem d_Model_combine_129 : decode b_Model_combine 129 = .ok (.aload_n 0, 1) := by decide +kernel
theorem d_Model_combine_130 : decode b_Model_combine 130 = .ok (.iload_n 2, 1) := by decide +kernel
theorem d_Model_combine_131 : decode b_Model_combine 131 = .ok (.iload_n 1, 1) := by decide +kernel
theorem d_Model_combine_132 : decode b_Model_combine 132 = .ok (.invokevirtual 124, 3) := by decide +kernel
theorem d_Model_combine_135 : decode b_Model_combine 135 = .ok (.lstore 4, 2) := by decide +kernel
theorem d_Model_combine_137 : decode b_Model_combine 137 = .ok (.aload_n 0, 1) := by decide +kernel
theorem d_Model_combine_138 : decode b_Model_combine 138 = .ok (.getfield 56, 3) := by decide +kernel
theorem d_Model_combine_141 : decode b_Model_combine 141 = .ok (.iload_n 3, 1) := by decide +kernel
theorem d_Model_combine_142 : decode b_Model_combine 142 = .ok (.aload_n 0, 1) := by decide +kernel
theorem d_Model_combine_143 : decode b_Model_combine 143 = .ok (.getfield 53, 3) := by decide +kernel
theorem d_Model_combine_146 : decode b_Model_combine 146 = .ok (.iload_n 3, 1) := by decide +kernel
theorem d_Model_combine_147 : decode b_Model_combine 147 = .ok (.laload, 1) := by decide +kernel
theorem d_Model_combine_148 : decode b_Model_combine 148 = .ok (.ldc2_w 118, 3) := by decide +kernel
theorem d_Model_combine_151 : decode b_Model_combine 151 = .ok (.lcmp, 1) := by decide +kernel
theorem d_Model_combine_152 : decode b_Model_combine 152 = .ok (.ifCond .ge 19, 3) := by decide +kernel
theorem d_Model_combine_155 : decode b_Model_combine 155 = .ok (.lload 4, 2) := by decide +kernel
theorem d_Model_combine_157 : decode b_Model_combine 157 = .ok (.aload_n 0, 1) := by decide +kernel
theorem d_Model_combine_158 : decode b_Model_combine 158 = .ok (.getfield 53, 3) := by decide +kernel
theorem d_Model_combine_161 : decode b_Model_combine 161 = .ok (.iload_n 3, 1) := by decide +kernel
theorem d_Model_combine_162 : decode b_Model_combine 162 = .ok (.laload, 1) := by decide +kernel
theorem d_Model_combine_163 : decode b_Model_combine 163 = .ok (.lcmp, 1) := by decide +kernel
theorem d_Model_combine_164 : decode b_Model_combine 164 = .ok (.ifCond .ne 7, 3) := by decide +kernel
theorem d_Model_combine_167 : decode b_Model_combine 167 = .ok (.iload_n 2, 1) := by decide +kernel
theorem d_Model_combine_168 : decode b_Model_combine 168 = .ok (.goto 9, 3) := by decide +kernel
theorem d_Model_combine_171 : decode b_Model_combine 171 = .ok (.aload_n 0, 1) := by decide +kernel
theorem d_Model_combine_172 : decode b_Model_combine 172 = .ok (.getfield 56, 3) := by decide +kernel
theorem d_Model_combine_175 : decode b_Model_combine 175 = .ok (.iload_n 3, 1) := by decide +kernel
theorem d_Model_combine_176 : decode b_Model_combine 176 = .ok (.iaload, 1) := by decide +kernel
theorem d_Model_combine_177 : decode b_Model_combine 177 = .ok (.iastore, 1) := by decide +kernel
theorem d_Model_combine_178 : decode b_Model_combine 178 = .ok (.iinc 2 (-1), 3) := by decide +kernel
theorem d_Model_combine_181 : decode b_Model_combine 181 = .ok (.goto (-63), 3) := by decide +kernel
theorem d_Model_combine_184 : decode b_Model_combine 184 = .ok (.return_, 1) := by decide +kernel
theorem d_Model_through_0 : decode b_Model_through 0 = .ok (.aload_n 0, 1) := by decide +kernel
theorem d_Model_through_1 : decode b_Model_through 1 = .ok (.getfield 22, 3) := by decide +kernel
theorem d_Model_through_4 : decode b_Model_through 4 = .ok (.iload_n 1, 1) := by decide +kernel
theorem d_Model_through_5 : decode b_Model_through 5 = .ok (.iaload, 1) := by decide +kernel
theorem d_Model_through_6 : decode b_Model_through 6 = .ok (.i2l, 1) := by decide +kernel
theorem d_Model_through_7 : decode b_Model_through 7 = .ok (.lstore_n 3, 1) := by decide +kernel
theorem d_Model_through_8 : decode b_Model_through 8 = .ok (.aload_n 0, 1) := by decide +kernel
theorem d_Model_through_9 : decode b_Model_through 9 = .ok (.getfield 13, 3) := by decide +kernel
theorem d_Model_through_12 : decode b_Model_through 12 = .ok (.iload_n 1, 1) := by decide +kernel
theorem d_Model_through_13 : decode b_Model_through 13 = .ok (.iaload, 1) := by decide +kernel
theorem d_Model_through_14 : decode b_Model_through 14 = .ok (.bipush 8, 2) := by decide +kernel
theorem d_Model_through_16 : decode b_Model_through 16 = .ok (.if_icmp .ne 17, 3) := by decide +kernel
theorem d_Model_through_19 : decode b_Model_through 19 = .ok (.lload_n 3, 1) := by decide +kernel
theorem d_Model_through_20 : decode b_Model_through 20 = .ok (.aload_n 0, 1) := by decide +kernel
theorem d_Model_through_21 : decode b_Model_through 21 = .ok (.getfield 53, 3) := by decide +kernel
theorem d_Model_through_24 : decode b_Model_through 24 = .ok (.aload_n 0, 1) := by decide +kernel
theorem d_Model_through_25 : decode b_Model_through 25 = .ok (.getfield 16, 3) := by decide +kernel
theorem d_Model_through_28 : decode b_Model_through 28 = .ok (.iload_n 1, 1) := by decide +kernel
theorem d_Model_through_29 : decode b_Model_through 29 = .ok (.iaload, 1) := by decide +kernel
theorem d_Model_through_30 : decode b_Model_through 30 = .ok (.laload, 1) := by decide +kernel
theorem d_Model_through_31 : decode b_Model_through 31 = .ok (.ladd, 1) := by decide +kernel
theorem d_Model_through_32 : decode b_Model_through 32 = .ok (.lreturn, 1) := by decide +kernel
theorem d_Model_through_33 : decode b_Model_through 33 = .ok (.aload_n 0, 1) := by decide +kernel
theorem d_Model_through_34 : decode b_Model_through 34 = .ok (.getfield 13, 3) := by decide +kernel
theorem d_Model_through_37 : decode b_Model_through 37 = .ok (.iload_n 1, 1) := by decide +kernel
theorem d_Model_through_38 : decode b_Model_through 38 = .ok (.iaload, 1) := by decide +kernel
theorem d_Model_through_39 : decode b_Model_through 39 = .ok (.iload_n 2, 1) := by decide +kernel
theorem d_Model_through_40 : decode b_Model_through 40 = .ok (.if_icmp .eq 7, 3) := by decide +kernel
theorem d_Model_through_43 : decode b_Model_through 43 = .ok (.ldc2_w 118, 3) := by decide +kernel
theorem d_Model_through_46 : decode b_Model_through 46 = .ok (.lreturn, 1) := by decide +kernel
theorem d_Model_through_47 : decode b_Model_through 47 = .ok (.iload_n 2, 1) := by decide +kernel
theorem d_Model_through_48 : decode b_Model_through 48 = .ok (.invokestatic 120, 3) := by decide +kernel
theorem d_Model_through_51 : decode b_Model_through 51 = .ok (.istore 5, 2) := by decide +kernel
theorem d_Model_through_53 : decode b_Model_through 53 = .ok (.lload_n 3, 1) := by decide +kernel
theorem d_Model_through_54 : decode b_Model_through 54 = .ok (.iload 5, 2) := by decide +kernel
theorem d_Model_through_56 : decode b_Model_through 56 = .ok (.ifCond .le 17, 3) := by decide +kernel
theorem d_Model_through_59 : decode b_Model_through 59 = .ok (.aload_n 0, 1) := by decide +kernel
theorem d_Model_through_60 : decode b_Model_through 60 = .ok (.getfield 47, 3) := by decide +kernel
theorem d_Model_through_63 : decode b_Model_through 63 = .ok (.aload_n 0, 1) := by decide +kernel
theorem d_Model_through_64 : decode b_Model_through 64 = .ok (.getfield 16, 3) := by decide +kernel
theorem d_Model_through_67 : decode b_Model_through 67 = .ok (.iload_n 1, 1) := by decide +kernel
theorem d_Model_through_68 : decode b_Model_through 68 = .ok (.iaload, 1) := by decide +kernel
theorem d_Model_through_69 : decode b_Model_through 69 = .ok (.laload, 1) := by decide +kernel
theorem d_Model_through_70 : decode b_Model_through 70 = .ok (.goto 4, 3) := by decide +kernel
theorem d_Model_through_73 : decode b_Model_through 73 = .ok (.lconst 0, 1) := by decide +kernel
theorem d_Model_through_74 : decode b_Model_through 74 = .ok (.ladd, 1) := by decide +kernel
theorem d_Model_through_75 : decode b_Model_through 75 = .ok (.iload 5, 2) := by decide +kernel
theorem d_Model_through_77 : decode b_Model_through 77 = .ok (.iconst 1, 1) := by decide +kernel
theorem d_Model_through_78 : decode b_Model_through 78 = .ok (.if_icmp .le 17, 3) := by decide +kernel
theorem d_Model_through_81 : decode b_Model_through 81 = .ok (.aload_n 0, 1) := by decide +kernel
theorem d_Model_through_82 : decode b_Model_through 82 = .ok (.getfield 50, 3) := by decide +kernel
theorem d_Model_through_85 : decode b_Model_through 85 = .ok (.aload_n 0, 1) := by decide +kernel
theorem d_Model_through_86 : decode b_Model_through 86 = .ok (.getfield 19, 3) := by decide +kernel
theorem d_Model_through_89 : decode b_Model_through 89 = .ok (.iload_n 1, 1) := by decide +kernel
theorem d_Model_through_90 : decode b_Model_through 90 = .ok (.iaload, 1) := by decide +kernel
theorem d_Model_through_91 : decode b_Model_through 91 = .ok (.laload, 1) := by decide +kernel
theorem d_Model_through_92 : decode b_Model_through 92 = .ok (.goto 4, 3) := by decide +kernel
theorem d_Model_through_95 : decode b_Model_through 95 = .ok (.lconst 0, 1) := by decide +kernel
theorem d_Model_through_96 : decode b_Model_through 96 = .ok (.ladd, 1) := by decide +kernel
theorem d_Model_through_97 : decode b_Model_through 97 = .ok (.lreturn, 1) := by decide +kernel
theorem d_Model_kids_0 : decode b_Model_kids 0 = .ok (.iload_n 0, 1) := by decide +kernel
theorem d_Model_kids_1 : decode b_Model_kids 1 = .ok (.iconst 3, 1) := by decide +kernel
theorem d_Model_kids_2 : decode b_Model_kids 2 = .ok (.if_icmp .ge 7, 3) := by decide +kernel
theorem d_Model_kids_5 : decode b_Model_kids 5 = .ok (.iconst 0, 1) := by decide +kernel
theorem d_Model_kids_6 : decode b_Model_kids 6 = .ok (.goto 13, 3) := by decide +kernel
theorem d_Model_kids_9 : decode b_Model_kids 9 = .ok (.iload_n 0, 1) := by decide +kernel
theorem d_Model_kids_10 : decode b_Model_kids 10 = .ok (.iconst 5, 1) := by decide +kernel
theorem d_Model_kids_11 : decode b_Model_kids 11 = .ok (.if_icmp .ge 7, 3) := by decide +kernel
theorem d_Model_kids_14 : decode b_Model_kids 14 = .ok (.iconst 1, 1) := by decide +kernel
theorem d_Model_kids_15 : decode b_Model_kids 15 = .ok (.goto 4, 3) := by decide +kernel
theorem d_Model_kids_18 : decode b_Model_kids 18 = .ok (.iconst 2, 1) := by decide +kernel
theorem d_Model_kids_19 : decode b_Model_kids 19 = .ok (.ireturn, 1) := by decide +kernel
theorem d_Model_known_0 : decode b_Model_known 0 = .ok (.aload_n 0, 1) := by decide +kernel
theorem d_Model_known_1 : decode b_Model_known 1 = .ok (.invokevirtual 141, 3) := by decide +kernel
theorem d_Model_known_4 : decode b_Model_known 4 = .ok (.lstore_n 1, 1) := by decide +kernel
theorem d_Model_known_5 : decode b_Model_known 5 = .ok (.iconst 0, 1) := by decide +kernel
theorem d_Model_known_6 : decode b_Model_known 6 = .ok (.istore_n 3, 1) := by decide +kernel
theorem d_Model_known_7 : decode b_Model_known 7 = .ok (.iload_n 3, 1) := by decide +kernel
theorem d_Model_known_8 : decode b_Model_known 8 = .ok (.aload_n 0, 1) := by decide +kernel
theorem d_Model_known_9 : decode b_Model_known 9 = .ok (.getfield 145, 3) := by decide +kernel
theorem d_Model_known_12 : decode b_Model_known 12 = .ok (.if_icmp .ge 115, 3) := by decide +kernel
theorem d_Model_known_15 : decode b_Model_known 15 = .ok (.iconst 1, 1) := by decide +kernel
theorem d_Model_known_16 : decode b_Model_known 16 = .ok (.istore 4, 2) := by decide +kernel
theorem d_Model_known_18 : decode b_Model_known 18 = .ok (.iconst 0, 1) := by decide +kernel
theorem d_Model_known_19 : decode b_Model_known 19 = .ok (.istore 5, 2) := by decide +kernel
theorem d_Model_known_21 : decode b_Model_known 21 = .ok (.iload 5, 2) := by decide +kernel
theorem d_Model_known_23 : decode b_Model_known 23 = .ok (.iconst 4, 1) := by decide +kernel
theorem d_Model_known_24 : decode b_Model_known 24 = .ok (.if_icmp .ge 90, 3) := by decide +kernel
theorem d_Model_known_27 : decode b_Model_known 27 = .ok (.aload_n 0, 1) := by decide +kernel
theorem d_Model_known_28 : decode b_Model_known 28 = .ok (.getfield 53, 3) := by decide +kernel
theorem d_Model_known_31 : decode b_Model_known 31 = .ok (.iload 5, 2) := by decide +kernel
theorem d_Model_known_33 : decode b_Model_known 33 = .ok (.laload, 1) := by decide +kernel
theorem d_Model_known_34 : decode b_Model_known 34 = .ok (.ldc2_w 118, 3) := by decide +kernel
theorem d_Model_known_37 : decode b_Model_known 37 = .ok (.lcmp, 1) := by decide +kernel
theorem d_Model_known_38 : decode b_Model_known 38 = .ok (.ifCond .ne 9, 3) := by decide +kernel
theorem d_Model_known_41 : decode b_Model_known 41 = .ok (.ldc2_w 118, 3) := by decide +kernel
theorem d_Model_known_44 : decode b_Model_known 44 = .ok (.goto 12, 3) := by decide +kernel
theorem d_Model_known_47 : decode b_Model_known 47 = .ok (.aload_n 0, 1) := by decide +kernel
theorem d_Model_known_48 : decode b_Model_known 48 = .ok (.getfield 53, 3) := by decide +kernel
theorem d_Model_known_51 : decode b_Model_known 51 = .ok (.iload 5, 2) := by decide +kernel
theorem d_Model_known_53 : decode b_Model_known 53 = .ok (.laload, 1) := by decide +kernel
theorem d_Model_known_54 : decode b_Model_known 54 = .ok (.lload_n 1, 1) := by decide +kernel
theorem d_Model_known_55 : decode b_Model_known 55 = .ok (.lsub, 1) := by decide +kernel
theorem d_Model_known_56 : decode b_Model_known 56 = .ok (.lstore 6, 2) := by decide +kernel
theorem d_Model_known_58 : decode b_Model_known 58 = .ok (.iload 4, 2) := by decide +kernel
theorem d_Model_known_60 : decode b_Model_known 60 = .ok (.ifCond .eq 45, 3) := by decide +kernel
theorem d_Model_known_63 : decode b_Model_known 63 = .ok (.aload_n 0, 1) := by decide +kernel
theorem d_Model_known_64 : decode b_Model_known 64 = .ok (.getfield 59, 3) := by decide +kernel
theorem d_Model_known_67 : decode b_Model_known 67 = .ok (.iconst 4, 1) := by decide +kernel
theorem d_Model_known_68 : decode b_Model_known 68 = .ok (.iload_n 3, 1) := by decide +kernel
theorem d_Model_known_69 : decode b_Model_known 69 = .ok (.imul, 1) := by decide +kernel
theorem d_Model_known_70 : decode b_Model_known 70 = .ok (.iload 5, 2) := by decide +kernel
theorem d_Model_known_72 : decode b_Model_known 72 = .ok (.iadd, 1) := by decide +kernel
theorem d_Model_known_73 : decode b_Model_known 73 = .ok (.laload, 1) := by decide +kernel
theorem d_Model_known_74 : decode b_Model_known 74 = .ok (.lload 6, 2) := by decide +kernel
theorem d_Model_known_76 : decode b_Model_known 76 = .ok (.lcmp, 1) := by decide +kernel
theorem d_Model_known_77 : decode b_Model_known 77 = .ok (.ifCond .ne 28, 3) := by decide +kernel
theorem d_Model_known_80 : decode b_Model_known 80 = .ok (.aload_n 0, 1) := by decide +kernel
theorem d_Model_known_81 : decode b_Model_known 81 = .ok (.getfield 62, 3) := by decide +kernel
theorem d_Model_known_84 : decode b_Model_known 84 = .ok (.iconst 4, 1) := by decide +kernel
theorem d_Model_known_85 : decode b_Model_known 85 = .ok (.iload_n 3, 1) := by decide +kernel
theorem d_Model_known_86 : decode b_Model_known 86 = .ok (.imul, 1) := by decide +kernel
theorem d_Model_known_87 : decode b_Model_known 87 = .ok (.iload 5, 2) := by decide +kernel
theorem d_Model_known_89 : decode b_Model_known 89 = .ok (.iadd, 1) := by decide +kernel
theorem d_Model_known_90 : decode b_Model_known 90 = .ok (.iaload, 1) := by decide +kernel
theorem d_Model_known_91 : decode b_Model_known 91 = .ok (.aload_n 0, 1) := by decide +kernel
theorem d_Model_known_92 : decode b_Model_known 92 = .ok (.getfield 56, 3) := by decide +kernel
theorem d_Model_known_95 : decode b_Model_known 95 = .ok (.iload 5, 2) := by decide +kernel
theorem d_Model_known_97 : decode b_Model_known 97 = .ok (.iaload, 1) := by decide +kernel
theorem d_Model_known_98 : decode b_Model_known 98 = .ok (.if_icmp .ne 7, 3) := by decide +kernel
theorem d_Model_known_101 : decode b_Model_known 101 = .ok (.iconst 1, 1) := by decide +kernel
theorem d_Model_known_102 : decode b_Model_known 102 = .ok (.goto 4, 3) := by decide +kernel
theorem d_Model_known_105 : decode b_Model_known 105 = .ok (.iconst 0, 1) := by decide +kernel
theorem d_Model_known_106 : decode b_Model_known 106 = .ok (.istore 4, 2) := by decide +kernel
theorem d_Model_known_108 : decode b_Model_known 108 = .ok (.iinc 5 1, 3) := by decide +kernel
theorem d_Model_known_111 : decode b_Model_known 111 = .ok (.goto (-90), 3) := by decide +kernel
theorem d_Model_known_114 : decode b_Model_known 114 = .ok (.iload 4, 2) := by decide +kernel
theorem d_Model_known_116 : decode b_Model_known 116 = .ok (.ifCond .eq 5, 3) := by decide +kernel
theorem d_Model_known_119 : decode b_Model_known 119 = .ok (.iconst 1, 1) := by decide +kernel
theorem d_Model_known_120 : decode b_Model_known 120 = .ok (.ireturn, 1) := by decide +kernel
theorem d_Model_known_121 : decode b_Model_known 121 = .ok (.iinc 3 1, 3) := by decide +kernel
theorem d_Model_known_124 : decode b_Model_known 124 = .ok (.goto (-117), 3) := by decide +kernel
theorem d_Model_known_127 : decode b_Model_known 127 = .ok (.iconst 0, 1) := by decide +kernel
theorem d_Model_known_128 : decode b_Model_known 128 = .ok (.istore_n 3, 1) := by decide +kernel
theorem d_Model_known_129 : decode b_Model_known 129 = .ok (.iload_n 3, 1) := by decide +kernel
theorem d_Model_known_130 : decode b_Model_known 130 = .ok (.iconst 4, 1) := by decide +kernel
theorem d_Model_known_131 : decode b_Model_known 131 = .ok (.if_icmp .ge 68, 3) := by decide +kernel
theorem d_Model_known_134 : decode b_Model_known 134 = .ok (.aload_n 0, 1) := by decide +kernel
theorem d_Model_known_135 : decode b_Model_known 135 = .ok (.getfield 59, 3) := by decide +kernel
theorem d_Model_known_138 : decode b_Model_known 138 = .ok (.iconst 4, 1) := by decide +kernel
theorem d_Model_known_139 : decode b_Model_known 139 = .ok (.aload_n 0, 1) := by decide +kernel
theorem d_Model_known_140 : decode b_Model_known 140 = .ok (.getfield 145, 3) := by decide +kernel
theorem d_Model_known_143 : decode b_Model_known 143 = .ok (.imul, 1) := by decide +kernel
theorem d_Model_known_144 : decode b_Model_known 144 = .ok (.iload_n 3, 1) := by decide +kernel
theorem d_Model_known_145 : decode b_Model_known 145 = .ok (.iadd, 1) := by decide +kernel
theorem d_Model_known_146 : decode b_Model_known 146 = .ok (.aload_n 0, 1) := by decide +kernel
theorem d_Model_known_147 : decode b_Model_known 147 = .ok (.getfield 53, 3) := by decide +kernel
theorem d_Model_known_150 : decode b_Model_known 150 = .ok (.iload_n 3, 1) := by decide +kernel
theorem d_Model_known_151 : decode b_Model_known 151 = .ok (.laload, 1) := by decide +kernel
theorem d_Model_known_152 : decode b_Model_known 152 = .ok (.ldc2_w 118, 3) := by decide +kernel
theorem d_Model_known_155 : decode b_Model_known 155 = .ok (.lcmp, 1) := by decide +kernel
theorem d_Model_known_156 : decode b_Model_known 156 = .ok (.ifCond .ne 9, 3) := by decide +kernel
theorem d_Model_known_159 : decode b_Model_known 159 = .ok (.ldc2_w 118, 3) := by decide +kernel
theorem d_Model_known_162 : decode b_Model_known 162 = .ok (.goto 11, 3) := by decide +kernel
theorem d_Model_known_165 : decode b_Model_known 165 = .ok (.aload_n 0, 1) := by decide +kernel
theorem d_Model_known_166 : decode b_Model_known 166 = .ok (.getfield 53, 3) := by decide +kernel
theorem d_Model_known_169 : decode b_Model_known 169 = .ok (.iload_n 3, 1) := by decide +kernel
theorem d_Model_known_170 : decode b_Model_known 170 = .ok (.laload, 1) := by decide +kernel
theorem d_Model_known_171 : decode b_Model_known 171 = .ok (.lload_n 1, 1) := by decide +kernel
theorem d_Model_known_172 : decode b_Model_known 172 = .ok (.lsub, 1) := by decide +kernel
theorem d_Model_known_173 : decode b_Model_known 173 = .ok (.lastore, 1) := by decide +kernel
theorem d_Model_known_174 : decode b_Model_known 174 = .ok (.aload_n 0, 1) := by decide +kernel
theorem d_Model_known_175 : decode b_Model_known 175 = .ok (.getfield 62, 3) := by decide +kernel
theorem d_Model_known_178 : decode b_Model_known 178 = .ok (.iconst 4, 1) := by decide +kernel
theorem d_Model_known_179 : decode b_Model_known 179 = .ok (.aload_n 0, 1) := by decide +kernel
theorem d_Model_known_180 : decode b_Model_known 180 = .ok (.getfield 145, 3) := by decide +kernel
theorem d_Model_known_183 : decode b_Model_known 183 = .ok (.imul, 1) := by decide +kernel
theorem d_Model_known_184 : decode b_Model_known 184 = .ok (.iload_n 3, 1) := by decide +kernel
theorem d_Model_known_185 : decode b_Model_known 185 = .ok (.iadd, 1) := by decide +kernel
theorem d_Model_known_186 : decode b_Model_known 186 = .ok (.aload_n 0, 1) := by decide +kernel
theorem d_Model_known_187 : decode b_Model_known 187 = .ok (.getfield 56, 3) := by decide +kernel
theorem d_Model_known_190 : decode b_Model_known 190 = .ok (.iload_n 3, 1) := by decide +kernel
theorem d_Model_known_191 : decode b_Model_known 191 = .ok (.iaload, 1) := by decide +kernel
theorem d_Model_known_192 : decode b_Model_known 192 = .ok (.iastore, 1) := by decide +kernel
theorem d_Model_known_193 : decode b_Model_known 193 = .ok (.iinc 3 1, 3) := by decide +kernel
theorem d_Model_known_196 : decode b_Model_known 196 = .ok (.goto (-67), 3) := by decide +kernel
theorem d_Model_known_199 : decode b_Model_known 199 = .ok (.aload_n 0, 1) := by decide +kernel
theorem d_Model_known_200 : decode b_Model_known 200 = .ok (.dup, 1) := by decide +kernel
theorem d_Model_known_201 : decode b_Model_known 201 = .ok (.getfield 145, 3) := by decide +kernel
theorem d_Model_known_204 : decode b_Model_known 204 = .ok (.iconst 1, 1) := by decide +kernel
theorem d_Model_known_205 : decode b_Model_known 205 = .ok (.iadd, 1) := by decide +kernel
theorem d_Model_known_206 : decode b_Model_known 206 = .ok (.putfield 145, 3) := by decide +kernel
theorem d_Model_known_209 : decode b_Model_known 209 = .ok (.iconst 0, 1) := by decide +kernel
theorem d_Model_known_210 : decode b_Model_known 210 = .ok (.ireturn, 1) := by decide +kernel
theorem d_Model_lowest_0 : decode b_Model_lowest 0 = .ok (.ldc2_w 118, 3) := by decide +kernel
theorem d_Model_lowest_3 : decode b_Model_lowest 3 = .ok (.lstore_n 1, 1) := by decide +kernel
theorem d_Model_lowest_4 : decode b_Model_lowest 4 = .ok (.iconst 0, 1) := by decide +kernel
theorem d_Model_lowest_5 : decode b_Model_lowest 5 = .ok (.istore_n 3, 1) := by decide +kernel
theorem d_Model_lowest_6 : decode b_Model_lowest 6 = .ok (.iload_n 3, 1) := by decide +kernel
theorem d_Model_lowest_7 : decode b_Model_lowest 7 = .ok (.iconst 4, 1) := by decide +kernel
theorem d_Model_lowest_8 : decode b_Model_lowest 8 = .ok (.if_icmp .ge 31, 3) := by decide +kernel
theorem d_Model_lowest_11 : decode b_Model_lowest 11 = .ok (.aload_n 0, 1) := by decide +kernel
theorem d_Model_lowest_12 : decode b_Model_lowest 12 = .ok (.getfield 53, 3) := by decide +kernel
theorem d_Model_lowest_15 : decode b_Model_lowest 15 = .ok (.iload_n 3, 1) := by decide +kernel
theorem d_Model_lowest_16 : decode b_Model_lowest 16 = .ok (.laload, 1) := by decide +kernel
theorem d_Model_lowest_17 : decode b_Model_lowest 17 = .ok (.lload_n 1, 1) := by decide +kernel
theorem d_Model_lowest_18 : decode b_Model_lowest 18 = .ok (.lcmp, 1) := by decide +kernel
theorem d_Model_lowest_19 : decode b_Model_lowest 19 = .ok (.ifCond .ge 12, 3) := by decide +kernel
theorem d_Model_lowest_22 : decode b_Model_lowest 22 = .ok (.aload_n 0, 1) := by decide +kernel
theorem d_Model_lowest_23 : decode b_Model_lowest 23 = .ok (.getfield 53, 3) := by decide +kernel
theorem d_Model_lowest_26 : decode b_Model_lowest 26 = .ok (.iload_n 3, 1) := by decide +kernel
theorem d_Model_lowest_27 : decode b_Model_lowest 27 = .ok (.laload, 1) := by decide +kernel
theorem d_Model_lowest_28 : decode b_Model_lowest 28 = .ok (.goto 4, 3) := by decide +kernel
theorem d_Model_lowest_31 : decode b_Model_lowest 31 = .ok (.lload_n 1, 1) := by decide +kernel
theorem d_Model_lowest_32 : decode b_Model_lowest 32 = .ok (.lstore_n 1, 1) := by decide +kernel
theorem d_Model_lowest_33 : decode b_Model_lowest 33 = .ok (.iinc 3 1, 3) := by decide +kernel
theorem d_Model_lowest_36 : decode b_Model_lowest 36 = .ok (.goto (-30), 3) := by decide +kernel
theorem d_Model_lowest_39 : decode b_Model_lowest 39 = .ok (.lload_n 1, 1) := by decide +kernel
theorem d_Model_lowest_40 : decode b_Model_lowest 40 = .ok (.lreturn, 1) := by decide +kernel
theorem d_Model_reach_0 : decode b_Model_reach 0 = .ok (.iconst 0, 1) := by decide +kernel
theorem d_Model_reach_1 : decode b_Model_reach 1 = .ok (.istore 4, 2) := by decide +kernel
theorem d_Model_reach_3 : decode b_Model_reach 3 = .ok (.iload 4, 2) := by decide +kernel
theorem d_Model_reach_5 : decode b_Model_reach 5 = .ok (.iconst 4, 1) := by decide +kernel
theorem d_Model_reach_6 : decode b_Model_reach 6 = .ok (.if_icmp .ge 45, 3) := by decide +kernel
theorem d_Model_reach_9 : decode b_Model_reach 9 = .ok (.aload_n 0, 1) := by decide +kernel
theorem d_Model_reach_10 : decode b_Model_reach 10 = .ok (.getfield 47, 3) := by decide +kernel
theorem d_Model_reach_13 : decode b_Model_reach 13 = .ok (.iload 4, 2) := by decide +kernel
theorem d_Model_reach_15 : decode b_Model_reach 15 = .ok (.aload_n 0, 1) := by decide +kernel
theorem d_Model_reach_16 : decode b_Model_reach 16 = .ok (.getfield 59, 3) := by decide +kernel
theorem d_Model_reach_19 : decode b_Model_reach 19 = .ok (.iconst 4, 1) := by decide +kernel
theorem d_Model_reach_20 : decode b_Model_reach 20 = .ok (.iload_n 2, 1) := by decide +kernel
theorem d_Model_reach_21 : decode b_Model_reach 21 = .ok (.imul, 1) := by decide +kernel
theorem d_Model_reach_22 : decode b_Model_reach 22 = .ok (.iload 4, 2) := by decide +kernel
theorem d_Model_reach_24 : decode b_Model_reach 24 = .ok (.iadd, 1) := by decide +kernel
theorem d_Model_reach_25 : decode b_Model_reach 25 = .ok (.laload, 1) := by decide +kernel
theorem d_Model_reach_26 : decode b_Model_reach 26 = .ok (.lastore, 1) := by decide +kernel
theorem d_Model_reach_27 : decode b_Model_reach 27 = .ok (.aload_n 0, 1) := by decide +kernel
theorem d_Model_reach_28 : decode b_Model_reach 28 = .ok (.getfield 50, 3) := by decide +kernel
theorem d_Model_reach_31 : decode b_Model_reach 31 = .ok (.iload 4, 2) := by decide +kernel
theorem d_Model_reach_33 : decode b_Model_reach 33 = .ok (.aload_n 0, 1) := by decide +kernel
theorem d_Model_reach_34 : decode b_Model_reach 34 = .ok (.getfield 59, 3) := by decide +kernel
theorem d_Model_reach_37 : decode b_Model_reach 37 = .ok (.iconst 4, 1) := by decide +kernel
theorem d_Model_reach_38 : decode b_Model_reach 38 = .ok (.iload_n 3, 1) := by decide +kernel
theorem d_Model_reach_39 : decode b_Model_reach 39 = .ok (.imul, 1) := by decide +kernel
theorem d_Model_reach_40 : decode b_Model_reach 40 = .ok (.iload 4, 2) := by decide +kernel
theorem d_Model_reach_42 : decode b_Model_reach 42 = .ok (.iadd, 1) := by decide +kernel
theorem d_Model_reach_43 : decode b_Model_reach 43 = .ok (.laload, 1) := by decide +kernel
theorem d_Model_reach_44 : decode b_Model_reach 44 = .ok (.lastore, 1) := by decide +kernel
theorem d_Model_reach_45 : decode b_Model_reach 45 = .ok (.iinc 4 1, 3) := by decide +kernel
theorem d_Model_reach_48 : decode b_Model_reach 48 = .ok (.goto (-45), 3) := by decide +kernel
theorem d_Model_reach_51 : decode b_Model_reach 51 = .ok (.aload_n 0, 1) := by decide +kernel
theorem d_Model_reach_52 : decode b_Model_reach 52 = .ok (.iload_n 1, 1) := by decide +kernel
theorem d_Model_reach_53 : decode b_Model_reach 53 = .ok (.invokevirtual 138, 3) := by decide +kernel
theorem d_Model_reach_56 : decode b_Model_reach 56 = .ok (.aload_n 0, 1) := by decide +kernel
theorem d_Model_reach_57 : decode b_Model_reach 57 = .ok (.invokevirtual 148, 3) := by decide +kernel
theorem d_Model_reach_60 : decode b_Model_reach 60 = .ok (.istore 4, 2) := by decide +kernel
theorem d_Model_reach_62 : decode b_Model_reach 62 = .ok (.iload 4, 2) := by decide +kernel
theorem d_Model_reach_64 : decode b_Model_reach 64 = .ok (.ifCond .ne 12, 3) := by decide +kernel
theorem d_Model_reach_67 : decode b_Model_reach 67 = .ok (.aload_n 0, 1) := by decide +kernel
theorem d_Model_reach_68 : decode b_Model_reach 68 = .ok (.getfield 145, 3) := by decide +kernel
theorem d_Model_reach_71 : decode b_Model_reach 71 = .ok (.bipush 40, 2) := by decide +kernel
theorem d_Model_reach_73 : decode b_Model_reach 73 = .ok (.if_icmp .gt 7, 3) := by decide +kernel
theorem d_Model_reach_76 : decode b_Model_reach 76 = .ok (.iconst 1, 1) := by decide +kernel
theorem d_Model_reach_77 : decode b_Model_reach 77 = .ok (.goto 4, 3) := by decide +kernel
theorem d_Model_reach_80 : decode b_Model_reach 80 = .ok (.iconst 0, 1) := by decide +kernel
theorem d_Model_reach_81 : decode b_Model_reach 81 = .ok (.ireturn, 1) := by decide +kernel
theorem d_Model_push_0 : decode b_Model_push 0 = .ok (.iload_n 1, 1) := by decide +kernel
theorem d_Model_push_1 : decode b_Model_push 1 = .ok (.bipush 7, 2) := by decide +kernel
theorem d_Model_push_3 : decode b_Model_push 3 = .ok (.invokestatic 111, 3) := by decide +kernel
theorem d_Model_push_6 : decode b_Model_push 6 = .ok (.ifCond .ne 33, 3) := by decide +kernel
theorem d_Model_push_9 : decode b_Model_push 9 = .ok (.iload_n 1, 1) := by decide +kernel
theorem d_Model_push_10 : decode b_Model_push 10 = .ok (.iconst 1, 1) := by decide +kernel
theorem d_Model_push_11 : decode b_Model_push 11 = .ok (.if_icmp .eq 8, 3) := by decide +kernel
theorem d_Model_push_14 : decode b_Model_push 14 = .ok (.iload_n 1, 1) := by decide +kernel
theorem d_Model_push_15 : decode b_Model_push 15 = .ok (.iconst 2, 1) := by decide +kernel
theorem d_Model_push_16 : decode b_Model_push 16 = .ok (.if_icmp .ne 12, 3) := by decide +kernel
theorem d_Model_push_19 : decode b_Model_push 19 = .ok (.iload_n 2, 1) := by decide +kernel
theorem d_Model_push_20 : decode b_Model_push 20 = .ok (.bipush 7, 2) := by decide +kernel
theorem d_Model_push_22 : decode b_Model_push 22 = .ok (.invokestatic 111, 3) := by decide +kernel
theorem d_Model_push_25 : decode b_Model_push 25 = .ok (.ifCond .ne 14, 3) := by decide +kernel
theorem d_Model_push_28 : decode b_Model_push 28 = .ok (.aload_n 0, 1) := by decide +kernel
theorem d_Model_push_29 : decode b_Model_push 29 = .ok (.getfield 128, 3) := by decide +kernel
theorem d_Model_push_32 : decode b_Model_push 32 = .ok (.iload_n 1, 1) := by decide +kernel
theorem d_Model_push_33 : decode b_Model_push 33 = .ok (.invokestatic 120, 3) := by decide +kernel
theorem d_Model_push_36 : decode b_Model_push 36 = .ok (.if_icmp .ge 5, 3) := by decide +kernel
theorem d_Model_push_39 : decode b_Model_push 39 = .ok (.iconst (-1), 1) := by decide +kernel
theorem d_Model_push_40 : decode b_Model_push 40 = .ok (.ireturn, 1) := by decide +kernel
theorem d_Model_push_41 : decode b_Model_push 41 = .ok (.iload_n 1, 1) := by decide +kernel
theorem d_Model_push_42 : decode b_Model_push 42 = .ok (.invokestatic 120, 3) := by decide +kernel
theorem d_Model_push_45 : decode b_Model_push 45 = .ok (.istore_n 3, 1) := by decide +kernel
theorem d_Model_push_46 : decode b_Model_push 46 = .ok (.aload_n 0, 1) := by decide +kernel
theorem d_Model_push_47 : decode b_Model_push 47 = .ok (.getfield 131, 3) := by decide +kernel
theorem d_Model_push_50 : decode b_Model_push 50 = .ok (.iconst 1, 1) := by decide +kernel
theorem d_Model_push_51 : decode b_Model_push 51 = .ok (.isub, 1) := by decide +kernel
theorem d_Model_push_52 : decode b_Model_push 52 = .ok (.iload_n 3, 1) := by decide +kernel
theorem d_Model_push_53 : decode b_Model_push 53 = .ok (.iconst 1, 1) := by decide +kernel
theorem d_Model_push_54 : decode b_Model_push 54 = .ok (.if_icmp .le 17, 3) := by decide +kernel
theorem d_Model_push_57 : decode b_Model_push 57 = .ok (.aload_n 0, 1) := by decide +kernel
theorem d_Model_push_58 : decode b_Model_push 58 = .ok (.getfield 31, 3) := by decide +kernel
theorem d_Model_push_61 : decode b_Model_push 61 = .ok (.aload_n 0, 1) := by decide +kernel
theorem d_Model_push_62 : decode b_Model_push 62 = .ok (.getfield 131, 3) := by decide +kernel
theorem d_Model_push_65 : decode b_Model_push 65 = .ok (.iconst 1, 1) := by decide +kernel
theorem d_Model_push_66 : decode b_Model_push 66 = .ok (.isub, 1) := by decide +kernel
theorem d_Model_push_67 : decode b_Model_push 67 = .ok (.iaload, 1) := by decide +kernel
theorem d_Model_push_68 : decode b_Model_push 68 = .ok (.goto 4, 3) := by decide +kernel
theorem d_Model_push_71 : decode b_Model_push 71 = .ok (.iconst 0, 1) := by decide +kernel
theorem d_Model_push_72 : decode b_Model_push 72 = .ok (.isub, 1) := by decide +kernel
theorem d_Model_push_73 : decode b_Model_push 73 = .ok (.istore 4, 2) := by decide +kernel
theorem d_Model_push_75 : decode b_Model_push 75 = .ok (.iload_n 3, 1) := by decide +kernel
theorem d_Model_push_76 : decode b_Model_push 76 = .ok (.ifCond .ne 7, 3) := by decide +kernel
theorem d_Model_push_79 : decode b_Model_push 79 = .ok (.iconst 1, 1) := by decide +kernel
theorem d_Model_push_80 : decode b_Model_push 80 = .ok (.goto 47, 3) := by decide +kernel
theorem d_Model_push_83 : decode b_Model_push 83 = .ok (.iconst 1, 1) := by decide +kernel
theorem d_Model_push_84 : decode b_Model_push 84 = .ok (.aload_n 0, 1) := by decide +kernel
theorem d_Model_push_85 : decode b_Model_push 85 = .ok (.getfield 34, 3) := by decide +kernel
theorem d_Model_push_88 : decode b_Model_push 88 = .ok (.iload 4, 2) := by decide +kernel
theorem d_Model_push_90 : decode b_Model_push 90 = .ok (.iaload, 1) := by decide +kernel
theorem d_Model_push_91 : decode b_Model_push 91 = .ok (.aload_n 0, 1) := by decide +kernel
theorem d_Model_push_92 : decode b_Model_push 92 = .ok (.getfield 34, 3) := by decide +kernel
theorem d_Model_push_95 : decode b_Model_push 95 = .ok (.aload_n 0, 1) := by decide +kernel
theorem d_Model_push_96 : decode b_Model_push 96 = .ok (.getfield 131, 3) := by decide +kernel
theorem d_Model_push_99 : decode b_Model_push 99 = .ok (.iconst 1, 1) := by decide +kernel
theorem d_Model_push_100 : decode b_Model_push 100 = .ok (.isub, 1) := by decide +kernel
theorem d_Model_push_101 : decode b_Model_push 101 = .ok (.iaload, 1) := by decide +kernel
theorem d_Model_push_102 : decode b_Model_push 102 = .ok (.if_icmp .le 13, 3) := by decide +kernel
theorem d_Model_push_105 : decode b_Model_push 105 = .ok (.aload_n 0, 1) := by decide +kernel
theorem d_Model_push_106 : decode b_Model_push 106 = .ok (.getfield 34, 3) := by decide +kernel
theorem d_Model_push_109 : decode b_Model_push 109 = .ok (.iload 4, 2) := by decide +kernel
theorem d_Model_push_111 : decode b_Model_push 111 = .ok (.iaload, 1) := by decide +kernel
theorem d_Model_push_112 : decode b_Model_push 112 = .ok (.goto 14, 3) := by decide +kernel
theorem d_Model_push_115 : decode b_Model_push 115 = .ok (.aload_n 0, 1) := by decide +kernel
theorem d_Model_push_116 : decode b_Model_push 116 = .ok (.getfield 34, 3) := by decide +kernel
theorem d_Model_push_119 : decode b_Model_push 119 = .ok (.aload_n 0, 1) := by decide +kernel
theorem d_Model_push_120 : decode b_Model_push 120 = .ok (.getfield 131, 3) := by decide +kernel
theorem d_Model_push_123 : decode b_Model_push 123 = .ok (.iconst 1, 1) := by decide +kernel
theorem d_Model_push_124 : decode b_Model_push 124 = .ok (.isub, 1) := by decide +kernel
theorem d_Model_push_125 : decode b_Model_push 125 = .ok (.iaload, 1) := by decide +kernel
theorem d_Model_push_126 : decode b_Model_push 126 = .ok (.iadd, 1) := by decide +kernel
theorem d_Model_push_127 : decode b_Model_push 127 = .ok (.istore 5, 2) := by decide +kernel
theorem d_Model_push_129 : decode b_Model_push 129 = .ok (.aload_n 0, 1) := by decide +kernel
theorem d_Model_push_130 : decode b_Model_push 130 = .ok (.getfield 131, 3) := by decide +kernel
theorem d_Model_push_133 : decode b_Model_push 133 = .ok (.bipush 40, 2) := by decide +kernel
theorem d_Model_push_135 : decode b_Model_push 135 = .ok (.if_icmp .eq 10, 3) := by decide +kernel
theorem d_Model_push_138 : decode b_Model_push 138 = .ok (.iload 5, 2) := by decide +kernel
theorem d_Model_push_140 : decode b_Model_push 140 = .ok (.bipush 10, 2) := by decide +kernel
theorem d_Model_push_142 : decode b_Model_push 142 = .ok (.if_icmp .le 6, 3) := by decide +kernel
theorem d_Model_push_145 : decode b_Model_push 145 = .ok (.bipush (-2), 2) := by decide +kernel
theorem d_Model_push_147 : decode b_Model_push 147 = .ok (.ireturn, 1) := by decide +kernel
theorem d_Model_push_148 : decode b_Model_push 148 = .ok (.aload_n 0, 1) := by decide +kernel
theorem d_Model_push_149 : decode b_Model_push 149 = .ok (.getfield 25, 3) := by decide +kernel
theorem d_Model_push_152 : decode b_Model_push 152 = .ok (.aload_n 0, 1) := by decide +kernel
theorem d_Model_push_153 : decode b_Model_push 153 = .ok (.getfield 131, 3) := by decide +kernel
theorem d_Model_push_156 : decode b_Model_push 156 = .ok (.iload_n 1, 1) := by decide +kernel
theorem d_Model_push_157 : decode b_Model_push 157 = .ok (.iastore, 1) := by decide +kernel
theorem d_Model_push_158 : decode b_Model_push 158 = .ok (.aload_n 0, 1) := by decide +kernel
theorem d_Model_push_159 : decode b_Model_push 159 = .ok (.getfield 28, 3) := by decide +kernel
theorem d_Model_push_162 : decode b_Model_push 162 = .ok (.aload_n 0, 1) := by decide +kernel
theorem d_Model_push_163 : decode b_Model_push 163 = .ok (.getfield 131, 3) := by decide +kernel
theorem d_Model_push_166 : decode b_Model_push 166 = .ok (.iload_n 2, 1) := by decide +kernel
theorem d_Model_push_167 : decode b_Model_push 167 = .ok (.iastore, 1) := by decide +kernel
theorem d_Model_push_168 : decode b_Model_push 168 = .ok (.aload_n 0, 1) := by decide +kernel
theorem d_Model_push_169 : decode b_Model_push 169 = .ok (.getfield 31, 3) := by decide +kernel
theorem d_Model_push_172 : decode b_Model_push 172 = .ok (.aload_n 0, 1) := by decide +kernel
theorem d_Model_push_173 : decode b_Model_push 173 = .ok (.getfield 131, 3) := by decide +kernel
theorem d_Model_push_176 : decode b_Model_push 176 = .ok (.iconst 1, 1) := by decide +kernel
theorem d_Model_push_177 : decode b_Model_push 177 = .ok (.iload_n 3, 1) := by decide +kernel
theorem d_Model_push_178 : decode b_Model_push 178 = .ok (.ifCond .le 13, 3) := by decide +kernel
theorem d_Model_push_181 : decode b_Model_push 181 = .ok (.aload_n 0, 1) := by decide +kernel
theorem d_Model_push_182 : decode b_Model_push 182 = .ok (.getfield 31, 3) := by decide +kernel
theorem d_Model_push_185 : decode b_Model_push 185 = .ok (.iload 4, 2) := by decide +kernel
theorem d_Model_push_187 : decode b_Model_push 187 = .ok (.iaload, 1) := by decide +kernel
theorem d_Model_push_188 : decode b_Model_push 188 = .ok (.goto 4, 3) := by decide +kernel
theorem d_Model_push_191 : decode b_Model_push 191 = .ok (.iconst 0, 1) := by decide +kernel
theorem d_Model_push_192 : decode b_Model_push 192 = .ok (.iadd, 1) := by decide +kernel
theorem d_Model_push_193 : decode b_Model_push 193 = .ok (.iload_n 3, 1) := by decide +kernel
theorem d_Model_push_194 : decode b_Model_push 194 = .ok (.iconst 1, 1) := by decide +kernel
theorem d_Model_push_195 : decode b_Model_push 195 = .ok (.if_icmp .le 17, 3) := by decide +kernel
theorem d_Model_push_198 : decode b_Model_push 198 = .ok (.aload_n 0, 1) := by decide +kernel
theorem d_Model_push_199 : decode b_Model_push 199 = .ok (.getfield 31, 3) := by decide +kernel
theorem d_Model_push_202 : decode b_Model_push 202 = .ok (.aload_n 0, 1) := by decide +kernel
theorem d_Model_push_203 : decode b_Model_push 203 = .ok (.getfield 131, 3) := by decide +kernel
theorem d_Model_push_206 : decode b_Model_push 206 = .ok (.iconst 1, 1) := by decide +kernel
theorem d_Model_push_207 : decode b_Model_push 207 = .ok (.isub, 1) := by decide +kernel
theorem d_Model_push_208 : decode b_Model_push 208 = .ok (.iaload, 1) := by decide +kernel
theorem d_Model_push_209 : decode b_Model_push 209 = .ok (.goto 4, 3) := by decide +kernel
theorem d_Model_push_212 : decode b_Model_push 212 = .ok (.iconst 0, 1) := by decide +kernel
theorem d_Model_push_213 : decode b_Model_push 213 = .ok (.iadd, 1) := by decide +kernel
theorem d_Model_push_214 : decode b_Model_push 214 = .ok (.iastore, 1) := by decide +kernel
theorem d_Model_push_215 : decode b_Model_push 215 = .ok (.aload_n 0, 1) := by decide +kernel
theorem d_Model_push_216 : decode b_Model_push 216 = .ok (.getfield 34, 3) := by decide +kernel
theorem d_Model_push_219 : decode b_Model_push 219 = .ok (.aload_n 0, 1) := by decide +kernel
theorem d_Model_push_220 : decode b_Model_push 220 = .ok (.getfield 131, 3) := by decide +kernel
theorem d_Model_push_223 : decode b_Model_push 223 = .ok (.iload 5, 2) := by decide +kernel
theorem d_Model_push_225 : decode b_Model_push 225 = .ok (.iastore, 1) := by decide +kernel
theorem d_Model_push_226 : decode b_Model_push 226 = .ok (.aload_n 0, 1) := by decide +kernel
theorem d_Model_push_227 : decode b_Model_push 227 = .ok (.aload_n 0, 1) := by decide +kernel
theorem d_Model_push_228 : decode b_Model_push 228 = .ok (.getfield 128, 3) := by decide +kernel
theorem d_Model_push_231 : decode b_Model_push 231 = .ok (.iconst 1, 1) := by decide +kernel
theorem d_Model_push_232 : decode b_Model_push 232 = .ok (.iadd, 1) := by decide +kernel
theorem d_Model_push_233 : decode b_Model_push 233 = .ok (.iload_n 3, 1) := by decide +kernel
theorem d_Model_push_234 : decode b_Model_push 234 = .ok (.isub, 1) := by decide +kernel
theorem d_Model_push_235 : decode b_Model_push 235 = .ok (.putfield 128, 3) := by decide +kernel
theorem d_Model_push_238 : decode b_Model_push 238 = .ok (.aload_n 0, 1) := by decide +kernel
theorem d_Model_push_239 : decode b_Model_push 239 = .ok (.getfield 37, 3) := by decide +kernel
theorem d_Model_push_242 : decode b_Model_push 242 = .ok (.aload_n 0, 1) := by decide +kernel
theorem d_Model_push_243 : decode b_Model_push 243 = .ok (.getfield 128, 3) := by decide +kernel
theorem d_Model_push_246 : decode b_Model_push 246 = .ok (.iconst 1, 1) := by decide +kernel
theorem d_Model_push_247 : decode b_Model_push 247 = .ok (.isub, 1) := by decide +kernel
theorem d_Model_push_248 : decode b_Model_push 248 = .ok (.aload_n 0, 1) := by decide +kernel
theorem d_Model_push_249 : decode b_Model_push 249 = .ok (.getfield 131, 3) := by decide +kernel
theorem d_Model_push_252 : decode b_Model_push 252 = .ok (.iconst 1, 1) := by decide +kernel
theorem d_Model_push_253 : decode b_Model_push 253 = .ok (.iadd, 1) := by decide +kernel
theorem d_Model_push_254 : decode b_Model_push 254 = .ok (.aload_n 0, 1) := by decide +kernel
theorem d_Model_push_255 : decode b_Model_push 255 = .ok (.getfield 31, 3) := by decide +kernel
theorem d_Model_push_258 : decode b_Model_push 258 = .ok (.aload_n 0, 1) := by decide +kernel
theorem d_Model_push_259 : decode b_Model_push 259 = .ok (.getfield 131, 3) := by decide +kernel
theorem d_Model_push_262 : decode b_Model_push 262 = .ok (.iaload, 1) := by decide +kernel
theorem d_Model_push_263 : decode b_Model_push 263 = .ok (.isub, 1) := by decide +kernel
theorem d_Model_push_264 : decode b_Model_push 264 = .ok (.iastore, 1) := by decide +kernel
theorem d_Model_push_265 : decode b_Model_push 265 = .ok (.aload_n 0, 1) := by decide +kernel
theorem d_Model_push_266 : decode b_Model_push 266 = .ok (.dup, 1) := by decide +kernel
theorem d_Model_push_267 : decode b_Model_push 267 = .ok (.getfield 131, 3) := by decide +kernel
theorem d_Model_push_270 : decode b_Model_push 270 = .ok (.iconst 1, 1) := by decide +kernel
theorem d_Model_push_271 : decode b_Model_push 271 = .ok (.iadd, 1) := by decide +kernel
theorem d_Model_push_272 : decode b_Model_push 272 = .ok (.putfield 131, 3) := by decide +kernel
theorem d_Model_push_275 : decode b_Model_push 275 = .ok (.aload_n 0, 1) := by decide +kernel
theorem d_Model_push_276 : decode b_Model_push 276 = .ok (.getfield 128, 3) := by decide +kernel
theorem d_Model_push_279 : decode b_Model_push 279 = .ok (.ireturn, 1) := by decide +kernel
theorem d_Model_pop_0 : decode b_Model_pop 0 = .ok (.aload_n 0, 1) := by decide +kernel
theorem d_Model_pop_1 : decode b_Model_pop 1 = .ok (.getfield 128, 3) := by decide +kernel
theorem d_Model_pop_4 : decode b_Model_pop 4 = .ok (.ifCond .ne 5, 3) := by decide +kernel
theorem d_Model_pop_7 : decode b_Model_pop 7 = .ok (.iconst 0, 1) := by decide +kernel
theorem d_Model_pop_8 : decode b_Model_pop 8 = .ok (.ireturn, 1) := by decide +kernel
theorem d_Model_pop_9 : decode b_Model_pop 9 = .ok (.aload_n 0, 1) := by decide +kernel
theorem d_Model_pop_10 : decode b_Model_pop 10 = .ok (.dup, 1) := by decide +kernel
theorem d_Model_pop_11 : decode b_Model_pop 11 = .ok (.getfield 128, 3) := by decide +kernel
theorem d_Model_pop_14 : decode b_Model_pop 14 = .ok (.iconst 1, 1) := by decide +kernel
theorem d_Model_pop_15 : decode b_Model_pop 15 = .ok (.isub, 1) := by decide +kernel
theorem d_Model_pop_16 : decode b_Model_pop 16 = .ok (.putfield 128, 3) := by decide +kernel
theorem d_Model_pop_19 : decode b_Model_pop 19 = .ok (.aload_n 0, 1) := by decide +kernel
theorem d_Model_pop_20 : decode b_Model_pop 20 = .ok (.aload_n 0, 1) := by decide +kernel
theorem d_Model_pop_21 : decode b_Model_pop 21 = .ok (.getfield 37, 3) := by decide +kernel
theorem d_Model_pop_24 : decode b_Model_pop 24 = .ok (.aload_n 0, 1) := by decide +kernel
theorem d_Model_pop_25 : decode b_Model_pop 25 = .ok (.getfield 128, 3) := by decide +kernel
theorem d_Model_pop_28 : decode b_Model_pop 28 = .ok (.iaload, 1) := by decide +kernel
theorem d_Model_pop_29 : decode b_Model_pop 29 = .ok (.putfield 131, 3) := by decide +kernel
theorem d_Model_pop_32 : decode b_Model_pop 32 = .ok (.iconst 1, 1) := by decide +kernel
theorem d_Model_pop_33 : decode b_Model_pop 33 = .ok (.ireturn, 1) := by decide +kernel
theorem d_Model_trees_0 : decode b_Model_trees 0 = .ok (.aload_n 0, 1) := by decide +kernel
theorem d_Model_trees_1 : decode b_Model_trees 1 = .ok (.getfield 128, 3) := by decide +kernel
theorem d_Model_trees_4 : decode b_Model_trees 4 = .ok (.ireturn, 1) := by decide +kernel
theorem d_Model_nodes_0 : decode b_Model_nodes 0 = .ok (.aload_n 0, 1) := by decide +kernel
theorem d_Model_nodes_1 : decode b_Model_nodes 1 = .ok (.getfield 128, 3) := by decide +kernel
theorem d_Model_nodes_4 : decode b_Model_nodes 4 = .ok (.ifCond .ne 7, 3) := by decide +kernel
theorem d_Model_nodes_7 : decode b_Model_nodes 7 = .ok (.iconst 0, 1) := by decide +kernel
theorem d_Model_nodes_8 : decode b_Model_nodes 8 = .ok (.goto 19, 3) := by decide +kernel
theorem d_Model_nodes_11 : decode b_Model_nodes 11 = .ok (.aload_n 0, 1) := by decide +kernel
theorem d_Model_nodes_12 : decode b_Model_nodes 12 = .ok (.getfield 131, 3) := by decide +kernel
theorem d_Model_nodes_15 : decode b_Model_nodes 15 = .ok (.aload_n 0, 1) := by decide +kernel
theorem d_Model_nodes_16 : decode b_Model_nodes 16 = .ok (.getfield 37, 3) := by decide +kernel
theorem d_Model_nodes_19 : decode b_Model_nodes 19 = .ok (.aload_n 0, 1) := by decide +kernel
theorem d_Model_nodes_20 : decode b_Model_nodes 20 = .ok (.getfield 128, 3) := by decide +kernel
theorem d_Model_nodes_23 : decode b_Model_nodes 23 = .ok (.iconst 1, 1) := by decide +kernel
theorem d_Model_nodes_24 : decode b_Model_nodes 24 = .ok (.isub, 1) := by decide +kernel
theorem d_Model_nodes_25 : decode b_Model_nodes 25 = .ok (.iaload, 1) := by decide +kernel
theorem d_Model_nodes_26 : decode b_Model_nodes 26 = .ok (.isub, 1) := by decide +kernel
theorem d_Model_nodes_27 : decode b_Model_nodes 27 = .ok (.ireturn, 1) := by decide +kernel
theorem d_Model_relative_0 : decode b_Model_relative 0 = .ok (.aload_n 0, 1) := by decide +kernel
theorem d_Model_relative_1 : decode b_Model_relative 1 = .ok (.iload_n 1, 1) := by decide +kernel
theorem d_Model_relative_2 : decode b_Model_relative 2 = .ok (.iload_n 2, 1) := by decide +kernel
theorem d_Model_relative_3 : decode b_Model_relative 3 = .ok (.invokevirtual 163, 3) := by decide +kernel
theorem d_Model_relative_6 : decode b_Model_relative 6 = .ok (.ifCond .eq 5, 3) := by decide +kernel
theorem d_Model_relative_9 : decode b_Model_relative 9 = .ok (.iconst (-1), 1) := by decide +kernel
theorem d_Model_relative_10 : decode b_Model_relative 10 = .ok (.ireturn, 1) := by decide +kernel
theorem d_Model_relative_11 : decode b_Model_relative 11 = .ok (.aload_n 0, 1) := by decide +kernel
theorem d_Model_relative_12 : decode b_Model_relative 12 = .ok (.getfield 37, 3) := by decide +kernel
theorem d_Model_relative_15 : decode b_Model_relative 15 = .ok (.aload_n 0, 1) := by decide +kernel
theorem d_Model_relative_16 : decode b_Model_relative 16 = .ok (.getfield 128, 3) := by decide +kernel
theorem d_Model_relative_19 : decode b_Model_relative 19 = .ok (.iconst 1, 1) := by decide +kernel
theorem d_Model_relative_20 : decode b_Model_relative 20 = .ok (.isub, 1) := by decide +kernel
theorem d_Model_relative_21 : decode b_Model_relative 21 = .ok (.iaload, 1) := by decide +kernel
theorem d_Model_relative_22 : decode b_Model_relative 22 = .ok (.iload_n 1, 1) := by decide +kernel
theorem d_Model_relative_23 : decode b_Model_relative 23 = .ok (.iadd, 1) := by decide +kernel
theorem d_Model_relative_24 : decode b_Model_relative 24 = .ok (.istore_n 3, 1) := by decide +kernel
theorem d_Model_relative_25 : decode b_Model_relative 25 = .ok (.ldc2_w 118, 3) := by decide +kernel
theorem d_Model_relative_28 : decode b_Model_relative 28 = .ok (.lstore 4, 2) := by decide +kernel
theorem d_Model_relative_30 : decode b_Model_relative 30 = .ok (.iconst 0, 1) := by decide +kernel
theorem d_Model_relative_31 : decode b_Model_relative 31 = .ok (.istore 6, 2) := by decide +kernel
theorem d_Model_relative_33 : decode b_Model_relative 33 = .ok (.iload 6, 2) := by decide +kernel
theorem d_Model_relative_35 : decode b_Model_relative 35 = .ok (.iconst 4, 1) := by decide +kernel
theorem d_Model_relative_36 : decode b_Model_relative 36 = .ok (.if_icmp .ge 44, 3) := by decide +kernel
theorem d_Model_relative_39 : decode b_Model_relative 39 = .ok (.aload_n 0, 1) := by decide +kernel
theorem d_Model_relative_40 : decode b_Model_relative 40 = .ok (.getfield 40, 3) := by decide +kernel
theorem d_Model_relative_43 : decode b_Model_relative 43 = .ok (.iconst 4, 1) := by decide +kernel
theorem d_Model_relative_44 : decode b_Model_relative 44 = .ok (.iload_n 3, 1) := by decide +kernel
theorem d_Model_relative_45 : decode b_Model_relative 45 = .ok (.imul, 1) := by decide +kernel
theorem d_Model_relative_46 : decode b_Model_relative 46 = .ok (.iload 6, 2) := by decide +kernel
theorem d_Model_relative_48 : decode b_Model_relative 48 = .ok (.iadd, 1) := by decide +kernel
theorem d_Model_relative_49 : decode b_Model_relative 49 = .ok (.laload, 1) := by decide +kernel
theorem d_Model_relative_50 : decode b_Model_relative 50 = .ok (.lload 4, 2) := by decide +kernel
theorem d_Model_relative_52 : decode b_Model_relative 52 = .ok (.lcmp, 1) := by decide +kernel
theorem d_Model_relative_53 : decode b_Model_relative 53 = .ok (.ifCond .ge 17, 3) := by decide +kernel
theorem d_Model_relative_56 : decode b_Model_relative 56 = .ok (.aload_n 0, 1) := by decide +kernel
theorem d_Model_relative_57 : decode b_Model_relative 57 = .ok (.getfield 40, 3) := by decide +kernel
theorem d_Model_relative_60 : decode b_Model_relative 60 = .ok (.iconst 4, 1) := by decide +kernel
theorem d_Model_relative_61 : decode b_Model_relative 61 = .ok (.iload_n 3, 1) := by decide +kernel
theorem d_Model_relative_62 : decode b_Model_relative 62 = .ok (.imul, 1) := by decide +kernel
theorem d_Model_relative_63 : decode b_Model_relative 63 = .ok (.iload 6, 2) := by decide +kernel
theorem d_Model_relative_65 : decode b_Model_relative 65 = .ok (.iadd, 1) := by decide +kernel
theorem d_Model_relative_66 : decode b_Model_relative 66 = .ok (.laload, 1) := by decide +kernel
theorem d_Model_relative_67 : decode b_Model_relative 67 = .ok (.goto 5, 3) := by decide +kernel
theorem d_Model_relative_70 : decode b_Model_relative 70 = .ok (.lload 4, 2) := by decide +kernel
theorem d_Model_relative_72 : decode b_Model_relative 72 = .ok (.lstore 4, 2) := by decide +kernel
theorem d_Model_relative_74 : decode b_Model_relative 74 = .ok (.iinc 6 1, 3) := by decide +kernel
theorem d_Model_relative_77 : decode b_Model_relative 77 = .ok (.goto (-44), 3) := by decide +kernel
theorem d_Model_relative_80 : decode b_Model_relative 80 = .ok (.aload_n 0, 1) := by decide +kernel
theorem d_Model_relative_81 : decode b_Model_relative 81 = .ok (.getfield 40, 3) := by decide +kernel
theorem d_Model_relative_84 : decode b_Model_relative 84 = .ok (.iconst 4, 1) := by decide +kernel
theorem d_Model_relative_85 : decode b_Model_relative 85 = .ok (.iload_n 3, 1) := by decide +kernel
theorem d_Model_relative_86 : decode b_Model_relative 86 = .ok (.imul, 1) := by decide +kernel
theorem d_Model_relative_87 : decode b_Model_relative 87 = .ok (.iload_n 2, 1) := by decide +kernel
theorem d_Model_relative_88 : decode b_Model_relative 88 = .ok (.iadd, 1) := by decide +kernel
theorem d_Model_relative_89 : decode b_Model_relative 89 = .ok (.laload, 1) := by decide +kernel
theorem d_Model_relative_90 : decode b_Model_relative 90 = .ok (.ldc2_w 118, 3) := by decide +kernel
theorem d_Model_relative_93 : decode b_Model_relative 93 = .ok (.lcmp, 1) := by decide +kernel
theorem d_Model_relative_94 : decode b_Model_relative 94 = .ok (.ifCond .ne 8, 3) := by decide +kernel
theorem d_Model_relative_97 : decode b_Model_relative 97 = .ok (.bipush (-3), 2) := by decide +kernel
theorem d_Model_relative_99 : decode b_Model_relative 99 = .ok (.goto 17, 3) := by decide +kernel
theorem d_Model_relative_102 : decode b_Model_relative 102 = .ok (.aload_n 0, 1) := by decide +kernel
theorem d_Model_relative_103 : decode b_Model_relative 103 = .ok (.getfield 40, 3) := by decide +kernel
theorem d_Model_relative_106 : decode b_Model_relative 106 = .ok (.iconst 4, 1) := by decide +kernel
theorem d_Model_relative_107 : decode b_Model_relative 107 = .ok (.iload_n 3, 1) := by decide +kernel
theorem d_Model_relative_108 : decode b_Model_relative 108 = .ok (.imul, 1) := by decide +kernel
theorem d_Model_relative_109 : decode b_Model_relative 109 = .ok (.iload_n 2, 1) := by decide +kernel
theorem d_Model_relative_110 : decode b_Model_relative 110 = .ok (.iadd, 1) := by decide +kernel
theorem d_Model_relative_111 : decode b_Model_relative 111 = .ok (.laload, 1) := by decide +kernel
theorem d_Model_relative_112 : decode b_Model_relative 112 = .ok (.lload 4, 2) := by decide +kernel
theorem d_Model_relative_114 : decode b_Model_relative 114 = .ok (.lsub, 1) := by decide +kernel
theorem d_Model_relative_115 : decode b_Model_relative 115 = .ok (.l2i, 1) := by decide +kernel
theorem d_Model_relative_116 : decode b_Model_relative 116 = .ok (.ireturn, 1) := by decide +kernel
theorem d_Model_noNode_0 : decode b_Model_noNode 0 = .ok (.iload_n 1, 1) := by decide +kernel
theorem d_Model_noNode_1 : decode b_Model_noNode 1 = .ok (.ifCond .lt 26, 3) := by decide +kernel
theorem d_Model_noNode_4 : decode b_Model_noNode 4 = .ok (.iload_n 1, 1) := by decide +kernel
theorem d_Model_noNode_5 : decode b_Model_noNode 5 = .ok (.aload_n 0, 1) := by decide +kernel
theorem d_Model_noNode_6 : decode b_Model_noNode 6 = .ok (.invokevirtual 156, 3) := by decide +kernel
theorem d_Model_noNode_9 : decode b_Model_noNode 9 = .ok (.if_icmp .ge 18, 3) := by decide +kernel
theorem d_Model_noNode_12 : decode b_Model_noNode 12 = .ok (.iload_n 2, 1) := by decide +kernel
theorem d_Model_noNode_13 : decode b_Model_noNode 13 = .ok (.iconst 3, 1) := by decide +kernel
theorem d_Model_noNode_14 : decode b_Model_noNode 14 = .ok (.invokestatic 111, 3) := by decide +kernel
theorem d_Model_noNode_17 : decode b_Model_noNode 17 = .ok (.ifCond .ne 10, 3) := by decide +kernel
theorem d_Model_noNode_20 : decode b_Model_noNode 20 = .ok (.aload_n 0, 1) := by decide +kernel
theorem d_Model_noNode_21 : decode b_Model_noNode 21 = .ok (.invokevirtual 160, 3) := by decide +kernel
theorem d_Model_noNode_24 : decode b_Model_noNode 24 = .ok (.ifCond .ne 7, 3) := by decide +kernel
theorem d_Model_noNode_27 : decode b_Model_noNode 27 = .ok (.iconst 1, 1) := by decide +kernel
theorem d_Model_noNode_28 : decode b_Model_noNode 28 = .ok (.goto 4, 3) := by decide +kernel
theorem d_Model_noNode_31 : decode b_Model_noNode 31 = .ok (.iconst 0, 1) := by decide +kernel
theorem d_Model_noNode_32 : decode b_Model_noNode 32 = .ok (.ireturn, 1) := by decide +kernel
theorem d_Model_work_0 : decode b_Model_work 0 = .ok (.aload_n 0, 1) := by decide +kernel
theorem d_Model_work_1 : decode b_Model_work 1 = .ok (.getfield 128, 3) := by decide +kernel
theorem d_Model_work_4 : decode b_Model_work 4 = .ok (.ifCond .ne 5, 3) := by decide +kernel
theorem d_Model_work_7 : decode b_Model_work 7 = .ok (.iconst 0, 1) := by decide +kernel
theorem d_Model_work_8 : decode b_Model_work 8 = .ok (.ireturn, 1) := by decide +kernel
theorem d_Model_work_9 : decode b_Model_work 9 = .ok (.aload_n 0, 1) := by decide +kernel
theorem d_Model_work_10 : decode b_Model_work 10 = .ok (.getfield 37, 3) := by decide +kernel
theorem d_Model_work_13 : decode b_Model_work 13 = .ok (.aload_n 0, 1) := by decide +kernel
theorem d_Model_work_14 : decode b_Model_work 14 = .ok (.getfield 128, 3) := by decide +kernel
theorem d_Model_work_17 : decode b_Model_work 17 = .ok (.iconst 1, 1) := by decide +kernel
theorem d_Model_work_18 : decode b_Model_work 18 = .ok (.isub, 1) := by decide +kernel
theorem d_Model_work_19 : decode b_Model_work 19 = .ok (.iaload, 1) := by decide +kernel
theorem d_Model_work_20 : decode b_Model_work 20 = .ok (.istore_n 1, 1) := by decide +kernel
theorem d_Model_work_21 : decode b_Model_work 21 = .ok (.iload_n 1, 1) := by decide +kernel
theorem d_Model_work_22 : decode b_Model_work 22 = .ok (.aload_n 0, 1) := by decide +kernel
theorem d_Model_work_23 : decode b_Model_work 23 = .ok (.getfield 131, 3) := by decide +kernel
theorem d_Model_work_26 : decode b_Model_work 26 = .ok (.if_icmp .ge 69, 3) := by decide +kernel
theorem d_Model_work_29 : decode b_Model_work 29 = .ok (.aload_n 0, 1) := by decide +kernel
theorem d_Model_work_30 : decode b_Model_work 30 = .ok (.iload_n 1, 1) := by decide +kernel
theorem d_Model_work_31 : decode b_Model_work 31 = .ok (.invokevirtual 134, 3) := by decide +kernel
theorem d_Model_work_34 : decode b_Model_work 34 = .ok (.aload_n 0, 1) := by decide +kernel
theorem d_Model_work_35 : decode b_Model_work 35 = .ok (.aload_n 0, 1) := by decide +kernel
theorem d_Model_work_36 : decode b_Model_work 36 = .ok (.getfield 25, 3) := by decide +kernel
theorem d_Model_work_39 : decode b_Model_work 39 = .ok (.iload_n 1, 1) := by decide +kernel
theorem d_Model_work_40 : decode b_Model_work 40 = .ok (.iaload, 1) := by decide +kernel
theorem d_Model_work_41 : decode b_Model_work 41 = .ok (.invokevirtual 138, 3) := by decide +kernel
theorem d_Model_work_44 : decode b_Model_work 44 = .ok (.iconst 0, 1) := by decide +kernel
theorem d_Model_work_45 : decode b_Model_work 45 = .ok (.istore_n 2, 1) := by decide +kernel
theorem d_Model_work_46 : decode b_Model_work 46 = .ok (.iload_n 2, 1) := by decide +kernel
theorem d_Model_work_47 : decode b_Model_work 47 = .ok (.iconst 4, 1) := by decide +kernel
theorem d_Model_work_48 : decode b_Model_work 48 = .ok (.if_icmp .ge 41, 3) := by decide +kernel
theorem d_Model_work_51 : decode b_Model_work 51 = .ok (.aload_n 0, 1) := by decide +kernel
theorem d_Model_work_52 : decode b_Model_work 52 = .ok (.getfield 40, 3) := by decide +kernel
theorem d_Model_work_55 : decode b_Model_work 55 = .ok (.iconst 4, 1) := by decide +kernel
theorem d_Model_work_56 : decode b_Model_work 56 = .ok (.iload_n 1, 1) := by decide +kernel
theorem d_Model_work_57 : decode b_Model_work 57 = .ok (.imul, 1) := by decide +kernel
theorem d_Model_work_58 : decode b_Model_work 58 = .ok (.iload_n 2, 1) := by decide +kernel
theorem d_Model_work_59 : decode b_Model_work 59 = .ok (.iadd, 1) := by decide +kernel
theorem d_Model_work_60 : decode b_Model_work 60 = .ok (.aload_n 0, 1) := by decide +kernel
theorem d_Model_work_61 : decode b_Model_work 61 = .ok (.getfield 53, 3) := by decide +kernel
theorem d_Model_work_64 : decode b_Model_work 64 = .ok (.iload_n 2, 1) := by decide +kernel
theorem d_Model_work_65 : decode b_Model_work 65 = .ok (.laload, 1) := by decide +kernel
theorem d_Model_work_66 : decode b_Model_work 66 = .ok (.lastore, 1) := by decide +kernel
theorem d_Model_work_67 : decode b_Model_work 67 = .ok (.aload_n 0, 1) := by decide +kernel
theorem d_Model_work_68 : decode b_Model_work 68 = .ok (.getfield 44, 3) := by decide +kernel
theorem d_Model_work_71 : decode b_Model_work 71 = .ok (.iconst 4, 1) := by decide +kernel
theorem d_Model_work_72 : decode b_Model_work 72 = .ok (.iload_n 1, 1) := by decide +kernel
theorem d_Model_work_73 : decode b_Model_work 73 = .ok (.imul, 1) := by decide +kernel
theorem d_Model_work_74 : decode b_Model_work 74 = .ok (.iload_n 2, 1) := by decide +kernel
theorem d_Model_work_75 : decode b_Model_work 75 = .ok (.iadd, 1) := by decide +kernel
theorem d_Model_work_76 : decode b_Model_work 76 = .ok (.aload_n 0, 1) := by decide +kernel
theorem d_Model_work_77 : decode b_Model_work 77 = .ok (.getfield 56, 3) := by decide +kernel
theorem d_Model_work_80 : decode b_Model_work 80 = .ok (.iload_n 2, 1) := by decide +kernel
theorem d_Model_work_81 : decode b_Model_work 81 = .ok (.iaload, 1) := by decide +kernel
theorem d_Model_work_82 : decode b_Model_work 82 = .ok (.iastore, 1) := by decide +kernel
theorem d_Model_work_83 : decode b_Model_work 83 = .ok (.iinc 2 1, 3) := by decide +kernel
theorem d_Model_work_86 : decode b_Model_work 86 = .ok (.goto (-40), 3) := by decide +kernel
theorem d_Model_work_89 : decode b_Model_work 89 = .ok (.iinc 1 1, 3) := by decide +kernel
theorem d_Model_work_92 : decode b_Model_work 92 = .ok (.goto (-71), 3) := by decide +kernel
theorem d_Model_work_95 : decode b_Model_work 95 = .ok (.iconst 1, 1) := by decide +kernel
theorem d_Model_work_96 : decode b_Model_work 96 = .ok (.ireturn, 1) := by decide +kernel
theorem d_Model_takeKids_0 : decode b_Model_takeKids 0 = .ok (.aload_n 0, 1) := by decide +kernel
theorem d_Model_takeKids_1 : decode b_Model_takeKids 1 = .ok (.getfield 25, 3) := by decide +kernel
theorem d_Model_takeKids_4 : decode b_Model_takeKids 4 = .ok (.iload_n 1, 1) := by decide +kernel
theorem d_Model_takeKids_5 : decode b_Model_takeKids 5 = .ok (.iaload, 1) := by decide +kernel
theorem d_Model_takeKids_6 : decode b_Model_takeKids 6 = .ok (.invokestatic 120, 3) := by decide +kernel
theorem d_Model_takeKids_9 : decode b_Model_takeKids 9 = .ok (.istore_n 2, 1) := by decide +kernel
theorem d_Model_takeKids_10 : decode b_Model_takeKids 10 = .ok (.iload_n 1, 1) := by decide +kernel
theorem d_Model_takeKids_11 : decode b_Model_takeKids 11 = .ok (.iconst 1, 1) := by decide +kernel
theorem d_Model_takeKids_12 : decode b_Model_takeKids 12 = .ok (.isub, 1) := by decide +kernel
theorem d_Model_takeKids_13 : decode b_Model_takeKids 13 = .ok (.iload_n 2, 1) := by decide +kernel
theorem d_Model_takeKids_14 : decode b_Model_takeKids 14 = .ok (.iconst 1, 1) := by decide +kernel
theorem d_Model_takeKids_15 : decode b_Model_takeKids 15 = .ok (.if_icmp .le 14, 3) := by decide +kernel
theorem d_Model_takeKids_18 : decode b_Model_takeKids 18 = .ok (.aload_n 0, 1) := by decide +kernel
theorem d_Model_takeKids_19 : decode b_Model_takeKids 19 = .ok (.getfield 31, 3) := by decide +kernel
theorem d_Model_takeKids_22 : decode b_Model_takeKids 22 = .ok (.iload_n 1, 1) := by decide +kernel
theorem d_Model_takeKids_23 : decode b_Model_takeKids 23 = .ok (.iconst 1, 1) := by decide +kernel
theorem d_Model_takeKids_24 : decode b_Model_takeKids 24 = .ok (.isub, 1) := by decide +kernel
theorem d_Model_takeKids_25 : decode b_Model_takeKids 25 = .ok (.iaload, 1) := by decide +kernel
theorem d_Model_takeKids_26 : decode b_Model_takeKids 26 = .ok (.goto 4, 3) := by decide +kernel
theorem d_Model_takeKids_29 : decode b_Model_takeKids 29 = .ok (.iconst 0, 1) := by decide +kernel
theorem d_Model_takeKids_30 : decode b_Model_takeKids 30 = .ok (.isub, 1) := by decide +kernel
theorem d_Model_takeKids_31 : decode b_Model_takeKids 31 = .ok (.istore_n 3, 1) := by decide +kernel
theorem d_Model_takeKids_32 : decode b_Model_takeKids 32 = .ok (.iconst 0, 1) := by decide +kernel
theorem d_Model_takeKids_33 : decode b_Model_takeKids 33 = .ok (.istore 4, 2) := by decide +kernel
theorem d_Model_takeKids_35 : decode b_Model_takeKids 35 = .ok (.iload 4, 2) := by decide +kernel
theorem d_Model_takeKids_37 : decode b_Model_takeKids 37 = .ok (.iconst 4, 1) := by decide +kernel
theorem d_Model_takeKids_38 : decode b_Model_takeKids 38 = .ok (.if_icmp .ge 68, 3) := by decide +kernel
theorem d_Model_takeKids_41 : decode b_Model_takeKids 41 = .ok (.aload_n 0, 1) := by decide +kernel
theorem d_Model_takeKids_42 : decode b_Model_takeKids 42 = .ok (.getfield 47, 3) := by decide +kernel
theorem d_Model_takeKids_45 : decode b_Model_takeKids 45 = .ok (.iload 4, 2) := by decide +kernel
theorem d_Model_takeKids_47 : decode b_Model_takeKids 47 = .ok (.iload_n 2, 1) := by decide +kernel
theorem d_Model_takeKids_48 : decode b_Model_takeKids 48 = .ok (.ifCond .ne 9, 3) := by decide +kernel
theorem d_Model_takeKids_51 : decode b_Model_takeKids 51 = .ok (.ldc2_w 118, 3) := by decide +kernel
theorem d_Model_takeKids_54 : decode b_Model_takeKids 54 = .ok (.goto 14, 3) := by decide +kernel
theorem d_Model_takeKids_57 : decode b_Model_takeKids 57 = .ok (.aload_n 0, 1) := by decide +kernel
theorem d_Model_takeKids_58 : decode b_Model_takeKids 58 = .ok (.getfield 40, 3) := by decide +kernel
theorem d_Model_takeKids_61 : decode b_Model_takeKids 61 = .ok (.iconst 4, 1) := by decide +kernel
theorem d_Model_takeKids_62 : decode b_Model_takeKids 62 = .ok (.iload_n 3, 1) := by decide +kernel
theorem d_Model_takeKids_63 : decode b_Model_takeKids 63 = .ok (.imul, 1) := by decide +kernel
theorem d_Model_takeKids_64 : decode b_Model_takeKids 64 = .ok (.iload 4, 2) := by decide +kernel
theorem d_Model_takeKids_66 : decode b_Model_takeKids 66 = .ok (.iadd, 1) := by decide +kernel
theorem d_Model_takeKids_67 : decode b_Model_takeKids 67 = .ok (.laload, 1) := by decide +kernel
theorem d_Model_takeKids_68 : decode b_Model_takeKids 68 = .ok (.lastore, 1) := by decide +kernel
theorem d_Model_takeKids_69 : decode b_Model_takeKids 69 = .ok (.aload_n 0, 1) := by decide +kernel
theorem d_Model_takeKids_70 : decode b_Model_takeKids 70 = .ok (.getfield 50, 3) := by decide +kernel
theorem d_Model_takeKids_73 : decode b_Model_takeKids 73 = .ok (.iload 4, 2) := by decide +kernel
theorem d_Model_takeKids_75 : decode b_Model_takeKids 75 = .ok (.iload_n 2, 1) := by decide +kernel
theorem d_Model_takeKids_76 : decode b_Model_takeKids 76 = .ok (.iconst 2, 1) := by decide +kernel
theorem d_Model_takeKids_77 : decode b_Model_takeKids 77 = .ok (.if_icmp .ge 9, 3) := by decide +kernel
theorem d_Model_takeKids_80 : decode b_Model_takeKids 80 = .ok (.ldc2_w 118, 3) := by decide +kernel
theorem d_Model_takeKids_83 : decode b_Model_takeKids 83 = .ok (.goto 16, 3) := by decide +kernel
theorem d_Model_takeKids_86 : decode b_Model_takeKids 86 = .ok (.aload_n 0, 1) := by decide +kernel
theorem d_Model_takeKids_87 : decode b_Model_takeKids 87 = .ok (.getfield 40, 3) := by decide +kernel
theorem d_Model_takeKids_90 : decode b_Model_takeKids 90 = .ok (.iconst 4, 1) := by decide +kernel
theorem d_Model_takeKids_91 : decode b_Model_takeKids 91 = .ok (.iload_n 1, 1) := by decide +kernel
theorem d_Model_takeKids_92 : decode b_Model_takeKids 92 = .ok (.iconst 1, 1) := by decide +kernel
theorem d_Model_takeKids_93 : decode b_Model_takeKids 93 = .ok (.isub, 1) := by decide +kernel
theorem d_Model_takeKids_94 : decode b_Model_takeKids 94 = .ok (.imul, 1) := by decide +kernel
theorem d_Model_takeKids_95 : decode b_Model_takeKids 95 = .ok (.iload 4, 2) := by decide +kernel
theorem d_Model_takeKids_97 : decode b_Model_takeKids 97 = .ok (.iadd, 1) := by decide +kernel
theorem d_Model_takeKids_98 : decode b_Model_takeKids 98 = .ok (.laload, 1) := by decide +kernel
theorem d_Model_takeKids_99 : decode b_Model_takeKids 99 = .ok (.lastore, 1) := by decide +kernel
theorem d_Model_takeKids_100 : decode b_Model_takeKids 100 = .ok (.iinc 4 1, 3) := by decide +kernel
theorem d_Model_takeKids_103 : decode b_Model_takeKids 103 = .ok (.goto (-68), 3) := by decide +kernel
theorem d_Model_takeKids_106 : decode b_Model_takeKids 106 = .ok (.return_, 1) := by decide +kernel
theorem d_Model_choice_0 : decode b_Model_choice 0 = .ok (.aload_n 0, 1) := by decide +kernel
theorem d_Model_choice_1 : decode b_Model_choice 1 = .ok (.iload_n 1, 1) := by decide +kernel
theorem d_Model_choice_2 : decode b_Model_choice 2 = .ok (.iload_n 2, 1) := by decide +kernel
theorem d_Model_choice_3 : decode b_Model_choice 3 = .ok (.invokevirtual 163, 3) := by decide +kernel
theorem d_Model_choice_6 : decode b_Model_choice 6 = .ok (.ifCond .eq 7, 3) := by decide +kernel
theorem d_Model_choice_9 : decode b_Model_choice 9 = .ok (.iconst (-1), 1) := by decide +kernel
theorem d_Model_choice_10 : decode b_Model_choice 10 = .ok (.goto 25, 3) := by decide +kernel
theorem d_Model_choice_13 : decode b_Model_choice 13 = .ok (.aload_n 0, 1) := by decide +kernel
theorem d_Model_choice_14 : decode b_Model_choice 14 = .ok (.getfield 44, 3) := by decide +kernel
theorem d_Model_choice_17 : decode b_Model_choice 17 = .ok (.iconst 4, 1) := by decide +kernel
theorem d_Model_choice_18 : decode b_Model_choice 18 = .ok (.aload_n 0, 1) := by decide +kernel
theorem d_Model_choice_19 : decode b_Model_choice 19 = .ok (.getfield 37, 3) := by decide +kernel
theorem d_Model_choice_22 : decode b_Model_choice 22 = .ok (.aload_n 0, 1) := by decide +kernel
theorem d_Model_choice_23 : decode b_Model_choice 23 = .ok (.getfield 128, 3) := by decide +kernel
theorem d_Model_choice_26 : decode b_Model_choice 26 = .ok (.iconst 1, 1) := by decide +kernel
theorem d_Model_choice_27 : decode b_Model_choice 27 = .ok (.isub, 1) := by decide +kernel
theorem d_Model_choice_28 : decode b_Model_choice 28 = .ok (.iaload, 1) := by decide +kernel
theorem d_Model_choice_29 : decode b_Model_choice 29 = .ok (.iload_n 1, 1) := by decide +kernel
theorem d_Model_choice_30 : decode b_Model_choice 30 = .ok (.iadd, 1) := by decide +kernel
theorem d_Model_choice_31 : decode b_Model_choice 31 = .ok (.imul, 1) := by decide +kernel
theorem d_Model_choice_32 : decode b_Model_choice 32 = .ok (.iload_n 2, 1) := by decide +kernel
theorem d_Model_choice_33 : decode b_Model_choice 33 = .ok (.iadd, 1) := by decide +kernel
theorem d_Model_choice_34 : decode b_Model_choice 34 = .ok (.iaload, 1) := by decide +kernel
theorem d_Model_choice_35 : decode b_Model_choice 35 = .ok (.ireturn, 1) := by decide +kernel
theorem d_Model_cost_0 : decode b_Model_cost 0 = .ok (.iload_n 1, 1) := by decide +kernel
theorem d_Model_cost_1 : decode b_Model_cost 1 = .ok (.iconst 3, 1) := by decide +kernel
theorem d_Model_cost_2 : decode b_Model_cost 2 = .ok (.invokestatic 111, 3) := by decide +kernel
theorem d_Model_cost_5 : decode b_Model_cost 5 = .ok (.ifCond .ne 10, 3) := by decide +kernel
theorem d_Model_cost_8 : decode b_Model_cost 8 = .ok (.aload_n 0, 1) := by decide +kernel
theorem d_Model_cost_9 : decode b_Model_cost 9 = .ok (.invokevirtual 160, 3) := by decide +kernel
theorem d_Model_cost_12 : decode b_Model_cost 12 = .ok (.ifCond .ne 5, 3) := by decide +kernel
theorem d_Model_cost_15 : decode b_Model_cost 15 = .ok (.iconst (-1), 1) := by decide +kernel
theorem d_Model_cost_16 : decode b_Model_cost 16 = .ok (.ireturn, 1) := by decide +kernel
theorem d_Model_cost_17 : decode b_Model_cost 17 = .ok (.aload_n 0, 1) := by decide +kernel
theorem d_Model_cost_18 : decode b_Model_cost 18 = .ok (.getfield 40, 3) := by decide +kernel
theorem d_Model_cost_21 : decode b_Model_cost 21 = .ok (.iconst 4, 1) := by decide +kernel
theorem d_Model_cost_22 : decode b_Model_cost 22 = .ok (.aload_n 0, 1) := by decide +kernel
theorem d_Model_cost_23 : decode b_Model_cost 23 = .ok (.getfield 131, 3) := by decide +kernel
theorem d_Model_cost_26 : decode b_Model_cost 26 = .ok (.iconst 1, 1) := by decide +kernel
theorem d_Model_cost_27 : decode b_Model_cost 27 = .ok (.isub, 1) := by decide +kernel
theorem d_Model_cost_28 : decode b_Model_cost 28 = .ok (.imul, 1) := by decide +kernel
theorem d_Model_cost_29 : decode b_Model_cost 29 = .ok (.iload_n 1, 1) := by decide +kernel
theorem d_Model_cost_30 : decode b_Model_cost 30 = .ok (.iadd, 1) := by decide +kernel
theorem d_Model_cost_31 : decode b_Model_cost 31 = .ok (.laload, 1) := by decide +kernel
theorem d_Model_cost_32 : decode b_Model_cost 32 = .ok (.lstore_n 2, 1) := by decide +kernel
theorem d_Model_cost_33 : decode b_Model_cost 33 = .ok (.lload_n 2, 1) := by decide +kernel
theorem d_Model_cost_34 : decode b_Model_cost 34 = .ok (.ldc2_w 118, 3) := by decide +kernel
theorem d_Model_cost_37 : decode b_Model_cost 37 = .ok (.lcmp, 1) := by decide +kernel
theorem d_Model_cost_38 : decode b_Model_cost 38 = .ok (.ifCond .ne 8, 3) := by decide +kernel
theorem d_Model_cost_41 : decode b_Model_cost 41 = .ok (.bipush (-3), 2) := by decide +kernel
theorem d_Model_cost_43 : decode b_Model_cost 43 = .ok (.goto 5, 3) := by decide +kernel
theorem d_Model_cost_46 : decode b_Model_cost 46 = .ok (.lload_n 2, 1) := by decide +kernel
theorem d_Model_cost_47 : decode b_Model_cost 47 = .ok (.l2i, 1) := by decide +kernel
theorem d_Model_cost_48 : decode b_Model_cost 48 = .ok (.ireturn, 1) := by decide +kernel
theorem d_Model_registers_0 : decode b_Model_registers 0 = .ok (.iload_n 1, 1) := by decide +kernel
theorem d_Model_registers_1 : decode b_Model_registers 1 = .ok (.iconst 1, 1) := by decide +kernel
theorem d_Model_registers_2 : decode b_Model_registers 2 = .ok (.if_icmp .lt 8, 3) := by decide +kernel
theorem d_Model_registers_5 : decode b_Model_registers 5 = .ok (.iload_n 1, 1) := by decide +kernel
theorem d_Model_registers_6 : decode b_Model_registers 6 = .ok (.iconst 4, 1) := by decide +kernel
theorem d_Model_registers_7 : decode b_Model_registers 7 = .ok (.if_icmp .le 5, 3) := by decide +kernel
theorem d_Model_registers_10 : decode b_Model_registers 10 = .ok (.iconst 0, 1) := by decide +kernel
theorem d_Model_registers_11 : decode b_Model_registers 11 = .ok (.ireturn, 1) := by decide +kernel
theorem d_Model_registers_12 : decode b_Model_registers 12 = .ok (.aload_n 0, 1) := by decide +kernel
theorem d_Model_registers_13 : decode b_Model_registers 13 = .ok (.iload_n 1, 1) := by decide +kernel
theorem d_Model_registers_14 : decode b_Model_registers 14 = .ok (.putfield 65, 3) := by decide +kernel
theorem d_Model_registers_17 : decode b_Model_registers 17 = .ok (.iconst 1, 1) := by decide +kernel
theorem d_Model_registers_18 : decode b_Model_registers 18 = .ok (.ireturn, 1) := by decide +kernel
theorem d_Model_cover_0 : decode b_Model_cover 0 = .ok (.aload_n 0, 1) := by decide +kernel
theorem d_Model_cover_1 : decode b_Model_cover 1 = .ok (.invokevirtual 160, 3) := by decide +kernel
theorem d_Model_cover_4 : decode b_Model_cover 4 = .ok (.ifCond .ne 5, 3) := by decide +kernel
theorem d_Model_cover_7 : decode b_Model_cover 7 = .ok (.iconst (-1), 1) := by decide +kernel
theorem d_Model_cover_8 : decode b_Model_cover 8 = .ok (.ireturn, 1) := by decide +kernel
theorem d_Model_cover_9 : decode b_Model_cover 9 = .ok (.aload_n 0, 1) := by decide +kernel
theorem d_Model_cover_10 : decode b_Model_cover 10 = .ok (.getfield 40, 3) := by decide +kernel
theorem d_Model_cover_13 : decode b_Model_cover 13 = .ok (.iconst 4, 1) := by decide +kernel
theorem d_Model_cover_14 : decode b_Model_cover 14 = .ok (.aload_n 0, 1) := by decide +kernel
theorem d_Model_cover_15 : decode b_Model_cover 15 = .ok (.getfield 131, 3) := by decide +kernel
theorem d_Model_cover_18 : decode b_Model_cover 18 = .ok (.iconst 1, 1) := by decide +kernel
theorem d_Model_cover_19 : decode b_Model_cover 19 = .ok (.isub, 1) := by decide +kernel
theorem d_Model_cover_20 : decode b_Model_cover 20 = .ok (.imul, 1) := by decide +kernel
theorem d_Model_cover_21 : decode b_Model_cover 21 = .ok (.laload, 1) := by decide +kernel
theorem d_Model_cover_22 : decode b_Model_cover 22 = .ok (.ldc2_w 118, 3) := by decide +kernel
theorem d_Model_cover_25 : decode b_Model_cover 25 = .ok (.lcmp, 1) := by decide +kernel
theorem d_Model_cover_26 : decode b_Model_cover 26 = .ok (.ifCond .ne 6, 3) := by decide +kernel
theorem d_Model_cover_29 : decode b_Model_cover 29 = .ok (.bipush (-3), 2) := by decide +kernel
theorem d_Model_cover_31 : decode b_Model_cover 31 = .ok (.ireturn, 1) := by decide +kernel
theorem d_Model_cover_32 : decode b_Model_cover 32 = .ok (.aload_n 0, 1) := by decide +kernel
theorem d_Model_cover_33 : decode b_Model_cover 33 = .ok (.getfield 37, 3) := by decide +kernel
theorem d_Model_cover_36 : decode b_Model_cover 36 = .ok (.aload_n 0, 1) := by decide +kernel
theorem d_Model_cover_37 : decode b_Model_cover 37 = .ok (.getfield 128, 3) := by decide +kernel
theorem d_Model_cover_40 : decode b_Model_cover 40 = .ok (.iconst 1, 1) := by decide +kernel
theorem d_Model_cover_41 : decode b_Model_cover 41 = .ok (.isub, 1) := by decide +kernel
theorem d_Model_cover_42 : decode b_Model_cover 42 = .ok (.iaload, 1) := by decide +kernel
theorem d_Model_cover_43 : decode b_Model_cover 43 = .ok (.istore_n 1, 1) := by decide +kernel
theorem d_Model_cover_44 : decode b_Model_cover 44 = .ok (.aload_n 0, 1) := by decide +kernel
theorem d_Model_cover_45 : decode b_Model_cover 45 = .ok (.iload_n 1, 1) := by decide +kernel
theorem d_Model_cover_46 : decode b_Model_cover 46 = .ok (.invokevirtual 179, 3) := by decide +kernel
theorem d_Model_cover_49 : decode b_Model_cover 49 = .ok (.aload_n 0, 1) := by decide +kernel
theorem d_Model_cover_50 : decode b_Model_cover 50 = .ok (.iconst 0, 1) := by decide +kernel
theorem d_Model_cover_51 : decode b_Model_cover 51 = .ok (.putfield 166, 3) := by decide +kernel
theorem d_Model_cover_54 : decode b_Model_cover 54 = .ok (.aload_n 0, 1) := by decide +kernel
theorem d_Model_cover_55 : decode b_Model_cover 55 = .ok (.iconst 0, 1) := by decide +kernel
theorem d_Model_cover_56 : decode b_Model_cover 56 = .ok (.putfield 176, 3) := by decide +kernel
theorem d_Model_cover_59 : decode b_Model_cover 59 = .ok (.iload_n 1, 1) := by decide +kernel
theorem d_Model_cover_60 : decode b_Model_cover 60 = .ok (.istore_n 2, 1) := by decide +kernel
theorem d_Model_cover_61 : decode b_Model_cover 61 = .ok (.iload_n 2, 1) := by decide +kernel
theorem d_Model_cover_62 : decode b_Model_cover 62 = .ok (.aload_n 0, 1) := by decide +kernel
theorem d_Model_cover_63 : decode b_Model_cover 63 = .ok (.getfield 131, 3) := by decide +kernel
theorem d_Model_cover_66 : decode b_Model_cover 66 = .ok (.if_icmp .ge 17, 3) := by decide +kernel
theorem d_Model_cover_69 : decode b_Model_cover 69 = .ok (.aload_n 0, 1) := by decide +kernel
theorem d_Model_cover_70 : decode b_Model_cover 70 = .ok (.iload_n 2, 1) := by decide +kernel
theorem d_Model_cover_71 : decode b_Model_cover 71 = .ok (.iload_n 2, 1) := by decide +kernel
theorem d_Model_cover_72 : decode b_Model_cover 72 = .ok (.iload_n 1, 1) := by decide +kernel
theorem d_Model_cover_73 : decode b_Model_cover 73 = .ok (.isub, 1) := by decide +kernel
theorem d_Model_cover_74 : decode b_Model_cover 74 = .ok (.invokevirtual 182, 3) := by decide +kernel
theorem d_Model_cover_77 : decode b_Model_cover 77 = .ok (.iinc 2 1, 3) := by decide +kernel
theorem d_Model_cover_80 : decode b_Model_cover 80 = .ok (.goto (-19), 3) := by decide +kernel
theorem d_Model_cover_83 : decode b_Model_cover 83 = .ok (.iconst 0, 1) := by decide +kernel
theorem d_Model_cover_84 : decode b_Model_cover 84 = .ok (.istore_n 2, 1) := by decide +kernel
theorem d_Model_cover_85 : decode b_Model_cover 85 = .ok (.iload_n 2, 1) := by decide +kernel
theorem d_Model_cover_86 : decode b_Model_cover 86 = .ok (.aload_n 0, 1) := by decide +kernel
theorem d_Model_cover_87 : decode b_Model_cover 87 = .ok (.getfield 166, 3) := by decide +kernel
theorem d_Model_cover_90 : decode b_Model_cover 90 = .ok (.if_icmp .ge 14, 3) := by decide +kernel
theorem d_Model_cover_93 : decode b_Model_cover 93 = .ok (.aload_n 0, 1) := by decide +kernel
theorem d_Model_cover_94 : decode b_Model_cover 94 = .ok (.iload_n 2, 1) := by decide +kernel
theorem d_Model_cover_95 : decode b_Model_cover 95 = .ok (.invokevirtual 186, 3) := by decide +kernel
theorem d_Model_cover_98 : decode b_Model_cover 98 = .ok (.iinc 2 1, 3) := by decide +kernel
theorem d_Model_cover_101 : decode b_Model_cover 101 = .ok (.goto (-16), 3) := by decide +kernel
theorem d_Model_cover_104 : decode b_Model_cover 104 = .ok (.aload_n 0, 1) := by decide +kernel
theorem d_Model_cover_105 : decode b_Model_cover 105 = .ok (.getfield 166, 3) := by decide +kernel
theorem d_Model_cover_108 : decode b_Model_cover 108 = .ok (.ireturn, 1) := by decide +kernel
theorem d_Model_want_0 : decode b_Model_want 0 = .ok (.aload_n 0, 1) := by decide +kernel
theorem d_Model_want_1 : decode b_Model_want 1 = .ok (.getfield 96, 3) := by decide +kernel
theorem d_Model_want_4 : decode b_Model_want 4 = .ok (.aload_n 0, 1) := by decide +kernel
theorem d_Model_want_5 : decode b_Model_want 5 = .ok (.getfield 131, 3) := by decide +kernel
theorem d_Model_want_8 : decode b_Model_want 8 = .ok (.iconst 1, 1) := by decide +kernel
theorem d_Model_want_9 : decode b_Model_want 9 = .ok (.isub, 1) := by decide +kernel
theorem d_Model_want_10 : decode b_Model_want 10 = .ok (.iconst 0, 1) := by decide +kernel
theorem d_Model_want_11 : decode b_Model_want 11 = .ok (.iastore, 1) := by decide +kernel
theorem d_Model_want_12 : decode b_Model_want 12 = .ok (.aload_n 0, 1) := by decide +kernel
theorem d_Model_want_13 : decode b_Model_want 13 = .ok (.getfield 131, 3) := by decide +kernel
theorem d_Model_want_16 : decode b_Model_want 16 = .ok (.iconst 1, 1) := by decide +kernel
theorem d_Model_want_17 : decode b_Model_want 17 = .ok (.isub, 1) := by decide +kernel
theorem d_Model_want_18 : decode b_Model_want 18 = .ok (.istore_n 2, 1) := by decide +kernel
theorem d_Model_want_19 : decode b_Model_want 19 = .ok (.iload_n 2, 1) := by decide +kernel
theorem d_Model_want_20 : decode b_Model_want 20 = .ok (.iload_n 1, 1) := by decide +kernel
theorem d_Model_want_21 : decode b_Model_want 21 = .ok (.if_icmp .lt 128, 3) := by decide +kernel
theorem d_Model_want_24 : decode b_Model_want 24 = .ok (.aload_n 0, 1) := by decide +kernel
theorem d_Model_want_25 : decode b_Model_want 25 = .ok (.getfield 44, 3) := by decide +kernel
theorem d_Model_want_28 : decode b_Model_want 28 = .ok (.iconst 4, 1) := by decide +kernel
theorem d_Model_want_29 : decode b_Model_want 29 = .ok (.iload_n 2, 1) := by decide +kernel
theorem d_Model_want_30 : decode b_Model_want 30 = .ok (.imul, 1) := by decide +kernel
theorem d_Model_want_31 : decode b_Model_want 31 = .ok (.aload_n 0, 1) := by decide +kernel
theorem d_Model_want_32 : decode b_Model_want 32 = .ok (.getfield 96, 3) := by decide +kernel
theorem d_Model_want_35 : decode b_Model_want 35 = .ok (.iload_n 2, 1) := by decide +kernel
theorem d_Model_want_36 : decode b_Model_want 36 = .ok (.iaload, 1) := by decide +kernel
theorem d_Model_want_37 : decode b_Model_want 37 = .ok (.iadd, 1) := by decide +kernel
theorem d_Model_want_38 : decode b_Model_want 38 = .ok (.iaload, 1) := by decide +kernel
theorem d_Model_want_39 : decode b_Model_want 39 = .ok (.istore_n 3, 1) := by decide +kernel
theorem d_Model_want_40 : decode b_Model_want 40 = .ok (.aload_n 0, 1) := by decide +kernel
theorem d_Model_want_41 : decode b_Model_want 41 = .ok (.getfield 13, 3) := by decide +kernel
theorem d_Model_want_44 : decode b_Model_want 44 = .ok (.iload_n 3, 1) := by decide +kernel
theorem d_Model_want_45 : decode b_Model_want 45 = .ok (.iaload, 1) := by decide +kernel
theorem d_Model_want_46 : decode b_Model_want 46 = .ok (.bipush 8, 2) := by decide +kernel
theorem d_Model_want_48 : decode b_Model_want 48 = .ok (.if_icmp .ne 22, 3) := by decide +kernel
theorem d_Model_want_51 : decode b_Model_want 51 = .ok (.aload_n 0, 1) := by decide +kernel
theorem d_Model_want_52 : decode b_Model_want 52 = .ok (.getfield 44, 3) := by decide +kernel
theorem d_Model_want_55 : decode b_Model_want 55 = .ok (.iconst 4, 1) := by decide +kernel
theorem d_Model_want_56 : decode b_Model_want 56 = .ok (.iload_n 2, 1) := by decide +kernel
theorem d_Model_want_57 : decode b_Model_want 57 = .ok (.imul, 1) := by decide +kernel
theorem d_Model_want_58 : decode b_Model_want 58 = .ok (.aload_n 0, 1) := by decide +kernel
theorem d_Model_want_59 : decode b_Model_want 59 = .ok (.getfield 16, 3) := by decide +kernel
theorem d_Model_want_62 : decode b_Model_want 62 = .ok (.iload_n 3, 1) := by decide +kernel
theorem d_Model_want_63 : decode b_Model_want 63 = .ok (.iaload, 1) := by decide +kernel
theorem d_Model_want_64 : decode b_Model_want 64 = .ok (.iadd, 1) := by decide +kernel
theorem d_Model_want_65 : decode b_Model_want 65 = .ok (.iaload, 1) := by decide +kernel
theorem d_Model_want_66 : decode b_Model_want 66 = .ok (.istore_n 3, 1) := by decide +kernel
theorem d_Model_want_67 : decode b_Model_want 67 = .ok (.goto (-27), 3) := by decide +kernel
theorem d_Model_want_70 : decode b_Model_want 70 = .ok (.aload_n 0, 1) := by decide +kernel
theorem d_Model_want_71 : decode b_Model_want 71 = .ok (.getfield 25, 3) := by decide +kernel
theorem d_Model_want_74 : decode b_Model_want 74 = .ok (.iload_n 2, 1) := by decide +kernel
theorem d_Model_want_75 : decode b_Model_want 75 = .ok (.iaload, 1) := by decide +kernel
theorem d_Model_want_76 : decode b_Model_want 76 = .ok (.invokestatic 120, 3) := by decide +kernel
theorem d_Model_want_79 : decode b_Model_want 79 = .ok (.istore 4, 2) := by decide +kernel
theorem d_Model_want_81 : decode b_Model_want 81 = .ok (.iload_n 2, 1) := by decide +kernel
theorem d_Model_want_82 : decode b_Model_want 82 = .ok (.iconst 1, 1) := by decide +kernel
theorem d_Model_want_83 : decode b_Model_want 83 = .ok (.isub, 1) := by decide +kernel
theorem d_Model_want_84 : decode b_Model_want 84 = .ok (.iload 4, 2) := by decide +kernel
theorem d_Model_want_86 : decode b_Model_want 86 = .ok (.iconst 1, 1) := by decide +kernel
theorem d_Model_want_87 : decode b_Model_want 87 = .ok (.if_icmp .le 14, 3) := by decide +kernel
theorem d_Model_want_90 : decode b_Model_want 90 = .ok (.aload_n 0, 1) := by decide +kernel
theorem d_Model_want_91 : decode b_Model_want 91 = .ok (.getfield 31, 3) := by decide +kernel
theorem d_Model_want_94 : decode b_Model_want 94 = .ok (.iload_n 2, 1) := by decide +kernel
theorem d_Model_want_95 : decode b_Model_want 95 = .ok (.iconst 1, 1) := by decide +kernel
theorem d_Model_want_96 : decode b_Model_want 96 = .ok (.isub, 1) := by decide +kernel
theorem d_Model_want_97 : decode b_Model_want 97 = .ok (.iaload, 1) := by decide +kernel
theorem d_Model_want_98 : decode b_Model_want 98 = .ok (.goto 4, 3) := by decide +kernel
theorem d_Model_want_101 : decode b_Model_want 101 = .ok (.iconst 0, 1) := by decide +kernel
theorem d_Model_want_102 : decode b_Model_want 102 = .ok (.isub, 1) := by decide +kernel
theorem d_Model_want_103 : decode b_Model_want 103 = .ok (.istore 5, 2) := by decide +kernel
theorem d_Model_want_105 : decode b_Model_want 105 = .ok (.iload 4, 2) := by decide +kernel
theorem d_Model_want_107 : decode b_Model_want 107 = .ok (.ifCond .le 16, 3) := by decide +kernel
theorem d_Model_want_110 : decode b_Model_want 110 = .ok (.aload_n 0, 1) := by decide +kernel
theorem d_Model_want_111 : decode b_Model_want 111 = .ok (.getfield 96, 3) := by decide +kernel
theorem d_Model_want_114 : decode b_Model_want 114 = .ok (.iload 5, 2) := by decide +kernel
theorem d_Model_want_116 : decode b_Model_want 116 = .ok (.aload_n 0, 1) := by decide +kernel
theorem d_Model_want_117 : decode b_Model_want 117 = .ok (.getfield 16, 3) := by decide +kernel
theorem d_Model_want_120 : decode b_Model_want 120 = .ok (.iload_n 3, 1) := by decide +kernel
theorem d_Model_want_121 : decode b_Model_want 121 = .ok (.iaload, 1) := by decide +kernel
theorem d_Model_want_122 : decode b_Model_want 122 = .ok (.iastore, 1) := by decide +kernel
theorem d_Model_want_123 : decode b_Model_want 123 = .ok (.iload 4, 2) := by decide +kernel
theorem d_Model_want_125 : decode b_Model_want 125 = .ok (.iconst 1, 1) := by decide +kernel
theorem d_Model_want_126 : decode b_Model_want 126 = .ok (.if_icmp .le 17, 3) := by decide +kernel
theorem d_Model_want_129 : decode b_Model_want 129 = .ok (.aload_n 0, 1) := by decide +kernel
theorem d_Model_want_130 : decode b_Model_want 130 = .ok (.getfield 96, 3) := by decide +kernel
theorem d_Model_want_133 : decode b_Model_want 133 = .ok (.iload_n 2, 1) := by decide +kernel
theorem d_Model_want_134 : decode b_Model_want 134 = .ok (.iconst 1, 1) := by decide +kernel
theorem d_Model_want_135 : decode b_Model_want 135 = .ok (.isub, 1) := by decide +kernel
theorem d_Model_want_136 : decode b_Model_want 136 = .ok (.aload_n 0, 1) := by decide +kernel
theorem d_Model_want_137 : decode b_Model_want 137 = .ok (.getfield 19, 3) := by decide +kernel
theorem d_Model_want_140 : decode b_Model_want 140 = .ok (.iload_n 3, 1) := by decide +kernel
theorem d_Model_want_141 : decode b_Model_want 141 = .ok (.iaload, 1) := by decide +kernel
theorem d_Model_want_142 : decode b_Model_want 142 = .ok (.iastore, 1) := by decide +kernel
theorem d_Model_want_143 : decode b_Model_want 143 = .ok (.iinc 2 (-1), 3) := by decide +kernel
theorem d_Model_want_146 : decode b_Model_want 146 = .ok (.goto (-127), 3) := by decide +kernel
theorem d_Model_want_149 : decode b_Model_want 149 = .ok (.return_, 1) := by decide +kernel
theorem d_Model_emit_0 : decode b_Model_emit 0 = .ok (.iconst 0, 1) := by decide +kernel
theorem d_Model_emit_1 : decode b_Model_emit 1 = .ok (.istore_n 3, 1) := by decide +kernel
theorem d_Model_emit_2 : decode b_Model_emit 2 = .ok (.aload_n 0, 1) := by decide +kernel
theorem d_Model_emit_3 : decode b_Model_emit 3 = .ok (.getfield 44, 3) := by decide +kernel
theorem d_Model_emit_6 : decode b_Model_emit 6 = .ok (.iconst 4, 1) := by decide +kernel
theorem d_Model_emit_7 : decode b_Model_emit 7 = .ok (.iload_n 1, 1) := by decide +kernel
theorem d_Model_emit_8 : decode b_Model_emit 8 = .ok (.imul, 1) := by decide +kernel
theorem d_Model_emit_9 : decode b_Model_emit 9 = .ok (.aload_n 0, 1) := by decide +kernel
theorem d_Model_emit_10 : decode b_Model_emit 10 = .ok (.getfield 96, 3) := by decide +kernel
theorem d_Model_emit_13 : decode b_Model_emit 13 = .ok (.iload_n 1, 1) := by decide +kernel
theorem d_Model_emit_14 : decode b_Model_emit 14 = .ok (.iaload, 1) := by decide +kernel
theorem d_Model_emit_15 : decode b_Model_emit 15 = .ok (.iadd, 1) := by decide +kernel
theorem d_Model_emit_16 : decode b_Model_emit 16 = .ok (.iaload, 1) := by decide +kernel
theorem d_Model_emit_17 : decode b_Model_emit 17 = .ok (.istore 4, 2) := by decide +kernel
theorem d_Model_emit_19 : decode b_Model_emit 19 = .ok (.aload_n 0, 1) := by decide +kernel
theorem d_Model_emit_20 : decode b_Model_emit 20 = .ok (.getfield 13, 3) := by decide +kernel
theorem d_Model_emit_23 : decode b_Model_emit 23 = .ok (.iload 4, 2) := by decide +kernel
theorem d_Model_emit_25 : decode b_Model_emit 25 = .ok (.iaload, 1) := by decide +kernel
theorem d_Model_emit_26 : decode b_Model_emit 26 = .ok (.bipush 8, 2) := by decide +kernel
theorem d_Model_emit_28 : decode b_Model_emit 28 = .ok (.if_icmp .ne 35, 3) := by decide +kernel
theorem d_Model_emit_31 : decode b_Model_emit 31 = .ok (.aload_n 0, 1) := by decide +kernel
theorem d_Model_emit_32 : decode b_Model_emit 32 = .ok (.getfield 102, 3) := by decide +kernel
theorem d_Model_emit_35 : decode b_Model_emit 35 = .ok (.iload_n 3, 1) := by decide +kernel
theorem d_Model_emit_36 : decode b_Model_emit 36 = .ok (.iload 4, 2) := by decide +kernel
theorem d_Model_emit_38 : decode b_Model_emit 38 = .ok (.iastore, 1) := by decide +kernel
theorem d_Model_emit_39 : decode b_Model_emit 39 = .ok (.iinc 3 1, 3) := by decide +kernel
theorem d_Model_emit_42 : decode b_Model_emit 42 = .ok (.aload_n 0, 1) := by decide +kernel
theorem d_Model_emit_43 : decode b_Model_emit 43 = .ok (.getfield 44, 3) := by decide +kernel
theorem d_Model_emit_46 : decode b_Model_emit 46 = .ok (.iconst 4, 1) := by decide +kernel
theorem d_Model_emit_47 : decode b_Model_emit 47 = .ok (.iload_n 1, 1) := by decide +kernel
theorem d_Model_emit_48 : decode b_Model_emit 48 = .ok (.imul, 1) := by decide +kernel
theorem d_Model_emit_49 : decode b_Model_emit 49 = .ok (.aload_n 0, 1) := by decide +kernel
theorem d_Model_emit_50 : decode b_Model_emit 50 = .ok (.getfield 16, 3) := by decide +kernel
theorem d_Model_emit_53 : decode b_Model_emit 53 = .ok (.iload 4, 2) := by decide +kernel
theorem d_Model_emit_55 : decode b_Model_emit 55 = .ok (.iaload, 1) := by decide +kernel
theorem d_Model_emit_56 : decode b_Model_emit 56 = .ok (.iadd, 1) := by decide +kernel
theorem d_Model_emit_57 : decode b_Model_emit 57 = .ok (.iaload, 1) := by decide +kernel
theorem d_Model_emit_58 : decode b_Model_emit 58 = .ok (.istore 4, 2) := by decide +kernel
theorem d_Model_emit_60 : decode b_Model_emit 60 = .ok (.goto (-41), 3) := by decide +kernel
theorem d_Model_emit_63 : decode b_Model_emit 63 = .ok (.aload_n 0, 1) := by decide +kernel
theorem d_Model_emit_64 : decode b_Model_emit 64 = .ok (.getfield 25, 3) := by decide +kernel
theorem d_Model_emit_67 : decode b_Model_emit 67 = .ok (.iload_n 1, 1) := by decide +kernel
theorem d_Model_emit_68 : decode b_Model_emit 68 = .ok (.iaload, 1) := by decide +kernel
theorem d_Model_emit_69 : decode b_Model_emit 69 = .ok (.invokestatic 120, 3) := by decide +kernel
theorem d_Model_emit_72 : decode b_Model_emit 72 = .ok (.istore 5, 2) := by decide +kernel
theorem d_Model_emit_74 : decode b_Model_emit 74 = .ok (.iload_n 1, 1) := by decide +kernel
theorem d_Model_emit_75 : decode b_Model_emit 75 = .ok (.iconst 1, 1) := by decide +kernel
theorem d_Model_emit_76 : decode b_Model_emit 76 = .ok (.isub, 1) := by decide +kernel
theorem d_Model_emit_77 : decode b_Model_emit 77 = .ok (.iload 5, 2) := by decide +kernel
theorem d_Model_emit_79 : decode b_Model_emit 79 = .ok (.iconst 1, 1) := by decide +kernel
theorem d_Model_emit_80 : decode b_Model_emit 80 = .ok (.if_icmp .le 14, 3) := by decide +kernel
theorem d_Model_emit_83 : decode b_Model_emit 83 = .ok (.aload_n 0, 1) := by decide +kernel
theorem d_Model_emit_84 : decode b_Model_emit 84 = .ok (.getfield 31, 3) := by decide +kernel
theorem d_Model_emit_87 : decode b_Model_emit 87 = .ok (.iload_n 1, 1) := by decide +kernel
theorem d_Model_emit_88 : decode b_Model_emit 88 = .ok (.iconst 1, 1) := by decide +kernel
theorem d_Model_emit_89 : decode b_Model_emit 89 = .ok (.isub, 1) := by decide +kernel
theorem d_Model_emit_90 : decode b_Model_emit 90 = .ok (.iaload, 1) := by decide +kernel
theorem d_Model_emit_91 : decode b_Model_emit 91 = .ok (.goto 4, 3) := by decide +kernel
theorem d_Model_emit_94 : decode b_Model_emit 94 = .ok (.iconst 0, 1) := by decide +kernel
theorem d_Model_emit_95 : decode b_Model_emit 95 = .ok (.isub, 1) := by decide +kernel
theorem d_Model_emit_96 : decode b_Model_emit 96 = .ok (.istore 6, 2) := by decide +kernel
theorem d_Model_emit_98 : decode b_Model_emit 98 = .ok (.aload_n 0, 1) := by decide +kernel
theorem d_Model_emit_99 : decode b_Model_emit 99 = .ok (.getfield 78, 3) := by decide +kernel
theorem d_Model_emit_102 : decode b_Model_emit 102 = .ok (.aload_n 0, 1) := by decide +kernel
theorem d_Model_emit_103 : decode b_Model_emit 103 = .ok (.getfield 166, 3) := by decide +kernel
theorem d_Model_emit_106 : decode b_Model_emit 106 = .ok (.aload_n 0, 1) := by decide +kernel
theorem d_Model_emit_107 : decode b_Model_emit 107 = .ok (.getfield 28, 3) := by decide +kernel
theorem d_Model_emit_110 : decode b_Model_emit 110 = .ok (.iload_n 1, 1) := by decide +kernel
theorem d_Model_emit_111 : decode b_Model_emit 111 = .ok (.iaload, 1) := by decide +kernel
theorem d_Model_emit_112 : decode b_Model_emit 112 = .ok (.iastore, 1) := by decide +kernel
theorem d_Model_emit_113 : decode b_Model_emit 113 = .ok (.aload_n 0, 1) := by decide +kernel
theorem d_Model_emit_114 : decode b_Model_emit 114 = .ok (.iload 4, 2) := by decide +kernel
theorem d_Model_emit_116 : decode b_Model_emit 116 = .ok (.iload_n 2, 1) := by decide +kernel
theorem d_Model_emit_117 : decode b_Model_emit 117 = .ok (.aload_n 0, 1) := by decide +kernel
theorem d_Model_emit_118 : decode b_Model_emit 118 = .ok (.getfield 25, 3) := by decide +kernel
theorem d_Model_emit_121 : decode b_Model_emit 121 = .ok (.iload_n 1, 1) := by decide +kernel
theorem d_Model_emit_122 : decode b_Model_emit 122 = .ok (.iaload, 1) := by decide +kernel
theorem d_Model_emit_123 : decode b_Model_emit 123 = .ok (.iload 5, 2) := by decide +kernel
theorem d_Model_emit_125 : decode b_Model_emit 125 = .ok (.ifCond .le 13, 3) := by decide +kernel
theorem d_Model_emit_128 : decode b_Model_emit 128 = .ok (.aload_n 0, 1) := by decide +kernel
theorem d_Model_emit_129 : decode b_Model_emit 129 = .ok (.getfield 99, 3) := by decide +kernel
theorem d_Model_emit_132 : decode b_Model_emit 132 = .ok (.iload 6, 2) := by decide +kernel
theorem d_Model_emit_134 : decode b_Model_emit 134 = .ok (.iaload, 1) := by decide +kernel
theorem d_Model_emit_135 : decode b_Model_emit 135 = .ok (.goto 5, 3) := by decide +kernel
theorem d_Model_emit_138 : decode b_Model_emit 138 = .ok (.bipush (-3), 2) := by decide +kernel
theorem d_Model_emit_140 : decode b_Model_emit 140 = .ok (.iload 5, 2) := by decide +kernel
theorem d_Model_emit_142 : decode b_Model_emit 142 = .ok (.iconst 1, 1) := by decide +kernel
theorem d_Model_emit_143 : decode b_Model_emit 143 = .ok (.if_icmp .le 14, 3) := by decide +kernel
theorem d_Model_emit_146 : decode b_Model_emit 146 = .ok (.aload_n 0, 1) := by decide +kernel
theorem d_Model_emit_147 : decode b_Model_emit 147 = .ok (.getfield 99, 3) := by decide +kernel
theorem d_Model_emit_150 : decode b_Model_emit 150 = .ok (.iload_n 1, 1) := by decide +kernel
theorem d_Model_emit_151 : decode b_Model_emit 151 = .ok (.iconst 1, 1) := by decide +kernel
theorem d_Model_emit_152 : decode b_Model_emit 152 = .ok (.isub, 1) := by decide +kernel
theorem d_Model_emit_153 : decode b_Model_emit 153 = .ok (.iaload, 1) := by decide +kernel
theorem d_Model_emit_154 : decode b_Model_emit 154 = .ok (.goto 5, 3) := by decide +kernel
theorem d_Model_emit_157 : decode b_Model_emit 157 = .ok (.bipush (-3), 2) := by decide +kernel
theorem d_Model_emit_159 : decode b_Model_emit 159 = .ok (.invokevirtual 169, 3) := by decide +kernel
theorem d_Model_emit_162 : decode b_Model_emit 162 = .ok (.iload_n 3, 1) := by decide +kernel
theorem d_Model_emit_163 : decode b_Model_emit 163 = .ok (.iconst 1, 1) := by decide +kernel
theorem d_Model_emit_164 : decode b_Model_emit 164 = .ok (.isub, 1) := by decide +kernel
theorem d_Model_emit_165 : decode b_Model_emit 165 = .ok (.istore 7, 2) := by decide +kernel
theorem d_Model_emit_167 : decode b_Model_emit 167 = .ok (.iload 7, 2) := by decide +kernel
theorem d_Model_emit_169 : decode b_Model_emit 169 = .ok (.ifCond .lt 41, 3) := by decide +kernel
theorem d_Model_emit_172 : decode b_Model_emit 172 = .ok (.aload_n 0, 1) := by decide +kernel
theorem d_Model_emit_173 : decode b_Model_emit 173 = .ok (.getfield 78, 3) := by decide +kernel
theorem d_Model_emit_176 : decode b_Model_emit 176 = .ok (.aload_n 0, 1) := by decide +kernel
theorem d_Model_emit_177 : decode b_Model_emit 177 = .ok (.getfield 166, 3) := by decide +kernel
theorem d_Model_emit_180 : decode b_Model_emit 180 = .ok (.iconst 0, 1) := by decide +kernel
theorem d_Model_emit_181 : decode b_Model_emit 181 = .ok (.iastore, 1) := by decide +kernel
theorem d_Model_emit_182 : decode b_Model_emit 182 = .ok (.aload_n 0, 1) := by decide +kernel
theorem d_Model_emit_183 : decode b_Model_emit 183 = .ok (.aload_n 0, 1) := by decide +kernel
theorem d_Model_emit_184 : decode b_Model_emit 184 = .ok (.getfield 102, 3) := by decide +kernel
theorem d_Model_emit_187 : decode b_Model_emit 187 = .ok (.iload 7, 2) := by decide +kernel
theorem d_Model_emit_189 : decode b_Model_emit 189 = .ok (.iaload, 1) := by decide +kernel
theorem d_Model_emit_190 : decode b_Model_emit 190 = .ok (.iload_n 2, 1) := by decide +kernel
theorem d_Model_emit_191 : decode b_Model_emit 191 = .ok (.bipush 8, 2) := by decide +kernel
theorem d_Model_emit_193 : decode b_Model_emit 193 = .ok (.aload_n 0, 1) := by decide +kernel
theorem d_Model_emit_194 : decode b_Model_emit 194 = .ok (.getfield 166, 3) := by decide +kernel
theorem d_Model_emit_197 : decode b_Model_emit 197 = .ok (.iconst 1, 1) := by decide +kernel
theorem d_Model_emit_198 : decode b_Model_emit 198 = .ok (.isub, 1) := by decide +kernel
theorem d_Model_emit_199 : decode b_Model_emit 199 = .ok (.bipush (-3), 2) := by decide +kernel
theorem d_Model_emit_201 : decode b_Model_emit 201 = .ok (.invokevirtual 169, 3) := by decide +kernel
theorem d_Model_emit_204 : decode b_Model_emit 204 = .ok (.iinc 7 (-1), 3) := by decide +kernel
theorem d_Model_emit_207 : decode b_Model_emit 207 = .ok (.goto (-40), 3) := by decide +kernel
theorem d_Model_emit_210 : decode b_Model_emit 210 = .ok (.aload_n 0, 1) := by decide +kernel
theorem d_Model_emit_211 : decode b_Model_emit 211 = .ok (.getfield 99, 3) := by decide +kernel
theorem d_Model_emit_214 : decode b_Model_emit 214 = .ok (.iload_n 1, 1) := by decide +kernel
theorem d_Model_emit_215 : decode b_Model_emit 215 = .ok (.aload_n 0, 1) := by decide +kernel
theorem d_Model_emit_216 : decode b_Model_emit 216 = .ok (.getfield 166, 3) := by decide +kernel
theorem d_Model_emit_219 : decode b_Model_emit 219 = .ok (.iconst 1, 1) := by decide +kernel
theorem d_Model_emit_220 : decode b_Model_emit 220 = .ok (.isub, 1) := by decide +kernel
theorem d_Model_emit_221 : decode b_Model_emit 221 = .ok (.iastore, 1) := by decide +kernel
theorem d_Model_emit_222 : decode b_Model_emit 222 = .ok (.return_, 1) := by decide +kernel
theorem d_Model_write_0 : decode b_Model_write 0 = .ok (.aload_n 0, 1) := by decide +kernel
theorem d_Model_write_1 : decode b_Model_write 1 = .ok (.getfield 69, 3) := by decide +kernel
theorem d_Model_write_4 : decode b_Model_write 4 = .ok (.aload_n 0, 1) := by decide +kernel
theorem d_Model_write_5 : decode b_Model_write 5 = .ok (.getfield 166, 3) := by decide +kernel
theorem d_Model_write_8 : decode b_Model_write 8 = .ok (.iload_n 1, 1) := by decide +kernel
theorem d_Model_write_9 : decode b_Model_write 9 = .ok (.iastore, 1) := by decide +kernel
theorem d_Model_write_10 : decode b_Model_write 10 = .ok (.aload_n 0, 1) := by decide +kernel
theorem d_Model_write_11 : decode b_Model_write 11 = .ok (.getfield 72, 3) := by decide +kernel
theorem d_Model_write_14 : decode b_Model_write 14 = .ok (.aload_n 0, 1) := by decide +kernel
theorem d_Model_write_15 : decode b_Model_write 15 = .ok (.getfield 166, 3) := by decide +kernel
theorem d_Model_write_18 : decode b_Model_write 18 = .ok (.iload_n 2, 1) := by decide +kernel
theorem d_Model_write_19 : decode b_Model_write 19 = .ok (.iastore, 1) := by decide +kernel
theorem d_Model_write_20 : decode b_Model_write 20 = .ok (.aload_n 0, 1) := by decide +kernel
theorem d_Model_write_21 : decode b_Model_write 21 = .ok (.getfield 75, 3) := by decide +kernel
theorem d_Model_write_24 : decode b_Model_write 24 = .ok (.aload_n 0, 1) := by decide +kernel
theorem d_Model_write_25 : decode b_Model_write 25 = .ok (.getfield 166, 3) := by decide +kernel
theorem d_Model_write_28 : decode b_Model_write 28 = .ok (.iload_n 3, 1) := by decide +kernel
theorem d_Model_write_29 : decode b_Model_write 29 = .ok (.iastore, 1) := by decide +kernel
theorem d_Model_write_30 : decode b_Model_write 30 = .ok (.aload_n 0, 1) := by decide +kernel
theorem d_Model_write_31 : decode b_Model_write 31 = .ok (.getfield 81, 3) := by decide +kernel
theorem d_Model_write_34 : decode b_Model_write 34 = .ok (.aload_n 0, 1) := by decide +kernel
theorem d_Model_write_35 : decode b_Model_write 35 = .ok (.getfield 166, 3) := by decide +kernel
theorem d_Model_write_38 : decode b_Model_write 38 = .ok (.iload 4, 2) := by decide +kernel
theorem d_Model_write_40 : decode b_Model_write 40 = .ok (.iastore, 1) := by decide +kernel
theorem d_Model_write_41 : decode b_Model_write 41 = .ok (.aload_n 0, 1) := by decide +kernel
theorem d_Model_write_42 : decode b_Model_write 42 = .ok (.getfield 84, 3) := by decide +kernel
theorem d_Model_write_45 : decode b_Model_write 45 = .ok (.aload_n 0, 1) := by decide +kernel
theorem d_Model_write_46 : decode b_Model_write 46 = .ok (.getfield 166, 3) := by decide +kernel
theorem d_Model_write_49 : decode b_Model_write 49 = .ok (.iload 5, 2) := by decide +kernel
theorem d_Model_write_51 : decode b_Model_write 51 = .ok (.iastore, 1) := by decide +kernel
theorem d_Model_write_52 : decode b_Model_write 52 = .ok (.aload_n 0, 1) := by decide +kernel
theorem d_Model_write_53 : decode b_Model_write 53 = .ok (.getfield 87, 3) := by decide +kernel
theorem d_Model_write_56 : decode b_Model_write 56 = .ok (.aload_n 0, 1) := by decide +kernel
theorem d_Model_write_57 : decode b_Model_write 57 = .ok (.getfield 166, 3) := by decide +kernel
theorem d_Model_write_60 : decode b_Model_write 60 = .ok (.aload_n 0, 1) := by decide +kernel
theorem d_Model_write_61 : decode b_Model_write 61 = .ok (.getfield 166, 3) := by decide +kernel
theorem d_Model_write_64 : decode b_Model_write 64 = .ok (.iastore, 1) := by decide +kernel
theorem d_Model_write_65 : decode b_Model_write 65 = .ok (.iload 4, 2) := by decide +kernel
theorem d_Model_write_67 : decode b_Model_write 67 = .ok (.ifCond .lt 14, 3) := by decide +kernel
theorem d_Model_write_70 : decode b_Model_write 70 = .ok (.aload_n 0, 1) := by decide +kernel
theorem d_Model_write_71 : decode b_Model_write 71 = .ok (.getfield 87, 3) := by decide +kernel
theorem d_Model_write_74 : decode b_Model_write 74 = .ok (.iload 4, 2) := by decide +kernel
theorem d_Model_write_76 : decode b_Model_write 76 = .ok (.aload_n 0, 1) := by decide +kernel
theorem d_Model_write_77 : decode b_Model_write 77 = .ok (.getfield 166, 3) := by decide +kernel
theorem d_Model_write_80 : decode b_Model_write 80 = .ok (.iastore, 1) := by decide +kernel
theorem d_Model_write_81 : decode b_Model_write 81 = .ok (.iload 5, 2) := by decide +kernel
theorem d_Model_write_83 : decode b_Model_write 83 = .ok (.ifCond .lt 14, 3) := by decide +kernel
theorem d_Model_write_86 : decode b_Model_write 86 = .ok (.aload_n 0, 1) := by decide +kernel
theorem d_Model_write_87 : decode b_Model_write 87 = .ok (.getfield 87, 3) := by decide +kernel
theorem d_Model_write_90 : decode b_Model_write 90 = .ok (.iload 5, 2) := by decide +kernel
theorem d_Model_write_92 : decode b_Model_write 92 = .ok (.aload_n 0, 1) := by decide +kernel
theorem d_Model_write_93 : decode b_Model_write 93 = .ok (.getfield 166, 3) := by decide +kernel
theorem d_Model_write_96 : decode b_Model_write 96 = .ok (.iastore, 1) := by decide +kernel
theorem d_Model_write_97 : decode b_Model_write 97 = .ok (.aload_n 0, 1) := by decide +kernel
theorem d_Model_write_98 : decode b_Model_write 98 = .ok (.dup, 1) := by decide +kernel
theorem d_Model_write_99 : decode b_Model_write 99 = .ok (.getfield 166, 3) := by decide +kernel
theorem d_Model_write_102 : decode b_Model_write 102 = .ok (.iconst 1, 1) := by decide +kernel
theorem d_Model_write_103 : decode b_Model_write 103 = .ok (.iadd, 1) := by decide +kernel
theorem d_Model_write_104 : decode b_Model_write 104 = .ok (.putfield 166, 3) := by decide +kernel
theorem d_Model_write_107 : decode b_Model_write 107 = .ok (.return_, 1) := by decide +kernel
theorem d_Model_settle_0 : decode b_Model_settle 0 = .ok (.iconst 0, 1) := by decide +kernel
theorem d_Model_settle_1 : decode b_Model_settle 1 = .ok (.istore_n 2, 1) := by decide +kernel
theorem d_Model_settle_2 : decode b_Model_settle 2 = .ok (.iload_n 2, 1) := by decide +kernel
theorem d_Model_settle_3 : decode b_Model_settle 3 = .ok (.aload_n 0, 1) := by decide +kernel
theorem d_Model_settle_4 : decode b_Model_settle 4 = .ok (.getfield 65, 3) := by decide +kernel
theorem d_Model_settle_7 : decode b_Model_settle 7 = .ok (.if_icmp .ge 69, 3) := by decide +kernel
theorem d_Model_settle_10 : decode b_Model_settle 10 = .ok (.iconst 1, 1) := by decide +kernel
theorem d_Model_settle_11 : decode b_Model_settle 11 = .ok (.istore_n 3, 1) := by decide +kernel
theorem d_Model_settle_12 : decode b_Model_settle 12 = .ok (.iconst 0, 1) := by decide +kernel
theorem d_Model_settle_13 : decode b_Model_settle 13 = .ok (.istore 4, 2) := by decide +kernel
theorem d_Model_settle_15 : decode b_Model_settle 15 = .ok (.iload 4, 2) := by decide +kernel
theorem d_Model_settle_17 : decode b_Model_settle 17 = .ok (.iload_n 1, 1) := by decide +kernel
theorem d_Model_settle_18 : decode b_Model_settle 18 = .ok (.if_icmp .ge 40, 3) := by decide +kernel
theorem d_Model_settle_21 : decode b_Model_settle 21 = .ok (.iload_n 3, 1) := by decide +kernel
theorem d_Model_settle_22 : decode b_Model_settle 22 = .ok (.ifCond .eq 28, 3) := by decide +kernel
theorem d_Model_settle_25 : decode b_Model_settle 25 = .ok (.aload_n 0, 1) := by decide +kernel
theorem d_Model_settle_26 : decode b_Model_settle 26 = .ok (.iload 4, 2) := by decide +kernel
theorem d_Model_settle_28 : decode b_Model_settle 28 = .ok (.iload_n 1, 1) := by decide +kernel
theorem d_Model_settle_29 : decode b_Model_settle 29 = .ok (.invokevirtual 173, 3) := by decide +kernel
theorem d_Model_settle_32 : decode b_Model_settle 32 = .ok (.ifCond .eq 14, 3) := by decide +kernel
theorem d_Model_settle_35 : decode b_Model_settle 35 = .ok (.aload_n 0, 1) := by decide +kernel
theorem d_Model_settle_36 : decode b_Model_settle 36 = .ok (.getfield 90, 3) := by decide +kernel
theorem d_Model_settle_39 : decode b_Model_settle 39 = .ok (.iload 4, 2) := by decide +kernel
theorem d_Model_settle_41 : decode b_Model_settle 41 = .ok (.iaload, 1) := by decide +kernel
theorem d_Model_settle_42 : decode b_Model_settle 42 = .ok (.iload_n 2, 1) := by decide +kernel
theorem d_Model_settle_43 : decode b_Model_settle 43 = .ok (.if_icmp .eq 7, 3) := by decide +kernel
theorem d_Model_settle_46 : decode b_Model_settle 46 = .ok (.iconst 1, 1) := by decide +kernel
theorem d_Model_settle_47 : decode b_Model_settle 47 = .ok (.goto 4, 3) := by decide +kernel
theorem d_Model_settle_50 : decode b_Model_settle 50 = .ok (.iconst 0, 1) := by decide +kernel
theorem d_Model_settle_51 : decode b_Model_settle 51 = .ok (.istore_n 3, 1) := by decide +kernel
theorem d_Model_settle_52 : decode b_Model_settle 52 = .ok (.iinc 4 1, 3) := by decide +kernel
theorem d_Model_settle_55 : decode b_Model_settle 55 = .ok (.goto (-40), 3) := by decide +kernel
theorem d_Model_settle_58 : decode b_Model_settle 58 = .ok (.iload_n 3, 1) := by decide +kernel
theorem d_Model_settle_59 : decode b_Model_settle 59 = .ok (.ifCond .eq 11, 3) := by decide +kernel
theorem d_Model_settle_62 : decode b_Model_settle 62 = .ok (.aload_n 0, 1) := by decide +kernel
theorem d_Model_settle_63 : decode b_Model_settle 63 = .ok (.getfield 90, 3) := by decide +kernel
theorem d_Model_settle_66 : decode b_Model_settle 66 = .ok (.iload_n 1, 1) := by decide +kernel
theorem d_Model_settle_67 : decode b_Model_settle 67 = .ok (.iload_n 2, 1) := by decide +kernel
theorem d_Model_settle_68 : decode b_Model_settle 68 = .ok (.iastore, 1) := by decide +kernel
theorem d_Model_settle_69 : decode b_Model_settle 69 = .ok (.return_, 1) := by decide +kernel
theorem d_Model_settle_70 : decode b_Model_settle 70 = .ok (.iinc 2 1, 3) := by decide +kernel
theorem d_Model_settle_73 : decode b_Model_settle 73 = .ok (.goto (-71), 3) := by decide +kernel
theorem d_Model_settle_76 : decode b_Model_settle 76 = .ok (.iload_n 1, 1) := by decide +kernel
theorem d_Model_settle_77 : decode b_Model_settle 77 = .ok (.istore_n 2, 1) := by decide +kernel
theorem d_Model_settle_78 : decode b_Model_settle 78 = .ok (.iload_n 1, 1) := by decide +kernel
theorem d_Model_settle_79 : decode b_Model_settle 79 = .ok (.iconst 1, 1) := by decide +kernel
theorem d_Model_settle_80 : decode b_Model_settle 80 = .ok (.isub, 1) := by decide +kernel
theorem d_Model_settle_81 : decode b_Model_settle 81 = .ok (.istore_n 3, 1) := by decide +kernel
theorem d_Model_settle_82 : decode b_Model_settle 82 = .ok (.iload_n 3, 1) := by decide +kernel
theorem d_Model_settle_83 : decode b_Model_settle 83 = .ok (.ifCond .lt 39, 3) := by decide +kernel
theorem d_Model_settle_86 : decode b_Model_settle 86 = .ok (.aload_n 0, 1) := by decide +kernel
theorem d_Model_settle_87 : decode b_Model_settle 87 = .ok (.iload_n 3, 1) := by decide +kernel
theorem d_Model_settle_88 : decode b_Model_settle 88 = .ok (.iload_n 1, 1) := by decide +kernel
theorem d_Model_settle_89 : decode b_Model_settle 89 = .ok (.invokevirtual 173, 3) := by decide +kernel
theorem d_Model_settle_92 : decode b_Model_settle 92 = .ok (.ifCond .eq 22, 3) := by decide +kernel
theorem d_Model_settle_95 : decode b_Model_settle 95 = .ok (.aload_n 0, 1) := by decide +kernel
theorem d_Model_settle_96 : decode b_Model_settle 96 = .ok (.getfield 87, 3) := by decide +kernel
theorem d_Model_settle_99 : decode b_Model_settle 99 = .ok (.iload_n 3, 1) := by decide +kernel
theorem d_Model_settle_100 : decode b_Model_settle 100 = .ok (.iaload, 1) := by decide +kernel
theorem d_Model_settle_101 : decode b_Model_settle 101 = .ok (.aload_n 0, 1) := by decide +kernel
theorem d_Model_settle_102 : decode b_Model_settle 102 = .ok (.getfield 87, 3) := by decide +kernel
theorem d_Model_settle_105 : decode b_Model_settle 105 = .ok (.iload_n 2, 1) := by decide +kernel
theorem d_Model_settle_106 : decode b_Model_settle 106 = .ok (.iaload, 1) := by decide +kernel
theorem d_Model_settle_107 : decode b_Model_settle 107 = .ok (.if_icmp .le 7, 3) := by decide +kernel
theorem d_Model_settle_110 : decode b_Model_settle 110 = .ok (.iload_n 3, 1) := by decide +kernel
theorem d_Model_settle_111 : decode b_Model_settle 111 = .ok (.goto 4, 3) := by decide +kernel
theorem d_Model_settle_114 : decode b_Model_settle 114 = .ok (.iload_n 2, 1) := by decide +kernel
theorem d_Model_settle_115 : decode b_Model_settle 115 = .ok (.istore_n 2, 1) := by decide +kernel
theorem d_Model_settle_116 : decode b_Model_settle 116 = .ok (.iinc 3 (-1), 3) := by decide +kernel
theorem d_Model_settle_119 : decode b_Model_settle 119 = .ok (.goto (-37), 3) := by decide +kernel
theorem d_Model_settle_122 : decode b_Model_settle 122 = .ok (.iload_n 2, 1) := by decide +kernel
theorem d_Model_settle_123 : decode b_Model_settle 123 = .ok (.iload_n 1, 1) := by decide +kernel
theorem d_Model_settle_124 : decode b_Model_settle 124 = .ok (.if_icmp .ne 7, 3) := by decide +kernel
theorem d_Model_settle_127 : decode b_Model_settle 127 = .ok (.iconst 0, 1) := by decide +kernel
theorem d_Model_settle_128 : decode b_Model_settle 128 = .ok (.goto 9, 3) := by decide +kernel
theorem d_Model_settle_131 : decode b_Model_settle 131 = .ok (.aload_n 0, 1) := by decide +kernel
theorem d_Model_settle_132 : decode b_Model_settle 132 = .ok (.getfield 90, 3) := by decide +kernel
theorem d_Model_settle_135 : decode b_Model_settle 135 = .ok (.iload_n 2, 1) := by decide +kernel
theorem d_Model_settle_136 : decode b_Model_settle 136 = .ok (.iaload, 1) := by decide +kernel
theorem d_Model_settle_137 : decode b_Model_settle 137 = .ok (.istore_n 3, 1) := by decide +kernel
theorem d_Model_settle_138 : decode b_Model_settle 138 = .ok (.aload_n 0, 1) := by decide +kernel
theorem d_Model_settle_139 : decode b_Model_settle 139 = .ok (.getfield 90, 3) := by decide +kernel
theorem d_Model_settle_142 : decode b_Model_settle 142 = .ok (.iload_n 2, 1) := by decide +kernel
theorem d_Model_settle_143 : decode b_Model_settle 143 = .ok (.aload_n 0, 1) := by decide +kernel
theorem d_Model_settle_144 : decode b_Model_settle 144 = .ok (.getfield 65, 3) := by decide +kernel
theorem d_Model_settle_147 : decode b_Model_settle 147 = .ok (.aload_n 0, 1) := by decide +kernel
theorem d_Model_settle_148 : decode b_Model_settle 148 = .ok (.getfield 176, 3) := by decide +kernel
theorem d_Model_settle_151 : decode b_Model_settle 151 = .ok (.iadd, 1) := by decide +kernel
theorem d_Model_settle_152 : decode b_Model_settle 152 = .ok (.iastore, 1) := by decide +kernel
theorem d_Model_settle_153 : decode b_Model_settle 153 = .ok (.aload_n 0, 1) := by decide +kernel
theorem d_Model_settle_154 : decode b_Model_settle 154 = .ok (.dup, 1) := by decide +kernel
theorem d_Model_settle_155 : decode b_Model_settle 155 = .ok (.getfield 176, 3) := by decide +kernel
theorem d_Model_settle_158 : decode b_Model_settle 158 = .ok (.iconst 1, 1) := by decide +kernel
theorem d_Model_settle_159 : decode b_Model_settle 159 = .ok (.iadd, 1) := by decide +kernel
theorem d_Model_settle_160 : decode b_Model_settle 160 = .ok (.putfield 176, 3) := by decide +kernel
theorem d_Model_settle_163 : decode b_Model_settle 163 = .ok (.aload_n 0, 1) := by decide +kernel
theorem d_Model_settle_164 : decode b_Model_settle 164 = .ok (.getfield 90, 3) := by decide +kernel
theorem d_Model_settle_167 : decode b_Model_settle 167 = .ok (.iload_n 1, 1) := by decide +kernel
theorem d_Model_settle_168 : decode b_Model_settle 168 = .ok (.iload_n 2, 1) := by decide +kernel
theorem d_Model_settle_169 : decode b_Model_settle 169 = .ok (.iload_n 1, 1) := by decide +kernel
theorem d_Model_settle_170 : decode b_Model_settle 170 = .ok (.if_icmp .ne 12, 3) := by decide +kernel
theorem d_Model_settle_173 : decode b_Model_settle 173 = .ok (.aload_n 0, 1) := by decide +kernel
theorem d_Model_settle_174 : decode b_Model_settle 174 = .ok (.getfield 90, 3) := by decide +kernel
theorem d_Model_settle_177 : decode b_Model_settle 177 = .ok (.iload_n 1, 1) := by decide +kernel
theorem d_Model_settle_178 : decode b_Model_settle 178 = .ok (.iaload, 1) := by decide +kernel
theorem d_Model_settle_179 : decode b_Model_settle 179 = .ok (.goto 4, 3) := by decide +kernel
theorem d_Model_settle_182 : decode b_Model_settle 182 = .ok (.iload_n 3, 1) := by decide +kernel
theorem d_Model_settle_183 : decode b_Model_settle 183 = .ok (.iastore, 1) := by decide +kernel
theorem d_Model_settle_184 : decode b_Model_settle 184 = .ok (.return_, 1) := by decide +kernel
theorem d_Model_holds_0 : decode b_Model_holds 0 = .ok (.aload_n 0, 1) := by decide +kernel
theorem d_Model_holds_1 : decode b_Model_holds 1 = .ok (.getfield 90, 3) := by decide +kernel
theorem d_Model_holds_4 : decode b_Model_holds 4 = .ok (.iload_n 1, 1) := by decide +kernel
theorem d_Model_holds_5 : decode b_Model_holds 5 = .ok (.iaload, 1) := by decide +kernel
theorem d_Model_holds_6 : decode b_Model_holds 6 = .ok (.aload_n 0, 1) := by decide +kernel
theorem d_Model_holds_7 : decode b_Model_holds 7 = .ok (.getfield 65, 3) := by decide +kernel
theorem d_Model_holds_10 : decode b_Model_holds 10 = .ok (.if_icmp .ge 17, 3) := by decide +kernel
theorem d_Model_holds_13 : decode b_Model_holds 13 = .ok (.aload_n 0, 1) := by decide +kernel
theorem d_Model_holds_14 : decode b_Model_holds 14 = .ok (.getfield 87, 3) := by decide +kernel
theorem d_Model_holds_17 : decode b_Model_holds 17 = .ok (.iload_n 1, 1) := by decide +kernel
theorem d_Model_holds_18 : decode b_Model_holds 18 = .ok (.iaload, 1) := by decide +kernel
theorem d_Model_holds_19 : decode b_Model_holds 19 = .ok (.iload_n 2, 1) := by decide +kernel
theorem d_Model_holds_20 : decode b_Model_holds 20 = .ok (.if_icmp .le 7, 3) := by decide +kernel
theorem d_Model_holds_23 : decode b_Model_holds 23 = .ok (.iconst 1, 1) := by decide +kernel
theorem d_Model_holds_24 : decode b_Model_holds 24 = .ok (.goto 4, 3) := by decide +kernel
theorem d_Model_holds_27 : decode b_Model_holds 27 = .ok (.iconst 0, 1) := by decide +kernel
theorem d_Model_holds_28 : decode b_Model_holds 28 = .ok (.ireturn, 1) := by decide +kernel
theorem d_Model_instruction_0 : decode b_Model_instruction 0 = .ok (.iload_n 1, 1) := by decide +kernel
theorem d_Model_instruction_1 : decode b_Model_instruction 1 = .ok (.ifCond .lt 19, 3) := by decide +kernel
theorem d_Model_instruction_4 : decode b_Model_instruction 4 = .ok (.iload_n 1, 1) := by decide +kernel
theorem d_Model_instruction_5 : decode b_Model_instruction 5 = .ok (.aload_n 0, 1) := by decide +kernel
theorem d_Model_instruction_6 : decode b_Model_instruction 6 = .ok (.getfield 166, 3) := by decide +kernel
theorem d_Model_instruction_9 : decode b_Model_instruction 9 = .ok (.if_icmp .ge 11, 3) := by decide +kernel
theorem d_Model_instruction_12 : decode b_Model_instruction 12 = .ok (.iload_n 2, 1) := by decide +kernel
theorem d_Model_instruction_13 : decode b_Model_instruction 13 = .ok (.iconst 4, 1) := by decide +kernel
theorem d_Model_instruction_14 : decode b_Model_instruction 14 = .ok (.invokestatic 111, 3) := by decide +kernel
theorem d_Model_instruction_17 : decode b_Model_instruction 17 = .ok (.ifCond .eq 5, 3) := by decide +kernel
theorem d_Model_instruction_20 : decode b_Model_instruction 20 = .ok (.iconst (-1), 1) := by decide +kernel
theorem d_Model_instruction_21 : decode b_Model_instruction 21 = .ok (.ireturn, 1) := by decide +kernel
theorem d_Model_instruction_22 : decode b_Model_instruction 22 = .ok (.iload_n 2, 1) := by decide +kernel
theorem d_Model_instruction_23 : decode b_Model_instruction 23 = .ok (.iconst 3, 1) := by decide +kernel
theorem d_Model_instruction_24 : decode b_Model_instruction 24 = .ok (.if_icmp .ge 37, 3) := by decide +kernel
theorem d_Model_instruction_27 : decode b_Model_instruction 27 = .ok (.iload_n 2, 1) := by decide +kernel
theorem d_Model_instruction_28 : decode b_Model_instruction 28 = .ok (.ifCond .ne 12, 3) := by decide +kernel
theorem d_Model_instruction_31 : decode b_Model_instruction 31 = .ok (.aload_n 0, 1) := by decide +kernel
theorem d_Model_instruction_32 : decode b_Model_instruction 32 = .ok (.getfield 69, 3) := by decide +kernel
theorem d_Model_instruction_35 : decode b_Model_instruction 35 = .ok (.iload_n 1, 1) := by decide +kernel
theorem d_Model_instruction_36 : decode b_Model_instruction 36 = .ok (.iaload, 1) := by decide +kernel
theorem d_Model_instruction_37 : decode b_Model_instruction 37 = .ok (.goto 23, 3) := by decide +kernel
theorem d_Model_instruction_40 : decode b_Model_instruction 40 = .ok (.iload_n 2, 1) := by decide +kernel
theorem d_Model_instruction_41 : decode b_Model_instruction 41 = .ok (.iconst 1, 1) := by decide +kernel
theorem d_Model_instruction_42 : decode b_Model_instruction 42 = .ok (.if_icmp .ne 12, 3) := by decide +kernel
theorem d_Model_instruction_45 : decode b_Model_instruction 45 = .ok (.aload_n 0, 1) := by decide +kernel
theorem d_Model_instruction_46 : decode b_Model_instruction 46 = .ok (.getfield 72, 3) := by decide +kernel
theorem d_Model_instruction_49 : decode b_Model_instruction 49 = .ok (.iload_n 1, 1) := by decide +kernel
theorem d_Model_instruction_50 : decode b_Model_instruction 50 = .ok (.iaload, 1) := by decide +kernel
theorem d_Model_instruction_51 : decode b_Model_instruction 51 = .ok (.goto 9, 3) := by decide +kernel
theorem d_Model_instruction_54 : decode b_Model_instruction 54 = .ok (.aload_n 0, 1) := by decide +kernel
theorem d_Model_instruction_55 : decode b_Model_instruction 55 = .ok (.getfield 90, 3) := by decide +kernel
theorem d_Model_instruction_58 : decode b_Model_instruction 58 = .ok (.iload_n 1, 1) := by decide +kernel
theorem d_Model_instruction_59 : decode b_Model_instruction 59 = .ok (.iaload, 1) := by decide +kernel
theorem d_Model_instruction_60 : decode b_Model_instruction 60 = .ok (.ireturn, 1) := by decide +kernel
theorem d_Model_instruction_61 : decode b_Model_instruction 61 = .ok (.iload_n 2, 1) := by decide +kernel
theorem d_Model_instruction_62 : decode b_Model_instruction 62 = .ok (.iconst 3, 1) := by decide +kernel
theorem d_Model_instruction_63 : decode b_Model_instruction 63 = .ok (.if_icmp .ne 12, 3) := by decide +kernel
theorem d_Model_instruction_66 : decode b_Model_instruction 66 = .ok (.aload_n 0, 1) := by decide +kernel
theorem d_Model_instruction_67 : decode b_Model_instruction 67 = .ok (.getfield 81, 3) := by decide +kernel
theorem d_Model_instruction_70 : decode b_Model_instruction 70 = .ok (.iload_n 1, 1) := by decide +kernel
theorem d_Model_instruction_71 : decode b_Model_instruction 71 = .ok (.iaload, 1) := by decide +kernel
theorem d_Model_instruction_72 : decode b_Model_instruction 72 = .ok (.goto 9, 3) := by decide +kernel
theorem d_Model_instruction_75 : decode b_Model_instruction 75 = .ok (.aload_n 0, 1) := by decide +kernel
theorem d_Model_instruction_76 : decode b_Model_instruction 76 = .ok (.getfield 84, 3) := by decide +kernel
theorem d_Model_instruction_79 : decode b_Model_instruction 79 = .ok (.iload_n 1, 1) := by decide +kernel
theorem d_Model_instruction_80 : decode b_Model_instruction 80 = .ok (.iaload, 1) := by decide +kernel
theorem d_Model_instruction_81 : decode b_Model_instruction 81 = .ok (.istore_n 3, 1) := by decide +kernel
theorem d_Model_instruction_82 : decode b_Model_instruction 82 = .ok (.iload_n 3, 1) := by decide +kernel
theorem d_Model_instruction_83 : decode b_Model_instruction 83 = .ok (.ifCond .ge 8, 3) := by decide +kernel
theorem d_Model_instruction_86 : decode b_Model_instruction 86 = .ok (.bipush (-3), 2) := by decide +kernel
theorem d_Model_instruction_88 : decode b_Model_instruction 88 = .ok (.goto 9, 3) := by decide +kernel
theorem d_Model_instruction_91 : decode b_Model_instruction 91 = .ok (.aload_n 0, 1) := by decide +kernel
theorem d_Model_instruction_92 : decode b_Model_instruction 92 = .ok (.getfield 90, 3) := by decide +kernel
theorem d_Model_instruction_95 : decode b_Model_instruction 95 = .ok (.iload_n 3, 1) := by decide +kernel
theorem d_Model_instruction_96 : decode b_Model_instruction 96 = .ok (.iaload, 1) := by decide +kernel
theorem d_Model_instruction_97 : decode b_Model_instruction 97 = .ok (.ireturn, 1) := by decide +kernel
theorem d_Model_slots_0 : decode b_Model_slots 0 = .ok (.aload_n 0, 1) := by decide +kernel
theorem d_Model_slots_1 : decode b_Model_slots 1 = .ok (.getfield 176, 3) := by decide +kernel
theorem d_Model_slots_4 : decode b_Model_slots 4 = .ok (.ireturn, 1) := by decide +kernel
theorem d_Model_set_0 : decode b_Model_set 0 = .ok (.iload_n 1, 1) := by decide +kernel
theorem d_Model_set_1 : decode b_Model_set 1 = .ok (.bipush 7, 2) := by decide +kernel
theorem d_Model_set_3 : decode b_Model_set 3 = .ok (.invokestatic 111, 3) := by decide +kernel
theorem d_Model_set_6 : decode b_Model_set 6 = .ok (.ifCond .eq 5, 3) := by decide +kernel
theorem d_Model_set_9 : decode b_Model_set 9 = .ok (.iconst 0, 1) := by decide +kernel
theorem d_Model_set_10 : decode b_Model_set 10 = .ok (.ireturn, 1) := by decide +kernel
theorem d_Model_set_11 : decode b_Model_set 11 = .ok (.aload_n 0, 1) := by decide +kernel
theorem d_Model_set_12 : decode b_Model_set 12 = .ok (.getfield 105, 3) := by decide +kernel
theorem d_Model_set_15 : decode b_Model_set 15 = .ok (.iload_n 1, 1) := by decide +kernel
theorem d_Model_set_16 : decode b_Model_set 16 = .ok (.iload_n 2, 1) := by decide +kernel
theorem d_Model_set_17 : decode b_Model_set 17 = .ok (.iastore, 1) := by decide +kernel
theorem d_Model_set_18 : decode b_Model_set 18 = .ok (.iconst 1, 1) := by decide +kernel
theorem d_Model_set_19 : decode b_Model_set 19 = .ok (.ireturn, 1) := by decide +kernel
theorem d_Model_run_0 : decode b_Model_run 0 = .ok (.iconst 0, 1) := by decide +kernel
theorem d_Model_run_1 : decode b_Model_run 1 = .ok (.istore_n 1, 1) := by decide +kernel
theorem d_Model_run_2 : decode b_Model_run 2 = .ok (.iload_n 1, 1) := by decide +kernel
theorem d_Model_run_3 : decode b_Model_run 3 = .ok (.aload_n 0, 1) := by decide +kernel
theorem d_Model_run_4 : decode b_Model_run 4 = .ok (.getfield 166, 3) := by decide +kernel
theorem d_Model_run_7 : decode b_Model_run 7 = .ok (.if_icmp .ge 83, 3) := by decide +kernel
theorem d_Model_run_10 : decode b_Model_run 10 = .ok (.aload_n 0, 1) := by decide +kernel
theorem d_Model_run_11 : decode b_Model_run 11 = .ok (.getfield 81, 3) := by decide +kernel
theorem d_Model_run_14 : decode b_Model_run 14 = .ok (.iload_n 1, 1) := by decide +kernel
theorem d_Model_run_15 : decode b_Model_run 15 = .ok (.iaload, 1) := by decide +kernel
theorem d_Model_run_16 : decode b_Model_run 16 = .ok (.ifCond .ge 7, 3) := by decide +kernel
theorem d_Model_run_19 : decode b_Model_run 19 = .ok (.iconst 0, 1) := by decide +kernel
theorem d_Model_run_20 : decode b_Model_run 20 = .ok (.goto 14, 3) := by decide +kernel
theorem d_Model_run_23 : decode b_Model_run 23 = .ok (.aload_n 0, 1) := by decide +kernel
theorem d_Model_run_24 : decode b_Model_run 24 = .ok (.getfield 93, 3) := by decide +kernel
theorem d_Model_run_27 : decode b_Model_run 27 = .ok (.aload_n 0, 1) := by decide +kernel
theorem d_Model_run_28 : decode b_Model_run 28 = .ok (.getfield 81, 3) := by decide +kernel
theorem d_Model_run_31 : decode b_Model_run 31 = .ok (.iload_n 1, 1) := by decide +kernel
theorem d_Model_run_32 : decode b_Model_run 32 = .ok (.iaload, 1) := by decide +kernel
theorem d_Model_run_33 : decode b_Model_run 33 = .ok (.iaload, 1) := by decide +kernel
theorem d_Model_run_34 : decode b_Model_run 34 = .ok (.istore_n 2, 1) := by decide +kernel
theorem d_Model_run_35 : decode b_Model_run 35 = .ok (.aload_n 0, 1) := by decide +kernel
theorem d_Model_run_36 : decode b_Model_run 36 = .ok (.getfield 84, 3) := by decide +kernel
theorem d_Model_run_39 : decode b_Model_run 39 = .ok (.iload_n 1, 1) := by decide +kernel
theorem d_Model_run_40 : decode b_Model_run 40 = .ok (.iaload, 1) := by decide +kernel
theorem d_Model_run_41 : decode b_Model_run 41 = .ok (.ifCond .ge 7, 3) := by decide +kernel
theorem d_Model_run_44 : decode b_Model_run 44 = .ok (.iconst 0, 1) := by decide +kernel
theorem d_Model_run_45 : decode b_Model_run 45 = .ok (.goto 14, 3) := by decide +kernel
theorem d_Model_run_48 : decode b_Model_run 48 = .ok (.aload_n 0, 1) := by decide +kernel
theorem d_Model_run_49 : decode b_Model_run 49 = .ok (.getfield 93, 3) := by decide +kernel
theorem d_Model_run_52 : decode b_Model_run 52 = .ok (.aload_n 0, 1) := by decide +kernel
theorem d_Model_run_53 : decode b_Model_run 53 = .ok (.getfield 84, 3) := by decide +kernel
theorem d_Model_run_56 : decode b_Model_run 56 = .ok (.iload_n 1, 1) := by decide +kernel
theorem d_Model_run_57 : decode b_Model_run 57 = .ok (.iaload, 1) := by decide +kernel
theorem d_Model_run_58 : decode b_Model_run 58 = .ok (.iaload, 1) := by decide +kernel
theorem d_Model_run_59 : decode b_Model_run 59 = .ok (.istore_n 3, 1) := by decide +kernel
theorem d_Model_run_60 : decode b_Model_run 60 = .ok (.aload_n 0, 1) := by decide +kernel
theorem d_Model_run_61 : decode b_Model_run 61 = .ok (.getfield 93, 3) := by decide +kernel
theorem d_Model_run_64 : decode b_Model_run 64 = .ok (.iload_n 1, 1) := by decide +kernel
theorem d_Model_run_65 : decode b_Model_run 65 = .ok (.aload_n 0, 1) := by decide +kernel
theorem d_Model_run_66 : decode b_Model_run 66 = .ok (.aload_n 0, 1) := by decide +kernel
theorem d_Model_run_67 : decode b_Model_run 67 = .ok (.getfield 75, 3) := by decide +kernel
theorem d_Model_run_70 : decode b_Model_run 70 = .ok (.iload_n 1, 1) := by decide +kernel
theorem d_Model_run_71 : decode b_Model_run 71 = .ok (.iaload, 1) := by decide +kernel
theorem d_Model_run_72 : decode b_Model_run 72 = .ok (.aload_n 0, 1) := by decide +kernel
theorem d_Model_run_73 : decode b_Model_run 73 = .ok (.getfield 78, 3) := by decide +kernel
theorem d_Model_run_76 : decode b_Model_run 76 = .ok (.iload_n 1, 1) := by decide +kernel
theorem d_Model_run_77 : decode b_Model_run 77 = .ok (.iaload, 1) := by decide +kernel
theorem d_Model_run_78 : decode b_Model_run 78 = .ok (.iload_n 2, 1) := by decide +kernel
theorem d_Model_run_79 : decode b_Model_run 79 = .ok (.iload_n 3, 1) := by decide +kernel
theorem d_Model_run_80 : decode b_Model_run 80 = .ok (.invokevirtual 189, 3) := by decide +kernel
theorem d_Model_run_83 : decode b_Model_run 83 = .ok (.iastore, 1) := by decide +kernel
theorem d_Model_run_84 : decode b_Model_run 84 = .ok (.iinc 1 1, 3) := by decide +kernel
theorem d_Model_run_87 : decode b_Model_run 87 = .ok (.goto (-85), 3) := by decide +kernel
theorem d_Model_run_90 : decode b_Model_run 90 = .ok (.aload_n 0, 1) := by decide +kernel
theorem d_Model_run_91 : decode b_Model_run 91 = .ok (.getfield 166, 3) := by decide +kernel
theorem d_Model_run_94 : decode b_Model_run 94 = .ok (.ifCond .ne 7, 3) := by decide +kernel
theorem d_Model_run_97 : decode b_Model_run 97 = .ok (.iconst 0, 1) := by decide +kernel
theorem d_Model_run_98 : decode b_Model_run 98 = .ok (.goto 14, 3) := by decide +kernel
theorem d_Model_run_101 : decode b_Model_run 101 = .ok (.aload_n 0, 1) := by decide +kernel
theorem d_Model_run_102 : decode b_Model_run 102 = .ok (.getfield 93, 3) := by decide +kernel
theorem d_Model_run_105 : decode b_Model_run 105 = .ok (.aload_n 0, 1) := by decide +kernel
theorem d_Model_run_106 : decode b_Model_run 106 = .ok (.getfield 166, 3) := by decide +kernel
theorem d_Model_run_109 : decode b_Model_run 109 = .ok (.iconst 1, 1) := by decide +kernel
theorem d_Model_run_110 : decode b_Model_run 110 = .ok (.isub, 1) := by decide +kernel
theorem d_Model_run_111 : decode b_Model_run 111 = .ok (.iaload, 1) := by decide +kernel
theorem d_Model_run_112 : decode b_Model_run 112 = .ok (.ireturn, 1) := by decide +kernel
theorem d_Model_calculate_0 : decode b_Model_calculate 0 = .ok (.iload_n 1, 1) := by decide +kernel
theorem d_Model_calculate_1 : decode b_Model_calculate 1 = .ok (.iconst 3, 1) := by decide +kernel
theorem d_Model_calculate_2 : decode b_Model_calculate 2 = .ok (.if_icmp .ge 30, 3) := by decide +kernel
theorem d_Model_calculate_5 : decode b_Model_calculate 5 = .ok (.iload_n 1, 1) := by decide +kernel
theorem d_Model_calculate_6 : decode b_Model_calculate 6 = .ok (.ifCond .ne 7, 3) := by decide +kernel
theorem d_Model_calculate_9 : decode b_Model_calculate 9 = .ok (.iload_n 2, 1) := by decide +kernel
theorem d_Model_calculate_10 : decode b_Model_calculate 10 = .ok (.goto 21, 3) := by decide +kernel
theorem d_Model_calculate_13 : decode b_Model_calculate 13 = .ok (.iload_n 1, 1) := by decide +kernel
theorem d_Model_calculate_14 : decode b_Model_calculate 14 = .ok (.iconst 1, 1) := by decide +kernel
theorem d_Model_calculate_15 : decode b_Model_calculate 15 = .ok (.if_icmp .ne 12, 3) := by decide +kernel
theorem d_Model_calculate_18 : decode b_Model_calculate 18 = .ok (.aload_n 0, 1) := by decide +kernel
theorem d_Model_calculate_19 : decode b_Model_calculate 19 = .ok (.getfield 105, 3) := by decide +kernel
theorem d_Model_calculate_22 : decode b_Model_calculate 22 = .ok (.iload_n 2, 1) := by decide +kernel
theorem d_Model_calculate_23 : decode b_Model_calculate 23 = .ok (.iaload, 1) := by decide +kernel
theorem d_Model_calculate_24 : decode b_Model_calculate 24 = .ok (.goto 7, 3) := by decide +kernel
theorem d_Model_calculate_27 : decode b_Model_calculate 27 = .ok (.bipush 100, 2) := by decide +kernel
theorem d_Model_calculate_29 : decode b_Model_calculate 29 = .ok (.iload_n 2, 1) := by decide +kernel
theorem d_Model_calculate_30 : decode b_Model_calculate 30 = .ok (.iadd, 1) := by decide +kernel
theorem d_Model_calculate_31 : decode b_Model_calculate 31 = .ok (.ireturn, 1) := by decide +kernel
theorem d_Model_calculate_32 : decode b_Model_calculate 32 = .ok (.iload_n 1, 1) := by decide +kernel
theorem d_Model_calculate_33 : decode b_Model_calculate 33 = .ok (.iconst 5, 1) := by decide +kernel
theorem d_Model_calculate_34 : decode b_Model_calculate 34 = .ok (.if_icmp .ge 17, 3) := by decide +kernel
theorem d_Model_calculate_37 : decode b_Model_calculate 37 = .ok (.iload_n 1, 1) := by decide +kernel
theorem d_Model_calculate_38 : decode b_Model_calculate 38 = .ok (.iconst 3, 1) := by decide +kernel
theorem d_Model_calculate_39 : decode b_Model_calculate 39 = .ok (.if_icmp .ne 8, 3) := by decide +kernel
theorem d_Model_calculate_42 : decode b_Model_calculate 42 = .ok (.iload_n 3, 1) := by decide +kernel
theorem d_Model_calculate_43 : decode b_Model_calculate 43 = .ok (.ineg, 1) := by decide +kernel
theorem d_Model_calculate_44 : decode b_Model_calculate 44 = .ok (.goto 6, 3) := by decide +kernel
theorem d_Model_calculate_47 : decode b_Model_calculate 47 = .ok (.iload_n 3, 1) := by decide +kernel
theorem d_Model_calculate_48 : decode b_Model_calculate 48 = .ok (.iload_n 3, 1) := by decide +kernel
theorem d_Model_calculate_49 : decode b_Model_calculate 49 = .ok (.iadd, 1) := by decide +kernel
theorem d_Model_calculate_50 : decode b_Model_calculate 50 = .ok (.ireturn, 1) := by decide +kernel
theorem d_Model_calculate_51 : decode b_Model_calculate 51 = .ok (.iload_n 1, 1) := by decide +kernel
theorem d_Model_calculate_52 : decode b_Model_calculate 52 = .ok (.iconst 5, 1) := by decide +kernel
theorem d_Model_calculate_53 : decode b_Model_calculate 53 = .ok (.if_icmp .ne 10, 3) := by decide +kernel
theorem d_Model_calculate_56 : decode b_Model_calculate 56 = .ok (.iload_n 3, 1) := by decide +kernel
theorem d_Model_calculate_57 : decode b_Model_calculate 57 = .ok (.iload 4, 2) := by decide +kernel
theorem d_Model_calculate_59 : decode b_Model_calculate 59 = .ok (.iadd, 1) := by decide +kernel
theorem d_Model_calculate_60 : decode b_Model_calculate 60 = .ok (.goto 30, 3) := by decide +kernel
theorem d_Model_calculate_63 : decode b_Model_calculate 63 = .ok (.iload_n 1, 1) := by decide +kernel
theorem d_Model_calculate_64 : decode b_Model_calculate 64 = .ok (.bipush 6, 2) := by decide +kernel
theorem d_Model_calculate_66 : decode b_Model_calculate 66 = .ok (.if_icmp .ne 10, 3) := by decide +kernel
theorem d_Model_calculate_69 : decode b_Model_calculate 69 = .ok (.iload_n 3, 1) := by decide +kernel
theorem d_Model_calculate_70 : decode b_Model_calculate 70 = .ok (.iload 4, 2) := by decide +kernel
theorem d_Model_calculate_72 : decode b_Model_calculate 72 = .ok (.isub, 1) := by decide +kernel
theorem d_Model_calculate_73 : decode b_Model_calculate 73 = .ok (.goto 17, 3) := by decide +kernel
theorem d_Model_calculate_76 : decode b_Model_calculate 76 = .ok (.iload_n 1, 1) := by decide +kernel
theorem d_Model_calculate_77 : decode b_Model_calculate 77 = .ok (.bipush 7, 2) := by decide +kernel
theorem d_Model_calculate_79 : decode b_Model_calculate 79 = .ok (.if_icmp .ne 10, 3) := by decide +kernel
theorem d_Model_calculate_82 : decode b_Model_calculate 82 = .ok (.iload_n 3, 1) := by decide +kernel
theorem d_Model_calculate_83 : decode b_Model_calculate 83 = .ok (.iload 4, 2) := by decide +kernel
theorem d_Model_calculate_85 : decode b_Model_calculate 85 = .ok (.imul, 1) := by decide +kernel
theorem d_Model_calculate_86 : decode b_Model_calculate 86 = .ok (.goto 4, 3) := by decide +kernel
theorem d_Model_calculate_89 : decode b_Model_calculate 89 = .ok (.iload_n 3, 1) := by decide +kernel
theorem d_Model_calculate_90 : decode b_Model_calculate 90 = .ok (.ireturn, 1) := by decide +kernel
theorem d_Model_value_0 : decode b_Model_value 0 = .ok (.aload_n 0, 1) := by decide +kernel
theorem d_Model_value_1 : decode b_Model_value 1 = .ok (.getfield 128, 3) := by decide +kernel
theorem d_Model_value_4 : decode b_Model_value 4 = .ok (.ifCond .ne 5, 3) := by decide +kernel
theorem d_Model_value_7 : decode b_Model_value 7 = .ok (.iconst 0, 1) := by decide +kernel
theorem d_Model_value_8 : decode b_Model_value 8 = .ok (.ireturn, 1) := by decide +kernel
theorem d_Model_value_9 : decode b_Model_value 9 = .ok (.aload_n 0, 1) := by decide +kernel
theorem d_Model_value_10 : decode b_Model_value 10 = .ok (.getfield 37, 3) := by decide +kernel
theorem d_Model_value_13 : decode b_Model_value 13 = .ok (.aload_n 0, 1) := by decide +kernel
theorem d_Model_value_14 : decode b_Model_value 14 = .ok (.getfield 128, 3) := by decide +kernel
theorem d_Model_value_17 : decode b_Model_value 17 = .ok (.iconst 1, 1) := by decide +kernel
theorem d_Model_value_18 : decode b_Model_value 18 = .ok (.isub, 1) := by decide +kernel
theorem d_Model_value_19 : decode b_Model_value 19 = .ok (.iaload, 1) := by decide +kernel
theorem d_Model_value_20 : decode b_Model_value 20 = .ok (.istore_n 1, 1) := by decide +kernel
theorem d_Model_value_21 : decode b_Model_value 21 = .ok (.iload_n 1, 1) := by decide +kernel
theorem d_Model_value_22 : decode b_Model_value 22 = .ok (.aload_n 0, 1) := by decide +kernel
theorem d_Model_value_23 : decode b_Model_value 23 = .ok (.getfield 131, 3) := by decide +kernel
theorem d_Model_value_26 : decode b_Model_value 26 = .ok (.if_icmp .ge 94, 3) := by decide +kernel
theorem d_Model_value_29 : decode b_Model_value 29 = .ok (.aload_n 0, 1) := by decide +kernel
theorem d_Model_value_30 : decode b_Model_value 30 = .ok (.getfield 25, 3) := by decide +kernel
theorem d_Model_value_33 : decode b_Model_value 33 = .ok (.iload_n 1, 1) := by decide +kernel
theorem d_Model_value_34 : decode b_Model_value 34 = .ok (.iaload, 1) := by decide +kernel
theorem d_Model_value_35 : decode b_Model_value 35 = .ok (.invokestatic 120, 3) := by decide +kernel
theorem d_Model_value_38 : decode b_Model_value 38 = .ok (.istore_n 2, 1) := by decide +kernel
theorem d_Model_value_39 : decode b_Model_value 39 = .ok (.iload_n 1, 1) := by decide +kernel
theorem d_Model_value_40 : decode b_Model_value 40 = .ok (.iconst 1, 1) := by decide +kernel
theorem d_Model_value_41 : decode b_Model_value 41 = .ok (.isub, 1) := by decide +kernel
theorem d_Model_value_42 : decode b_Model_value 42 = .ok (.iload_n 2, 1) := by decide +kernel
theorem d_Model_value_43 : decode b_Model_value 43 = .ok (.iconst 1, 1) := by decide +kernel
theorem d_Model_value_44 : decode b_Model_value 44 = .ok (.if_icmp .le 14, 3) := by decide +kernel
theorem d_Model_value_47 : decode b_Model_value 47 = .ok (.aload_n 0, 1) := by decide +kernel
theorem d_Model_value_48 : decode b_Model_value 48 = .ok (.getfield 31, 3) := by decide +kernel
theorem d_Model_value_51 : decode b_Model_value 51 = .ok (.iload_n 1, 1) := by decide +kernel
theorem d_Model_value_52 : decode b_Model_value 52 = .ok (.iconst 1, 1) := by decide +kernel
theorem d_Model_value_53 : decode b_Model_value 53 = .ok (.isub, 1) := by decide +kernel
theorem d_Model_value_54 : decode b_Model_value 54 = .ok (.iaload, 1) := by decide +kernel
theorem d_Model_value_55 : decode b_Model_value 55 = .ok (.goto 4, 3) := by decide +kernel
theorem d_Model_value_58 : decode b_Model_value 58 = .ok (.iconst 0, 1) := by decide +kernel
theorem d_Model_value_59 : decode b_Model_value 59 = .ok (.isub, 1) := by decide +kernel
theorem d_Model_value_60 : decode b_Model_value 60 = .ok (.istore_n 3, 1) := by decide +kernel
theorem d_Model_value_61 : decode b_Model_value 61 = .ok (.aload_n 0, 1) := by decide +kernel
theorem d_Model_value_62 : decode b_Model_value 62 = .ok (.getfield 108, 3) := by decide +kernel
theorem d_Model_value_65 : decode b_Model_value 65 = .ok (.iload_n 1, 1) := by decide +kernel
theorem d_Model_value_66 : decode b_Model_value 66 = .ok (.aload_n 0, 1) := by decide +kernel
theorem d_Model_value_67 : decode b_Model_value 67 = .ok (.aload_n 0, 1) := by decide +kernel
theorem d_Model_value_68 : decode b_Model_value 68 = .ok (.getfield 25, 3) := by decide +kernel
theorem d_Model_value_71 : decode b_Model_value 71 = .ok (.iload_n 1, 1) := by decide +kernel
theorem d_Model_value_72 : decode b_Model_value 72 = .ok (.iaload, 1) := by decide +kernel
theorem d_Model_value_73 : decode b_Model_value 73 = .ok (.aload_n 0, 1) := by decide +kernel
theorem d_Model_value_74 : decode b_Model_value 74 = .ok (.getfield 28, 3) := by decide +kernel
theorem d_Model_value_77 : decode b_Model_value 77 = .ok (.iload_n 1, 1) := by decide +kernel
theorem d_Model_value_78 : decode b_Model_value 78 = .ok (.iaload, 1) := by decide +kernel
theorem d_Model_value_79 : decode b_Model_value 79 = .ok (.iload_n 2, 1) := by decide +kernel
theorem d_Model_value_80 : decode b_Model_value 80 = .ok (.ifCond .le 12, 3) := by decide +kernel
theorem d_Model_value_83 : decode b_Model_value 83 = .ok (.aload_n 0, 1) := by decide +kernel
theorem d_Model_value_84 : decode b_Model_value 84 = .ok (.getfield 108, 3) := by decide +kernel
theorem d_Model_value_87 : decode b_Model_value 87 = .ok (.iload_n 3, 1) := by decide +kernel
theorem d_Model_value_88 : decode b_Model_value 88 = .ok (.iaload, 1) := by decide +kernel
theorem d_Model_value_89 : decode b_Model_value 89 = .ok (.goto 4, 3) := by decide +kernel
theorem d_Model_value_92 : decode b_Model_value 92 = .ok (.iconst 0, 1) := by decide +kernel
theorem d_Model_value_93 : decode b_Model_value 93 = .ok (.iload_n 2, 1) := by decide +kernel
theorem d_Model_value_94 : decode b_Model_value 94 = .ok (.iconst 1, 1) := by decide +kernel
theorem d_Model_value_95 : decode b_Model_value 95 = .ok (.if_icmp .le 14, 3) := by decide +kernel
theorem d_Model_value_98 : decode b_Model_value 98 = .ok (.aload_n 0, 1) := by decide +kernel
theorem d_Model_value_99 : decode b_Model_value 99 = .ok (.getfield 108, 3) := by decide +kernel
theorem d_Model_value_102 : decode b_Model_value 102 = .ok (.iload_n 1, 1) := by decide +kernel
theorem d_Model_value_103 : decode b_Model_value 103 = .ok (.iconst 1, 1) := by decide +kernel
theorem d_Model_value_104 : decode b_Model_value 104 = .ok (.isub, 1) := by decide +kernel
theorem d_Model_value_105 : decode b_Model_value 105 = .ok (.iaload, 1) := by decide +kernel
theorem d_Model_value_106 : decode b_Model_value 106 = .ok (.goto 4, 3) := by decide +kernel
theorem d_Model_value_109 : decode b_Model_value 109 = .ok (.iconst 0, 1) := by decide +kernel
theorem d_Model_value_110 : decode b_Model_value 110 = .ok (.invokevirtual 189, 3) := by decide +kernel
theorem d_Model_value_113 : decode b_Model_value 113 = .ok (.iastore, 1) := by decide +kernel
theorem d_Model_value_114 : decode b_Model_value 114 = .ok (.iinc 1 1, 3) := by decide +kernel
theorem d_Model_value_117 : decode b_Model_value 117 = .ok (.goto (-96), 3) := by decide +kernel
theorem d_Model_value_120 : decode b_Model_value 120 = .ok (.aload_n 0, 1) := by decide +kernel
theorem d_Model_value_121 : decode b_Model_value 121 = .ok (.getfield 108, 3) := by decide +kernel
theorem d_Model_value_124 : decode b_Model_value 124 = .ok (.aload_n 0, 1) := by decide +kernel
theorem d_Model_value_125 : decode b_Model_value 125 = .ok (.getfield 131, 3) := by decide +kernel
theorem d_Model_value_128 : decode b_Model_value 128 = .ok (.iconst 1, 1) := by decide +kernel
theorem d_Model_value_129 : decode b_Model_value 129 = .ok (.isub, 1) := by decide +kernel
theorem d_Model_value_130 : decode b_Model_value 130 = .ok (.iaload, 1) := by decide +kernel
theorem d_Model_value_131 : decode b_Model_value 131 = .ok (.ireturn, 1) := by decide +kernel
