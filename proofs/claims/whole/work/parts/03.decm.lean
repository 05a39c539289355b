theorem dX7_init_0 : decode cX7_init 0 = .ok (.aload_n 0, 1) := by decide +kernel
theorem dX7_init_1 : decode cX7_init 1 = .ok (.invokespecial 1, 3) := by decide +kernel
theorem dX7_init_4 : decode cX7_init 4 = .ok (.aload_n 0, 1) := by decide +kernel
theorem dX7_init_5 : decode cX7_init 5 = .ok (.bipush 6, 2) := by decide +kernel
theorem dX7_init_7 : decode cX7_init 7 = .ok (.newarray .int, 2) := by decide +kernel
theorem dX7_init_9 : decode cX7_init 9 = .ok (.putfield 7, 3) := by decide +kernel
theorem dX7_init_12 : decode cX7_init 12 = .ok (.aload_n 0, 1) := by decide +kernel
theorem dX7_init_13 : decode cX7_init 13 = .ok (.bipush 6, 2) := by decide +kernel
theorem dX7_init_15 : decode cX7_init 15 = .ok (.newarray .int, 2) := by decide +kernel
theorem dX7_init_17 : decode cX7_init 17 = .ok (.putfield 13, 3) := by decide +kernel
theorem dX7_init_20 : decode cX7_init 20 = .ok (.aload_n 0, 1) := by decide +kernel
theorem dX7_init_21 : decode cX7_init 21 = .ok (.bipush 6, 2) := by decide +kernel
theorem dX7_init_23 : decode cX7_init 23 = .ok (.newarray .int, 2) := by decide +kernel
theorem dX7_init_25 : decode cX7_init 25 = .ok (.dup, 1) := by decide +kernel
theorem dX7_init_26 : decode cX7_init 26 = .ok (.iconst 0, 1) := by decide +kernel
theorem dX7_init_27 : decode cX7_init 27 = .ok (.iconst 1, 1) := by decide +kernel
theorem dX7_init_28 : decode cX7_init 28 = .ok (.iastore, 1) := by decide +kernel
theorem dX7_init_29 : decode cX7_init 29 = .ok (.dup, 1) := by decide +kernel
theorem dX7_init_30 : decode cX7_init 30 = .ok (.iconst 1, 1) := by decide +kernel
theorem dX7_init_31 : decode cX7_init 31 = .ok (.iconst 1, 1) := by decide +kernel
theorem dX7_init_32 : decode cX7_init 32 = .ok (.iastore, 1) := by decide +kernel
theorem dX7_init_33 : decode cX7_init 33 = .ok (.dup, 1) := by decide +kernel
theorem dX7_init_34 : decode cX7_init 34 = .ok (.iconst 2, 1) := by decide +kernel
theorem dX7_init_35 : decode cX7_init 35 = .ok (.iconst 1, 1) := by decide +kernel
theorem dX7_init_36 : decode cX7_init 36 = .ok (.iastore, 1) := by decide +kernel
theorem dX7_init_37 : decode cX7_init 37 = .ok (.dup, 1) := by decide +kernel
theorem dX7_init_38 : decode cX7_init 38 = .ok (.iconst 3, 1) := by decide +kernel
theorem dX7_init_39 : decode cX7_init 39 = .ok (.iconst 1, 1) := by decide +kernel
theorem dX7_init_40 : decode cX7_init 40 = .ok (.iastore, 1) := by decide +kernel
theorem dX7_init_41 : decode cX7_init 41 = .ok (.dup, 1) := by decide +kernel
theorem dX7_init_42 : decode cX7_init 42 = .ok (.iconst 4, 1) := by decide +kernel
theorem dX7_init_43 : decode cX7_init 43 = .ok (.iconst 1, 1) := by decide +kernel
theorem dX7_init_44 : decode cX7_init 44 = .ok (.iastore, 1) := by decide +kernel
theorem dX7_init_45 : decode cX7_init 45 = .ok (.dup, 1) := by decide +kernel
theorem dX7_init_46 : decode cX7_init 46 = .ok (.iconst 5, 1) := by decide +kernel
theorem dX7_init_47 : decode cX7_init 47 = .ok (.iconst 1, 1) := by decide +kernel
theorem dX7_init_48 : decode cX7_init 48 = .ok (.iastore, 1) := by decide +kernel
theorem dX7_init_49 : decode cX7_init 49 = .ok (.putfield 16, 3) := by decide +kernel
theorem dX7_init_52 : decode cX7_init 52 = .ok (.aload_n 0, 1) := by decide +kernel
theorem dX7_init_53 : decode cX7_init 53 = .ok (.bipush 6, 2) := by decide +kernel
theorem dX7_init_55 : decode cX7_init 55 = .ok (.newarray .int, 2) := by decide +kernel
theorem dX7_init_57 : decode cX7_init 57 = .ok (.putfield 19, 3) := by decide +kernel
theorem dX7_init_60 : decode cX7_init 60 = .ok (.aload_n 0, 1) := by decide +kernel
theorem dX7_init_61 : decode cX7_init 61 = .ok (.bipush 6, 2) := by decide +kernel
theorem dX7_init_63 : decode cX7_init 63 = .ok (.newarray .int, 2) := by decide +kernel
theorem dX7_init_65 : decode cX7_init 65 = .ok (.putfield 22, 3) := by decide +kernel
theorem dX7_init_68 : decode cX7_init 68 = .ok (.aload_n 0, 1) := by decide +kernel
theorem dX7_init_69 : decode cX7_init 69 = .ok (.bipush 6, 2) := by decide +kernel
theorem dX7_init_71 : decode cX7_init 71 = .ok (.newarray .int, 2) := by decide +kernel
theorem dX7_init_73 : decode cX7_init 73 = .ok (.putfield 25, 3) := by decide +kernel
theorem dX7_init_76 : decode cX7_init 76 = .ok (.aload_n 0, 1) := by decide +kernel
theorem dX7_init_77 : decode cX7_init 77 = .ok (.bipush 10, 2) := by decide +kernel
theorem dX7_init_79 : decode cX7_init 79 = .ok (.newarray .int, 2) := by decide +kernel
theorem dX7_init_81 : decode cX7_init 81 = .ok (.putfield 28, 3) := by decide +kernel
theorem dX7_init_84 : decode cX7_init 84 = .ok (.aload_n 0, 1) := by decide +kernel
theorem dX7_init_85 : decode cX7_init 85 = .ok (.bipush 10, 2) := by decide +kernel
theorem dX7_init_87 : decode cX7_init 87 = .ok (.newarray .int, 2) := by decide +kernel
theorem dX7_init_89 : decode cX7_init 89 = .ok (.putfield 31, 3) := by decide +kernel
theorem dX7_init_92 : decode cX7_init 92 = .ok (.aload_n 0, 1) := by decide +kernel
theorem dX7_init_93 : decode cX7_init 93 = .ok (.bipush 10, 2) := by decide +kernel
theorem dX7_init_95 : decode cX7_init 95 = .ok (.newarray .int, 2) := by decide +kernel
theorem dX7_init_97 : decode cX7_init 97 = .ok (.putfield 34, 3) := by decide +kernel
theorem dX7_init_100 : decode cX7_init 100 = .ok (.aload_n 0, 1) := by decide +kernel
theorem dX7_init_101 : decode cX7_init 101 = .ok (.bipush 10, 2) := by decide +kernel
theorem dX7_init_103 : decode cX7_init 103 = .ok (.newarray .int, 2) := by decide +kernel
theorem dX7_init_105 : decode cX7_init 105 = .ok (.putfield 37, 3) := by decide +kernel
theorem dX7_init_108 : decode cX7_init 108 = .ok (.aload_n 0, 1) := by decide +kernel
theorem dX7_init_109 : decode cX7_init 109 = .ok (.bipush 60, 2) := by decide +kernel
theorem dX7_init_111 : decode cX7_init 111 = .ok (.newarray .int, 2) := by decide +kernel
theorem dX7_init_113 : decode cX7_init 113 = .ok (.putfield 40, 3) := by decide +kernel
theorem dX7_init_116 : decode cX7_init 116 = .ok (.aload_n 0, 1) := by decide +kernel
theorem dX7_init_117 : decode cX7_init 117 = .ok (.bipush 60, 2) := by decide +kernel
theorem dX7_init_119 : decode cX7_init 119 = .ok (.newarray .boolean, 2) := by decide +kernel
theorem dX7_init_121 : decode cX7_init 121 = .ok (.putfield 43, 3) := by decide +kernel
theorem dX7_init_124 : decode cX7_init 124 = .ok (.aload_n 0, 1) := by decide +kernel
theorem dX7_init_125 : decode cX7_init 125 = .ok (.bipush 10, 2) := by decide +kernel
theorem dX7_init_127 : decode cX7_init 127 = .ok (.newarray .int, 2) := by decide +kernel
theorem dX7_init_129 : decode cX7_init 129 = .ok (.putfield 47, 3) := by decide +kernel
theorem dX7_init_132 : decode cX7_init 132 = .ok (.aload_n 0, 1) := by decide +kernel
theorem dX7_init_133 : decode cX7_init 133 = .ok (.bipush 10, 2) := by decide +kernel
theorem dX7_init_135 : decode cX7_init 135 = .ok (.newarray .int, 2) := by decide +kernel
theorem dX7_init_137 : decode cX7_init 137 = .ok (.putfield 50, 3) := by decide +kernel
theorem dX7_init_140 : decode cX7_init 140 = .ok (.aload_n 0, 1) := by decide +kernel
theorem dX7_init_141 : decode cX7_init 141 = .ok (.bipush 10, 2) := by decide +kernel
theorem dX7_init_143 : decode cX7_init 143 = .ok (.newarray .int, 2) := by decide +kernel
theorem dX7_init_145 : decode cX7_init 145 = .ok (.putfield 53, 3) := by decide +kernel
theorem dX7_init_148 : decode cX7_init 148 = .ok (.aload_n 0, 1) := by decide +kernel
theorem dX7_init_149 : decode cX7_init 149 = .ok (.bipush 61, 2) := by decide +kernel
theorem dX7_init_151 : decode cX7_init 151 = .ok (.newarray .boolean, 2) := by decide +kernel
theorem dX7_init_153 : decode cX7_init 153 = .ok (.putfield 56, 3) := by decide +kernel
theorem dX7_init_156 : decode cX7_init 156 = .ok (.aload_n 0, 1) := by decide +kernel
theorem dX7_init_157 : decode cX7_init 157 = .ok (.bipush 6, 2) := by decide +kernel
theorem dX7_init_159 : decode cX7_init 159 = .ok (.newarray .int, 2) := by decide +kernel
theorem dX7_init_161 : decode cX7_init 161 = .ok (.putfield 59, 3) := by decide +kernel
theorem dX7_init_164 : decode cX7_init 164 = .ok (.aload_n 0, 1) := by decide +kernel
theorem dX7_init_165 : decode cX7_init 165 = .ok (.bipush 6, 2) := by decide +kernel
theorem dX7_init_167 : decode cX7_init 167 = .ok (.newarray .int, 2) := by decide +kernel
theorem dX7_init_169 : decode cX7_init 169 = .ok (.putfield 62, 3) := by decide +kernel
theorem dX7_init_172 : decode cX7_init 172 = .ok (.aload_n 0, 1) := by decide +kernel
theorem dX7_init_173 : decode cX7_init 173 = .ok (.iconst 4, 1) := by decide +kernel
theorem dX7_init_174 : decode cX7_init 174 = .ok (.newarray .int, 2) := by decide +kernel
theorem dX7_init_176 : decode cX7_init 176 = .ok (.dup, 1) := by decide +kernel
theorem dX7_init_177 : decode cX7_init 177 = .ok (.iconst 0, 1) := by decide +kernel
theorem dX7_init_178 : decode cX7_init 178 = .ok (.bipush 100, 2) := by decide +kernel
theorem dX7_init_180 : decode cX7_init 180 = .ok (.iastore, 1) := by decide +kernel
theorem dX7_init_181 : decode cX7_init 181 = .ok (.dup, 1) := by decide +kernel
theorem dX7_init_182 : decode cX7_init 182 = .ok (.iconst 1, 1) := by decide +kernel
theorem dX7_init_183 : decode cX7_init 183 = .ok (.bipush 100, 2) := by decide +kernel
theorem dX7_init_185 : decode cX7_init 185 = .ok (.iastore, 1) := by decide +kernel
theorem dX7_init_186 : decode cX7_init 186 = .ok (.dup, 1) := by decide +kernel
theorem dX7_init_187 : decode cX7_init 187 = .ok (.iconst 2, 1) := by decide +kernel
theorem dX7_init_188 : decode cX7_init 188 = .ok (.bipush 100, 2) := by decide +kernel
theorem dX7_init_190 : decode cX7_init 190 = .ok (.iastore, 1) := by decide +kernel
theorem dX7_init_191 : decode cX7_init 191 = .ok (.dup, 1) := by decide +kernel
theorem dX7_init_192 : decode cX7_init 192 = .ok (.iconst 3, 1) := by decide +kernel
theorem dX7_init_193 : decode cX7_init 193 = .ok (.bipush 100, 2) := by decide +kernel
theorem dX7_init_195 : decode cX7_init 195 = .ok (.iastore, 1) := by decide +kernel
theorem dX7_init_196 : decode cX7_init 196 = .ok (.putfield 65, 3) := by decide +kernel
theorem dX7_init_199 : decode cX7_init 199 = .ok (.aload_n 0, 1) := by decide +kernel
theorem dX7_init_200 : decode cX7_init 200 = .ok (.sipush 3960, 3) := by decide +kernel
theorem dX7_init_203 : decode cX7_init 203 = .ok (.newarray .int, 2) := by decide +kernel
theorem dX7_init_205 : decode cX7_init 205 = .ok (.putfield 68, 3) := by decide +kernel
theorem dX7_init_208 : decode cX7_init 208 = .ok (.aload_n 0, 1) := by decide +kernel
theorem dX7_init_209 : decode cX7_init 209 = .ok (.bipush 10, 2) := by decide +kernel
theorem dX7_init_211 : decode cX7_init 211 = .ok (.newarray .int, 2) := by decide +kernel
theorem dX7_init_213 : decode cX7_init 213 = .ok (.putfield 71, 3) := by decide +kernel
theorem dX7_init_216 : decode cX7_init 216 = .ok (.aload_n 0, 1) := by decide +kernel
theorem dX7_init_217 : decode cX7_init 217 = .ok (.bipush 10, 2) := by decide +kernel
theorem dX7_init_219 : decode cX7_init 219 = .ok (.newarray .int, 2) := by decide +kernel
theorem dX7_init_221 : decode cX7_init 221 = .ok (.putfield 74, 3) := by decide +kernel
theorem dX7_init_224 : decode cX7_init 224 = .ok (.aload_n 0, 1) := by decide +kernel
theorem dX7_init_225 : decode cX7_init 225 = .ok (.bipush 10, 2) := by decide +kernel
theorem dX7_init_227 : decode cX7_init 227 = .ok (.newarray .int, 2) := by decide +kernel
theorem dX7_init_229 : decode cX7_init 229 = .ok (.putfield 77, 3) := by decide +kernel
theorem dX7_init_232 : decode cX7_init 232 = .ok (.aload_n 0, 1) := by decide +kernel
theorem dX7_init_233 : decode cX7_init 233 = .ok (.iconst 3, 1) := by decide +kernel
theorem dX7_init_234 : decode cX7_init 234 = .ok (.newarray .int, 2) := by decide +kernel
theorem dX7_init_236 : decode cX7_init 236 = .ok (.putfield 80, 3) := by decide +kernel
theorem dX7_init_239 : decode cX7_init 239 = .ok (.return_, 1) := by decide +kernel
theorem dX7_in_0 : decode cX7_in 0 = .ok (.iload_n 0, 1) := by decide +kernel
theorem dX7_in_1 : decode cX7_in 1 = .ok (.iload_n 1, 1) := by decide +kernel
theorem dX7_in_2 : decode cX7_in 2 = .ok (.if_icmp .lt 12, 3) := by decide +kernel
theorem dX7_in_5 : decode cX7_in 5 = .ok (.iload_n 0, 1) := by decide +kernel
theorem dX7_in_6 : decode cX7_in 6 = .ok (.iload_n 2, 1) := by decide +kernel
theorem dX7_in_7 : decode cX7_in 7 = .ok (.if_icmp .gt 7, 3) := by decide +kernel
theorem dX7_in_10 : decode cX7_in 10 = .ok (.iconst 1, 1) := by decide +kernel
theorem dX7_in_11 : decode cX7_in 11 = .ok (.goto 4, 3) := by decide +kernel
theorem dX7_in_14 : decode cX7_in 14 = .ok (.iconst 0, 1) := by decide +kernel
theorem dX7_in_15 : decode cX7_in 15 = .ok (.ireturn, 1) := by decide +kernel
theorem dX7_isThing_0 : decode cX7_isThing 0 = .ok (.iload_n 0, 1) := by decide +kernel
theorem dX7_isThing_1 : decode cX7_isThing 1 = .ok (.iconst 0, 1) := by decide +kernel
theorem dX7_isThing_2 : decode cX7_isThing 2 = .ok (.iconst 5, 1) := by decide +kernel
theorem dX7_isThing_3 : decode cX7_isThing 3 = .ok (.invokestatic 83, 3) := by decide +kernel
theorem dX7_isThing_6 : decode cX7_isThing 6 = .ok (.ireturn, 1) := by decide +kernel
theorem dX7_isField_0 : decode cX7_isField 0 = .ok (.iload_n 1, 1) := by decide +kernel
theorem dX7_isField_1 : decode cX7_isField 1 = .ok (.iconst 0, 1) := by decide +kernel
theorem dX7_isField_2 : decode cX7_isField 2 = .ok (.aload_n 0, 1) := by decide +kernel
theorem dX7_isField_3 : decode cX7_isField 3 = .ok (.getfield 87, 3) := by decide +kernel
theorem dX7_isField_6 : decode cX7_isField 6 = .ok (.iconst 1, 1) := by decide +kernel
theorem dX7_isField_7 : decode cX7_isField 7 = .ok (.isub, 1) := by decide +kernel
theorem dX7_isField_8 : decode cX7_isField 8 = .ok (.invokestatic 83, 3) := by decide +kernel
theorem dX7_isField_11 : decode cX7_isField 11 = .ok (.ireturn, 1) := by decide +kernel
theorem dX7_isDay_0 : decode cX7_isDay 0 = .ok (.iload_n 0, 1) := by decide +kernel
theorem dX7_isDay_1 : decode cX7_isDay 1 = .ok (.iconst 0, 1) := by decide +kernel
theorem dX7_isDay_2 : decode cX7_isDay 2 = .ok (.bipush 60, 2) := by decide +kernel
theorem dX7_isDay_4 : decode cX7_isDay 4 = .ok (.invokestatic 83, 3) := by decide +kernel
theorem dX7_isDay_7 : decode cX7_isDay 7 = .ok (.ireturn, 1) := by decide +kernel
theorem dX7_thing_0 : decode cX7_thing 0 = .ok (.iload_n 1, 1) := by decide +kernel
theorem dX7_thing_1 : decode cX7_thing 1 = .ok (.invokestatic 91, 3) := by decide +kernel
theorem dX7_thing_4 : decode cX7_thing 4 = .ok (.ifCond .eq 58, 3) := by decide +kernel
theorem dX7_thing_7 : decode cX7_thing 7 = .ok (.iload_n 2, 1) := by decide +kernel
theorem dX7_thing_8 : decode cX7_thing 8 = .ok (.iconst 0, 1) := by decide +kernel
theorem dX7_thing_9 : decode cX7_thing 9 = .ok (.sipush 1000, 3) := by decide +kernel
theorem dX7_thing_12 : decode cX7_thing 12 = .ok (.invokestatic 83, 3) := by decide +kernel
theorem dX7_thing_15 : decode cX7_thing 15 = .ok (.ifCond .eq 47, 3) := by decide +kernel
theorem dX7_thing_18 : decode cX7_thing 18 = .ok (.iload_n 3, 1) := by decide +kernel
theorem dX7_thing_19 : decode cX7_thing 19 = .ok (.iconst 0, 1) := by decide +kernel
theorem dX7_thing_20 : decode cX7_thing 20 = .ok (.iconst 5, 1) := by decide +kernel
theorem dX7_thing_21 : decode cX7_thing 21 = .ok (.invokestatic 83, 3) := by decide +kernel
theorem dX7_thing_24 : decode cX7_thing 24 = .ok (.ifCond .eq 38, 3) := by decide +kernel
theorem dX7_thing_27 : decode cX7_thing 27 = .ok (.iload 4, 2) := by decide +kernel
theorem dX7_thing_29 : decode cX7_thing 29 = .ok (.iconst 1, 1) := by decide +kernel
theorem dX7_thing_30 : decode cX7_thing 30 = .ok (.bipush 100, 2) := by decide +kernel
theorem dX7_thing_32 : decode cX7_thing 32 = .ok (.invokestatic 83, 3) := by decide +kernel
theorem dX7_thing_35 : decode cX7_thing 35 = .ok (.ifCond .eq 27, 3) := by decide +kernel
theorem dX7_thing_38 : decode cX7_thing 38 = .ok (.iload 5, 2) := by decide +kernel
theorem dX7_thing_40 : decode cX7_thing 40 = .ok (.iconst 0, 1) := by decide +kernel
theorem dX7_thing_41 : decode cX7_thing 41 = .ok (.sipush 1000, 3) := by decide +kernel
theorem dX7_thing_44 : decode cX7_thing 44 = .ok (.invokestatic 83, 3) := by decide +kernel
theorem dX7_thing_47 : decode cX7_thing 47 = .ok (.ifCond .eq 15, 3) := by decide +kernel
theorem dX7_thing_50 : decode cX7_thing 50 = .ok (.iload 6, 2) := by decide +kernel
theorem dX7_thing_52 : decode cX7_thing 52 = .ok (.iconst 0, 1) := by decide +kernel
theorem dX7_thing_53 : decode cX7_thing 53 = .ok (.sipush 10000, 3) := by decide +kernel
theorem dX7_thing_56 : decode cX7_thing 56 = .ok (.invokestatic 83, 3) := by decide +kernel
theorem dX7_thing_59 : decode cX7_thing 59 = .ok (.ifCond .ne 6, 3) := by decide +kernel
theorem dX7_thing_62 : decode cX7_thing 62 = .ok (.bipush (-2), 2) := by decide +kernel
theorem dX7_thing_64 : decode cX7_thing 64 = .ok (.ireturn, 1) := by decide +kernel
theorem dX7_thing_65 : decode cX7_thing 65 = .ok (.aload_n 0, 1) := by decide +kernel
theorem dX7_thing_66 : decode cX7_thing 66 = .ok (.getfield 7, 3) := by decide +kernel
theorem dX7_thing_69 : decode cX7_thing 69 = .ok (.iload_n 1, 1) := by decide +kernel
theorem dX7_thing_70 : decode cX7_thing 70 = .ok (.iload_n 2, 1) := by decide +kernel
theorem dX7_thing_71 : decode cX7_thing 71 = .ok (.iastore, 1) := by decide +kernel
theorem dX7_thing_72 : decode cX7_thing 72 = .ok (.aload_n 0, 1) := by decide +kernel
theorem dX7_thing_73 : decode cX7_thing 73 = .ok (.getfield 13, 3) := by decide +kernel
theorem dX7_thing_76 : decode cX7_thing 76 = .ok (.iload_n 1, 1) := by decide +kernel
theorem dX7_thing_77 : decode cX7_thing 77 = .ok (.iload_n 3, 1) := by decide +kernel
theorem dX7_thing_78 : decode cX7_thing 78 = .ok (.iastore, 1) := by decide +kernel
theorem dX7_thing_79 : decode cX7_thing 79 = .ok (.aload_n 0, 1) := by decide +kernel
theorem dX7_thing_80 : decode cX7_thing 80 = .ok (.getfield 16, 3) := by decide +kernel
theorem dX7_thing_83 : decode cX7_thing 83 = .ok (.iload_n 1, 1) := by decide +kernel
theorem dX7_thing_84 : decode cX7_thing 84 = .ok (.iload 4, 2) := by decide +kernel
theorem dX7_thing_86 : decode cX7_thing 86 = .ok (.iastore, 1) := by decide +kernel
theorem dX7_thing_87 : decode cX7_thing 87 = .ok (.aload_n 0, 1) := by decide +kernel
theorem dX7_thing_88 : decode cX7_thing 88 = .ok (.getfield 19, 3) := by decide +kernel
theorem dX7_thing_91 : decode cX7_thing 91 = .ok (.iload_n 1, 1) := by decide +kernel
theorem dX7_thing_92 : decode cX7_thing 92 = .ok (.iload 5, 2) := by decide +kernel
theorem dX7_thing_94 : decode cX7_thing 94 = .ok (.iastore, 1) := by decide +kernel
theorem dX7_thing_95 : decode cX7_thing 95 = .ok (.aload_n 0, 1) := by decide +kernel
theorem dX7_thing_96 : decode cX7_thing 96 = .ok (.getfield 22, 3) := by decide +kernel
theorem dX7_thing_99 : decode cX7_thing 99 = .ok (.iload_n 1, 1) := by decide +kernel
theorem dX7_thing_100 : decode cX7_thing 100 = .ok (.iload 6, 2) := by decide +kernel
theorem dX7_thing_102 : decode cX7_thing 102 = .ok (.iastore, 1) := by decide +kernel
theorem dX7_thing_103 : decode cX7_thing 103 = .ok (.iconst 1, 1) := by decide +kernel
theorem dX7_thing_104 : decode cX7_thing 104 = .ok (.ireturn, 1) := by decide +kernel
theorem dX7_field_0 : decode cX7_field 0 = .ok (.iload_n 1, 1) := by decide +kernel
theorem dX7_field_1 : decode cX7_field 1 = .ok (.invokestatic 95, 3) := by decide +kernel
theorem dX7_field_4 : decode cX7_field 4 = .ok (.ifCond .eq 23, 3) := by decide +kernel
theorem dX7_field_7 : decode cX7_field 7 = .ok (.iload_n 2, 1) := by decide +kernel
theorem dX7_field_8 : decode cX7_field 8 = .ok (.iload_n 1, 1) := by decide +kernel
theorem dX7_field_9 : decode cX7_field 9 = .ok (.bipush 60, 2) := by decide +kernel
theorem dX7_field_11 : decode cX7_field 11 = .ok (.invokestatic 83, 3) := by decide +kernel
theorem dX7_field_14 : decode cX7_field 14 = .ok (.ifCond .eq 13, 3) := by decide +kernel
theorem dX7_field_17 : decode cX7_field 17 = .ok (.iload_n 3, 1) := by decide +kernel
theorem dX7_field_18 : decode cX7_field 18 = .ok (.iconst 0, 1) := by decide +kernel
theorem dX7_field_19 : decode cX7_field 19 = .ok (.ldc 98, 2) := by decide +kernel
theorem dX7_field_21 : decode cX7_field 21 = .ok (.invokestatic 83, 3) := by decide +kernel
theorem dX7_field_24 : decode cX7_field 24 = .ok (.ifCond .ne 6, 3) := by decide +kernel
theorem dX7_field_27 : decode cX7_field 27 = .ok (.bipush (-2), 2) := by decide +kernel
theorem dX7_field_29 : decode cX7_field 29 = .ok (.ireturn, 1) := by decide +kernel
theorem dX7_field_30 : decode cX7_field 30 = .ok (.aload_n 0, 1) := by decide +kernel
theorem dX7_field_31 : decode cX7_field 31 = .ok (.getfield 87, 3) := by decide +kernel
theorem dX7_field_34 : decode cX7_field 34 = .ok (.bipush 10, 2) := by decide +kernel
theorem dX7_field_36 : decode cX7_field 36 = .ok (.if_icmp .ne 6, 3) := by decide +kernel
theorem dX7_field_39 : decode cX7_field 39 = .ok (.bipush (-4), 2) := by decide +kernel
theorem dX7_field_41 : decode cX7_field 41 = .ok (.ireturn, 1) := by decide +kernel
theorem dX7_field_42 : decode cX7_field 42 = .ok (.aload_n 0, 1) := by decide +kernel
theorem dX7_field_43 : decode cX7_field 43 = .ok (.getfield 28, 3) := by decide +kernel
theorem dX7_field_46 : decode cX7_field 46 = .ok (.aload_n 0, 1) := by decide +kernel
theorem dX7_field_47 : decode cX7_field 47 = .ok (.getfield 87, 3) := by decide +kernel
theorem dX7_field_50 : decode cX7_field 50 = .ok (.iload_n 1, 1) := by decide +kernel
theorem dX7_field_51 : decode cX7_field 51 = .ok (.iastore, 1) := by decide +kernel
theorem dX7_field_52 : decode cX7_field 52 = .ok (.aload_n 0, 1) := by decide +kernel
theorem dX7_field_53 : decode cX7_field 53 = .ok (.getfield 31, 3) := by decide +kernel
theorem dX7_field_56 : decode cX7_field 56 = .ok (.aload_n 0, 1) := by decide +kernel
theorem dX7_field_57 : decode cX7_field 57 = .ok (.getfield 87, 3) := by decide +kernel
theorem dX7_field_60 : decode cX7_field 60 = .ok (.iload_n 2, 1) := by decide +kernel
theorem dX7_field_61 : decode cX7_field 61 = .ok (.iastore, 1) := by decide +kernel
theorem dX7_field_62 : decode cX7_field 62 = .ok (.aload_n 0, 1) := by decide +kernel
theorem dX7_field_63 : decode cX7_field 63 = .ok (.getfield 34, 3) := by decide +kernel
theorem dX7_field_66 : decode cX7_field 66 = .ok (.aload_n 0, 1) := by decide +kernel
theorem dX7_field_67 : decode cX7_field 67 = .ok (.getfield 87, 3) := by decide +kernel
theorem dX7_field_70 : decode cX7_field 70 = .ok (.iload_n 3, 1) := by decide +kernel
theorem dX7_field_71 : decode cX7_field 71 = .ok (.iastore, 1) := by decide +kernel
theorem dX7_field_72 : decode cX7_field 72 = .ok (.aload_n 0, 1) := by decide +kernel
theorem dX7_field_73 : decode cX7_field 73 = .ok (.getfield 37, 3) := by decide +kernel
theorem dX7_field_76 : decode cX7_field 76 = .ok (.aload_n 0, 1) := by decide +kernel
theorem dX7_field_77 : decode cX7_field 77 = .ok (.getfield 87, 3) := by decide +kernel
theorem dX7_field_80 : decode cX7_field 80 = .ok (.iconst 0, 1) := by decide +kernel
theorem dX7_field_81 : decode cX7_field 81 = .ok (.iastore, 1) := by decide +kernel
theorem dX7_field_82 : decode cX7_field 82 = .ok (.aload_n 0, 1) := by decide +kernel
theorem dX7_field_83 : decode cX7_field 83 = .ok (.dup, 1) := by decide +kernel
theorem dX7_field_84 : decode cX7_field 84 = .ok (.getfield 87, 3) := by decide +kernel
theorem dX7_field_87 : decode cX7_field 87 = .ok (.iconst 1, 1) := by decide +kernel
theorem dX7_field_88 : decode cX7_field 88 = .ok (.iadd, 1) := by decide +kernel
theorem dX7_field_89 : decode cX7_field 89 = .ok (.putfield 87, 3) := by decide +kernel
theorem dX7_field_92 : decode cX7_field 92 = .ok (.aload_n 0, 1) := by decide +kernel
theorem dX7_field_93 : decode cX7_field 93 = .ok (.getfield 87, 3) := by decide +kernel
theorem dX7_field_96 : decode cX7_field 96 = .ok (.iconst 1, 1) := by decide +kernel
theorem dX7_field_97 : decode cX7_field 97 = .ok (.isub, 1) := by decide +kernel
theorem dX7_field_98 : decode cX7_field 98 = .ok (.ireturn, 1) := by decide +kernel
theorem dX7_need_0 : decode cX7_need 0 = .ok (.aload_n 0, 1) := by decide +kernel
theorem dX7_need_1 : decode cX7_need 1 = .ok (.iload_n 1, 1) := by decide +kernel
theorem dX7_need_2 : decode cX7_need 2 = .ok (.invokevirtual 99, 3) := by decide +kernel
theorem dX7_need_5 : decode cX7_need 5 = .ok (.ifCond .eq 21, 3) := by decide +kernel
theorem dX7_need_8 : decode cX7_need 8 = .ok (.iload_n 2, 1) := by decide +kernel
theorem dX7_need_9 : decode cX7_need 9 = .ok (.invokestatic 91, 3) := by decide +kernel
theorem dX7_need_12 : decode cX7_need 12 = .ok (.ifCond .eq 14, 3) := by decide +kernel
theorem dX7_need_15 : decode cX7_need 15 = .ok (.iload_n 3, 1) := by decide +kernel
theorem dX7_need_16 : decode cX7_need 16 = .ok (.iconst 0, 1) := by decide +kernel
theorem dX7_need_17 : decode cX7_need 17 = .ok (.sipush 500, 3) := by decide +kernel
theorem dX7_need_20 : decode cX7_need 20 = .ok (.invokestatic 83, 3) := by decide +kernel
theorem dX7_need_23 : decode cX7_need 23 = .ok (.ifCond .ne 6, 3) := by decide +kernel
theorem dX7_need_26 : decode cX7_need 26 = .ok (.bipush (-2), 2) := by decide +kernel
theorem dX7_need_28 : decode cX7_need 28 = .ok (.ireturn, 1) := by decide +kernel
theorem dX7_need_29 : decode cX7_need 29 = .ok (.aload_n 0, 1) := by decide +kernel
theorem dX7_need_30 : decode cX7_need 30 = .ok (.getfield 37, 3) := by decide +kernel
theorem dX7_need_33 : decode cX7_need 33 = .ok (.iload_n 1, 1) := by decide +kernel
theorem dX7_need_34 : decode cX7_need 34 = .ok (.iaload, 1) := by decide +kernel
theorem dX7_need_35 : decode cX7_need 35 = .ok (.ifCond .eq 6, 3) := by decide +kernel
theorem dX7_need_38 : decode cX7_need 38 = .ok (.bipush (-3), 2) := by decide +kernel
theorem dX7_need_40 : decode cX7_need 40 = .ok (.ireturn, 1) := by decide +kernel
theorem dX7_need_41 : decode cX7_need 41 = .ok (.aload_n 0, 1) := by decide +kernel
theorem dX7_need_42 : decode cX7_need 42 = .ok (.getfield 40, 3) := by decide +kernel
theorem dX7_need_45 : decode cX7_need 45 = .ok (.bipush 6, 2) := by decide +kernel
theorem dX7_need_47 : decode cX7_need 47 = .ok (.iload_n 1, 1) := by decide +kernel
theorem dX7_need_48 : decode cX7_need 48 = .ok (.imul, 1) := by decide +kernel
theorem dX7_need_49 : decode cX7_need 49 = .ok (.iload_n 2, 1) := by decide +kernel
theorem dX7_need_50 : decode cX7_need 50 = .ok (.iadd, 1) := by decide +kernel
theorem dX7_need_51 : decode cX7_need 51 = .ok (.iaload, 1) := by decide +kernel
theorem dX7_need_52 : decode cX7_need 52 = .ok (.istore 4, 2) := by decide +kernel
theorem dX7_need_54 : decode cX7_need 54 = .ok (.aload_n 0, 1) := by decide +kernel
theorem dX7_need_55 : decode cX7_need 55 = .ok (.getfield 40, 3) := by decide +kernel
theorem dX7_need_58 : decode cX7_need 58 = .ok (.bipush 6, 2) := by decide +kernel
theorem dX7_need_60 : decode cX7_need 60 = .ok (.iload_n 1, 1) := by decide +kernel
theorem dX7_need_61 : decode cX7_need 61 = .ok (.imul, 1) := by decide +kernel
theorem dX7_need_62 : decode cX7_need 62 = .ok (.iload_n 2, 1) := by decide +kernel
theorem dX7_need_63 : decode cX7_need 63 = .ok (.iadd, 1) := by decide +kernel
theorem dX7_need_64 : decode cX7_need 64 = .ok (.iload_n 3, 1) := by decide +kernel
theorem dX7_need_65 : decode cX7_need 65 = .ok (.iastore, 1) := by decide +kernel
theorem dX7_need_66 : decode cX7_need 66 = .ok (.iload 4, 2) := by decide +kernel
theorem dX7_need_68 : decode cX7_need 68 = .ok (.ireturn, 1) := by decide +kernel
theorem dX7_rain_0 : decode cX7_rain 0 = .ok (.iload_n 1, 1) := by decide +kernel
theorem dX7_rain_1 : decode cX7_rain 1 = .ok (.invokestatic 95, 3) := by decide +kernel
theorem dX7_rain_4 : decode cX7_rain 4 = .ok (.ifCond .ne 6, 3) := by decide +kernel
theorem dX7_rain_7 : decode cX7_rain 7 = .ok (.bipush (-2), 2) := by decide +kernel
theorem dX7_rain_9 : decode cX7_rain 9 = .ok (.ireturn, 1) := by decide +kernel
theorem dX7_rain_10 : decode cX7_rain 10 = .ok (.aload_n 0, 1) := by decide +kernel
theorem dX7_rain_11 : decode cX7_rain 11 = .ok (.getfield 56, 3) := by decide +kernel
theorem dX7_rain_14 : decode cX7_rain 14 = .ok (.iload_n 1, 1) := by decide +kernel
theorem dX7_rain_15 : decode cX7_rain 15 = .ok (.iload_n 2, 1) := by decide +kernel
theorem dX7_rain_16 : decode cX7_rain 16 = .ok (.bastore, 1) := by decide +kernel
theorem dX7_rain_17 : decode cX7_rain 17 = .ok (.iconst 1, 1) := by decide +kernel
theorem dX7_rain_18 : decode cX7_rain 18 = .ok (.ireturn, 1) := by decide +kernel
theorem dX7_findUses_0 : decode cX7_findUses 0 = .ok (.iconst 0, 1) := by decide +kernel
theorem dX7_findUses_1 : decode cX7_findUses 1 = .ok (.istore_n 1, 1) := by decide +kernel
theorem dX7_findUses_2 : decode cX7_findUses 2 = .ok (.iload_n 1, 1) := by decide +kernel
theorem dX7_findUses_3 : decode cX7_findUses 3 = .ok (.aload_n 0, 1) := by decide +kernel
theorem dX7_findUses_4 : decode cX7_findUses 4 = .ok (.getfield 87, 3) := by decide +kernel
theorem dX7_findUses_7 : decode cX7_findUses 7 = .ok (.if_icmp .ge 141, 3) := by decide +kernel
theorem dX7_findUses_10 : decode cX7_findUses 10 = .ok (.iconst 0, 1) := by decide +kernel
theorem dX7_findUses_11 : decode cX7_findUses 11 = .ok (.istore_n 2, 1) := by decide +kernel
theorem dX7_findUses_12 : decode cX7_findUses 12 = .ok (.iload_n 2, 1) := by decide +kernel
theorem dX7_findUses_13 : decode cX7_findUses 13 = .ok (.bipush 66, 2) := by decide +kernel
theorem dX7_findUses_15 : decode cX7_findUses 15 = .ok (.if_icmp .ge 127, 3) := by decide +kernel
theorem dX7_findUses_18 : decode cX7_findUses 18 = .ok (.iconst 0, 1) := by decide +kernel
theorem dX7_findUses_19 : decode cX7_findUses 19 = .ok (.istore_n 3, 1) := by decide +kernel
theorem dX7_findUses_20 : decode cX7_findUses 20 = .ok (.iload_n 3, 1) := by decide +kernel
theorem dX7_findUses_21 : decode cX7_findUses 21 = .ok (.bipush 6, 2) := by decide +kernel
theorem dX7_findUses_23 : decode cX7_findUses 23 = .ok (.if_icmp .ge 113, 3) := by decide +kernel
theorem dX7_findUses_26 : decode cX7_findUses 26 = .ok (.aload_n 0, 1) := by decide +kernel
theorem dX7_findUses_27 : decode cX7_findUses 27 = .ok (.getfield 56, 3) := by decide +kernel
theorem dX7_findUses_30 : decode cX7_findUses 30 = .ok (.aload_n 0, 1) := by decide +kernel
theorem dX7_findUses_31 : decode cX7_findUses 31 = .ok (.getfield 31, 3) := by decide +kernel
theorem dX7_findUses_34 : decode cX7_findUses 34 = .ok (.iload_n 1, 1) := by decide +kernel
theorem dX7_findUses_35 : decode cX7_findUses 35 = .ok (.iaload, 1) := by decide +kernel
theorem dX7_findUses_36 : decode cX7_findUses 36 = .ok (.baload, 1) := by decide +kernel
theorem dX7_findUses_37 : decode cX7_findUses 37 = .ok (.ifCond .eq 34, 3) := by decide +kernel
theorem dX7_findUses_40 : decode cX7_findUses 40 = .ok (.iload_n 2, 1) := by decide +kernel
theorem dX7_findUses_41 : decode cX7_findUses 41 = .ok (.aload_n 0, 1) := by decide +kernel
theorem dX7_findUses_42 : decode cX7_findUses 42 = .ok (.getfield 31, 3) := by decide +kernel
theorem dX7_findUses_45 : decode cX7_findUses 45 = .ok (.iload_n 1, 1) := by decide +kernel
theorem dX7_findUses_46 : decode cX7_findUses 46 = .ok (.iaload, 1) := by decide +kernel
theorem dX7_findUses_47 : decode cX7_findUses 47 = .ok (.if_icmp .le 24, 3) := by decide +kernel
theorem dX7_findUses_50 : decode cX7_findUses 50 = .ok (.iload_n 2, 1) := by decide +kernel
theorem dX7_findUses_51 : decode cX7_findUses 51 = .ok (.aload_n 0, 1) := by decide +kernel
theorem dX7_findUses_52 : decode cX7_findUses 52 = .ok (.getfield 31, 3) := by decide +kernel
theorem dX7_findUses_55 : decode cX7_findUses 55 = .ok (.iload_n 1, 1) := by decide +kernel
theorem dX7_findUses_56 : decode cX7_findUses 56 = .ok (.iaload, 1) := by decide +kernel
theorem dX7_findUses_57 : decode cX7_findUses 57 = .ok (.aload_n 0, 1) := by decide +kernel
theorem dX7_findUses_58 : decode cX7_findUses 58 = .ok (.getfield 13, 3) := by decide +kernel
theorem dX7_findUses_61 : decode cX7_findUses 61 = .ok (.iload_n 3, 1) := by decide +kernel
theorem dX7_findUses_62 : decode cX7_findUses 62 = .ok (.iaload, 1) := by decide +kernel
theorem dX7_findUses_63 : decode cX7_findUses 63 = .ok (.iadd, 1) := by decide +kernel
theorem dX7_findUses_64 : decode cX7_findUses 64 = .ok (.if_icmp .gt 7, 3) := by decide +kernel
theorem dX7_findUses_67 : decode cX7_findUses 67 = .ok (.iconst 1, 1) := by decide +kernel
theorem dX7_findUses_68 : decode cX7_findUses 68 = .ok (.goto 4, 3) := by decide +kernel
theorem dX7_findUses_71 : decode cX7_findUses 71 = .ok (.iconst 0, 1) := by decide +kernel
theorem dX7_findUses_72 : decode cX7_findUses 72 = .ok (.istore 4, 2) := by decide +kernel
theorem dX7_findUses_74 : decode cX7_findUses 74 = .ok (.aload_n 0, 1) := by decide +kernel
theorem dX7_findUses_75 : decode cX7_findUses 75 = .ok (.getfield 68, 3) := by decide +kernel
theorem dX7_findUses_78 : decode cX7_findUses 78 = .ok (.sipush 396, 3) := by decide +kernel
theorem dX7_findUses_81 : decode cX7_findUses 81 = .ok (.iload_n 1, 1) := by decide +kernel
theorem dX7_findUses_82 : decode cX7_findUses 82 = .ok (.imul, 1) := by decide +kernel
theorem dX7_findUses_83 : decode cX7_findUses 83 = .ok (.bipush 6, 2) := by decide +kernel
theorem dX7_findUses_85 : decode cX7_findUses 85 = .ok (.iload_n 2, 1) := by decide +kernel
theorem dX7_findUses_86 : decode cX7_findUses 86 = .ok (.imul, 1) := by decide +kernel
theorem dX7_findUses_87 : decode cX7_findUses 87 = .ok (.iadd, 1) := by decide +kernel
theorem dX7_findUses_88 : decode cX7_findUses 88 = .ok (.iload_n 3, 1) := by decide +kernel
theorem dX7_findUses_89 : decode cX7_findUses 89 = .ok (.iadd, 1) := by decide +kernel
theorem dX7_findUses_90 : decode cX7_findUses 90 = .ok (.iload_n 2, 1) := by decide +kernel
theorem dX7_findUses_91 : decode cX7_findUses 91 = .ok (.aload_n 0, 1) := by decide +kernel
theorem dX7_findUses_92 : decode cX7_findUses 92 = .ok (.getfield 28, 3) := by decide +kernel
theorem dX7_findUses_95 : decode cX7_findUses 95 = .ok (.iload_n 1, 1) := by decide +kernel
theorem dX7_findUses_96 : decode cX7_findUses 96 = .ok (.iaload, 1) := by decide +kernel
theorem dX7_findUses_97 : decode cX7_findUses 97 = .ok (.aload_n 0, 1) := by decide +kernel
theorem dX7_findUses_98 : decode cX7_findUses 98 = .ok (.getfield 31, 3) := by decide +kernel
theorem dX7_findUses_101 : decode cX7_findUses 101 = .ok (.iload_n 1, 1) := by decide +kernel
theorem dX7_findUses_102 : decode cX7_findUses 102 = .ok (.iaload, 1) := by decide +kernel
theorem dX7_findUses_103 : decode cX7_findUses 103 = .ok (.invokestatic 83, 3) := by decide +kernel
theorem dX7_findUses_106 : decode cX7_findUses 106 = .ok (.ifCond .ne 8, 3) := by decide +kernel
theorem dX7_findUses_109 : decode cX7_findUses 109 = .ok (.iload 4, 2) := by decide +kernel
theorem dX7_findUses_111 : decode cX7_findUses 111 = .ok (.ifCond .eq 17, 3) := by decide +kernel
theorem dX7_findUses_114 : decode cX7_findUses 114 = .ok (.aload_n 0, 1) := by decide +kernel
theorem dX7_findUses_115 : decode cX7_findUses 115 = .ok (.getfield 40, 3) := by decide +kernel
theorem dX7_findUses_118 : decode cX7_findUses 118 = .ok (.bipush 6, 2) := by decide +kernel
theorem dX7_findUses_120 : decode cX7_findUses 120 = .ok (.iload_n 1, 1) := by decide +kernel
theorem dX7_findUses_121 : decode cX7_findUses 121 = .ok (.imul, 1) := by decide +kernel
theorem dX7_findUses_122 : decode cX7_findUses 122 = .ok (.iload_n 3, 1) := by decide +kernel
theorem dX7_findUses_123 : decode cX7_findUses 123 = .ok (.iadd, 1) := by decide +kernel
theorem dX7_findUses_124 : decode cX7_findUses 124 = .ok (.iaload, 1) := by decide +kernel
theorem dX7_findUses_125 : decode cX7_findUses 125 = .ok (.goto 4, 3) := by decide +kernel
theorem dX7_findUses_128 : decode cX7_findUses 128 = .ok (.iconst 0, 1) := by decide +kernel
theorem dX7_findUses_129 : decode cX7_findUses 129 = .ok (.iastore, 1) := by decide +kernel
theorem dX7_findUses_130 : decode cX7_findUses 130 = .ok (.iinc 3 1, 3) := by decide +kernel
theorem dX7_findUses_133 : decode cX7_findUses 133 = .ok (.goto (-113), 3) := by decide +kernel
theorem dX7_findUses_136 : decode cX7_findUses 136 = .ok (.iinc 2 1, 3) := by decide +kernel
theorem dX7_findUses_139 : decode cX7_findUses 139 = .ok (.goto (-127), 3) := by decide +kernel
theorem dX7_findUses_142 : decode cX7_findUses 142 = .ok (.iinc 1 1, 3) := by decide +kernel
theorem dX7_findUses_145 : decode cX7_findUses 145 = .ok (.goto (-143), 3) := by decide +kernel
theorem dX7_findUses_148 : decode cX7_findUses 148 = .ok (.return_, 1) := by decide +kernel
theorem dX7_lackOf_0 : decode cX7_lackOf 0 = .ok (.iconst 0, 1) := by decide +kernel
theorem dX7_lackOf_1 : decode cX7_lackOf 1 = .ok (.istore 4, 2) := by decide +kernel
theorem dX7_lackOf_3 : decode cX7_lackOf 3 = .ok (.iconst 0, 1) := by decide +kernel
theorem dX7_lackOf_4 : decode cX7_lackOf 4 = .ok (.istore 5, 2) := by decide +kernel
theorem dX7_lackOf_6 : decode cX7_lackOf 6 = .ok (.iload 5, 2) := by decide +kernel
theorem dX7_lackOf_8 : decode cX7_lackOf 8 = .ok (.aload_n 0, 1) := by decide +kernel
theorem dX7_lackOf_9 : decode cX7_lackOf 9 = .ok (.getfield 87, 3) := by decide +kernel
theorem dX7_lackOf_12 : decode cX7_lackOf 12 = .ok (.if_icmp .ge 46, 3) := by decide +kernel
theorem dX7_lackOf_15 : decode cX7_lackOf 15 = .ok (.iload 4, 2) := by decide +kernel
theorem dX7_lackOf_17 : decode cX7_lackOf 17 = .ok (.iload_n 1, 1) := by decide +kernel
theorem dX7_lackOf_18 : decode cX7_lackOf 18 = .ok (.iload 5, 2) := by decide +kernel
theorem dX7_lackOf_20 : decode cX7_lackOf 20 = .ok (.ishr, 1) := by decide +kernel
theorem dX7_lackOf_21 : decode cX7_lackOf 21 = .ok (.iconst 1, 1) := by decide +kernel
theorem dX7_lackOf_22 : decode cX7_lackOf 22 = .ok (.iand, 1) := by decide +kernel
theorem dX7_lackOf_23 : decode cX7_lackOf 23 = .ok (.iconst 1, 1) := by decide +kernel
theorem dX7_lackOf_24 : decode cX7_lackOf 24 = .ok (.if_icmp .ne 24, 3) := by decide +kernel
theorem dX7_lackOf_27 : decode cX7_lackOf 27 = .ok (.aload_n 0, 1) := by decide +kernel
theorem dX7_lackOf_28 : decode cX7_lackOf 28 = .ok (.getfield 68, 3) := by decide +kernel
theorem dX7_lackOf_31 : decode cX7_lackOf 31 = .ok (.sipush 396, 3) := by decide +kernel
theorem dX7_lackOf_34 : decode cX7_lackOf 34 = .ok (.iload 5, 2) := by decide +kernel
theorem dX7_lackOf_36 : decode cX7_lackOf 36 = .ok (.imul, 1) := by decide +kernel
theorem dX7_lackOf_37 : decode cX7_lackOf 37 = .ok (.bipush 6, 2) := by decide +kernel
theorem dX7_lackOf_39 : decode cX7_lackOf 39 = .ok (.iload_n 3, 1) := by decide +kernel
theorem dX7_lackOf_40 : decode cX7_lackOf 40 = .ok (.imul, 1) := by decide +kernel
theorem dX7_lackOf_41 : decode cX7_lackOf 41 = .ok (.iadd, 1) := by decide +kernel
theorem dX7_lackOf_42 : decode cX7_lackOf 42 = .ok (.iload_n 2, 1) := by decide +kernel
theorem dX7_lackOf_43 : decode cX7_lackOf 43 = .ok (.iadd, 1) := by decide +kernel
theorem dX7_lackOf_44 : decode cX7_lackOf 44 = .ok (.iaload, 1) := by decide +kernel
theorem dX7_lackOf_45 : decode cX7_lackOf 45 = .ok (.goto 4, 3) := by decide +kernel
theorem dX7_lackOf_48 : decode cX7_lackOf 48 = .ok (.iconst 0, 1) := by decide +kernel
theorem dX7_lackOf_49 : decode cX7_lackOf 49 = .ok (.iadd, 1) := by decide +kernel
theorem dX7_lackOf_50 : decode cX7_lackOf 50 = .ok (.istore 4, 2) := by decide +kernel
theorem dX7_lackOf_52 : decode cX7_lackOf 52 = .ok (.iinc 5 1, 3) := by decide +kernel
theorem dX7_lackOf_55 : decode cX7_lackOf 55 = .ok (.goto (-49), 3) := by decide +kernel
theorem dX7_lackOf_58 : decode cX7_lackOf 58 = .ok (.aload_n 0, 1) := by decide +kernel
theorem dX7_lackOf_59 : decode cX7_lackOf 59 = .ok (.getfield 7, 3) := by decide +kernel
theorem dX7_lackOf_62 : decode cX7_lackOf 62 = .ok (.iload_n 2, 1) := by decide +kernel
theorem dX7_lackOf_63 : decode cX7_lackOf 63 = .ok (.iaload, 1) := by decide +kernel
theorem dX7_lackOf_64 : decode cX7_lackOf 64 = .ok (.aload_n 0, 1) := by decide +kernel
theorem dX7_lackOf_65 : decode cX7_lackOf 65 = .ok (.getfield 25, 3) := by decide +kernel
theorem dX7_lackOf_68 : decode cX7_lackOf 68 = .ok (.iload_n 2, 1) := by decide +kernel
theorem dX7_lackOf_69 : decode cX7_lackOf 69 = .ok (.iaload, 1) := by decide +kernel
theorem dX7_lackOf_70 : decode cX7_lackOf 70 = .ok (.if_icmp .le 19, 3) := by decide +kernel
theorem dX7_lackOf_73 : decode cX7_lackOf 73 = .ok (.aload_n 0, 1) := by decide +kernel
theorem dX7_lackOf_74 : decode cX7_lackOf 74 = .ok (.getfield 7, 3) := by decide +kernel
theorem dX7_lackOf_77 : decode cX7_lackOf 77 = .ok (.iload_n 2, 1) := by decide +kernel
theorem dX7_lackOf_78 : decode cX7_lackOf 78 = .ok (.iaload, 1) := by decide +kernel
theorem dX7_lackOf_79 : decode cX7_lackOf 79 = .ok (.aload_n 0, 1) := by decide +kernel
theorem dX7_lackOf_80 : decode cX7_lackOf 80 = .ok (.getfield 25, 3) := by decide +kernel
theorem dX7_lackOf_83 : decode cX7_lackOf 83 = .ok (.iload_n 2, 1) := by decide +kernel
theorem dX7_lackOf_84 : decode cX7_lackOf 84 = .ok (.iaload, 1) := by decide +kernel
theorem dX7_lackOf_85 : decode cX7_lackOf 85 = .ok (.isub, 1) := by decide +kernel
theorem dX7_lackOf_86 : decode cX7_lackOf 86 = .ok (.goto 4, 3) := by decide +kernel
theorem dX7_lackOf_89 : decode cX7_lackOf 89 = .ok (.iconst 0, 1) := by decide +kernel
theorem dX7_lackOf_90 : decode cX7_lackOf 90 = .ok (.istore 5, 2) := by decide +kernel
theorem dX7_lackOf_92 : decode cX7_lackOf 92 = .ok (.iload 4, 2) := by decide +kernel
theorem dX7_lackOf_94 : decode cX7_lackOf 94 = .ok (.iload 5, 2) := by decide +kernel
theorem dX7_lackOf_96 : decode cX7_lackOf 96 = .ok (.if_icmp .le 11, 3) := by decide +kernel
theorem dX7_lackOf_99 : decode cX7_lackOf 99 = .ok (.iload 4, 2) := by decide +kernel
theorem dX7_lackOf_101 : decode cX7_lackOf 101 = .ok (.iload 5, 2) := by decide +kernel
theorem dX7_lackOf_103 : decode cX7_lackOf 103 = .ok (.isub, 1) := by decide +kernel
theorem dX7_lackOf_104 : decode cX7_lackOf 104 = .ok (.goto 4, 3) := by decide +kernel
theorem dX7_lackOf_107 : decode cX7_lackOf 107 = .ok (.iconst 0, 1) := by decide +kernel
theorem dX7_lackOf_108 : decode cX7_lackOf 108 = .ok (.ireturn, 1) := by decide +kernel
theorem dX7_isFit_0 : decode cX7_isFit 0 = .ok (.iconst 0, 1) := by decide +kernel
theorem dX7_isFit_1 : decode cX7_isFit 1 = .ok (.istore_n 2, 1) := by decide +kernel
theorem dX7_isFit_2 : decode cX7_isFit 2 = .ok (.iload_n 2, 1) := by decide +kernel
theorem dX7_isFit_3 : decode cX7_isFit 3 = .ok (.bipush 66, 2) := by decide +kernel
theorem dX7_isFit_5 : decode cX7_isFit 5 = .ok (.if_icmp .ge 39, 3) := by decide +kernel
theorem dX7_isFit_8 : decode cX7_isFit 8 = .ok (.iload_n 1, 1) := by decide +kernel
theorem dX7_isFit_9 : decode cX7_isFit 9 = .ok (.ifCond .le 35, 3) := by decide +kernel
theorem dX7_isFit_12 : decode cX7_isFit 12 = .ok (.iconst 0, 1) := by decide +kernel
theorem dX7_isFit_13 : decode cX7_isFit 13 = .ok (.istore_n 3, 1) := by decide +kernel
theorem dX7_isFit_14 : decode cX7_isFit 14 = .ok (.iload_n 3, 1) := by decide +kernel
theorem dX7_isFit_15 : decode cX7_isFit 15 = .ok (.bipush 6, 2) := by decide +kernel
theorem dX7_isFit_17 : decode cX7_isFit 17 = .ok (.if_icmp .ge 21, 3) := by decide +kernel
theorem dX7_isFit_20 : decode cX7_isFit 20 = .ok (.aload_n 0, 1) := by decide +kernel
theorem dX7_isFit_21 : decode cX7_isFit 21 = .ok (.iload_n 1, 1) := by decide +kernel
theorem dX7_isFit_22 : decode cX7_isFit 22 = .ok (.iload_n 3, 1) := by decide +kernel
theorem dX7_isFit_23 : decode cX7_isFit 23 = .ok (.iload_n 2, 1) := by decide +kernel
theorem dX7_isFit_24 : decode cX7_isFit 24 = .ok (.invokevirtual 102, 3) := by decide +kernel
theorem dX7_isFit_27 : decode cX7_isFit 27 = .ok (.ifCond .le 5, 3) := by decide +kernel
theorem dX7_isFit_30 : decode cX7_isFit 30 = .ok (.iconst 0, 1) := by decide +kernel
theorem dX7_isFit_31 : decode cX7_isFit 31 = .ok (.ireturn, 1) := by decide +kernel
theorem dX7_isFit_32 : decode cX7_isFit 32 = .ok (.iinc 3 1, 3) := by decide +kernel
theorem dX7_isFit_35 : decode cX7_isFit 35 = .ok (.goto (-21), 3) := by decide +kernel
theorem dX7_isFit_38 : decode cX7_isFit 38 = .ok (.iinc 2 1, 3) := by decide +kernel
theorem dX7_isFit_41 : decode cX7_isFit 41 = .ok (.goto (-39), 3) := by decide +kernel
theorem dX7_isFit_44 : decode cX7_isFit 44 = .ok (.iconst 1, 1) := by decide +kernel
theorem dX7_isFit_45 : decode cX7_isFit 45 = .ok (.ireturn, 1) := by decide +kernel
theorem dX7_hiredFor_0 : decode cX7_hiredFor 0 = .ok (.lconst 0, 1) := by decide +kernel
theorem dX7_hiredFor_1 : decode cX7_hiredFor 1 = .ok (.lstore_n 2, 1) := by decide +kernel
theorem dX7_hiredFor_2 : decode cX7_hiredFor 2 = .ok (.iconst 0, 1) := by decide +kernel
theorem dX7_hiredFor_3 : decode cX7_hiredFor 3 = .ok (.istore 4, 2) := by decide +kernel
theorem dX7_hiredFor_5 : decode cX7_hiredFor 5 = .ok (.iload 4, 2) := by decide +kernel
theorem dX7_hiredFor_7 : decode cX7_hiredFor 7 = .ok (.bipush 66, 2) := by decide +kernel
theorem dX7_hiredFor_9 : decode cX7_hiredFor 9 = .ok (.if_icmp .ge 47, 3) := by decide +kernel
theorem dX7_hiredFor_12 : decode cX7_hiredFor 12 = .ok (.iconst 0, 1) := by decide +kernel
theorem dX7_hiredFor_13 : decode cX7_hiredFor 13 = .ok (.istore 5, 2) := by decide +kernel
theorem dX7_hiredFor_15 : decode cX7_hiredFor 15 = .ok (.iload 5, 2) := by decide +kernel
theorem dX7_hiredFor_17 : decode cX7_hiredFor 17 = .ok (.bipush 6, 2) := by decide +kernel
theorem dX7_hiredFor_19 : decode cX7_hiredFor 19 = .ok (.if_icmp .ge 31, 3) := by decide +kernel
theorem dX7_hiredFor_22 : decode cX7_hiredFor 22 = .ok (.lload_n 2, 1) := by decide +kernel
theorem dX7_hiredFor_23 : decode cX7_hiredFor 23 = .ok (.aload_n 0, 1) := by decide +kernel
theorem dX7_hiredFor_24 : decode cX7_hiredFor 24 = .ok (.iload_n 1, 1) := by decide +kernel
theorem dX7_hiredFor_25 : decode cX7_hiredFor 25 = .ok (.iload 5, 2) := by decide +kernel
theorem dX7_hiredFor_27 : decode cX7_hiredFor 27 = .ok (.iload 4, 2) := by decide +kernel
theorem dX7_hiredFor_29 : decode cX7_hiredFor 29 = .ok (.invokevirtual 102, 3) := by decide +kernel
theorem dX7_hiredFor_32 : decode cX7_hiredFor 32 = .ok (.i2l, 1) := by decide +kernel
theorem dX7_hiredFor_33 : decode cX7_hiredFor 33 = .ok (.aload_n 0, 1) := by decide +kernel
theorem dX7_hiredFor_34 : decode cX7_hiredFor 34 = .ok (.getfield 19, 3) := by decide +kernel
theorem dX7_hiredFor_37 : decode cX7_hiredFor 37 = .ok (.iload 5, 2) := by decide +kernel
theorem dX7_hiredFor_39 : decode cX7_hiredFor 39 = .ok (.iaload, 1) := by decide +kernel
theorem dX7_hiredFor_40 : decode cX7_hiredFor 40 = .ok (.i2l, 1) := by decide +kernel
theorem dX7_hiredFor_41 : decode cX7_hiredFor 41 = .ok (.lmul, 1) := by decide +kernel
theorem dX7_hiredFor_42 : decode cX7_hiredFor 42 = .ok (.ladd, 1) := by decide +kernel
theorem dX7_hiredFor_43 : decode cX7_hiredFor 43 = .ok (.lstore_n 2, 1) := by decide +kernel
theorem dX7_hiredFor_44 : decode cX7_hiredFor 44 = .ok (.iinc 5 1, 3) := by decide +kernel
theorem dX7_hiredFor_47 : decode cX7_hiredFor 47 = .ok (.goto (-32), 3) := by decide +kernel
theorem dX7_hiredFor_50 : decode cX7_hiredFor 50 = .ok (.iinc 4 1, 3) := by decide +kernel
theorem dX7_hiredFor_53 : decode cX7_hiredFor 53 = .ok (.goto (-48), 3) := by decide +kernel
theorem dX7_hiredFor_56 : decode cX7_hiredFor 56 = .ok (.lload_n 2, 1) := by decide +kernel
theorem dX7_hiredFor_57 : decode cX7_hiredFor 57 = .ok (.lreturn, 1) := by decide +kernel
theorem dX7_all_0 : decode cX7_all 0 = .ok (.iconst 0, 1) := by decide +kernel
theorem dX7_all_1 : decode cX7_all 1 = .ok (.istore_n 2, 1) := by decide +kernel
theorem dX7_all_2 : decode cX7_all 2 = .ok (.iconst 0, 1) := by decide +kernel
theorem dX7_all_3 : decode cX7_all 3 = .ok (.istore_n 3, 1) := by decide +kernel
theorem dX7_all_4 : decode cX7_all 4 = .ok (.iload_n 3, 1) := by decide +kernel
theorem dX7_all_5 : decode cX7_all 5 = .ok (.aload_n 0, 1) := by decide +kernel
theorem dX7_all_6 : decode cX7_all 6 = .ok (.getfield 87, 3) := by decide +kernel
theorem dX7_all_9 : decode cX7_all 9 = .ok (.if_icmp .ge 29, 3) := by decide +kernel
theorem dX7_all_12 : decode cX7_all 12 = .ok (.iload_n 2, 1) := by decide +kernel
theorem dX7_all_13 : decode cX7_all 13 = .ok (.aload_n 0, 1) := by decide +kernel
theorem dX7_all_14 : decode cX7_all 14 = .ok (.getfield 37, 3) := by decide +kernel
theorem dX7_all_17 : decode cX7_all 17 = .ok (.iload_n 3, 1) := by decide +kernel
theorem dX7_all_18 : decode cX7_all 18 = .ok (.iaload, 1) := by decide +kernel
theorem dX7_all_19 : decode cX7_all 19 = .ok (.iload_n 1, 1) := by decide +kernel
theorem dX7_all_20 : decode cX7_all 20 = .ok (.if_icmp .ne 9, 3) := by decide +kernel
theorem dX7_all_23 : decode cX7_all 23 = .ok (.iconst 1, 1) := by decide +kernel
theorem dX7_all_24 : decode cX7_all 24 = .ok (.iload_n 3, 1) := by decide +kernel
theorem dX7_all_25 : decode cX7_all 25 = .ok (.ishl, 1) := by decide +kernel
theorem dX7_all_26 : decode cX7_all 26 = .ok (.goto 4, 3) := by decide +kernel
theorem dX7_all_29 : decode cX7_all 29 = .ok (.iconst 0, 1) := by decide +kernel
theorem dX7_all_30 : decode cX7_all 30 = .ok (.ior, 1) := by decide +kernel
theorem dX7_all_31 : decode cX7_all 31 = .ok (.istore_n 2, 1) := by decide +kernel
theorem dX7_all_32 : decode cX7_all 32 = .ok (.iinc 3 1, 3) := by decide +kernel
theorem dX7_all_35 : decode cX7_all 35 = .ok (.goto (-31), 3) := by decide +kernel
theorem dX7_all_38 : decode cX7_all 38 = .ok (.iload_n 2, 1) := by decide +kernel
theorem dX7_all_39 : decode cX7_all 39 = .ok (.ireturn, 1) := by decide +kernel
theorem dX7_isSet_0 : decode cX7_isSet 0 = .ok (.iload_n 1, 1) := by decide +kernel
theorem dX7_isSet_1 : decode cX7_isSet 1 = .ok (.iconst 0, 1) := by decide +kernel
theorem dX7_isSet_2 : decode cX7_isSet 2 = .ok (.iconst 1, 1) := by decide +kernel
theorem dX7_isSet_3 : decode cX7_isSet 3 = .ok (.aload_n 0, 1) := by decide +kernel
theorem dX7_isSet_4 : decode cX7_isSet 4 = .ok (.getfield 87, 3) := by decide +kernel
theorem dX7_isSet_7 : decode cX7_isSet 7 = .ok (.ishl, 1) := by decide +kernel
theorem dX7_isSet_8 : decode cX7_isSet 8 = .ok (.iconst 1, 1) := by decide +kernel
theorem dX7_isSet_9 : decode cX7_isSet 9 = .ok (.isub, 1) := by decide +kernel
theorem dX7_isSet_10 : decode cX7_isSet 10 = .ok (.invokestatic 83, 3) := by decide +kernel
theorem dX7_isSet_13 : decode cX7_isSet 13 = .ok (.ireturn, 1) := by decide +kernel
theorem dX7_prices_0 : decode cX7_prices 0 = .ok (.iconst 0, 1) := by decide +kernel
theorem dX7_prices_1 : decode cX7_prices 1 = .ok (.istore_n 2, 1) := by decide +kernel
theorem dX7_prices_2 : decode cX7_prices 2 = .ok (.iconst 0, 1) := by decide +kernel
theorem dX7_prices_3 : decode cX7_prices 3 = .ok (.istore_n 3, 1) := by decide +kernel
theorem dX7_prices_4 : decode cX7_prices 4 = .ok (.iload_n 3, 1) := by decide +kernel
theorem dX7_prices_5 : decode cX7_prices 5 = .ok (.aload_n 0, 1) := by decide +kernel
theorem dX7_prices_6 : decode cX7_prices 6 = .ok (.getfield 87, 3) := by decide +kernel
theorem dX7_prices_9 : decode cX7_prices 9 = .ok (.if_icmp .ge 31, 3) := by decide +kernel
theorem dX7_prices_12 : decode cX7_prices 12 = .ok (.iload_n 2, 1) := by decide +kernel
theorem dX7_prices_13 : decode cX7_prices 13 = .ok (.iload_n 1, 1) := by decide +kernel
theorem dX7_prices_14 : decode cX7_prices 14 = .ok (.iload_n 3, 1) := by decide +kernel
theorem dX7_prices_15 : decode cX7_prices 15 = .ok (.ishr, 1) := by decide +kernel
theorem dX7_prices_16 : decode cX7_prices 16 = .ok (.iconst 1, 1) := by decide +kernel
theorem dX7_prices_17 : decode cX7_prices 17 = .ok (.iand, 1) := by decide +kernel
theorem dX7_prices_18 : decode cX7_prices 18 = .ok (.iconst 1, 1) := by decide +kernel
theorem dX7_prices_19 : decode cX7_prices 19 = .ok (.if_icmp .ne 12, 3) := by decide +kernel
theorem dX7_prices_22 : decode cX7_prices 22 = .ok (.aload_n 0, 1) := by decide +kernel
theorem dX7_prices_23 : decode cX7_prices 23 = .ok (.getfield 34, 3) := by decide +kernel
theorem dX7_prices_26 : decode cX7_prices 26 = .ok (.iload_n 3, 1) := by decide +kernel
theorem dX7_prices_27 : decode cX7_prices 27 = .ok (.iaload, 1) := by decide +kernel
theorem dX7_prices_28 : decode cX7_prices 28 = .ok (.goto 4, 3) := by decide +kernel
theorem dX7_prices_31 : decode cX7_prices 31 = .ok (.iconst 0, 1) := by decide +kernel
theorem dX7_prices_32 : decode cX7_prices 32 = .ok (.iadd, 1) := by decide +kernel
theorem dX7_prices_33 : decode cX7_prices 33 = .ok (.istore_n 2, 1) := by decide +kernel
theorem dX7_prices_34 : decode cX7_prices 34 = .ok (.iinc 3 1, 3) := by decide +kernel
theorem dX7_prices_37 : decode cX7_prices 37 = .ok (.goto (-33), 3) := by decide +kernel
theorem dX7_prices_40 : decode cX7_prices 40 = .ok (.iload_n 2, 1) := by decide +kernel
theorem dX7_prices_41 : decode cX7_prices 41 = .ok (.ireturn, 1) := by decide +kernel
theorem dX7_many_0 : decode cX7_many 0 = .ok (.iconst 0, 1) := by decide +kernel
theorem dX7_many_1 : decode cX7_many 1 = .ok (.istore_n 1, 1) := by decide +kernel
theorem dX7_many_2 : decode cX7_many 2 = .ok (.iload_n 0, 1) := by decide +kernel
theorem dX7_many_3 : decode cX7_many 3 = .ok (.istore_n 2, 1) := by decide +kernel
theorem dX7_many_4 : decode cX7_many 4 = .ok (.iload_n 2, 1) := by decide +kernel
theorem dX7_many_5 : decode cX7_many 5 = .ok (.ifCond .le 16, 3) := by decide +kernel
theorem dX7_many_8 : decode cX7_many 8 = .ok (.iload_n 1, 1) := by decide +kernel
theorem dX7_many_9 : decode cX7_many 9 = .ok (.iload_n 2, 1) := by decide +kernel
theorem dX7_many_10 : decode cX7_many 10 = .ok (.iconst 1, 1) := by decide +kernel
theorem dX7_many_11 : decode cX7_many 11 = .ok (.iand, 1) := by decide +kernel
theorem dX7_many_12 : decode cX7_many 12 = .ok (.iadd, 1) := by decide +kernel
theorem dX7_many_13 : decode cX7_many 13 = .ok (.istore_n 1, 1) := by decide +kernel
theorem dX7_many_14 : decode cX7_many 14 = .ok (.iload_n 2, 1) := by decide +kernel
theorem dX7_many_15 : decode cX7_many 15 = .ok (.iconst 1, 1) := by decide +kernel
theorem dX7_many_16 : decode cX7_many 16 = .ok (.ishr, 1) := by decide +kernel
theorem dX7_many_17 : decode cX7_many 17 = .ok (.istore_n 2, 1) := by decide +kernel
theorem dX7_many_18 : decode cX7_many 18 = .ok (.goto (-14), 3) := by decide +kernel
theorem dX7_many_21 : decode cX7_many 21 = .ok (.iload_n 1, 1) := by decide +kernel
theorem dX7_many_22 : decode cX7_many 22 = .ok (.ireturn, 1) := by decide +kernel
theorem dX7_take_0 : decode cX7_take 0 = .ok (.aload_n 0, 1) := by decide +kernel
theorem dX7_take_1 : decode cX7_take 1 = .ok (.iload_n 1, 1) := by decide +kernel
theorem dX7_take_2 : decode cX7_take 2 = .ok (.invokevirtual 99, 3) := by decide +kernel
theorem dX7_take_5 : decode cX7_take 5 = .ok (.ifCond .ne 6, 3) := by decide +kernel
theorem dX7_take_8 : decode cX7_take 8 = .ok (.bipush (-2), 2) := by decide +kernel
theorem dX7_take_10 : decode cX7_take 10 = .ok (.ireturn, 1) := by decide +kernel
theorem dX7_take_11 : decode cX7_take 11 = .ok (.aload_n 0, 1) := by decide +kernel
theorem dX7_take_12 : decode cX7_take 12 = .ok (.invokevirtual 106, 3) := by decide +kernel
theorem dX7_take_15 : decode cX7_take 15 = .ok (.aload_n 0, 1) := by decide +kernel
theorem dX7_take_16 : decode cX7_take 16 = .ok (.getfield 37, 3) := by decide +kernel
theorem dX7_take_19 : decode cX7_take 19 = .ok (.iload_n 1, 1) := by decide +kernel
theorem dX7_take_20 : decode cX7_take 20 = .ok (.iaload, 1) := by decide +kernel
theorem dX7_take_21 : decode cX7_take 21 = .ok (.ifCond .ne 19, 3) := by decide +kernel
theorem dX7_take_24 : decode cX7_take 24 = .ok (.aload_n 0, 1) := by decide +kernel
theorem dX7_take_25 : decode cX7_take 25 = .ok (.aload_n 0, 1) := by decide +kernel
theorem dX7_take_26 : decode cX7_take 26 = .ok (.iconst 1, 1) := by decide +kernel
theorem dX7_take_27 : decode cX7_take 27 = .ok (.invokevirtual 109, 3) := by decide +kernel
theorem dX7_take_30 : decode cX7_take 30 = .ok (.iconst 1, 1) := by decide +kernel
theorem dX7_take_31 : decode cX7_take 31 = .ok (.iload_n 1, 1) := by decide +kernel
theorem dX7_take_32 : decode cX7_take 32 = .ok (.ishl, 1) := by decide +kernel
theorem dX7_take_33 : decode cX7_take 33 = .ok (.ior, 1) := by decide +kernel
theorem dX7_take_34 : decode cX7_take 34 = .ok (.invokevirtual 113, 3) := by decide +kernel
theorem dX7_take_37 : decode cX7_take 37 = .ok (.ifCond .ne 6, 3) := by decide +kernel
theorem dX7_take_40 : decode cX7_take 40 = .ok (.bipush (-3), 2) := by decide +kernel
theorem dX7_take_42 : decode cX7_take 42 = .ok (.ireturn, 1) := by decide +kernel
theorem dX7_take_43 : decode cX7_take 43 = .ok (.aload_n 0, 1) := by decide +kernel
theorem dX7_take_44 : decode cX7_take 44 = .ok (.getfield 37, 3) := by decide +kernel
theorem dX7_take_47 : decode cX7_take 47 = .ok (.iload_n 1, 1) := by decide +kernel
theorem dX7_take_48 : decode cX7_take 48 = .ok (.iconst 1, 1) := by decide +kernel
theorem dX7_take_49 : decode cX7_take 49 = .ok (.iastore, 1) := by decide +kernel
theorem dX7_take_50 : decode cX7_take 50 = .ok (.iconst 1, 1) := by decide +kernel
theorem dX7_take_51 : decode cX7_take 51 = .ok (.ireturn, 1) := by decide +kernel
theorem dX7_hire_0 : decode cX7_hire 0 = .ok (.aload_n 0, 1) := by decide +kernel
theorem dX7_hire_1 : decode cX7_hire 1 = .ok (.iload_n 1, 1) := by decide +kernel
theorem dX7_hire_2 : decode cX7_hire 2 = .ok (.invokevirtual 99, 3) := by decide +kernel
theorem dX7_hire_5 : decode cX7_hire 5 = .ok (.ifCond .ne 6, 3) := by decide +kernel
theorem dX7_hire_8 : decode cX7_hire 8 = .ok (.bipush (-2), 2) := by decide +kernel
theorem dX7_hire_10 : decode cX7_hire 10 = .ok (.ireturn, 1) := by decide +kernel
theorem dX7_hire_11 : decode cX7_hire 11 = .ok (.aload_n 0, 1) := by decide +kernel
theorem dX7_hire_12 : decode cX7_hire 12 = .ok (.getfield 37, 3) := by decide +kernel
theorem dX7_hire_15 : decode cX7_hire 15 = .ok (.iload_n 1, 1) := by decide +kernel
theorem dX7_hire_16 : decode cX7_hire 16 = .ok (.iaload, 1) := by decide +kernel
theorem dX7_hire_17 : decode cX7_hire 17 = .ok (.ifCond .eq 6, 3) := by decide +kernel
theorem dX7_hire_20 : decode cX7_hire 20 = .ok (.bipush (-3), 2) := by decide +kernel
theorem dX7_hire_22 : decode cX7_hire 22 = .ok (.ireturn, 1) := by decide +kernel
theorem dX7_hire_23 : decode cX7_hire 23 = .ok (.aload_n 0, 1) := by decide +kernel
theorem dX7_hire_24 : decode cX7_hire 24 = .ok (.getfield 37, 3) := by decide +kernel
theorem dX7_hire_27 : decode cX7_hire 27 = .ok (.iload_n 1, 1) := by decide +kernel
theorem dX7_hire_28 : decode cX7_hire 28 = .ok (.iconst 1, 1) := by decide +kernel
theorem dX7_hire_29 : decode cX7_hire 29 = .ok (.iastore, 1) := by decide +kernel
theorem dX7_hire_30 : decode cX7_hire 30 = .ok (.aload_n 0, 1) := by decide +kernel
theorem dX7_hire_31 : decode cX7_hire 31 = .ok (.invokevirtual 106, 3) := by decide +kernel
theorem dX7_hire_34 : decode cX7_hire 34 = .ok (.aload_n 0, 1) := by decide +kernel
theorem dX7_hire_35 : decode cX7_hire 35 = .ok (.aload_n 0, 1) := by decide +kernel
theorem dX7_hire_36 : decode cX7_hire 36 = .ok (.iconst 1, 1) := by decide +kernel
theorem dX7_hire_37 : decode cX7_hire 37 = .ok (.invokevirtual 109, 3) := by decide +kernel
theorem dX7_hire_40 : decode cX7_hire 40 = .ok (.invokevirtual 116, 3) := by decide +kernel
theorem dX7_hire_43 : decode cX7_hire 43 = .ok (.l2i, 1) := by decide +kernel
theorem dX7_hire_44 : decode cX7_hire 44 = .ok (.ireturn, 1) := by decide +kernel
theorem dX7_giveUp_0 : decode cX7_giveUp 0 = .ok (.aload_n 0, 1) := by decide +kernel
theorem dX7_giveUp_1 : decode cX7_giveUp 1 = .ok (.iload_n 1, 1) := by decide +kernel
theorem dX7_giveUp_2 : decode cX7_giveUp 2 = .ok (.invokevirtual 99, 3) := by decide +kernel
theorem dX7_giveUp_5 : decode cX7_giveUp 5 = .ok (.ifCond .ne 6, 3) := by decide +kernel
theorem dX7_giveUp_8 : decode cX7_giveUp 8 = .ok (.bipush (-2), 2) := by decide +kernel
theorem dX7_giveUp_10 : decode cX7_giveUp 10 = .ok (.ireturn, 1) := by decide +kernel
theorem dX7_giveUp_11 : decode cX7_giveUp 11 = .ok (.aload_n 0, 1) := by decide +kernel
theorem dX7_giveUp_12 : decode cX7_giveUp 12 = .ok (.getfield 37, 3) := by decide +kernel
theorem dX7_giveUp_15 : decode cX7_giveUp 15 = .ok (.iload_n 1, 1) := by decide +kernel
theorem dX7_giveUp_16 : decode cX7_giveUp 16 = .ok (.iaload, 1) := by decide +kernel
theorem dX7_giveUp_17 : decode cX7_giveUp 17 = .ok (.ifCond .eq 16, 3) := by decide +kernel
theorem dX7_giveUp_20 : decode cX7_giveUp 20 = .ok (.aload_n 0, 1) := by decide +kernel
theorem dX7_giveUp_21 : decode cX7_giveUp 21 = .ok (.getfield 37, 3) := by decide +kernel
theorem dX7_giveUp_24 : decode cX7_giveUp 24 = .ok (.iload_n 1, 1) := by decide +kernel
theorem dX7_giveUp_25 : decode cX7_giveUp 25 = .ok (.iaload, 1) := by decide +kernel
theorem dX7_giveUp_26 : decode cX7_giveUp 26 = .ok (.iconst 1, 1) := by decide +kernel
theorem dX7_giveUp_27 : decode cX7_giveUp 27 = .ok (.if_icmp .eq 6, 3) := by decide +kernel
theorem dX7_giveUp_30 : decode cX7_giveUp 30 = .ok (.bipush (-3), 2) := by decide +kernel
theorem dX7_giveUp_32 : decode cX7_giveUp 32 = .ok (.ireturn, 1) := by decide +kernel
theorem dX7_giveUp_33 : decode cX7_giveUp 33 = .ok (.aload_n 0, 1) := by decide +kernel
theorem dX7_giveUp_34 : decode cX7_giveUp 34 = .ok (.getfield 37, 3) := by decide +kernel
theorem dX7_giveUp_37 : decode cX7_giveUp 37 = .ok (.iload_n 1, 1) := by decide +kernel
theorem dX7_giveUp_38 : decode cX7_giveUp 38 = .ok (.iconst 2, 1) := by decide +kernel
theorem dX7_giveUp_39 : decode cX7_giveUp 39 = .ok (.iastore, 1) := by decide +kernel
theorem dX7_giveUp_40 : decode cX7_giveUp 40 = .ok (.iconst 1, 1) := by decide +kernel
theorem dX7_giveUp_41 : decode cX7_giveUp 41 = .ok (.ireturn, 1) := by decide +kernel
theorem dX7_change_0 : decode cX7_change 0 = .ok (.aload_n 0, 1) := by decide +kernel
theorem dX7_change_1 : decode cX7_change 1 = .ok (.iload_n 1, 1) := by decide +kernel
theorem dX7_change_2 : decode cX7_change 2 = .ok (.invokevirtual 99, 3) := by decide +kernel
theorem dX7_change_5 : decode cX7_change 5 = .ok (.ifCond .eq 21, 3) := by decide +kernel
theorem dX7_change_8 : decode cX7_change 8 = .ok (.iload_n 2, 1) := by decide +kernel
theorem dX7_change_9 : decode cX7_change 9 = .ok (.invokestatic 91, 3) := by decide +kernel
theorem dX7_change_12 : decode cX7_change 12 = .ok (.ifCond .eq 14, 3) := by decide +kernel
theorem dX7_change_15 : decode cX7_change 15 = .ok (.iload_n 3, 1) := by decide +kernel
theorem dX7_change_16 : decode cX7_change 16 = .ok (.iconst 0, 1) := by decide +kernel
theorem dX7_change_17 : decode cX7_change 17 = .ok (.sipush 500, 3) := by decide +kernel
theorem dX7_change_20 : decode cX7_change 20 = .ok (.invokestatic 83, 3) := by decide +kernel
theorem dX7_change_23 : decode cX7_change 23 = .ok (.ifCond .ne 6, 3) := by decide +kernel
theorem dX7_change_26 : decode cX7_change 26 = .ok (.bipush (-2), 2) := by decide +kernel
theorem dX7_change_28 : decode cX7_change 28 = .ok (.ireturn, 1) := by decide +kernel
theorem dX7_change_29 : decode cX7_change 29 = .ok (.aload_n 0, 1) := by decide +kernel
theorem dX7_change_30 : decode cX7_change 30 = .ok (.getfield 37, 3) := by decide +kernel
theorem dX7_change_33 : decode cX7_change 33 = .ok (.iload_n 1, 1) := by decide +kernel
theorem dX7_change_34 : decode cX7_change 34 = .ok (.iaload, 1) := by decide +kernel
theorem dX7_change_35 : decode cX7_change 35 = .ok (.iconst 1, 1) := by decide +kernel
theorem dX7_change_36 : decode cX7_change 36 = .ok (.if_icmp .eq 6, 3) := by decide +kernel
theorem dX7_change_39 : decode cX7_change 39 = .ok (.bipush (-3), 2) := by decide +kernel
theorem dX7_change_41 : decode cX7_change 41 = .ok (.ireturn, 1) := by decide +kernel
theorem dX7_change_42 : decode cX7_change 42 = .ok (.aload_n 0, 1) := by decide +kernel
theorem dX7_change_43 : decode cX7_change 43 = .ok (.getfield 40, 3) := by decide +kernel
theorem dX7_change_46 : decode cX7_change 46 = .ok (.bipush 6, 2) := by decide +kernel
theorem dX7_change_48 : decode cX7_change 48 = .ok (.iload_n 1, 1) := by decide +kernel
theorem dX7_change_49 : decode cX7_change 49 = .ok (.imul, 1) := by decide +kernel
theorem dX7_change_50 : decode cX7_change 50 = .ok (.iload_n 2, 1) := by decide +kernel
theorem dX7_change_51 : decode cX7_change 51 = .ok (.iadd, 1) := by decide +kernel
theorem dX7_change_52 : decode cX7_change 52 = .ok (.iload_n 3, 1) := by decide +kernel
theorem dX7_change_53 : decode cX7_change 53 = .ok (.iastore, 1) := by decide +kernel
theorem dX7_change_54 : decode cX7_change 54 = .ok (.aload_n 0, 1) := by decide +kernel
theorem dX7_change_55 : decode cX7_change 55 = .ok (.invokevirtual 106, 3) := by decide +kernel
theorem dX7_change_58 : decode cX7_change 58 = .ok (.aload_n 0, 1) := by decide +kernel
theorem dX7_change_59 : decode cX7_change 59 = .ok (.aload_n 0, 1) := by decide +kernel
theorem dX7_change_60 : decode cX7_change 60 = .ok (.iconst 1, 1) := by decide +kernel
theorem dX7_change_61 : decode cX7_change 61 = .ok (.invokevirtual 109, 3) := by decide +kernel
theorem dX7_change_64 : decode cX7_change 64 = .ok (.invokevirtual 113, 3) := by decide +kernel
theorem dX7_change_67 : decode cX7_change 67 = .ok (.ifCond .eq 7, 3) := by decide +kernel
theorem dX7_change_70 : decode cX7_change 70 = .ok (.iconst 1, 1) := by decide +kernel
theorem dX7_change_71 : decode cX7_change 71 = .ok (.goto 4, 3) := by decide +kernel
theorem dX7_change_74 : decode cX7_change 74 = .ok (.iconst 0, 1) := by decide +kernel
theorem dX7_change_75 : decode cX7_change 75 = .ok (.ireturn, 1) := by decide +kernel
theorem dX7_back_0 : decode cX7_back 0 = .ok (.aload_n 0, 1) := by decide +kernel
theorem dX7_back_1 : decode cX7_back 1 = .ok (.iload_n 1, 1) := by decide +kernel
theorem dX7_back_2 : decode cX7_back 2 = .ok (.invokevirtual 99, 3) := by decide +kernel
theorem dX7_back_5 : decode cX7_back 5 = .ok (.ifCond .ne 6, 3) := by decide +kernel
theorem dX7_back_8 : decode cX7_back 8 = .ok (.bipush (-2), 2) := by decide +kernel
theorem dX7_back_10 : decode cX7_back 10 = .ok (.ireturn, 1) := by decide +kernel
theorem dX7_back_11 : decode cX7_back 11 = .ok (.aload_n 0, 1) := by decide +kernel
theorem dX7_back_12 : decode cX7_back 12 = .ok (.getfield 37, 3) := by decide +kernel
theorem dX7_back_15 : decode cX7_back 15 = .ok (.iload_n 1, 1) := by decide +kernel
theorem dX7_back_16 : decode cX7_back 16 = .ok (.iaload, 1) := by decide +kernel
theorem dX7_back_17 : decode cX7_back 17 = .ok (.iconst 1, 1) := by decide +kernel
theorem dX7_back_18 : decode cX7_back 18 = .ok (.if_icmp .eq 6, 3) := by decide +kernel
theorem dX7_back_21 : decode cX7_back 21 = .ok (.bipush (-3), 2) := by decide +kernel
theorem dX7_back_23 : decode cX7_back 23 = .ok (.ireturn, 1) := by decide +kernel
theorem dX7_back_24 : decode cX7_back 24 = .ok (.aload_n 0, 1) := by decide +kernel
theorem dX7_back_25 : decode cX7_back 25 = .ok (.getfield 37, 3) := by decide +kernel
theorem dX7_back_28 : decode cX7_back 28 = .ok (.iload_n 1, 1) := by decide +kernel
theorem dX7_back_29 : decode cX7_back 29 = .ok (.iconst 3, 1) := by decide +kernel
theorem dX7_back_30 : decode cX7_back 30 = .ok (.iastore, 1) := by decide +kernel
theorem dX7_back_31 : decode cX7_back 31 = .ok (.iconst 1, 1) := by decide +kernel
theorem dX7_back_32 : decode cX7_back 32 = .ok (.ireturn, 1) := by decide +kernel
theorem dX7_missing_0 : decode cX7_missing 0 = .ok (.aload_n 0, 1) := by decide +kernel
theorem dX7_missing_1 : decode cX7_missing 1 = .ok (.iload_n 1, 1) := by decide +kernel
theorem dX7_missing_2 : decode cX7_missing 2 = .ok (.invokevirtual 99, 3) := by decide +kernel
theorem dX7_missing_5 : decode cX7_missing 5 = .ok (.ifCond .eq 29, 3) := by decide +kernel
theorem dX7_missing_8 : decode cX7_missing 8 = .ok (.iload_n 2, 1) := by decide +kernel
theorem dX7_missing_9 : decode cX7_missing 9 = .ok (.invokestatic 91, 3) := by decide +kernel
theorem dX7_missing_12 : decode cX7_missing 12 = .ok (.ifCond .eq 22, 3) := by decide +kernel
theorem dX7_missing_15 : decode cX7_missing 15 = .ok (.iload_n 3, 1) := by decide +kernel
theorem dX7_missing_16 : decode cX7_missing 16 = .ok (.iconst 0, 1) := by decide +kernel
theorem dX7_missing_17 : decode cX7_missing 17 = .ok (.aload_n 0, 1) := by decide +kernel
theorem dX7_missing_18 : decode cX7_missing 18 = .ok (.getfield 40, 3) := by decide +kernel
theorem dX7_missing_21 : decode cX7_missing 21 = .ok (.bipush 6, 2) := by decide +kernel
theorem dX7_missing_23 : decode cX7_missing 23 = .ok (.iload_n 1, 1) := by decide +kernel
theorem dX7_missing_24 : decode cX7_missing 24 = .ok (.imul, 1) := by decide +kernel
theorem dX7_missing_25 : decode cX7_missing 25 = .ok (.iload_n 2, 1) := by decide +kernel
theorem dX7_missing_26 : decode cX7_missing 26 = .ok (.iadd, 1) := by decide +kernel
theorem dX7_missing_27 : decode cX7_missing 27 = .ok (.iaload, 1) := by decide +kernel
theorem dX7_missing_28 : decode cX7_missing 28 = .ok (.invokestatic 83, 3) := by decide +kernel
theorem dX7_missing_31 : decode cX7_missing 31 = .ok (.ifCond .ne 6, 3) := by decide +kernel
theorem dX7_missing_34 : decode cX7_missing 34 = .ok (.bipush (-2), 2) := by decide +kernel
theorem dX7_missing_36 : decode cX7_missing 36 = .ok (.ireturn, 1) := by decide +kernel
theorem dX7_missing_37 : decode cX7_missing 37 = .ok (.aload_n 0, 1) := by decide +kernel
theorem dX7_missing_38 : decode cX7_missing 38 = .ok (.getfield 37, 3) := by decide +kernel
theorem dX7_missing_41 : decode cX7_missing 41 = .ok (.iload_n 1, 1) := by decide +kernel
theorem dX7_missing_42 : decode cX7_missing 42 = .ok (.iaload, 1) := by decide +kernel
theorem dX7_missing_43 : decode cX7_missing 43 = .ok (.iconst 3, 1) := by decide +kernel
theorem dX7_missing_44 : decode cX7_missing 44 = .ok (.if_icmp .ne 17, 3) := by decide +kernel
theorem dX7_missing_47 : decode cX7_missing 47 = .ok (.aload_n 0, 1) := by decide +kernel
theorem dX7_missing_48 : decode cX7_missing 48 = .ok (.getfield 43, 3) := by decide +kernel
theorem dX7_missing_51 : decode cX7_missing 51 = .ok (.bipush 6, 2) := by decide +kernel
theorem dX7_missing_53 : decode cX7_missing 53 = .ok (.iload_n 1, 1) := by decide +kernel
theorem dX7_missing_54 : decode cX7_missing 54 = .ok (.imul, 1) := by decide +kernel
theorem dX7_missing_55 : decode cX7_missing 55 = .ok (.iload_n 2, 1) := by decide +kernel
theorem dX7_missing_56 : decode cX7_missing 56 = .ok (.iadd, 1) := by decide +kernel
theorem dX7_missing_57 : decode cX7_missing 57 = .ok (.baload, 1) := by decide +kernel
theorem dX7_missing_58 : decode cX7_missing 58 = .ok (.ifCond .eq 6, 3) := by decide +kernel
theorem dX7_missing_61 : decode cX7_missing 61 = .ok (.bipush (-3), 2) := by decide +kernel
theorem dX7_missing_63 : decode cX7_missing 63 = .ok (.ireturn, 1) := by decide +kernel
theorem dX7_missing_64 : decode cX7_missing 64 = .ok (.aload_n 0, 1) := by decide +kernel
theorem dX7_missing_65 : decode cX7_missing 65 = .ok (.getfield 43, 3) := by decide +kernel
theorem dX7_missing_68 : decode cX7_missing 68 = .ok (.bipush 6, 2) := by decide +kernel
theorem dX7_missing_70 : decode cX7_missing 70 = .ok (.iload_n 1, 1) := by decide +kernel
theorem dX7_missing_71 : decode cX7_missing 71 = .ok (.imul, 1) := by decide +kernel
theorem dX7_missing_72 : decode cX7_missing 72 = .ok (.iload_n 2, 1) := by decide +kernel
theorem dX7_missing_73 : decode cX7_missing 73 = .ok (.iadd, 1) := by decide +kernel
theorem dX7_missing_74 : decode cX7_missing 74 = .ok (.iconst 1, 1) := by decide +kernel
theorem dX7_missing_75 : decode cX7_missing 75 = .ok (.bastore, 1) := by decide +kernel
theorem dX7_missing_76 : decode cX7_missing 76 = .ok (.aload_n 0, 1) := by decide +kernel
theorem dX7_missing_77 : decode cX7_missing 77 = .ok (.getfield 25, 3) := by decide +kernel
theorem dX7_missing_80 : decode cX7_missing 80 = .ok (.iload_n 2, 1) := by decide +kernel
theorem dX7_missing_81 : decode cX7_missing 81 = .ok (.dup2, 1) := by decide +kernel
theorem dX7_missing_82 : decode cX7_missing 82 = .ok (.iaload, 1) := by decide +kernel
theorem dX7_missing_83 : decode cX7_missing 83 = .ok (.iload_n 3, 1) := by decide +kernel
theorem dX7_missing_84 : decode cX7_missing 84 = .ok (.iadd, 1) := by decide +kernel
theorem dX7_missing_85 : decode cX7_missing 85 = .ok (.iastore, 1) := by decide +kernel
theorem dX7_missing_86 : decode cX7_missing 86 = .ok (.aload_n 0, 1) := by decide +kernel
theorem dX7_missing_87 : decode cX7_missing 87 = .ok (.dup, 1) := by decide +kernel
theorem dX7_missing_88 : decode cX7_missing 88 = .ok (.getfield 120, 3) := by decide +kernel
theorem dX7_missing_91 : decode cX7_missing 91 = .ok (.aload_n 0, 1) := by decide +kernel
theorem dX7_missing_92 : decode cX7_missing 92 = .ok (.getfield 22, 3) := by decide +kernel
theorem dX7_missing_95 : decode cX7_missing 95 = .ok (.iload_n 2, 1) := by decide +kernel
theorem dX7_missing_96 : decode cX7_missing 96 = .ok (.iaload, 1) := by decide +kernel
theorem dX7_missing_97 : decode cX7_missing 97 = .ok (.iload_n 3, 1) := by decide +kernel
theorem dX7_missing_98 : decode cX7_missing 98 = .ok (.imul, 1) := by decide +kernel
theorem dX7_missing_99 : decode cX7_missing 99 = .ok (.iadd, 1) := by decide +kernel
theorem dX7_missing_100 : decode cX7_missing 100 = .ok (.putfield 120, 3) := by decide +kernel
theorem dX7_missing_103 : decode cX7_missing 103 = .ok (.aload_n 0, 1) := by decide +kernel
theorem dX7_missing_104 : decode cX7_missing 104 = .ok (.getfield 22, 3) := by decide +kernel
theorem dX7_missing_107 : decode cX7_missing 107 = .ok (.iload_n 2, 1) := by decide +kernel
theorem dX7_missing_108 : decode cX7_missing 108 = .ok (.iaload, 1) := by decide +kernel
theorem dX7_missing_109 : decode cX7_missing 109 = .ok (.iload_n 3, 1) := by decide +kernel
theorem dX7_missing_110 : decode cX7_missing 110 = .ok (.imul, 1) := by decide +kernel
theorem dX7_missing_111 : decode cX7_missing 111 = .ok (.ireturn, 1) := by decide +kernel
theorem dX7_mend_0 : decode cX7_mend 0 = .ok (.iload_n 1, 1) := by decide +kernel
theorem dX7_mend_1 : decode cX7_mend 1 = .ok (.invokestatic 91, 3) := by decide +kernel
theorem dX7_mend_4 : decode cX7_mend 4 = .ok (.ifCond .eq 14, 3) := by decide +kernel
theorem dX7_mend_7 : decode cX7_mend 7 = .ok (.iload_n 2, 1) := by decide +kernel
theorem dX7_mend_8 : decode cX7_mend 8 = .ok (.iconst 0, 1) := by decide +kernel
theorem dX7_mend_9 : decode cX7_mend 9 = .ok (.sipush 1000, 3) := by decide +kernel
theorem dX7_mend_12 : decode cX7_mend 12 = .ok (.invokestatic 83, 3) := by decide +kernel
theorem dX7_mend_15 : decode cX7_mend 15 = .ok (.ifCond .ne 6, 3) := by decide +kernel
theorem dX7_mend_18 : decode cX7_mend 18 = .ok (.bipush (-2), 2) := by decide +kernel
theorem dX7_mend_20 : decode cX7_mend 20 = .ok (.ireturn, 1) := by decide +kernel
theorem dX7_mend_21 : decode cX7_mend 21 = .ok (.iload_n 2, 1) := by decide +kernel
theorem dX7_mend_22 : decode cX7_mend 22 = .ok (.aload_n 0, 1) := by decide +kernel
theorem dX7_mend_23 : decode cX7_mend 23 = .ok (.getfield 25, 3) := by decide +kernel
theorem dX7_mend_26 : decode cX7_mend 26 = .ok (.iload_n 1, 1) := by decide +kernel
theorem dX7_mend_27 : decode cX7_mend 27 = .ok (.iaload, 1) := by decide +kernel
theorem dX7_mend_28 : decode cX7_mend 28 = .ok (.if_icmp .le 6, 3) := by decide +kernel
theorem dX7_mend_31 : decode cX7_mend 31 = .ok (.bipush (-3), 2) := by decide +kernel
theorem dX7_mend_33 : decode cX7_mend 33 = .ok (.ireturn, 1) := by decide +kernel
theorem dX7_mend_34 : decode cX7_mend 34 = .ok (.aload_n 0, 1) := by decide +kernel
theorem dX7_mend_35 : decode cX7_mend 35 = .ok (.getfield 25, 3) := by decide +kernel
theorem dX7_mend_38 : decode cX7_mend 38 = .ok (.iload_n 1, 1) := by decide +kernel
theorem dX7_mend_39 : decode cX7_mend 39 = .ok (.dup2, 1) := by decide +kernel
theorem dX7_mend_40 : decode cX7_mend 40 = .ok (.iaload, 1) := by decide +kernel
theorem dX7_mend_41 : decode cX7_mend 41 = .ok (.iload_n 2, 1) := by decide +kernel
theorem dX7_mend_42 : decode cX7_mend 42 = .ok (.isub, 1) := by decide +kernel
theorem dX7_mend_43 : decode cX7_mend 43 = .ok (.iastore, 1) := by decide +kernel
theorem dX7_mend_44 : decode cX7_mend 44 = .ok (.aload_n 0, 1) := by decide +kernel
theorem dX7_mend_45 : decode cX7_mend 45 = .ok (.getfield 25, 3) := by decide +kernel
theorem dX7_mend_48 : decode cX7_mend 48 = .ok (.iload_n 1, 1) := by decide +kernel
theorem dX7_mend_49 : decode cX7_mend 49 = .ok (.iaload, 1) := by decide +kernel
theorem dX7_mend_50 : decode cX7_mend 50 = .ok (.ireturn, 1) := by decide +kernel
theorem dX7_aboutOf_0 : decode cX7_aboutOf 0 = .ok (.iload_n 2, 1) := by decide +kernel
theorem dX7_aboutOf_1 : decode cX7_aboutOf 1 = .ok (.tableswitch 81 0 5 #[39, 46, 53, 60, 67, 74], 39) := by decide +kernel
theorem dX7_aboutOf_40 : decode cX7_aboutOf 40 = .ok (.aload_n 0, 1) := by decide +kernel
theorem dX7_aboutOf_41 : decode cX7_aboutOf 41 = .ok (.getfield 37, 3) := by decide +kernel
theorem dX7_aboutOf_44 : decode cX7_aboutOf 44 = .ok (.iload_n 1, 1) := by decide +kernel
theorem dX7_aboutOf_45 : decode cX7_aboutOf 45 = .ok (.iaload, 1) := by decide +kernel
theorem dX7_aboutOf_46 : decode cX7_aboutOf 46 = .ok (.ireturn, 1) := by decide +kernel
theorem dX7_aboutOf_47 : decode cX7_aboutOf 47 = .ok (.aload_n 0, 1) := by decide +kernel
theorem dX7_aboutOf_48 : decode cX7_aboutOf 48 = .ok (.getfield 28, 3) := by decide +kernel
theorem dX7_aboutOf_51 : decode cX7_aboutOf 51 = .ok (.iload_n 1, 1) := by decide +kernel
theorem dX7_aboutOf_52 : decode cX7_aboutOf 52 = .ok (.iaload, 1) := by decide +kernel
theorem dX7_aboutOf_53 : decode cX7_aboutOf 53 = .ok (.ireturn, 1) := by decide +kernel
theorem dX7_aboutOf_54 : decode cX7_aboutOf 54 = .ok (.aload_n 0, 1) := by decide +kernel
theorem dX7_aboutOf_55 : decode cX7_aboutOf 55 = .ok (.getfield 31, 3) := by decide +kernel
theorem dX7_aboutOf_58 : decode cX7_aboutOf 58 = .ok (.iload_n 1, 1) := by decide +kernel
theorem dX7_aboutOf_59 : decode cX7_aboutOf 59 = .ok (.iaload, 1) := by decide +kernel
theorem dX7_aboutOf_60 : decode cX7_aboutOf 60 = .ok (.ireturn, 1) := by decide +kernel
theorem dX7_aboutOf_61 : decode cX7_aboutOf 61 = .ok (.aload_n 0, 1) := by decide +kernel
theorem dX7_aboutOf_62 : decode cX7_aboutOf 62 = .ok (.getfield 34, 3) := by decide +kernel
theorem dX7_aboutOf_65 : decode cX7_aboutOf 65 = .ok (.iload_n 1, 1) := by decide +kernel
theorem dX7_aboutOf_66 : decode cX7_aboutOf 66 = .ok (.iaload, 1) := by decide +kernel
theorem dX7_aboutOf_67 : decode cX7_aboutOf 67 = .ok (.ireturn, 1) := by decide +kernel
theorem dX7_aboutOf_68 : decode cX7_aboutOf 68 = .ok (.aload_n 0, 1) := by decide +kernel
theorem dX7_aboutOf_69 : decode cX7_aboutOf 69 = .ok (.getfield 47, 3) := by decide +kernel
theorem dX7_aboutOf_72 : decode cX7_aboutOf 72 = .ok (.iload_n 1, 1) := by decide +kernel
theorem dX7_aboutOf_73 : decode cX7_aboutOf 73 = .ok (.iaload, 1) := by decide +kernel
theorem dX7_aboutOf_74 : decode cX7_aboutOf 74 = .ok (.ireturn, 1) := by decide +kernel
theorem dX7_aboutOf_75 : decode cX7_aboutOf 75 = .ok (.aload_n 0, 1) := by decide +kernel
theorem dX7_aboutOf_76 : decode cX7_aboutOf 76 = .ok (.getfield 50, 3) := by decide +kernel
theorem dX7_aboutOf_79 : decode cX7_aboutOf 79 = .ok (.iload_n 1, 1) := by decide +kernel
theorem dX7_aboutOf_80 : decode cX7_aboutOf 80 = .ok (.iaload, 1) := by decide +kernel
theorem dX7_aboutOf_81 : decode cX7_aboutOf 81 = .ok (.ireturn, 1) := by decide +kernel
theorem dX7_aboutOf_82 : decode cX7_aboutOf 82 = .ok (.aload_n 0, 1) := by decide +kernel
theorem dX7_aboutOf_83 : decode cX7_aboutOf 83 = .ok (.getfield 53, 3) := by decide +kernel
theorem dX7_aboutOf_86 : decode cX7_aboutOf 86 = .ok (.iload_n 1, 1) := by decide +kernel
theorem dX7_aboutOf_87 : decode cX7_aboutOf 87 = .ok (.iaload, 1) := by decide +kernel
theorem dX7_aboutOf_88 : decode cX7_aboutOf 88 = .ok (.ireturn, 1) := by decide +kernel
theorem dX7_about_0 : decode cX7_about 0 = .ok (.aload_n 0, 1) := by decide +kernel
theorem dX7_about_1 : decode cX7_about 1 = .ok (.iload_n 1, 1) := by decide +kernel
theorem dX7_about_2 : decode cX7_about 2 = .ok (.invokevirtual 99, 3) := by decide +kernel
theorem dX7_about_5 : decode cX7_about 5 = .ok (.ifCond .eq 22, 3) := by decide +kernel
theorem dX7_about_8 : decode cX7_about 8 = .ok (.iload_n 2, 1) := by decide +kernel
theorem dX7_about_9 : decode cX7_about 9 = .ok (.iconst 0, 1) := by decide +kernel
theorem dX7_about_10 : decode cX7_about 10 = .ok (.bipush 6, 2) := by decide +kernel
theorem dX7_about_12 : decode cX7_about 12 = .ok (.invokestatic 83, 3) := by decide +kernel
theorem dX7_about_15 : decode cX7_about 15 = .ok (.ifCond .eq 12, 3) := by decide +kernel
theorem dX7_about_18 : decode cX7_about 18 = .ok (.aload_n 0, 1) := by decide +kernel
theorem dX7_about_19 : decode cX7_about 19 = .ok (.iload_n 1, 1) := by decide +kernel
theorem dX7_about_20 : decode cX7_about 20 = .ok (.iload_n 2, 1) := by decide +kernel
theorem dX7_about_21 : decode cX7_about 21 = .ok (.invokevirtual 123, 3) := by decide +kernel
theorem dX7_about_24 : decode cX7_about 24 = .ok (.goto 5, 3) := by decide +kernel
theorem dX7_about_27 : decode cX7_about 27 = .ok (.bipush (-2), 2) := by decide +kernel
theorem dX7_about_29 : decode cX7_about 29 = .ok (.ireturn, 1) := by decide +kernel
theorem dX7_lack_0 : decode cX7_lack 0 = .ok (.iload_n 1, 1) := by decide +kernel
theorem dX7_lack_1 : decode cX7_lack 1 = .ok (.invokestatic 91, 3) := by decide +kernel
theorem dX7_lack_4 : decode cX7_lack 4 = .ok (.ifCond .eq 13, 3) := by decide +kernel
theorem dX7_lack_7 : decode cX7_lack 7 = .ok (.iload_n 2, 1) := by decide +kernel
theorem dX7_lack_8 : decode cX7_lack 8 = .ok (.iconst 0, 1) := by decide +kernel
theorem dX7_lack_9 : decode cX7_lack 9 = .ok (.bipush 65, 2) := by decide +kernel
theorem dX7_lack_11 : decode cX7_lack 11 = .ok (.invokestatic 83, 3) := by decide +kernel
theorem dX7_lack_14 : decode cX7_lack 14 = .ok (.ifCond .ne 6, 3) := by decide +kernel
theorem dX7_lack_17 : decode cX7_lack 17 = .ok (.bipush (-2), 2) := by decide +kernel
theorem dX7_lack_19 : decode cX7_lack 19 = .ok (.ireturn, 1) := by decide +kernel
theorem dX7_lack_20 : decode cX7_lack 20 = .ok (.aload_n 0, 1) := by decide +kernel
theorem dX7_lack_21 : decode cX7_lack 21 = .ok (.invokevirtual 106, 3) := by decide +kernel
theorem dX7_lack_24 : decode cX7_lack 24 = .ok (.aload_n 0, 1) := by decide +kernel
theorem dX7_lack_25 : decode cX7_lack 25 = .ok (.aload_n 0, 1) := by decide +kernel
theorem dX7_lack_26 : decode cX7_lack 26 = .ok (.iconst 1, 1) := by decide +kernel
theorem dX7_lack_27 : decode cX7_lack 27 = .ok (.invokevirtual 109, 3) := by decide +kernel
theorem dX7_lack_30 : decode cX7_lack 30 = .ok (.iload_n 1, 1) := by decide +kernel
theorem dX7_lack_31 : decode cX7_lack 31 = .ok (.iload_n 2, 1) := by decide +kernel
theorem dX7_lack_32 : decode cX7_lack 32 = .ok (.invokevirtual 102, 3) := by decide +kernel
theorem dX7_lack_35 : decode cX7_lack 35 = .ok (.ireturn, 1) := by decide +kernel
theorem dX7_fits_0 : decode cX7_fits 0 = .ok (.aload_n 0, 1) := by decide +kernel
theorem dX7_fits_1 : decode cX7_fits 1 = .ok (.iload_n 1, 1) := by decide +kernel
theorem dX7_fits_2 : decode cX7_fits 2 = .ok (.invokevirtual 127, 3) := by decide +kernel
theorem dX7_fits_5 : decode cX7_fits 5 = .ok (.ifCond .ne 6, 3) := by decide +kernel
theorem dX7_fits_8 : decode cX7_fits 8 = .ok (.bipush (-2), 2) := by decide +kernel
theorem dX7_fits_10 : decode cX7_fits 10 = .ok (.ireturn, 1) := by decide +kernel
theorem dX7_fits_11 : decode cX7_fits 11 = .ok (.aload_n 0, 1) := by decide +kernel
theorem dX7_fits_12 : decode cX7_fits 12 = .ok (.invokevirtual 106, 3) := by decide +kernel
theorem dX7_fits_15 : decode cX7_fits 15 = .ok (.aload_n 0, 1) := by decide +kernel
theorem dX7_fits_16 : decode cX7_fits 16 = .ok (.iload_n 1, 1) := by decide +kernel
theorem dX7_fits_17 : decode cX7_fits 17 = .ok (.invokevirtual 113, 3) := by decide +kernel
theorem dX7_fits_20 : decode cX7_fits 20 = .ok (.ifCond .eq 7, 3) := by decide +kernel
theorem dX7_fits_23 : decode cX7_fits 23 = .ok (.iconst 1, 1) := by decide +kernel
theorem dX7_fits_24 : decode cX7_fits 24 = .ok (.goto 4, 3) := by decide +kernel
theorem dX7_fits_27 : decode cX7_fits 27 = .ok (.iconst 0, 1) := by decide +kernel
theorem dX7_fits_28 : decode cX7_fits 28 = .ok (.ireturn, 1) := by decide +kernel
theorem dX7_best_0 : decode cX7_best 0 = .ok (.aload_n 0, 1) := by decide +kernel
theorem dX7_best_1 : decode cX7_best 1 = .ok (.invokevirtual 106, 3) := by decide +kernel
theorem dX7_best_4 : decode cX7_best 4 = .ok (.aload_n 0, 1) := by decide +kernel
theorem dX7_best_5 : decode cX7_best 5 = .ok (.iconst 1, 1) := by decide +kernel
theorem dX7_best_6 : decode cX7_best 6 = .ok (.invokevirtual 109, 3) := by decide +kernel
theorem dX7_best_9 : decode cX7_best 9 = .ok (.istore_n 1, 1) := by decide +kernel
theorem dX7_best_10 : decode cX7_best 10 = .ok (.aload_n 0, 1) := by decide +kernel
theorem dX7_best_11 : decode cX7_best 11 = .ok (.iconst 0, 1) := by decide +kernel
theorem dX7_best_12 : decode cX7_best 12 = .ok (.invokevirtual 109, 3) := by decide +kernel
theorem dX7_best_15 : decode cX7_best 15 = .ok (.istore_n 2, 1) := by decide +kernel
theorem dX7_best_16 : decode cX7_best 16 = .ok (.aload_n 0, 1) := by decide +kernel
theorem dX7_best_17 : decode cX7_best 17 = .ok (.iload_n 1, 1) := by decide +kernel
theorem dX7_best_18 : decode cX7_best 18 = .ok (.invokevirtual 113, 3) := by decide +kernel
theorem dX7_best_21 : decode cX7_best 21 = .ok (.ifCond .ne 6, 3) := by decide +kernel
theorem dX7_best_24 : decode cX7_best 24 = .ok (.bipush (-3), 2) := by decide +kernel
theorem dX7_best_26 : decode cX7_best 26 = .ok (.ireturn, 1) := by decide +kernel
theorem dX7_best_27 : decode cX7_best 27 = .ok (.iconst 0, 1) := by decide +kernel
theorem dX7_best_28 : decode cX7_best 28 = .ok (.istore_n 3, 1) := by decide +kernel
theorem dX7_best_29 : decode cX7_best 29 = .ok (.iconst 1, 1) := by decide +kernel
theorem dX7_best_30 : decode cX7_best 30 = .ok (.istore 4, 2) := by decide +kernel
theorem dX7_best_32 : decode cX7_best 32 = .ok (.iload 4, 2) := by decide +kernel
theorem dX7_best_34 : decode cX7_best 34 = .ok (.iconst 1, 1) := by decide +kernel
theorem dX7_best_35 : decode cX7_best 35 = .ok (.aload_n 0, 1) := by decide +kernel
theorem dX7_best_36 : decode cX7_best 36 = .ok (.getfield 87, 3) := by decide +kernel
theorem dX7_best_39 : decode cX7_best 39 = .ok (.ishl, 1) := by decide +kernel
theorem dX7_best_40 : decode cX7_best 40 = .ok (.if_icmp .ge 46, 3) := by decide +kernel
theorem dX7_best_43 : decode cX7_best 43 = .ok (.iload 4, 2) := by decide +kernel
theorem dX7_best_45 : decode cX7_best 45 = .ok (.iload_n 2, 1) := by decide +kernel
theorem dX7_best_46 : decode cX7_best 46 = .ok (.iand, 1) := by decide +kernel
theorem dX7_best_47 : decode cX7_best 47 = .ok (.iload 4, 2) := by decide +kernel
theorem dX7_best_49 : decode cX7_best 49 = .ok (.if_icmp .ne 31, 3) := by decide +kernel
theorem dX7_best_52 : decode cX7_best 52 = .ok (.aload_n 0, 1) := by decide +kernel
theorem dX7_best_53 : decode cX7_best 53 = .ok (.iload 4, 2) := by decide +kernel
theorem dX7_best_55 : decode cX7_best 55 = .ok (.invokevirtual 130, 3) := by decide +kernel
theorem dX7_best_58 : decode cX7_best 58 = .ok (.aload_n 0, 1) := by decide +kernel
theorem dX7_best_59 : decode cX7_best 59 = .ok (.iload_n 3, 1) := by decide +kernel
theorem dX7_best_60 : decode cX7_best 60 = .ok (.invokevirtual 130, 3) := by decide +kernel
theorem dX7_best_63 : decode cX7_best 63 = .ok (.if_icmp .le 17, 3) := by decide +kernel
theorem dX7_best_66 : decode cX7_best 66 = .ok (.aload_n 0, 1) := by decide +kernel
theorem dX7_best_67 : decode cX7_best 67 = .ok (.iload 4, 2) := by decide +kernel
theorem dX7_best_69 : decode cX7_best 69 = .ok (.iload_n 1, 1) := by decide +kernel
theorem dX7_best_70 : decode cX7_best 70 = .ok (.ior, 1) := by decide +kernel
theorem dX7_best_71 : decode cX7_best 71 = .ok (.invokevirtual 113, 3) := by decide +kernel
theorem dX7_best_74 : decode cX7_best 74 = .ok (.ifCond .eq 6, 3) := by decide +kernel
theorem dX7_best_77 : decode cX7_best 77 = .ok (.iload 4, 2) := by decide +kernel
theorem dX7_best_79 : decode cX7_best 79 = .ok (.istore_n 3, 1) := by decide +kernel
theorem dX7_best_80 : decode cX7_best 80 = .ok (.iinc 4 1, 3) := by decide +kernel
theorem dX7_best_83 : decode cX7_best 83 = .ok (.goto (-51), 3) := by decide +kernel
theorem dX7_best_86 : decode cX7_best 86 = .ok (.iload_n 3, 1) := by decide +kernel
theorem dX7_best_87 : decode cX7_best 87 = .ok (.ireturn, 1) := by decide +kernel
theorem dX7_dearest_0 : decode cX7_dearest 0 = .ok (.aload_n 0, 1) := by decide +kernel
theorem dX7_dearest_1 : decode cX7_dearest 1 = .ok (.invokevirtual 106, 3) := by decide +kernel
theorem dX7_dearest_4 : decode cX7_dearest 4 = .ok (.aload_n 0, 1) := by decide +kernel
theorem dX7_dearest_5 : decode cX7_dearest 5 = .ok (.iconst 1, 1) := by decide +kernel
theorem dX7_dearest_6 : decode cX7_dearest 6 = .ok (.invokevirtual 109, 3) := by decide +kernel
theorem dX7_dearest_9 : decode cX7_dearest 9 = .ok (.istore_n 1, 1) := by decide +kernel
theorem dX7_dearest_10 : decode cX7_dearest 10 = .ok (.aload_n 0, 1) := by decide +kernel
theorem dX7_dearest_11 : decode cX7_dearest 11 = .ok (.iconst 0, 1) := by decide +kernel
theorem dX7_dearest_12 : decode cX7_dearest 12 = .ok (.invokevirtual 109, 3) := by decide +kernel
theorem dX7_dearest_15 : decode cX7_dearest 15 = .ok (.istore_n 2, 1) := by decide +kernel
theorem dX7_dearest_16 : decode cX7_dearest 16 = .ok (.aload_n 0, 1) := by decide +kernel
theorem dX7_dearest_17 : decode cX7_dearest 17 = .ok (.iload_n 1, 1) := by decide +kernel
theorem dX7_dearest_18 : decode cX7_dearest 18 = .ok (.invokevirtual 116, 3) := by decide +kernel
theorem dX7_dearest_21 : decode cX7_dearest 21 = .ok (.lstore_n 3, 1) := by decide +kernel
theorem dX7_dearest_22 : decode cX7_dearest 22 = .ok (.iconst 0, 1) := by decide +kernel
theorem dX7_dearest_23 : decode cX7_dearest 23 = .ok (.istore 5, 2) := by decide +kernel
theorem dX7_dearest_25 : decode cX7_dearest 25 = .ok (.lconst 0, 1) := by decide +kernel
theorem dX7_dearest_26 : decode cX7_dearest 26 = .ok (.lstore 6, 2) := by decide +kernel
theorem dX7_dearest_28 : decode cX7_dearest 28 = .ok (.iconst 1, 1) := by decide +kernel
theorem dX7_dearest_29 : decode cX7_dearest 29 = .ok (.istore 8, 2) := by decide +kernel
theorem dX7_dearest_31 : decode cX7_dearest 31 = .ok (.iload 8, 2) := by decide +kernel
theorem dX7_dearest_33 : decode cX7_dearest 33 = .ok (.iconst 1, 1) := by decide +kernel
theorem dX7_dearest_34 : decode cX7_dearest 34 = .ok (.aload_n 0, 1) := by decide +kernel
theorem dX7_dearest_35 : decode cX7_dearest 35 = .ok (.getfield 87, 3) := by decide +kernel
theorem dX7_dearest_38 : decode cX7_dearest 38 = .ok (.ishl, 1) := by decide +kernel
theorem dX7_dearest_39 : decode cX7_dearest 39 = .ok (.if_icmp .ge 54, 3) := by decide +kernel
theorem dX7_dearest_42 : decode cX7_dearest 42 = .ok (.iload 8, 2) := by decide +kernel
theorem dX7_dearest_44 : decode cX7_dearest 44 = .ok (.iload_n 2, 1) := by decide +kernel
theorem dX7_dearest_45 : decode cX7_dearest 45 = .ok (.iand, 1) := by decide +kernel
theorem dX7_dearest_46 : decode cX7_dearest 46 = .ok (.iload 8, 2) := by decide +kernel
theorem dX7_dearest_48 : decode cX7_dearest 48 = .ok (.if_icmp .ne 39, 3) := by decide +kernel
theorem dX7_dearest_51 : decode cX7_dearest 51 = .ok (.aload_n 0, 1) := by decide +kernel
theorem dX7_dearest_52 : decode cX7_dearest 52 = .ok (.iload 8, 2) := by decide +kernel
theorem dX7_dearest_54 : decode cX7_dearest 54 = .ok (.invokevirtual 130, 3) := by decide +kernel
theorem dX7_dearest_57 : decode cX7_dearest 57 = .ok (.i2l, 1) := by decide +kernel
theorem dX7_dearest_58 : decode cX7_dearest 58 = .ok (.aload_n 0, 1) := by decide +kernel
theorem dX7_dearest_59 : decode cX7_dearest 59 = .ok (.iload 8, 2) := by decide +kernel
theorem dX7_dearest_61 : decode cX7_dearest 61 = .ok (.iload_n 1, 1) := by decide +kernel
theorem dX7_dearest_62 : decode cX7_dearest 62 = .ok (.ior, 1) := by decide +kernel
theorem dX7_dearest_63 : decode cX7_dearest 63 = .ok (.invokevirtual 116, 3) := by decide +kernel
theorem dX7_dearest_66 : decode cX7_dearest 66 = .ok (.lload_n 3, 1) := by decide +kernel
theorem dX7_dearest_67 : decode cX7_dearest 67 = .ok (.lsub, 1) := by decide +kernel
theorem dX7_dearest_68 : decode cX7_dearest 68 = .ok (.lsub, 1) := by decide +kernel
theorem dX7_dearest_69 : decode cX7_dearest 69 = .ok (.lstore 9, 2) := by decide +kernel
theorem dX7_dearest_71 : decode cX7_dearest 71 = .ok (.lload 9, 2) := by decide +kernel
theorem dX7_dearest_73 : decode cX7_dearest 73 = .ok (.lload 6, 2) := by decide +kernel
theorem dX7_dearest_75 : decode cX7_dearest 75 = .ok (.lcmp, 1) := by decide +kernel
theorem dX7_dearest_76 : decode cX7_dearest 76 = .ok (.ifCond .le 11, 3) := by decide +kernel
theorem dX7_dearest_79 : decode cX7_dearest 79 = .ok (.lload 9, 2) := by decide +kernel
theorem dX7_dearest_81 : decode cX7_dearest 81 = .ok (.lstore 6, 2) := by decide +kernel
theorem dX7_dearest_83 : decode cX7_dearest 83 = .ok (.iload 8, 2) := by decide +kernel
theorem dX7_dearest_85 : decode cX7_dearest 85 = .ok (.istore 5, 2) := by decide +kernel
theorem dX7_dearest_87 : decode cX7_dearest 87 = .ok (.iinc 8 1, 3) := by decide +kernel
theorem dX7_dearest_90 : decode cX7_dearest 90 = .ok (.goto (-59), 3) := by decide +kernel
theorem dX7_dearest_93 : decode cX7_dearest 93 = .ok (.iload 5, 2) := by decide +kernel
theorem dX7_dearest_95 : decode cX7_dearest 95 = .ok (.ireturn, 1) := by decide +kernel
theorem dX7_hired_0 : decode cX7_hired 0 = .ok (.aload_n 0, 1) := by decide +kernel
theorem dX7_hired_1 : decode cX7_hired 1 = .ok (.iload_n 1, 1) := by decide +kernel
theorem dX7_hired_2 : decode cX7_hired 2 = .ok (.invokevirtual 127, 3) := by decide +kernel
theorem dX7_hired_5 : decode cX7_hired 5 = .ok (.ifCond .ne 7, 3) := by decide +kernel
theorem dX7_hired_8 : decode cX7_hired 8 = .ok (.ldc2_w 133, 3) := by decide +kernel
theorem dX7_hired_11 : decode cX7_hired 11 = .ok (.lreturn, 1) := by decide +kernel
theorem dX7_hired_12 : decode cX7_hired 12 = .ok (.aload_n 0, 1) := by decide +kernel
theorem dX7_hired_13 : decode cX7_hired 13 = .ok (.invokevirtual 106, 3) := by decide +kernel
theorem dX7_hired_16 : decode cX7_hired 16 = .ok (.aload_n 0, 1) := by decide +kernel
theorem dX7_hired_17 : decode cX7_hired 17 = .ok (.iload_n 1, 1) := by decide +kernel
theorem dX7_hired_18 : decode cX7_hired 18 = .ok (.invokevirtual 116, 3) := by decide +kernel
theorem dX7_hired_21 : decode cX7_hired 21 = .ok (.lreturn, 1) := by decide +kernel
theorem dX7_fewest_0 : decode cX7_fewest 0 = .ok (.aload_n 0, 1) := by decide +kernel
theorem dX7_fewest_1 : decode cX7_fewest 1 = .ok (.invokevirtual 106, 3) := by decide +kernel
theorem dX7_fewest_4 : decode cX7_fewest 4 = .ok (.aload_n 0, 1) := by decide +kernel
theorem dX7_fewest_5 : decode cX7_fewest 5 = .ok (.iconst 1, 1) := by decide +kernel
theorem dX7_fewest_6 : decode cX7_fewest 6 = .ok (.invokevirtual 109, 3) := by decide +kernel
theorem dX7_fewest_9 : decode cX7_fewest 9 = .ok (.istore_n 1, 1) := by decide +kernel
theorem dX7_fewest_10 : decode cX7_fewest 10 = .ok (.iload_n 1, 1) := by decide +kernel
theorem dX7_fewest_11 : decode cX7_fewest 11 = .ok (.istore_n 2, 1) := by decide +kernel
theorem dX7_fewest_12 : decode cX7_fewest 12 = .ok (.iconst 0, 1) := by decide +kernel
theorem dX7_fewest_13 : decode cX7_fewest 13 = .ok (.istore_n 3, 1) := by decide +kernel
theorem dX7_fewest_14 : decode cX7_fewest 14 = .ok (.iload_n 3, 1) := by decide +kernel
theorem dX7_fewest_15 : decode cX7_fewest 15 = .ok (.iconst 1, 1) := by decide +kernel
theorem dX7_fewest_16 : decode cX7_fewest 16 = .ok (.aload_n 0, 1) := by decide +kernel
theorem dX7_fewest_17 : decode cX7_fewest 17 = .ok (.getfield 87, 3) := by decide +kernel
theorem dX7_fewest_20 : decode cX7_fewest 20 = .ok (.ishl, 1) := by decide +kernel
theorem dX7_fewest_21 : decode cX7_fewest 21 = .ok (.if_icmp .ge 95, 3) := by decide +kernel
theorem dX7_fewest_24 : decode cX7_fewest 24 = .ok (.iload_n 3, 1) := by decide +kernel
theorem dX7_fewest_25 : decode cX7_fewest 25 = .ok (.invokestatic 135, 3) := by decide +kernel
theorem dX7_fewest_28 : decode cX7_fewest 28 = .ok (.iload_n 2, 1) := by decide +kernel
theorem dX7_fewest_29 : decode cX7_fewest 29 = .ok (.invokestatic 135, 3) := by decide +kernel
theorem dX7_fewest_32 : decode cX7_fewest 32 = .ok (.if_icmp .lt 45, 3) := by decide +kernel
theorem dX7_fewest_35 : decode cX7_fewest 35 = .ok (.iload_n 3, 1) := by decide +kernel
theorem dX7_fewest_36 : decode cX7_fewest 36 = .ok (.invokestatic 135, 3) := by decide +kernel
theorem dX7_fewest_39 : decode cX7_fewest 39 = .ok (.iload_n 2, 1) := by decide +kernel
theorem dX7_fewest_40 : decode cX7_fewest 40 = .ok (.invokestatic 135, 3) := by decide +kernel
theorem dX7_fewest_43 : decode cX7_fewest 43 = .ok (.if_icmp .ne 38, 3) := by decide +kernel
theorem dX7_fewest_46 : decode cX7_fewest 46 = .ok (.aload_n 0, 1) := by decide +kernel
theorem dX7_fewest_47 : decode cX7_fewest 47 = .ok (.iload_n 3, 1) := by decide +kernel
theorem dX7_fewest_48 : decode cX7_fewest 48 = .ok (.invokevirtual 130, 3) := by decide +kernel
theorem dX7_fewest_51 : decode cX7_fewest 51 = .ok (.aload_n 0, 1) := by decide +kernel
theorem dX7_fewest_52 : decode cX7_fewest 52 = .ok (.iload_n 2, 1) := by decide +kernel
theorem dX7_fewest_53 : decode cX7_fewest 53 = .ok (.invokevirtual 130, 3) := by decide +kernel
theorem dX7_fewest_56 : decode cX7_fewest 56 = .ok (.if_icmp .lt 21, 3) := by decide +kernel
theorem dX7_fewest_59 : decode cX7_fewest 59 = .ok (.aload_n 0, 1) := by decide +kernel
theorem dX7_fewest_60 : decode cX7_fewest 60 = .ok (.iload_n 3, 1) := by decide +kernel
theorem dX7_fewest_61 : decode cX7_fewest 61 = .ok (.invokevirtual 130, 3) := by decide +kernel
theorem dX7_fewest_64 : decode cX7_fewest 64 = .ok (.aload_n 0, 1) := by decide +kernel
theorem dX7_fewest_65 : decode cX7_fewest 65 = .ok (.iload_n 2, 1) := by decide +kernel
theorem dX7_fewest_66 : decode cX7_fewest 66 = .ok (.invokevirtual 130, 3) := by decide +kernel
theorem dX7_fewest_69 : decode cX7_fewest 69 = .ok (.if_icmp .ne 12, 3) := by decide +kernel
theorem dX7_fewest_72 : decode cX7_fewest 72 = .ok (.iload_n 3, 1) := by decide +kernel
theorem dX7_fewest_73 : decode cX7_fewest 73 = .ok (.iload_n 2, 1) := by decide +kernel
theorem dX7_fewest_74 : decode cX7_fewest 74 = .ok (.if_icmp .ge 7, 3) := by decide +kernel
theorem dX7_fewest_77 : decode cX7_fewest 77 = .ok (.iconst 1, 1) := by decide +kernel
theorem dX7_fewest_78 : decode cX7_fewest 78 = .ok (.goto 4, 3) := by decide +kernel
theorem dX7_fewest_81 : decode cX7_fewest 81 = .ok (.iconst 0, 1) := by decide +kernel
theorem dX7_fewest_82 : decode cX7_fewest 82 = .ok (.istore 4, 2) := by decide +kernel
theorem dX7_fewest_84 : decode cX7_fewest 84 = .ok (.iload_n 3, 1) := by decide +kernel
theorem dX7_fewest_85 : decode cX7_fewest 85 = .ok (.iload_n 1, 1) := by decide +kernel
theorem dX7_fewest_86 : decode cX7_fewest 86 = .ok (.iand, 1) := by decide +kernel
theorem dX7_fewest_87 : decode cX7_fewest 87 = .ok (.iload_n 3, 1) := by decide +kernel
theorem dX7_fewest_88 : decode cX7_fewest 88 = .ok (.if_icmp .ne 22, 3) := by decide +kernel
theorem dX7_fewest_91 : decode cX7_fewest 91 = .ok (.iload 4, 2) := by decide +kernel
theorem dX7_fewest_93 : decode cX7_fewest 93 = .ok (.ifCond .eq 17, 3) := by decide +kernel
theorem dX7_fewest_96 : decode cX7_fewest 96 = .ok (.aload_n 0, 1) := by decide +kernel
theorem dX7_fewest_97 : decode cX7_fewest 97 = .ok (.iload_n 1, 1) := by decide +kernel
theorem dX7_fewest_98 : decode cX7_fewest 98 = .ok (.iload_n 3, 1) := by decide +kernel
theorem dX7_fewest_99 : decode cX7_fewest 99 = .ok (.iconst (-1), 1) := by decide +kernel
theorem dX7_fewest_100 : decode cX7_fewest 100 = .ok (.ixor, 1) := by decide +kernel
theorem dX7_fewest_101 : decode cX7_fewest 101 = .ok (.iand, 1) := by decide +kernel
theorem dX7_fewest_102 : decode cX7_fewest 102 = .ok (.invokevirtual 113, 3) := by decide +kernel
theorem dX7_fewest_105 : decode cX7_fewest 105 = .ok (.ifCond .eq 5, 3) := by decide +kernel
theorem dX7_fewest_108 : decode cX7_fewest 108 = .ok (.iload_n 3, 1) := by decide +kernel
theorem dX7_fewest_109 : decode cX7_fewest 109 = .ok (.istore_n 2, 1) := by decide +kernel
theorem dX7_fewest_110 : decode cX7_fewest 110 = .ok (.iinc 3 1, 3) := by decide +kernel
theorem dX7_fewest_113 : decode cX7_fewest 113 = .ok (.goto (-99), 3) := by decide +kernel
theorem dX7_fewest_116 : decode cX7_fewest 116 = .ok (.iload_n 2, 1) := by decide +kernel
theorem dX7_fewest_117 : decode cX7_fewest 117 = .ok (.ireturn, 1) := by decide +kernel
theorem dX7_isGuests_0 : decode cX7_isGuests 0 = .ok (.iload_n 0, 1) := by decide +kernel
theorem dX7_isGuests_1 : decode cX7_isGuests 1 = .ok (.iconst 1, 1) := by decide +kernel
theorem dX7_isGuests_2 : decode cX7_isGuests 2 = .ok (.sipush 5000, 3) := by decide +kernel
theorem dX7_isGuests_5 : decode cX7_isGuests 5 = .ok (.invokestatic 83, 3) := by decide +kernel
theorem dX7_isGuests_8 : decode cX7_isGuests 8 = .ok (.ireturn, 1) := by decide +kernel
theorem dX7_bays_0 : decode cX7_bays 0 = .ok (.iload_n 1, 1) := by decide +kernel
theorem dX7_bays_1 : decode cX7_bays 1 = .ok (.invokestatic 138, 3) := by decide +kernel
theorem dX7_bays_4 : decode cX7_bays 4 = .ok (.ifCond .eq 23, 3) := by decide +kernel
theorem dX7_bays_7 : decode cX7_bays 7 = .ok (.iload_n 2, 1) := by decide +kernel
theorem dX7_bays_8 : decode cX7_bays 8 = .ok (.iconst 4, 1) := by decide +kernel
theorem dX7_bays_9 : decode cX7_bays 9 = .ok (.bipush 60, 2) := by decide +kernel
theorem dX7_bays_11 : decode cX7_bays 11 = .ok (.invokestatic 83, 3) := by decide +kernel
theorem dX7_bays_14 : decode cX7_bays 14 = .ok (.ifCond .eq 13, 3) := by decide +kernel
theorem dX7_bays_17 : decode cX7_bays 17 = .ok (.iload_n 1, 1) := by decide +kernel
theorem dX7_bays_18 : decode cX7_bays 18 = .ok (.iload_n 2, 1) := by decide +kernel
theorem dX7_bays_19 : decode cX7_bays 19 = .ok (.iadd, 1) := by decide +kernel
theorem dX7_bays_20 : decode cX7_bays 20 = .ok (.iconst 1, 1) := by decide +kernel
theorem dX7_bays_21 : decode cX7_bays 21 = .ok (.isub, 1) := by decide +kernel
theorem dX7_bays_22 : decode cX7_bays 22 = .ok (.iload_n 2, 1) := by decide +kernel
theorem dX7_bays_23 : decode cX7_bays 23 = .ok (.idiv, 1) := by decide +kernel
theorem dX7_bays_24 : decode cX7_bays 24 = .ok (.goto 5, 3) := by decide +kernel
theorem dX7_bays_27 : decode cX7_bays 27 = .ok (.bipush (-2), 2) := by decide +kernel
theorem dX7_bays_29 : decode cX7_bays 29 = .ok (.ireturn, 1) := by decide +kernel
theorem dX7_law_0 : decode cX7_law 0 = .ok (.iload_n 1, 1) := by decide +kernel
theorem dX7_law_1 : decode cX7_law 1 = .ok (.invokestatic 138, 3) := by decide +kernel
theorem dX7_law_4 : decode cX7_law 4 = .ok (.ifCond .eq 14, 3) := by decide +kernel
theorem dX7_law_7 : decode cX7_law 7 = .ok (.iload_n 2, 1) := by decide +kernel
theorem dX7_law_8 : decode cX7_law 8 = .ok (.iconst 1, 1) := by decide +kernel
theorem dX7_law_9 : decode cX7_law 9 = .ok (.sipush 200, 3) := by decide +kernel
theorem dX7_law_12 : decode cX7_law 12 = .ok (.invokestatic 83, 3) := by decide +kernel
theorem dX7_law_15 : decode cX7_law 15 = .ok (.ifCond .ne 6, 3) := by decide +kernel
theorem dX7_law_18 : decode cX7_law 18 = .ok (.bipush (-2), 2) := by decide +kernel
theorem dX7_law_20 : decode cX7_law 20 = .ok (.ireturn, 1) := by decide +kernel
theorem dX7_law_21 : decode cX7_law 21 = .ok (.aload_n 0, 1) := by decide +kernel
theorem dX7_law_22 : decode cX7_law 22 = .ok (.getfield 141, 3) := by decide +kernel
theorem dX7_law_25 : decode cX7_law 25 = .ok (.ifCond .le 36, 3) := by decide +kernel
theorem dX7_law_28 : decode cX7_law 28 = .ok (.iload_n 1, 1) := by decide +kernel
theorem dX7_law_29 : decode cX7_law 29 = .ok (.aload_n 0, 1) := by decide +kernel
theorem dX7_law_30 : decode cX7_law 30 = .ok (.getfield 59, 3) := by decide +kernel
theorem dX7_law_33 : decode cX7_law 33 = .ok (.aload_n 0, 1) := by decide +kernel
theorem dX7_law_34 : decode cX7_law 34 = .ok (.getfield 141, 3) := by decide +kernel
theorem dX7_law_37 : decode cX7_law 37 = .ok (.iconst 1, 1) := by decide +kernel
theorem dX7_law_38 : decode cX7_law 38 = .ok (.isub, 1) := by decide +kernel
theorem dX7_law_39 : decode cX7_law 39 = .ok (.iaload, 1) := by decide +kernel
theorem dX7_law_40 : decode cX7_law 40 = .ok (.if_icmp .le 18, 3) := by decide +kernel
theorem dX7_law_43 : decode cX7_law 43 = .ok (.iload_n 2, 1) := by decide +kernel
theorem dX7_law_44 : decode cX7_law 44 = .ok (.aload_n 0, 1) := by decide +kernel
theorem dX7_law_45 : decode cX7_law 45 = .ok (.getfield 62, 3) := by decide +kernel
theorem dX7_law_48 : decode cX7_law 48 = .ok (.aload_n 0, 1) := by decide +kernel
theorem dX7_law_49 : decode cX7_law 49 = .ok (.getfield 141, 3) := by decide +kernel
theorem dX7_law_52 : decode cX7_law 52 = .ok (.iconst 1, 1) := by decide +kernel
theorem dX7_law_53 : decode cX7_law 53 = .ok (.isub, 1) := by decide +kernel
theorem dX7_law_54 : decode cX7_law 54 = .ok (.iaload, 1) := by decide +kernel
theorem dX7_law_55 : decode cX7_law 55 = .ok (.if_icmp .gt 6, 3) := by decide +kernel
theorem dX7_law_58 : decode cX7_law 58 = .ok (.bipush (-3), 2) := by decide +kernel
theorem dX7_law_60 : decode cX7_law 60 = .ok (.ireturn, 1) := by decide +kernel
theorem dX7_law_61 : decode cX7_law 61 = .ok (.aload_n 0, 1) := by decide +kernel
theorem dX7_law_62 : decode cX7_law 62 = .ok (.getfield 141, 3) := by decide +kernel
theorem dX7_law_65 : decode cX7_law 65 = .ok (.bipush 6, 2) := by decide +kernel
theorem dX7_law_67 : decode cX7_law 67 = .ok (.if_icmp .ne 6, 3) := by decide +kernel
theorem dX7_law_70 : decode cX7_law 70 = .ok (.bipush (-4), 2) := by decide +kernel
theorem dX7_law_72 : decode cX7_law 72 = .ok (.ireturn, 1) := by decide +kernel
theorem dX7_law_73 : decode cX7_law 73 = .ok (.aload_n 0, 1) := by decide +kernel
theorem dX7_law_74 : decode cX7_law 74 = .ok (.getfield 59, 3) := by decide +kernel
theorem dX7_law_77 : decode cX7_law 77 = .ok (.aload_n 0, 1) := by decide +kernel
theorem dX7_law_78 : decode cX7_law 78 = .ok (.getfield 141, 3) := by decide +kernel
theorem dX7_law_81 : decode cX7_law 81 = .ok (.iload_n 1, 1) := by decide +kernel
theorem dX7_law_82 : decode cX7_law 82 = .ok (.iastore, 1) := by decide +kernel
theorem dX7_law_83 : decode cX7_law 83 = .ok (.aload_n 0, 1) := by decide +kernel
theorem dX7_law_84 : decode cX7_law 84 = .ok (.getfield 62, 3) := by decide +kernel
theorem dX7_law_87 : decode cX7_law 87 = .ok (.aload_n 0, 1) := by decide +kernel
theorem dX7_law_88 : decode cX7_law 88 = .ok (.getfield 141, 3) := by decide +kernel
theorem dX7_law_91 : decode cX7_law 91 = .ok (.iload_n 2, 1) := by decide +kernel
theorem dX7_law_92 : decode cX7_law 92 = .ok (.iastore, 1) := by decide +kernel
theorem dX7_law_93 : decode cX7_law 93 = .ok (.aload_n 0, 1) := by decide +kernel
theorem dX7_law_94 : decode cX7_law 94 = .ok (.dup, 1) := by decide +kernel
theorem dX7_law_95 : decode cX7_law 95 = .ok (.getfield 141, 3) := by decide +kernel
theorem dX7_law_98 : decode cX7_law 98 = .ok (.iconst 1, 1) := by decide +kernel
theorem dX7_law_99 : decode cX7_law 99 = .ok (.iadd, 1) := by decide +kernel
theorem dX7_law_100 : decode cX7_law 100 = .ok (.putfield 141, 3) := by decide +kernel
theorem dX7_law_103 : decode cX7_law 103 = .ok (.aload_n 0, 1) := by decide +kernel
theorem dX7_law_104 : decode cX7_law 104 = .ok (.getfield 141, 3) := by decide +kernel
theorem dX7_law_107 : decode cX7_law 107 = .ok (.ireturn, 1) := by decide +kernel
theorem dX7_unlaw_0 : decode cX7_unlaw 0 = .ok (.aload_n 0, 1) := by decide +kernel
theorem dX7_unlaw_1 : decode cX7_unlaw 1 = .ok (.getfield 141, 3) := by decide +kernel
theorem dX7_unlaw_4 : decode cX7_unlaw 4 = .ok (.istore_n 1, 1) := by decide +kernel
theorem dX7_unlaw_5 : decode cX7_unlaw 5 = .ok (.aload_n 0, 1) := by decide +kernel
theorem dX7_unlaw_6 : decode cX7_unlaw 6 = .ok (.iconst 0, 1) := by decide +kernel
theorem dX7_unlaw_7 : decode cX7_unlaw 7 = .ok (.putfield 141, 3) := by decide +kernel
theorem dX7_unlaw_10 : decode cX7_unlaw 10 = .ok (.iload_n 1, 1) := by decide +kernel
theorem dX7_unlaw_11 : decode cX7_unlaw 11 = .ok (.ireturn, 1) := by decide +kernel
theorem dX7_doorsFor_0 : decode cX7_doorsFor 0 = .ok (.iconst 1, 1) := by decide +kernel
theorem dX7_doorsFor_1 : decode cX7_doorsFor 1 = .ok (.istore_n 2, 1) := by decide +kernel
theorem dX7_doorsFor_2 : decode cX7_doorsFor 2 = .ok (.iconst 0, 1) := by decide +kernel
theorem dX7_doorsFor_3 : decode cX7_doorsFor 3 = .ok (.istore_n 3, 1) := by decide +kernel
theorem dX7_doorsFor_4 : decode cX7_doorsFor 4 = .ok (.iload_n 3, 1) := by decide +kernel
theorem dX7_doorsFor_5 : decode cX7_doorsFor 5 = .ok (.aload_n 0, 1) := by decide +kernel
theorem dX7_doorsFor_6 : decode cX7_doorsFor 6 = .ok (.getfield 141, 3) := by decide +kernel
theorem dX7_doorsFor_9 : decode cX7_doorsFor 9 = .ok (.if_icmp .ge 30, 3) := by decide +kernel
theorem dX7_doorsFor_12 : decode cX7_doorsFor 12 = .ok (.aload_n 0, 1) := by decide +kernel
theorem dX7_doorsFor_13 : decode cX7_doorsFor 13 = .ok (.getfield 59, 3) := by decide +kernel
theorem dX7_doorsFor_16 : decode cX7_doorsFor 16 = .ok (.iload_n 3, 1) := by decide +kernel
theorem dX7_doorsFor_17 : decode cX7_doorsFor 17 = .ok (.iaload, 1) := by decide +kernel
theorem dX7_doorsFor_18 : decode cX7_doorsFor 18 = .ok (.iload_n 1, 1) := by decide +kernel
theorem dX7_doorsFor_19 : decode cX7_doorsFor 19 = .ok (.if_icmp .gt 12, 3) := by decide +kernel
theorem dX7_doorsFor_22 : decode cX7_doorsFor 22 = .ok (.aload_n 0, 1) := by decide +kernel
theorem dX7_doorsFor_23 : decode cX7_doorsFor 23 = .ok (.getfield 62, 3) := by decide +kernel
theorem dX7_doorsFor_26 : decode cX7_doorsFor 26 = .ok (.iload_n 3, 1) := by decide +kernel
theorem dX7_doorsFor_27 : decode cX7_doorsFor 27 = .ok (.iaload, 1) := by decide +kernel
theorem dX7_doorsFor_28 : decode cX7_doorsFor 28 = .ok (.goto 4, 3) := by decide +kernel
theorem dX7_doorsFor_31 : decode cX7_doorsFor 31 = .ok (.iload_n 2, 1) := by decide +kernel
theorem dX7_doorsFor_32 : decode cX7_doorsFor 32 = .ok (.istore_n 2, 1) := by decide +kernel
theorem dX7_doorsFor_33 : decode cX7_doorsFor 33 = .ok (.iinc 3 1, 3) := by decide +kernel
theorem dX7_doorsFor_36 : decode cX7_doorsFor 36 = .ok (.goto (-32), 3) := by decide +kernel
theorem dX7_doorsFor_39 : decode cX7_doorsFor 39 = .ok (.iload_n 2, 1) := by decide +kernel
theorem dX7_doorsFor_40 : decode cX7_doorsFor 40 = .ok (.ireturn, 1) := by decide +kernel
theorem dX7_doors_0 : decode cX7_doors 0 = .ok (.iload_n 1, 1) := by decide +kernel
theorem dX7_doors_1 : decode cX7_doors 1 = .ok (.invokestatic 138, 3) := by decide +kernel
theorem dX7_doors_4 : decode cX7_doors 4 = .ok (.ifCond .eq 11, 3) := by decide +kernel
theorem dX7_doors_7 : decode cX7_doors 7 = .ok (.aload_n 0, 1) := by decide +kernel
theorem dX7_doors_8 : decode cX7_doors 8 = .ok (.iload_n 1, 1) := by decide +kernel
theorem dX7_doors_9 : decode cX7_doors 9 = .ok (.invokevirtual 144, 3) := by decide +kernel
theorem dX7_doors_12 : decode cX7_doors 12 = .ok (.goto 5, 3) := by decide +kernel
theorem dX7_doors_15 : decode cX7_doors 15 = .ok (.bipush (-2), 2) := by decide +kernel
theorem dX7_doors_17 : decode cX7_doors 17 = .ok (.ireturn, 1) := by decide +kernel
theorem dX7_keeps_0 : decode cX7_keeps 0 = .ok (.iload_n 1, 1) := by decide +kernel
theorem dX7_keeps_1 : decode cX7_keeps 1 = .ok (.invokestatic 138, 3) := by decide +kernel
theorem dX7_keeps_4 : decode cX7_keeps 4 = .ok (.ifCond .eq 14, 3) := by decide +kernel
theorem dX7_keeps_7 : decode cX7_keeps 7 = .ok (.iload_n 2, 1) := by decide +kernel
theorem dX7_keeps_8 : decode cX7_keeps 8 = .ok (.iconst 1, 1) := by decide +kernel
theorem dX7_keeps_9 : decode cX7_keeps 9 = .ok (.sipush 2000, 3) := by decide +kernel
theorem dX7_keeps_12 : decode cX7_keeps 12 = .ok (.invokestatic 83, 3) := by decide +kernel
theorem dX7_keeps_15 : decode cX7_keeps 15 = .ok (.ifCond .ne 8, 3) := by decide +kernel
theorem dX7_keeps_18 : decode cX7_keeps 18 = .ok (.bipush (-2), 2) := by decide +kernel
theorem dX7_keeps_20 : decode cX7_keeps 20 = .ok (.goto 21, 3) := by decide +kernel
theorem dX7_keeps_23 : decode cX7_keeps 23 = .ok (.aload_n 0, 1) := by decide +kernel
theorem dX7_keeps_24 : decode cX7_keeps 24 = .ok (.iload_n 1, 1) := by decide +kernel
theorem dX7_keeps_25 : decode cX7_keeps 25 = .ok (.invokevirtual 144, 3) := by decide +kernel
theorem dX7_keeps_28 : decode cX7_keeps 28 = .ok (.iconst 2, 1) := by decide +kernel
theorem dX7_keeps_29 : decode cX7_keeps 29 = .ok (.iload_n 2, 1) := by decide +kernel
theorem dX7_keeps_30 : decode cX7_keeps 30 = .ok (.imul, 1) := by decide +kernel
theorem dX7_keeps_31 : decode cX7_keeps 31 = .ok (.iconst 2, 1) := by decide +kernel
theorem dX7_keeps_32 : decode cX7_keeps 32 = .ok (.iadd, 1) := by decide +kernel
theorem dX7_keeps_33 : decode cX7_keeps 33 = .ok (.if_icmp .gt 7, 3) := by decide +kernel
theorem dX7_keeps_36 : decode cX7_keeps 36 = .ok (.iconst 1, 1) := by decide +kernel
theorem dX7_keeps_37 : decode cX7_keeps 37 = .ok (.goto 4, 3) := by decide +kernel
theorem dX7_keeps_40 : decode cX7_keeps 40 = .ok (.iconst 0, 1) := by decide +kernel
theorem dX7_keeps_41 : decode cX7_keeps 41 = .ok (.ireturn, 1) := by decide +kernel
theorem dX7_soil_0 : decode cX7_soil 0 = .ok (.iload_n 1, 1) := by decide +kernel
theorem dX7_soil_1 : decode cX7_soil 1 = .ok (.iconst 0, 1) := by decide +kernel
theorem dX7_soil_2 : decode cX7_soil 2 = .ok (.iconst 3, 1) := by decide +kernel
theorem dX7_soil_3 : decode cX7_soil 3 = .ok (.invokestatic 83, 3) := by decide +kernel
theorem dX7_soil_6 : decode cX7_soil 6 = .ok (.ifCond .eq 14, 3) := by decide +kernel
theorem dX7_soil_9 : decode cX7_soil 9 = .ok (.iload_n 2, 1) := by decide +kernel
theorem dX7_soil_10 : decode cX7_soil 10 = .ok (.iconst 1, 1) := by decide +kernel
theorem dX7_soil_11 : decode cX7_soil 11 = .ok (.sipush 1000, 3) := by decide +kernel
theorem dX7_soil_14 : decode cX7_soil 14 = .ok (.invokestatic 83, 3) := by decide +kernel
theorem dX7_soil_17 : decode cX7_soil 17 = .ok (.ifCond .ne 6, 3) := by decide +kernel
theorem dX7_soil_20 : decode cX7_soil 20 = .ok (.bipush (-2), 2) := by decide +kernel
theorem dX7_soil_22 : decode cX7_soil 22 = .ok (.ireturn, 1) := by decide +kernel
theorem dX7_soil_23 : decode cX7_soil 23 = .ok (.aload_n 0, 1) := by decide +kernel
theorem dX7_soil_24 : decode cX7_soil 24 = .ok (.getfield 65, 3) := by decide +kernel
theorem dX7_soil_27 : decode cX7_soil 27 = .ok (.iload_n 1, 1) := by decide +kernel
theorem dX7_soil_28 : decode cX7_soil 28 = .ok (.iaload, 1) := by decide +kernel
theorem dX7_soil_29 : decode cX7_soil 29 = .ok (.istore_n 3, 1) := by decide +kernel
theorem dX7_soil_30 : decode cX7_soil 30 = .ok (.aload_n 0, 1) := by decide +kernel
theorem dX7_soil_31 : decode cX7_soil 31 = .ok (.getfield 65, 3) := by decide +kernel
theorem dX7_soil_34 : decode cX7_soil 34 = .ok (.iload_n 1, 1) := by decide +kernel
theorem dX7_soil_35 : decode cX7_soil 35 = .ok (.iload_n 2, 1) := by decide +kernel
theorem dX7_soil_36 : decode cX7_soil 36 = .ok (.iastore, 1) := by decide +kernel
theorem dX7_soil_37 : decode cX7_soil 37 = .ok (.iload_n 3, 1) := by decide +kernel
theorem dX7_soil_38 : decode cX7_soil 38 = .ok (.ireturn, 1) := by decide +kernel
theorem dX7_pitch_0 : decode cX7_pitch 0 = .ok (.aload_n 0, 1) := by decide +kernel
theorem dX7_pitch_1 : decode cX7_pitch 1 = .ok (.iload_n 1, 1) := by decide +kernel
theorem dX7_pitch_2 : decode cX7_pitch 2 = .ok (.invokevirtual 99, 3) := by decide +kernel
theorem dX7_pitch_5 : decode cX7_pitch 5 = .ok (.ifCond .eq 34, 3) := by decide +kernel
theorem dX7_pitch_8 : decode cX7_pitch 8 = .ok (.iload_n 2, 1) := by decide +kernel
theorem dX7_pitch_9 : decode cX7_pitch 9 = .ok (.iconst 0, 1) := by decide +kernel
theorem dX7_pitch_10 : decode cX7_pitch 10 = .ok (.iconst 3, 1) := by decide +kernel
theorem dX7_pitch_11 : decode cX7_pitch 11 = .ok (.invokestatic 83, 3) := by decide +kernel
theorem dX7_pitch_14 : decode cX7_pitch 14 = .ok (.ifCond .eq 25, 3) := by decide +kernel
theorem dX7_pitch_17 : decode cX7_pitch 17 = .ok (.iload_n 3, 1) := by decide +kernel
theorem dX7_pitch_18 : decode cX7_pitch 18 = .ok (.iconst 0, 1) := by decide +kernel
theorem dX7_pitch_19 : decode cX7_pitch 19 = .ok (.bipush 99, 2) := by decide +kernel
theorem dX7_pitch_21 : decode cX7_pitch 21 = .ok (.invokestatic 83, 3) := by decide +kernel
theorem dX7_pitch_24 : decode cX7_pitch 24 = .ok (.ifCond .eq 15, 3) := by decide +kernel
theorem dX7_pitch_27 : decode cX7_pitch 27 = .ok (.iload 4, 2) := by decide +kernel
theorem dX7_pitch_29 : decode cX7_pitch 29 = .ok (.iconst 0, 1) := by decide +kernel
theorem dX7_pitch_30 : decode cX7_pitch 30 = .ok (.sipush 999, 3) := by decide +kernel
theorem dX7_pitch_33 : decode cX7_pitch 33 = .ok (.invokestatic 83, 3) := by decide +kernel
theorem dX7_pitch_36 : decode cX7_pitch 36 = .ok (.ifCond .ne 6, 3) := by decide +kernel
theorem dX7_pitch_39 : decode cX7_pitch 39 = .ok (.bipush (-2), 2) := by decide +kernel
theorem dX7_pitch_41 : decode cX7_pitch 41 = .ok (.ireturn, 1) := by decide +kernel
theorem dX7_pitch_42 : decode cX7_pitch 42 = .ok (.aload_n 0, 1) := by decide +kernel
theorem dX7_pitch_43 : decode cX7_pitch 43 = .ok (.getfield 47, 3) := by decide +kernel
theorem dX7_pitch_46 : decode cX7_pitch 46 = .ok (.iload_n 1, 1) := by decide +kernel
theorem dX7_pitch_47 : decode cX7_pitch 47 = .ok (.iload_n 2, 1) := by decide +kernel
theorem dX7_pitch_48 : decode cX7_pitch 48 = .ok (.iastore, 1) := by decide +kernel
theorem dX7_pitch_49 : decode cX7_pitch 49 = .ok (.aload_n 0, 1) := by decide +kernel
theorem dX7_pitch_50 : decode cX7_pitch 50 = .ok (.getfield 50, 3) := by decide +kernel
theorem dX7_pitch_53 : decode cX7_pitch 53 = .ok (.iload_n 1, 1) := by decide +kernel
theorem dX7_pitch_54 : decode cX7_pitch 54 = .ok (.iload_n 3, 1) := by decide +kernel
theorem dX7_pitch_55 : decode cX7_pitch 55 = .ok (.iastore, 1) := by decide +kernel
theorem dX7_pitch_56 : decode cX7_pitch 56 = .ok (.aload_n 0, 1) := by decide +kernel
theorem dX7_pitch_57 : decode cX7_pitch 57 = .ok (.getfield 53, 3) := by decide +kernel
theorem dX7_pitch_60 : decode cX7_pitch 60 = .ok (.iload_n 1, 1) := by decide +kernel
theorem dX7_pitch_61 : decode cX7_pitch 61 = .ok (.iload 4, 2) := by decide +kernel
theorem dX7_pitch_63 : decode cX7_pitch 63 = .ok (.iastore, 1) := by decide +kernel
theorem dX7_pitch_64 : decode cX7_pitch 64 = .ok (.iconst 1, 1) := by decide +kernel
theorem dX7_pitch_65 : decode cX7_pitch 65 = .ok (.ireturn, 1) := by decide +kernel
theorem dX7_doesBear_0 : decode cX7_doesBear 0 = .ok (.iload_n 2, 1) := by decide +kernel
theorem dX7_doesBear_1 : decode cX7_doesBear 1 = .ok (.iload_n 2, 1) := by decide +kernel
theorem dX7_doesBear_2 : decode cX7_doesBear 2 = .ok (.imul, 1) := by decide +kernel
theorem dX7_doesBear_3 : decode cX7_doesBear 3 = .ok (.aload_n 0, 1) := by decide +kernel
theorem dX7_doesBear_4 : decode cX7_doesBear 4 = .ok (.getfield 50, 3) := by decide +kernel
theorem dX7_doesBear_7 : decode cX7_doesBear 7 = .ok (.iload_n 1, 1) := by decide +kernel
theorem dX7_doesBear_8 : decode cX7_doesBear 8 = .ok (.iaload, 1) := by decide +kernel
theorem dX7_doesBear_9 : decode cX7_doesBear 9 = .ok (.imul, 1) := by decide +kernel
theorem dX7_doesBear_10 : decode cX7_doesBear 10 = .ok (.aload_n 0, 1) := by decide +kernel
theorem dX7_doesBear_11 : decode cX7_doesBear 11 = .ok (.getfield 65, 3) := by decide +kernel
theorem dX7_doesBear_14 : decode cX7_doesBear 14 = .ok (.aload_n 0, 1) := by decide +kernel
theorem dX7_doesBear_15 : decode cX7_doesBear 15 = .ok (.getfield 47, 3) := by decide +kernel
theorem dX7_doesBear_18 : decode cX7_doesBear 18 = .ok (.iload_n 1, 1) := by decide +kernel
theorem dX7_doesBear_19 : decode cX7_doesBear 19 = .ok (.iaload, 1) := by decide +kernel
theorem dX7_doesBear_20 : decode cX7_doesBear 20 = .ok (.iaload, 1) := by decide +kernel
theorem dX7_doesBear_21 : decode cX7_doesBear 21 = .ok (.aload_n 0, 1) := by decide +kernel
theorem dX7_doesBear_22 : decode cX7_doesBear 22 = .ok (.getfield 53, 3) := by decide +kernel
theorem dX7_doesBear_25 : decode cX7_doesBear 25 = .ok (.iload_n 1, 1) := by decide +kernel
theorem dX7_doesBear_26 : decode cX7_doesBear 26 = .ok (.iaload, 1) := by decide +kernel
theorem dX7_doesBear_27 : decode cX7_doesBear 27 = .ok (.imul, 1) := by decide +kernel
theorem dX7_doesBear_28 : decode cX7_doesBear 28 = .ok (.if_icmp .gt 7, 3) := by decide +kernel
theorem dX7_doesBear_31 : decode cX7_doesBear 31 = .ok (.iconst 1, 1) := by decide +kernel
theorem dX7_doesBear_32 : decode cX7_doesBear 32 = .ok (.goto 4, 3) := by decide +kernel
theorem dX7_doesBear_35 : decode cX7_doesBear 35 = .ok (.iconst 0, 1) := by decide +kernel
theorem dX7_doesBear_36 : decode cX7_doesBear 36 = .ok (.ireturn, 1) := by decide +kernel
theorem dX7_bears_0 : decode cX7_bears 0 = .ok (.aload_n 0, 1) := by decide +kernel
theorem dX7_bears_1 : decode cX7_bears 1 = .ok (.iload_n 1, 1) := by decide +kernel
theorem dX7_bears_2 : decode cX7_bears 2 = .ok (.invokevirtual 99, 3) := by decide +kernel
theorem dX7_bears_5 : decode cX7_bears 5 = .ok (.ifCond .ne 6, 3) := by decide +kernel
theorem dX7_bears_8 : decode cX7_bears 8 = .ok (.bipush (-2), 2) := by decide +kernel
theorem dX7_bears_10 : decode cX7_bears 10 = .ok (.ireturn, 1) := by decide +kernel
theorem dX7_bears_11 : decode cX7_bears 11 = .ok (.bipush 60, 2) := by decide +kernel
theorem dX7_bears_13 : decode cX7_bears 13 = .ok (.istore_n 2, 1) := by decide +kernel
theorem dX7_bears_14 : decode cX7_bears 14 = .ok (.aload_n 0, 1) := by decide +kernel
theorem dX7_bears_15 : decode cX7_bears 15 = .ok (.iload_n 1, 1) := by decide +kernel
theorem dX7_bears_16 : decode cX7_bears 16 = .ok (.iload_n 2, 1) := by decide +kernel
theorem dX7_bears_17 : decode cX7_bears 17 = .ok (.invokevirtual 147, 3) := by decide +kernel
theorem dX7_bears_20 : decode cX7_bears 20 = .ok (.ifCond .ne 9, 3) := by decide +kernel
theorem dX7_bears_23 : decode cX7_bears 23 = .ok (.iinc 2 (-1), 3) := by decide +kernel
theorem dX7_bears_26 : decode cX7_bears 26 = .ok (.goto (-12), 3) := by decide +kernel
theorem dX7_bears_29 : decode cX7_bears 29 = .ok (.iload_n 2, 1) := by decide +kernel
theorem dX7_bears_30 : decode cX7_bears 30 = .ok (.ireturn, 1) := by decide +kernel
theorem dX7_gust_0 : decode cX7_gust 0 = .ok (.iload_n 1, 1) := by decide +kernel
theorem dX7_gust_1 : decode cX7_gust 1 = .ok (.invokestatic 95, 3) := by decide +kernel
theorem dX7_gust_4 : decode cX7_gust 4 = .ok (.ifCond .eq 13, 3) := by decide +kernel
theorem dX7_gust_7 : decode cX7_gust 7 = .ok (.iload_n 2, 1) := by decide +kernel
theorem dX7_gust_8 : decode cX7_gust 8 = .ok (.iconst 0, 1) := by decide +kernel
theorem dX7_gust_9 : decode cX7_gust 9 = .ok (.bipush 60, 2) := by decide +kernel
theorem dX7_gust_11 : decode cX7_gust 11 = .ok (.invokestatic 83, 3) := by decide +kernel
theorem dX7_gust_14 : decode cX7_gust 14 = .ok (.ifCond .ne 6, 3) := by decide +kernel
theorem dX7_gust_17 : decode cX7_gust 17 = .ok (.bipush (-2), 2) := by decide +kernel
theorem dX7_gust_19 : decode cX7_gust 19 = .ok (.ireturn, 1) := by decide +kernel
theorem dX7_gust_20 : decode cX7_gust 20 = .ok (.iconst 0, 1) := by decide +kernel
theorem dX7_gust_21 : decode cX7_gust 21 = .ok (.istore_n 3, 1) := by decide +kernel
theorem dX7_gust_22 : decode cX7_gust 22 = .ok (.iconst 0, 1) := by decide +kernel
theorem dX7_gust_23 : decode cX7_gust 23 = .ok (.istore 4, 2) := by decide +kernel
theorem dX7_gust_25 : decode cX7_gust 25 = .ok (.iload 4, 2) := by decide +kernel
theorem dX7_gust_27 : decode cX7_gust 27 = .ok (.aload_n 0, 1) := by decide +kernel
theorem dX7_gust_28 : decode cX7_gust 28 = .ok (.getfield 87, 3) := by decide +kernel
theorem dX7_gust_31 : decode cX7_gust 31 = .ok (.if_icmp .ge 62, 3) := by decide +kernel
theorem dX7_gust_34 : decode cX7_gust 34 = .ok (.iload_n 3, 1) := by decide +kernel
theorem dX7_gust_35 : decode cX7_gust 35 = .ok (.aload_n 0, 1) := by decide +kernel
theorem dX7_gust_36 : decode cX7_gust 36 = .ok (.getfield 37, 3) := by decide +kernel
theorem dX7_gust_39 : decode cX7_gust 39 = .ok (.iload 4, 2) := by decide +kernel
theorem dX7_gust_41 : decode cX7_gust 41 = .ok (.iaload, 1) := by decide +kernel
theorem dX7_gust_42 : decode cX7_gust 42 = .ok (.iconst 1, 1) := by decide +kernel
theorem dX7_gust_43 : decode cX7_gust 43 = .ok (.if_icmp .ne 41, 3) := by decide +kernel
theorem dX7_gust_46 : decode cX7_gust 46 = .ok (.iload_n 1, 1) := by decide +kernel
theorem dX7_gust_47 : decode cX7_gust 47 = .ok (.aload_n 0, 1) := by decide +kernel
theorem dX7_gust_48 : decode cX7_gust 48 = .ok (.getfield 28, 3) := by decide +kernel
theorem dX7_gust_51 : decode cX7_gust 51 = .ok (.iload 4, 2) := by decide +kernel
theorem dX7_gust_53 : decode cX7_gust 53 = .ok (.iaload, 1) := by decide +kernel
theorem dX7_gust_54 : decode cX7_gust 54 = .ok (.aload_n 0, 1) := by decide +kernel
theorem dX7_gust_55 : decode cX7_gust 55 = .ok (.getfield 31, 3) := by decide +kernel
theorem dX7_gust_58 : decode cX7_gust 58 = .ok (.iload 4, 2) := by decide +kernel
theorem dX7_gust_60 : decode cX7_gust 60 = .ok (.iaload, 1) := by decide +kernel
theorem dX7_gust_61 : decode cX7_gust 61 = .ok (.invokestatic 83, 3) := by decide +kernel
theorem dX7_gust_64 : decode cX7_gust 64 = .ok (.ifCond .eq 20, 3) := by decide +kernel
theorem dX7_gust_67 : decode cX7_gust 67 = .ok (.aload_n 0, 1) := by decide +kernel
theorem dX7_gust_68 : decode cX7_gust 68 = .ok (.iload 4, 2) := by decide +kernel
theorem dX7_gust_70 : decode cX7_gust 70 = .ok (.iload_n 2, 1) := by decide +kernel
theorem dX7_gust_71 : decode cX7_gust 71 = .ok (.invokevirtual 147, 3) := by decide +kernel
theorem dX7_gust_74 : decode cX7_gust 74 = .ok (.ifCond .ne 10, 3) := by decide +kernel
theorem dX7_gust_77 : decode cX7_gust 77 = .ok (.iconst 1, 1) := by decide +kernel
theorem dX7_gust_78 : decode cX7_gust 78 = .ok (.iload 4, 2) := by decide +kernel
theorem dX7_gust_80 : decode cX7_gust 80 = .ok (.ishl, 1) := by decide +kernel
theorem dX7_gust_81 : decode cX7_gust 81 = .ok (.goto 4, 3) := by decide +kernel
theorem dX7_gust_84 : decode cX7_gust 84 = .ok (.iconst 0, 1) := by decide +kernel
theorem dX7_gust_85 : decode cX7_gust 85 = .ok (.ior, 1) := by decide +kernel
theorem dX7_gust_86 : decode cX7_gust 86 = .ok (.istore_n 3, 1) := by decide +kernel
theorem dX7_gust_87 : decode cX7_gust 87 = .ok (.iinc 4 1, 3) := by decide +kernel
theorem dX7_gust_90 : decode cX7_gust 90 = .ok (.goto (-65), 3) := by decide +kernel
theorem dX7_gust_93 : decode cX7_gust 93 = .ok (.iload_n 3, 1) := by decide +kernel
theorem dX7_gust_94 : decode cX7_gust 94 = .ok (.ireturn, 1) := by decide +kernel
theorem dX7_isOfDay_0 : decode cX7_isOfDay 0 = .ok (.aload_n 0, 1) := by decide +kernel
theorem dX7_isOfDay_1 : decode cX7_isOfDay 1 = .ok (.getfield 37, 3) := by decide +kernel
theorem dX7_isOfDay_4 : decode cX7_isOfDay 4 = .ok (.iload_n 1, 1) := by decide +kernel
theorem dX7_isOfDay_5 : decode cX7_isOfDay 5 = .ok (.iaload, 1) := by decide +kernel
theorem dX7_isOfDay_6 : decode cX7_isOfDay 6 = .ok (.iconst 1, 1) := by decide +kernel
theorem dX7_isOfDay_7 : decode cX7_isOfDay 7 = .ok (.if_icmp .ne 27, 3) := by decide +kernel
theorem dX7_isOfDay_10 : decode cX7_isOfDay 10 = .ok (.aload_n 0, 1) := by decide +kernel
theorem dX7_isOfDay_11 : decode cX7_isOfDay 11 = .ok (.getfield 28, 3) := by decide +kernel
theorem dX7_isOfDay_14 : decode cX7_isOfDay 14 = .ok (.iload_n 1, 1) := by decide +kernel
theorem dX7_isOfDay_15 : decode cX7_isOfDay 15 = .ok (.iaload, 1) := by decide +kernel
theorem dX7_isOfDay_16 : decode cX7_isOfDay 16 = .ok (.iload_n 2, 1) := by decide +kernel
theorem dX7_isOfDay_17 : decode cX7_isOfDay 17 = .ok (.if_icmp .eq 13, 3) := by decide +kernel
theorem dX7_isOfDay_20 : decode cX7_isOfDay 20 = .ok (.aload_n 0, 1) := by decide +kernel
theorem dX7_isOfDay_21 : decode cX7_isOfDay 21 = .ok (.getfield 31, 3) := by decide +kernel
theorem dX7_isOfDay_24 : decode cX7_isOfDay 24 = .ok (.iload_n 1, 1) := by decide +kernel
theorem dX7_isOfDay_25 : decode cX7_isOfDay 25 = .ok (.iaload, 1) := by decide +kernel
theorem dX7_isOfDay_26 : decode cX7_isOfDay 26 = .ok (.iload_n 2, 1) := by decide +kernel
theorem dX7_isOfDay_27 : decode cX7_isOfDay 27 = .ok (.if_icmp .ne 7, 3) := by decide +kernel
theorem dX7_isOfDay_30 : decode cX7_isOfDay 30 = .ok (.iconst 1, 1) := by decide +kernel
theorem dX7_isOfDay_31 : decode cX7_isOfDay 31 = .ok (.goto 4, 3) := by decide +kernel
theorem dX7_isOfDay_34 : decode cX7_isOfDay 34 = .ok (.iconst 0, 1) := by decide +kernel
theorem dX7_isOfDay_35 : decode cX7_isOfDay 35 = .ok (.ireturn, 1) := by decide +kernel
theorem dX7_greatest_0 : decode cX7_greatest 0 = .ok (.iload_n 1, 1) := by decide +kernel
theorem dX7_greatest_1 : decode cX7_greatest 1 = .ok (.istore_n 3, 1) := by decide +kernel
theorem dX7_greatest_2 : decode cX7_greatest 2 = .ok (.iconst 0, 1) := by decide +kernel
theorem dX7_greatest_3 : decode cX7_greatest 3 = .ok (.istore 4, 2) := by decide +kernel
theorem dX7_greatest_5 : decode cX7_greatest 5 = .ok (.iload 4, 2) := by decide +kernel
theorem dX7_greatest_7 : decode cX7_greatest 7 = .ok (.iconst 3, 1) := by decide +kernel
theorem dX7_greatest_8 : decode cX7_greatest 8 = .ok (.if_icmp .ge 17, 3) := by decide +kernel
theorem dX7_greatest_11 : decode cX7_greatest 11 = .ok (.aload_n 0, 1) := by decide +kernel
theorem dX7_greatest_12 : decode cX7_greatest 12 = .ok (.getfield 80, 3) := by decide +kernel
theorem dX7_greatest_15 : decode cX7_greatest 15 = .ok (.iload 4, 2) := by decide +kernel
theorem dX7_greatest_17 : decode cX7_greatest 17 = .ok (.iconst 0, 1) := by decide +kernel
theorem dX7_greatest_18 : decode cX7_greatest 18 = .ok (.iastore, 1) := by decide +kernel
theorem dX7_greatest_19 : decode cX7_greatest 19 = .ok (.iinc 4 1, 3) := by decide +kernel
theorem dX7_greatest_22 : decode cX7_greatest 22 = .ok (.goto (-17), 3) := by decide +kernel
theorem dX7_greatest_25 : decode cX7_greatest 25 = .ok (.aload_n 0, 1) := by decide +kernel
theorem dX7_greatest_26 : decode cX7_greatest 26 = .ok (.getfield 151, 3) := by decide +kernel
theorem dX7_greatest_29 : decode cX7_greatest 29 = .ok (.iconst 1, 1) := by decide +kernel
theorem dX7_greatest_30 : decode cX7_greatest 30 = .ok (.isub, 1) := by decide +kernel
theorem dX7_greatest_31 : decode cX7_greatest 31 = .ok (.istore 4, 2) := by decide +kernel
theorem dX7_greatest_33 : decode cX7_greatest 33 = .ok (.iload 4, 2) := by decide +kernel
theorem dX7_greatest_35 : decode cX7_greatest 35 = .ok (.ifCond .lt 54, 3) := by decide +kernel
theorem dX7_greatest_38 : decode cX7_greatest 38 = .ok (.aload_n 0, 1) := by decide +kernel
theorem dX7_greatest_39 : decode cX7_greatest 39 = .ok (.getfield 74, 3) := by decide +kernel
theorem dX7_greatest_42 : decode cX7_greatest 42 = .ok (.iload 4, 2) := by decide +kernel
theorem dX7_greatest_44 : decode cX7_greatest 44 = .ok (.iload_n 3, 1) := by decide +kernel
theorem dX7_greatest_45 : decode cX7_greatest 45 = .ok (.iload_n 2, 1) := by decide +kernel
theorem dX7_greatest_46 : decode cX7_greatest 46 = .ok (.irem, 1) := by decide +kernel
theorem dX7_greatest_47 : decode cX7_greatest 47 = .ok (.iastore, 1) := by decide +kernel
theorem dX7_greatest_48 : decode cX7_greatest 48 = .ok (.iload_n 3, 1) := by decide +kernel
theorem dX7_greatest_49 : decode cX7_greatest 49 = .ok (.iload_n 2, 1) := by decide +kernel
theorem dX7_greatest_50 : decode cX7_greatest 50 = .ok (.idiv, 1) := by decide +kernel
theorem dX7_greatest_51 : decode cX7_greatest 51 = .ok (.istore_n 3, 1) := by decide +kernel
theorem dX7_greatest_52 : decode cX7_greatest 52 = .ok (.aload_n 0, 1) := by decide +kernel
theorem dX7_greatest_53 : decode cX7_greatest 53 = .ok (.getfield 80, 3) := by decide +kernel
theorem dX7_greatest_56 : decode cX7_greatest 56 = .ok (.aload_n 0, 1) := by decide +kernel
theorem dX7_greatest_57 : decode cX7_greatest 57 = .ok (.getfield 74, 3) := by decide +kernel
theorem dX7_greatest_60 : decode cX7_greatest 60 = .ok (.iload 4, 2) := by decide +kernel
theorem dX7_greatest_62 : decode cX7_greatest 62 = .ok (.iaload, 1) := by decide +kernel
theorem dX7_greatest_63 : decode cX7_greatest 63 = .ok (.dup2, 1) := by decide +kernel
theorem dX7_greatest_64 : decode cX7_greatest 64 = .ok (.iaload, 1) := by decide +kernel
theorem dX7_greatest_65 : decode cX7_greatest 65 = .ok (.iconst 2, 1) := by decide +kernel
theorem dX7_greatest_66 : decode cX7_greatest 66 = .ok (.aload_n 0, 1) := by decide +kernel
theorem dX7_greatest_67 : decode cX7_greatest 67 = .ok (.getfield 50, 3) := by decide +kernel
theorem dX7_greatest_70 : decode cX7_greatest 70 = .ok (.aload_n 0, 1) := by decide +kernel
theorem dX7_greatest_71 : decode cX7_greatest 71 = .ok (.getfield 71, 3) := by decide +kernel
theorem dX7_greatest_74 : decode cX7_greatest 74 = .ok (.iload 4, 2) := by decide +kernel
theorem dX7_greatest_76 : decode cX7_greatest 76 = .ok (.iaload, 1) := by decide +kernel
theorem dX7_greatest_77 : decode cX7_greatest 77 = .ok (.iaload, 1) := by decide +kernel
theorem dX7_greatest_78 : decode cX7_greatest 78 = .ok (.imul, 1) := by decide +kernel
theorem dX7_greatest_79 : decode cX7_greatest 79 = .ok (.iconst 1, 1) := by decide +kernel
theorem dX7_greatest_80 : decode cX7_greatest 80 = .ok (.iadd, 1) := by decide +kernel
theorem dX7_greatest_81 : decode cX7_greatest 81 = .ok (.iadd, 1) := by decide +kernel
theorem dX7_greatest_82 : decode cX7_greatest 82 = .ok (.iastore, 1) := by decide +kernel
theorem dX7_greatest_83 : decode cX7_greatest 83 = .ok (.iinc 4 (-1), 3) := by decide +kernel
theorem dX7_greatest_86 : decode cX7_greatest 86 = .ok (.goto (-53), 3) := by decide +kernel
theorem dX7_greatest_89 : decode cX7_greatest 89 = .ok (.iconst 0, 1) := by decide +kernel
theorem dX7_greatest_90 : decode cX7_greatest 90 = .ok (.istore 4, 2) := by decide +kernel
theorem dX7_greatest_92 : decode cX7_greatest 92 = .ok (.iconst 0, 1) := by decide +kernel
theorem dX7_greatest_93 : decode cX7_greatest 93 = .ok (.istore 5, 2) := by decide +kernel
theorem dX7_greatest_95 : decode cX7_greatest 95 = .ok (.iload 5, 2) := by decide +kernel
theorem dX7_greatest_97 : decode cX7_greatest 97 = .ok (.iconst 3, 1) := by decide +kernel
theorem dX7_greatest_98 : decode cX7_greatest 98 = .ok (.if_icmp .ge 35, 3) := by decide +kernel
theorem dX7_greatest_101 : decode cX7_greatest 101 = .ok (.aload_n 0, 1) := by decide +kernel
theorem dX7_greatest_102 : decode cX7_greatest 102 = .ok (.getfield 80, 3) := by decide +kernel
theorem dX7_greatest_105 : decode cX7_greatest 105 = .ok (.iload 5, 2) := by decide +kernel
theorem dX7_greatest_107 : decode cX7_greatest 107 = .ok (.iaload, 1) := by decide +kernel
theorem dX7_greatest_108 : decode cX7_greatest 108 = .ok (.iload 4, 2) := by decide +kernel
theorem dX7_greatest_110 : decode cX7_greatest 110 = .ok (.if_icmp .le 13, 3) := by decide +kernel
theorem dX7_greatest_113 : decode cX7_greatest 113 = .ok (.aload_n 0, 1) := by decide +kernel
theorem dX7_greatest_114 : decode cX7_greatest 114 = .ok (.getfield 80, 3) := by decide +kernel
theorem dX7_greatest_117 : decode cX7_greatest 117 = .ok (.iload 5, 2) := by decide +kernel
theorem dX7_greatest_119 : decode cX7_greatest 119 = .ok (.iaload, 1) := by decide +kernel
theorem dX7_greatest_120 : decode cX7_greatest 120 = .ok (.goto 5, 3) := by decide +kernel
theorem dX7_greatest_123 : decode cX7_greatest 123 = .ok (.iload 4, 2) := by decide +kernel
theorem dX7_greatest_125 : decode cX7_greatest 125 = .ok (.istore 4, 2) := by decide +kernel
theorem dX7_greatest_127 : decode cX7_greatest 127 = .ok (.iinc 5 1, 3) := by decide +kernel
theorem dX7_greatest_130 : decode cX7_greatest 130 = .ok (.goto (-35), 3) := by decide +kernel
theorem dX7_greatest_133 : decode cX7_greatest 133 = .ok (.iload 4, 2) := by decide +kernel
theorem dX7_greatest_135 : decode cX7_greatest 135 = .ok (.ireturn, 1) := by decide +kernel
theorem dX7_deals_0 : decode cX7_deals 0 = .ok (.aload_n 0, 1) := by decide +kernel
theorem dX7_deals_1 : decode cX7_deals 1 = .ok (.iconst 0, 1) := by decide +kernel
theorem dX7_deals_2 : decode cX7_deals 2 = .ok (.putfield 151, 3) := by decide +kernel
theorem dX7_deals_5 : decode cX7_deals 5 = .ok (.iconst 1, 1) := by decide +kernel
theorem dX7_deals_6 : decode cX7_deals 6 = .ok (.istore_n 3, 1) := by decide +kernel
theorem dX7_deals_7 : decode cX7_deals 7 = .ok (.iconst 0, 1) := by decide +kernel
theorem dX7_deals_8 : decode cX7_deals 8 = .ok (.istore 4, 2) := by decide +kernel
theorem dX7_deals_10 : decode cX7_deals 10 = .ok (.iload 4, 2) := by decide +kernel
theorem dX7_deals_12 : decode cX7_deals 12 = .ok (.aload_n 0, 1) := by decide +kernel
theorem dX7_deals_13 : decode cX7_deals 13 = .ok (.getfield 87, 3) := by decide +kernel
theorem dX7_deals_16 : decode cX7_deals 16 = .ok (.if_icmp .ge 44, 3) := by decide +kernel
theorem dX7_deals_19 : decode cX7_deals 19 = .ok (.aload_n 0, 1) := by decide +kernel
theorem dX7_deals_20 : decode cX7_deals 20 = .ok (.iload 4, 2) := by decide +kernel
theorem dX7_deals_22 : decode cX7_deals 22 = .ok (.iload_n 1, 1) := by decide +kernel
theorem dX7_deals_23 : decode cX7_deals 23 = .ok (.invokevirtual 154, 3) := by decide +kernel
theorem dX7_deals_26 : decode cX7_deals 26 = .ok (.ifCond .eq 28, 3) := by decide +kernel
theorem dX7_deals_29 : decode cX7_deals 29 = .ok (.aload_n 0, 1) := by decide +kernel
theorem dX7_deals_30 : decode cX7_deals 30 = .ok (.getfield 71, 3) := by decide +kernel
theorem dX7_deals_33 : decode cX7_deals 33 = .ok (.aload_n 0, 1) := by decide +kernel
theorem dX7_deals_34 : decode cX7_deals 34 = .ok (.getfield 151, 3) := by decide +kernel
theorem dX7_deals_37 : decode cX7_deals 37 = .ok (.iload 4, 2) := by decide +kernel
theorem dX7_deals_39 : decode cX7_deals 39 = .ok (.iastore, 1) := by decide +kernel
theorem dX7_deals_40 : decode cX7_deals 40 = .ok (.aload_n 0, 1) := by decide +kernel
theorem dX7_deals_41 : decode cX7_deals 41 = .ok (.dup, 1) := by decide +kernel
theorem dX7_deals_42 : decode cX7_deals 42 = .ok (.getfield 151, 3) := by decide +kernel
theorem dX7_deals_45 : decode cX7_deals 45 = .ok (.iconst 1, 1) := by decide +kernel
theorem dX7_deals_46 : decode cX7_deals 46 = .ok (.iadd, 1) := by decide +kernel
theorem dX7_deals_47 : decode cX7_deals 47 = .ok (.putfield 151, 3) := by decide +kernel
theorem dX7_deals_50 : decode cX7_deals 50 = .ok (.iload_n 3, 1) := by decide +kernel
theorem dX7_deals_51 : decode cX7_deals 51 = .ok (.iload_n 2, 1) := by decide +kernel
theorem dX7_deals_52 : decode cX7_deals 52 = .ok (.imul, 1) := by decide +kernel
theorem dX7_deals_53 : decode cX7_deals 53 = .ok (.istore_n 3, 1) := by decide +kernel
theorem dX7_deals_54 : decode cX7_deals 54 = .ok (.iinc 4 1, 3) := by decide +kernel
theorem dX7_deals_57 : decode cX7_deals 57 = .ok (.goto (-47), 3) := by decide +kernel
theorem dX7_deals_60 : decode cX7_deals 60 = .ok (.iconst (-1), 1) := by decide +kernel
theorem dX7_deals_61 : decode cX7_deals 61 = .ok (.istore 4, 2) := by decide +kernel
theorem dX7_deals_63 : decode cX7_deals 63 = .ok (.iconst 0, 1) := by decide +kernel
theorem dX7_deals_64 : decode cX7_deals 64 = .ok (.istore 5, 2) := by decide +kernel
theorem dX7_deals_66 : decode cX7_deals 66 = .ok (.iload 5, 2) := by decide +kernel
theorem dX7_deals_68 : decode cX7_deals 68 = .ok (.iload_n 3, 1) := by decide +kernel
theorem dX7_deals_69 : decode cX7_deals 69 = .ok (.if_icmp .ge 67, 3) := by decide +kernel
theorem dX7_deals_72 : decode cX7_deals 72 = .ok (.aload_n 0, 1) := by decide +kernel
theorem dX7_deals_73 : decode cX7_deals 73 = .ok (.iload 5, 2) := by decide +kernel
theorem dX7_deals_75 : decode cX7_deals 75 = .ok (.iload_n 2, 1) := by decide +kernel
theorem dX7_deals_76 : decode cX7_deals 76 = .ok (.invokevirtual 157, 3) := by decide +kernel
theorem dX7_deals_79 : decode cX7_deals 79 = .ok (.istore 6, 2) := by decide +kernel
theorem dX7_deals_81 : decode cX7_deals 81 = .ok (.iload 4, 2) := by decide +kernel
theorem dX7_deals_83 : decode cX7_deals 83 = .ok (.iconst (-1), 1) := by decide +kernel
theorem dX7_deals_84 : decode cX7_deals 84 = .ok (.if_icmp .eq 10, 3) := by decide +kernel
theorem dX7_deals_87 : decode cX7_deals 87 = .ok (.iload 6, 2) := by decide +kernel
theorem dX7_deals_89 : decode cX7_deals 89 = .ok (.iload 4, 2) := by decide +kernel
theorem dX7_deals_91 : decode cX7_deals 91 = .ok (.if_icmp .ge 39, 3) := by decide +kernel
theorem dX7_deals_94 : decode cX7_deals 94 = .ok (.iload 6, 2) := by decide +kernel
theorem dX7_deals_96 : decode cX7_deals 96 = .ok (.istore 4, 2) := by decide +kernel
theorem dX7_deals_98 : decode cX7_deals 98 = .ok (.iconst 0, 1) := by decide +kernel
theorem dX7_deals_99 : decode cX7_deals 99 = .ok (.istore 7, 2) := by decide +kernel
theorem dX7_deals_101 : decode cX7_deals 101 = .ok (.iload 7, 2) := by decide +kernel
theorem dX7_deals_103 : decode cX7_deals 103 = .ok (.aload_n 0, 1) := by decide +kernel
theorem dX7_deals_104 : decode cX7_deals 104 = .ok (.getfield 151, 3) := by decide +kernel
theorem dX7_deals_107 : decode cX7_deals 107 = .ok (.if_icmp .ge 23, 3) := by decide +kernel
theorem dX7_deals_110 : decode cX7_deals 110 = .ok (.aload_n 0, 1) := by decide +kernel
theorem dX7_deals_111 : decode cX7_deals 111 = .ok (.getfield 77, 3) := by decide +kernel
theorem dX7_deals_114 : decode cX7_deals 114 = .ok (.iload 7, 2) := by decide +kernel
theorem dX7_deals_116 : decode cX7_deals 116 = .ok (.aload_n 0, 1) := by decide +kernel
theorem dX7_deals_117 : decode cX7_deals 117 = .ok (.getfield 74, 3) := by decide +kernel
theorem dX7_deals_120 : decode cX7_deals 120 = .ok (.iload 7, 2) := by decide +kernel
theorem dX7_deals_122 : decode cX7_deals 122 = .ok (.iaload, 1) := by decide +kernel
theorem dX7_deals_123 : decode cX7_deals 123 = .ok (.iastore, 1) := by decide +kernel
theorem dX7_deals_124 : decode cX7_deals 124 = .ok (.iinc 7 1, 3) := by decide +kernel
theorem dX7_deals_127 : decode cX7_deals 127 = .ok (.goto (-26), 3) := by decide +kernel
theorem dX7_deals_130 : decode cX7_deals 130 = .ok (.iinc 5 1, 3) := by decide +kernel
theorem dX7_deals_133 : decode cX7_deals 133 = .ok (.goto (-67), 3) := by decide +kernel
theorem dX7_deals_136 : decode cX7_deals 136 = .ok (.iload 4, 2) := by decide +kernel
theorem dX7_deals_138 : decode cX7_deals 138 = .ok (.ireturn, 1) := by decide +kernel
theorem dX7_hours_0 : decode cX7_hours 0 = .ok (.iload_n 1, 1) := by decide +kernel
theorem dX7_hours_1 : decode cX7_hours 1 = .ok (.invokestatic 95, 3) := by decide +kernel
theorem dX7_hours_4 : decode cX7_hours 4 = .ok (.ifCond .eq 21, 3) := by decide +kernel
theorem dX7_hours_7 : decode cX7_hours 7 = .ok (.iload_n 2, 1) := by decide +kernel
theorem dX7_hours_8 : decode cX7_hours 8 = .ok (.iconst 1, 1) := by decide +kernel
theorem dX7_hours_9 : decode cX7_hours 9 = .ok (.iconst 3, 1) := by decide +kernel
theorem dX7_hours_10 : decode cX7_hours 10 = .ok (.invokestatic 83, 3) := by decide +kernel
theorem dX7_hours_13 : decode cX7_hours 13 = .ok (.ifCond .eq 12, 3) := by decide +kernel
theorem dX7_hours_16 : decode cX7_hours 16 = .ok (.aload_n 0, 1) := by decide +kernel
theorem dX7_hours_17 : decode cX7_hours 17 = .ok (.iload_n 1, 1) := by decide +kernel
theorem dX7_hours_18 : decode cX7_hours 18 = .ok (.iload_n 2, 1) := by decide +kernel
theorem dX7_hours_19 : decode cX7_hours 19 = .ok (.invokevirtual 160, 3) := by decide +kernel
theorem dX7_hours_22 : decode cX7_hours 22 = .ok (.goto 5, 3) := by decide +kernel
theorem dX7_hours_25 : decode cX7_hours 25 = .ok (.bipush (-2), 2) := by decide +kernel
theorem dX7_hours_27 : decode cX7_hours 27 = .ok (.ireturn, 1) := by decide +kernel
theorem dX7_crew_0 : decode cX7_crew 0 = .ok (.iload_n 1, 1) := by decide +kernel
theorem dX7_crew_1 : decode cX7_crew 1 = .ok (.invokestatic 95, 3) := by decide +kernel
theorem dX7_crew_4 : decode cX7_crew 4 = .ok (.ifCond .eq 20, 3) := by decide +kernel
theorem dX7_crew_7 : decode cX7_crew 7 = .ok (.iload_n 2, 1) := by decide +kernel
theorem dX7_crew_8 : decode cX7_crew 8 = .ok (.iconst 1, 1) := by decide +kernel
theorem dX7_crew_9 : decode cX7_crew 9 = .ok (.iconst 3, 1) := by decide +kernel
theorem dX7_crew_10 : decode cX7_crew 10 = .ok (.invokestatic 83, 3) := by decide +kernel
theorem dX7_crew_13 : decode cX7_crew 13 = .ok (.ifCond .eq 11, 3) := by decide +kernel
theorem dX7_crew_16 : decode cX7_crew 16 = .ok (.aload_n 0, 1) := by decide +kernel
theorem dX7_crew_17 : decode cX7_crew 17 = .ok (.iload_n 3, 1) := by decide +kernel
theorem dX7_crew_18 : decode cX7_crew 18 = .ok (.invokevirtual 99, 3) := by decide +kernel
theorem dX7_crew_21 : decode cX7_crew 21 = .ok (.ifCond .ne 6, 3) := by decide +kernel
theorem dX7_crew_24 : decode cX7_crew 24 = .ok (.bipush (-2), 2) := by decide +kernel
theorem dX7_crew_26 : decode cX7_crew 26 = .ok (.ireturn, 1) := by decide +kernel
theorem dX7_crew_27 : decode cX7_crew 27 = .ok (.aload_n 0, 1) := by decide +kernel
theorem dX7_crew_28 : decode cX7_crew 28 = .ok (.iload_n 1, 1) := by decide +kernel
theorem dX7_crew_29 : decode cX7_crew 29 = .ok (.iload_n 2, 1) := by decide +kernel
theorem dX7_crew_30 : decode cX7_crew 30 = .ok (.invokevirtual 160, 3) := by decide +kernel
theorem dX7_crew_33 : decode cX7_crew 33 = .ok (.pop, 1) := by decide +kernel
theorem dX7_crew_34 : decode cX7_crew 34 = .ok (.iconst 0, 1) := by decide +kernel
theorem dX7_crew_35 : decode cX7_crew 35 = .ok (.istore 4, 2) := by decide +kernel
theorem dX7_crew_37 : decode cX7_crew 37 = .ok (.iload 4, 2) := by decide +kernel
theorem dX7_crew_39 : decode cX7_crew 39 = .ok (.aload_n 0, 1) := by decide +kernel
theorem dX7_crew_40 : decode cX7_crew 40 = .ok (.getfield 151, 3) := by decide +kernel
theorem dX7_crew_43 : decode cX7_crew 43 = .ok (.if_icmp .ge 28, 3) := by decide +kernel
theorem dX7_crew_46 : decode cX7_crew 46 = .ok (.aload_n 0, 1) := by decide +kernel
theorem dX7_crew_47 : decode cX7_crew 47 = .ok (.getfield 71, 3) := by decide +kernel
theorem dX7_crew_50 : decode cX7_crew 50 = .ok (.iload 4, 2) := by decide +kernel
theorem dX7_crew_52 : decode cX7_crew 52 = .ok (.iaload, 1) := by decide +kernel
theorem dX7_crew_53 : decode cX7_crew 53 = .ok (.iload_n 3, 1) := by decide +kernel
theorem dX7_crew_54 : decode cX7_crew 54 = .ok (.if_icmp .ne 11, 3) := by decide +kernel
theorem dX7_crew_57 : decode cX7_crew 57 = .ok (.aload_n 0, 1) := by decide +kernel
theorem dX7_crew_58 : decode cX7_crew 58 = .ok (.getfield 77, 3) := by decide +kernel
theorem dX7_crew_61 : decode cX7_crew 61 = .ok (.iload 4, 2) := by decide +kernel
theorem dX7_crew_63 : decode cX7_crew 63 = .ok (.iaload, 1) := by decide +kernel
theorem dX7_crew_64 : decode cX7_crew 64 = .ok (.ireturn, 1) := by decide +kernel
theorem dX7_crew_65 : decode cX7_crew 65 = .ok (.iinc 4 1, 3) := by decide +kernel
theorem dX7_crew_68 : decode cX7_crew 68 = .ok (.goto (-31), 3) := by decide +kernel
theorem dX7_crew_71 : decode cX7_crew 71 = .ok (.iconst (-1), 1) := by decide +kernel
theorem dX7_crew_72 : decode cX7_crew 72 = .ok (.ireturn, 1) := by decide +kernel
theorem dX7_loads_0 : decode cX7_loads 0 = .ok (.iload_n 1, 1) := by decide +kernel
theorem dX7_loads_1 : decode cX7_loads 1 = .ok (.invokestatic 95, 3) := by decide +kernel
theorem dX7_loads_4 : decode cX7_loads 4 = .ok (.ifCond .eq 13, 3) := by decide +kernel
theorem dX7_loads_7 : decode cX7_loads 7 = .ok (.iload_n 2, 1) := by decide +kernel
theorem dX7_loads_8 : decode cX7_loads 8 = .ok (.iconst 1, 1) := by decide +kernel
theorem dX7_loads_9 : decode cX7_loads 9 = .ok (.ldc 98, 2) := by decide +kernel
theorem dX7_loads_11 : decode cX7_loads 11 = .ok (.invokestatic 83, 3) := by decide +kernel
theorem dX7_loads_14 : decode cX7_loads 14 = .ok (.ifCond .ne 6, 3) := by decide +kernel
theorem dX7_loads_17 : decode cX7_loads 17 = .ok (.bipush (-2), 2) := by decide +kernel
theorem dX7_loads_19 : decode cX7_loads 19 = .ok (.ireturn, 1) := by decide +kernel
theorem dX7_loads_20 : decode cX7_loads 20 = .ok (.iconst 0, 1) := by decide +kernel
theorem dX7_loads_21 : decode cX7_loads 21 = .ok (.istore_n 3, 1) := by decide +kernel
theorem dX7_loads_22 : decode cX7_loads 22 = .ok (.iconst 0, 1) := by decide +kernel
theorem dX7_loads_23 : decode cX7_loads 23 = .ok (.istore 4, 2) := by decide +kernel
theorem dX7_loads_25 : decode cX7_loads 25 = .ok (.iload 4, 2) := by decide +kernel
theorem dX7_loads_27 : decode cX7_loads 27 = .ok (.aload_n 0, 1) := by decide +kernel
theorem dX7_loads_28 : decode cX7_loads 28 = .ok (.getfield 87, 3) := by decide +kernel
theorem dX7_loads_31 : decode cX7_loads 31 = .ok (.if_icmp .ge 59, 3) := by decide +kernel
theorem dX7_loads_34 : decode cX7_loads 34 = .ok (.iconst 0, 1) := by decide +kernel
theorem dX7_loads_35 : decode cX7_loads 35 = .ok (.istore 5, 2) := by decide +kernel
theorem dX7_loads_37 : decode cX7_loads 37 = .ok (.iload 5, 2) := by decide +kernel
theorem dX7_loads_39 : decode cX7_loads 39 = .ok (.bipush 6, 2) := by decide +kernel
theorem dX7_loads_41 : decode cX7_loads 41 = .ok (.if_icmp .ge 43, 3) := by decide +kernel
theorem dX7_loads_44 : decode cX7_loads 44 = .ok (.aload_n 0, 1) := by decide +kernel
theorem dX7_loads_45 : decode cX7_loads 45 = .ok (.iload 4, 2) := by decide +kernel
theorem dX7_loads_47 : decode cX7_loads 47 = .ok (.iload_n 1, 1) := by decide +kernel
theorem dX7_loads_48 : decode cX7_loads 48 = .ok (.invokevirtual 154, 3) := by decide +kernel
theorem dX7_loads_51 : decode cX7_loads 51 = .ok (.ifCond .eq 33, 3) := by decide +kernel
theorem dX7_loads_54 : decode cX7_loads 54 = .ok (.iload_n 3, 1) := by decide +kernel
theorem dX7_loads_55 : decode cX7_loads 55 = .ok (.aload_n 0, 1) := by decide +kernel
theorem dX7_loads_56 : decode cX7_loads 56 = .ok (.getfield 40, 3) := by decide +kernel
theorem dX7_loads_59 : decode cX7_loads 59 = .ok (.bipush 6, 2) := by decide +kernel
theorem dX7_loads_61 : decode cX7_loads 61 = .ok (.iload 4, 2) := by decide +kernel
theorem dX7_loads_63 : decode cX7_loads 63 = .ok (.imul, 1) := by decide +kernel
theorem dX7_loads_64 : decode cX7_loads 64 = .ok (.iload 5, 2) := by decide +kernel
theorem dX7_loads_66 : decode cX7_loads 66 = .ok (.iadd, 1) := by decide +kernel
theorem dX7_loads_67 : decode cX7_loads 67 = .ok (.iaload, 1) := by decide +kernel
theorem dX7_loads_68 : decode cX7_loads 68 = .ok (.aload_n 0, 1) := by decide +kernel
theorem dX7_loads_69 : decode cX7_loads 69 = .ok (.getfield 16, 3) := by decide +kernel
theorem dX7_loads_72 : decode cX7_loads 72 = .ok (.iload 5, 2) := by decide +kernel
theorem dX7_loads_74 : decode cX7_loads 74 = .ok (.iaload, 1) := by decide +kernel
theorem dX7_loads_75 : decode cX7_loads 75 = .ok (.imul, 1) := by decide +kernel
theorem dX7_loads_76 : decode cX7_loads 76 = .ok (.iadd, 1) := by decide +kernel
theorem dX7_loads_77 : decode cX7_loads 77 = .ok (.istore_n 3, 1) := by decide +kernel
theorem dX7_loads_78 : decode cX7_loads 78 = .ok (.iinc 5 1, 3) := by decide +kernel
theorem dX7_loads_81 : decode cX7_loads 81 = .ok (.goto (-44), 3) := by decide +kernel
theorem dX7_loads_84 : decode cX7_loads 84 = .ok (.iinc 4 1, 3) := by decide +kernel
theorem dX7_loads_87 : decode cX7_loads 87 = .ok (.goto (-62), 3) := by decide +kernel
theorem dX7_loads_90 : decode cX7_loads 90 = .ok (.iload_n 3, 1) := by decide +kernel
theorem dX7_loads_91 : decode cX7_loads 91 = .ok (.iload_n 2, 1) := by decide +kernel
theorem dX7_loads_92 : decode cX7_loads 92 = .ok (.iadd, 1) := by decide +kernel
theorem dX7_loads_93 : decode cX7_loads 93 = .ok (.iconst 1, 1) := by decide +kernel
theorem dX7_loads_94 : decode cX7_loads 94 = .ok (.isub, 1) := by decide +kernel
theorem dX7_loads_95 : decode cX7_loads 95 = .ok (.iload_n 2, 1) := by decide +kernel
theorem dX7_loads_96 : decode cX7_loads 96 = .ok (.idiv, 1) := by decide +kernel
theorem dX7_loads_97 : decode cX7_loads 97 = .ok (.ireturn, 1) := by decide +kernel
theorem dX7_count_0 : decode cX7_count 0 = .ok (.iconst 0, 1) := by decide +kernel
theorem dX7_count_1 : decode cX7_count 1 = .ok (.istore_n 2, 1) := by decide +kernel
theorem dX7_count_2 : decode cX7_count 2 = .ok (.iload_n 1, 1) := by decide +kernel
theorem dX7_count_3 : decode cX7_count 3 = .ok (.tableswitch 119 0 5 #[37, 42, 51, 56, 89, 114], 37) := by decide +kernel
theorem dX7_count_40 : decode cX7_count 40 = .ok (.aload_n 0, 1) := by decide +kernel
theorem dX7_count_41 : decode cX7_count 41 = .ok (.getfield 87, 3) := by decide +kernel
theorem dX7_count_44 : decode cX7_count 44 = .ok (.ireturn, 1) := by decide +kernel
theorem dX7_count_45 : decode cX7_count 45 = .ok (.aload_n 0, 1) := by decide +kernel
theorem dX7_count_46 : decode cX7_count 46 = .ok (.iconst 1, 1) := by decide +kernel
theorem dX7_count_47 : decode cX7_count 47 = .ok (.invokevirtual 109, 3) := by decide +kernel
theorem dX7_count_50 : decode cX7_count 50 = .ok (.invokestatic 135, 3) := by decide +kernel
theorem dX7_count_53 : decode cX7_count 53 = .ok (.ireturn, 1) := by decide +kernel
theorem dX7_count_54 : decode cX7_count 54 = .ok (.aload_n 0, 1) := by decide +kernel
theorem dX7_count_55 : decode cX7_count 55 = .ok (.getfield 141, 3) := by decide +kernel
theorem dX7_count_58 : decode cX7_count 58 = .ok (.ireturn, 1) := by decide +kernel
theorem dX7_count_59 : decode cX7_count 59 = .ok (.iconst 0, 1) := by decide +kernel
theorem dX7_count_60 : decode cX7_count 60 = .ok (.istore_n 3, 1) := by decide +kernel
theorem dX7_count_61 : decode cX7_count 61 = .ok (.iload_n 3, 1) := by decide +kernel
theorem dX7_count_62 : decode cX7_count 62 = .ok (.bipush 60, 2) := by decide +kernel
theorem dX7_count_64 : decode cX7_count 64 = .ok (.if_icmp .gt 26, 3) := by decide +kernel
theorem dX7_count_67 : decode cX7_count 67 = .ok (.iload_n 2, 1) := by decide +kernel
theorem dX7_count_68 : decode cX7_count 68 = .ok (.aload_n 0, 1) := by decide +kernel
theorem dX7_count_69 : decode cX7_count 69 = .ok (.getfield 56, 3) := by decide +kernel
theorem dX7_count_72 : decode cX7_count 72 = .ok (.iload_n 3, 1) := by decide +kernel
theorem dX7_count_73 : decode cX7_count 73 = .ok (.baload, 1) := by decide +kernel
theorem dX7_count_74 : decode cX7_count 74 = .ok (.ifCond .eq 7, 3) := by decide +kernel
theorem dX7_count_77 : decode cX7_count 77 = .ok (.iconst 1, 1) := by decide +kernel
theorem dX7_count_78 : decode cX7_count 78 = .ok (.goto 4, 3) := by decide +kernel
theorem dX7_count_81 : decode cX7_count 81 = .ok (.iconst 0, 1) := by decide +kernel
theorem dX7_count_82 : decode cX7_count 82 = .ok (.iadd, 1) := by decide +kernel
theorem dX7_count_83 : decode cX7_count 83 = .ok (.istore_n 2, 1) := by decide +kernel
theorem dX7_count_84 : decode cX7_count 84 = .ok (.iinc 3 1, 3) := by decide +kernel
theorem dX7_count_87 : decode cX7_count 87 = .ok (.goto (-26), 3) := by decide +kernel
theorem dX7_count_90 : decode cX7_count 90 = .ok (.iload_n 2, 1) := by decide +kernel
theorem dX7_count_91 : decode cX7_count 91 = .ok (.ireturn, 1) := by decide +kernel
theorem dX7_count_92 : decode cX7_count 92 = .ok (.iconst 0, 1) := by decide +kernel
theorem dX7_count_93 : decode cX7_count 93 = .ok (.istore_n 3, 1) := by decide +kernel
theorem dX7_count_94 : decode cX7_count 94 = .ok (.iload_n 3, 1) := by decide +kernel
theorem dX7_count_95 : decode cX7_count 95 = .ok (.bipush 6, 2) := by decide +kernel
theorem dX7_count_97 : decode cX7_count 97 = .ok (.if_icmp .ge 18, 3) := by decide +kernel
theorem dX7_count_100 : decode cX7_count 100 = .ok (.iload_n 2, 1) := by decide +kernel
theorem dX7_count_101 : decode cX7_count 101 = .ok (.aload_n 0, 1) := by decide +kernel
theorem dX7_count_102 : decode cX7_count 102 = .ok (.getfield 25, 3) := by decide +kernel
theorem dX7_count_105 : decode cX7_count 105 = .ok (.iload_n 3, 1) := by decide +kernel
theorem dX7_count_106 : decode cX7_count 106 = .ok (.iaload, 1) := by decide +kernel
theorem dX7_count_107 : decode cX7_count 107 = .ok (.iadd, 1) := by decide +kernel
theorem dX7_count_108 : decode cX7_count 108 = .ok (.istore_n 2, 1) := by decide +kernel
theorem dX7_count_109 : decode cX7_count 109 = .ok (.iinc 3 1, 3) := by decide +kernel
theorem dX7_count_112 : decode cX7_count 112 = .ok (.goto (-18), 3) := by decide +kernel
theorem dX7_count_115 : decode cX7_count 115 = .ok (.iload_n 2, 1) := by decide +kernel
theorem dX7_count_116 : decode cX7_count 116 = .ok (.ireturn, 1) := by decide +kernel
theorem dX7_count_117 : decode cX7_count 117 = .ok (.aload_n 0, 1) := by decide +kernel
theorem dX7_count_118 : decode cX7_count 118 = .ok (.getfield 120, 3) := by decide +kernel
theorem dX7_count_121 : decode cX7_count 121 = .ok (.ireturn, 1) := by decide +kernel
theorem dX7_count_122 : decode cX7_count 122 = .ok (.bipush (-2), 2) := by decide +kernel
theorem dX7_count_124 : decode cX7_count 124 = .ok (.ireturn, 1) := by decide +kernel
theorem dX7_digest_0 : decode cX7_digest 0 = .ok (.ldc2_w 163, 3) := by decide +kernel
theorem dX7_digest_3 : decode cX7_digest 3 = .ok (.lstore_n 1, 1) := by decide +kernel
theorem dX7_digest_4 : decode cX7_digest 4 = .ok (.iconst 0, 1) := by decide +kernel
theorem dX7_digest_5 : decode cX7_digest 5 = .ok (.istore_n 3, 1) := by decide +kernel
theorem dX7_digest_6 : decode cX7_digest 6 = .ok (.iload_n 3, 1) := by decide +kernel
theorem dX7_digest_7 : decode cX7_digest 7 = .ok (.bipush 6, 2) := by decide +kernel
theorem dX7_digest_9 : decode cX7_digest 9 = .ok (.if_icmp .ge 22, 3) := by decide +kernel
theorem dX7_digest_12 : decode cX7_digest 12 = .ok (.ldc2_w 165, 3) := by decide +kernel
theorem dX7_digest_15 : decode cX7_digest 15 = .ok (.lload_n 1, 1) := by decide +kernel
theorem dX7_digest_16 : decode cX7_digest 16 = .ok (.lmul, 1) := by decide +kernel
theorem dX7_digest_17 : decode cX7_digest 17 = .ok (.aload_n 0, 1) := by decide +kernel
theorem dX7_digest_18 : decode cX7_digest 18 = .ok (.iload_n 3, 1) := by decide +kernel
theorem dX7_digest_19 : decode cX7_digest 19 = .ok (.invokevirtual 167, 3) := by decide +kernel
theorem dX7_digest_22 : decode cX7_digest 22 = .ok (.i2l, 1) := by decide +kernel
theorem dX7_digest_23 : decode cX7_digest 23 = .ok (.ladd, 1) := by decide +kernel
theorem dX7_digest_24 : decode cX7_digest 24 = .ok (.lstore_n 1, 1) := by decide +kernel
theorem dX7_digest_25 : decode cX7_digest 25 = .ok (.iinc 3 1, 3) := by decide +kernel
theorem dX7_digest_28 : decode cX7_digest 28 = .ok (.goto (-22), 3) := by decide +kernel
theorem dX7_digest_31 : decode cX7_digest 31 = .ok (.iconst 0, 1) := by decide +kernel
theorem dX7_digest_32 : decode cX7_digest 32 = .ok (.istore_n 3, 1) := by decide +kernel
theorem dX7_digest_33 : decode cX7_digest 33 = .ok (.iload_n 3, 1) := by decide +kernel
theorem dX7_digest_34 : decode cX7_digest 34 = .ok (.aload_n 0, 1) := by decide +kernel
theorem dX7_digest_35 : decode cX7_digest 35 = .ok (.getfield 87, 3) := by decide +kernel
theorem dX7_digest_38 : decode cX7_digest 38 = .ok (.if_icmp .ge 76, 3) := by decide +kernel
theorem dX7_digest_41 : decode cX7_digest 41 = .ok (.iconst 0, 1) := by decide +kernel
theorem dX7_digest_42 : decode cX7_digest 42 = .ok (.istore 4, 2) := by decide +kernel
theorem dX7_digest_44 : decode cX7_digest 44 = .ok (.iload 4, 2) := by decide +kernel
theorem dX7_digest_46 : decode cX7_digest 46 = .ok (.bipush 7, 2) := by decide +kernel
theorem dX7_digest_48 : decode cX7_digest 48 = .ok (.if_icmp .ge 24, 3) := by decide +kernel
theorem dX7_digest_51 : decode cX7_digest 51 = .ok (.ldc2_w 165, 3) := by decide +kernel
theorem dX7_digest_54 : decode cX7_digest 54 = .ok (.lload_n 1, 1) := by decide +kernel
theorem dX7_digest_55 : decode cX7_digest 55 = .ok (.lmul, 1) := by decide +kernel
theorem dX7_digest_56 : decode cX7_digest 56 = .ok (.aload_n 0, 1) := by decide +kernel
theorem dX7_digest_57 : decode cX7_digest 57 = .ok (.iload_n 3, 1) := by decide +kernel
theorem dX7_digest_58 : decode cX7_digest 58 = .ok (.iload 4, 2) := by decide +kernel
theorem dX7_digest_60 : decode cX7_digest 60 = .ok (.invokevirtual 123, 3) := by decide +kernel
theorem dX7_digest_63 : decode cX7_digest 63 = .ok (.i2l, 1) := by decide +kernel
theorem dX7_digest_64 : decode cX7_digest 64 = .ok (.ladd, 1) := by decide +kernel
theorem dX7_digest_65 : decode cX7_digest 65 = .ok (.lstore_n 1, 1) := by decide +kernel
theorem dX7_digest_66 : decode cX7_digest 66 = .ok (.iinc 4 1, 3) := by decide +kernel
theorem dX7_digest_69 : decode cX7_digest 69 = .ok (.goto (-25), 3) := by decide +kernel
theorem dX7_digest_72 : decode cX7_digest 72 = .ok (.iconst 0, 1) := by decide +kernel
theorem dX7_digest_73 : decode cX7_digest 73 = .ok (.istore 4, 2) := by decide +kernel
theorem dX7_digest_75 : decode cX7_digest 75 = .ok (.iload 4, 2) := by decide +kernel
theorem dX7_digest_77 : decode cX7_digest 77 = .ok (.bipush 6, 2) := by decide +kernel
theorem dX7_digest_79 : decode cX7_digest 79 = .ok (.if_icmp .ge 29, 3) := by decide +kernel
theorem dX7_digest_82 : decode cX7_digest 82 = .ok (.ldc2_w 165, 3) := by decide +kernel
theorem dX7_digest_85 : decode cX7_digest 85 = .ok (.lload_n 1, 1) := by decide +kernel
theorem dX7_digest_86 : decode cX7_digest 86 = .ok (.lmul, 1) := by decide +kernel
theorem dX7_digest_87 : decode cX7_digest 87 = .ok (.aload_n 0, 1) := by decide +kernel
theorem dX7_digest_88 : decode cX7_digest 88 = .ok (.getfield 40, 3) := by decide +kernel
theorem dX7_digest_91 : decode cX7_digest 91 = .ok (.bipush 6, 2) := by decide +kernel
theorem dX7_digest_93 : decode cX7_digest 93 = .ok (.iload_n 3, 1) := by decide +kernel
theorem dX7_digest_94 : decode cX7_digest 94 = .ok (.imul, 1) := by decide +kernel
theorem dX7_digest_95 : decode cX7_digest 95 = .ok (.iload 4, 2) := by decide +kernel
theorem dX7_digest_97 : decode cX7_digest 97 = .ok (.iadd, 1) := by decide +kernel
theorem dX7_digest_98 : decode cX7_digest 98 = .ok (.iaload, 1) := by decide +kernel
theorem dX7_digest_99 : decode cX7_digest 99 = .ok (.i2l, 1) := by decide +kernel
theorem dX7_digest_100 : decode cX7_digest 100 = .ok (.ladd, 1) := by decide +kernel
theorem dX7_digest_101 : decode cX7_digest 101 = .ok (.lstore_n 1, 1) := by decide +kernel
theorem dX7_digest_102 : decode cX7_digest 102 = .ok (.iinc 4 1, 3) := by decide +kernel
theorem dX7_digest_105 : decode cX7_digest 105 = .ok (.goto (-30), 3) := by decide +kernel
theorem dX7_digest_108 : decode cX7_digest 108 = .ok (.iinc 3 1, 3) := by decide +kernel
theorem dX7_digest_111 : decode cX7_digest 111 = .ok (.goto (-78), 3) := by decide +kernel
theorem dX7_digest_114 : decode cX7_digest 114 = .ok (.iconst 0, 1) := by decide +kernel
theorem dX7_digest_115 : decode cX7_digest 115 = .ok (.istore_n 3, 1) := by decide +kernel
theorem dX7_digest_116 : decode cX7_digest 116 = .ok (.iload_n 3, 1) := by decide +kernel
theorem dX7_digest_117 : decode cX7_digest 117 = .ok (.bipush 6, 2) := by decide +kernel
theorem dX7_digest_119 : decode cX7_digest 119 = .ok (.if_icmp .ge 35, 3) := by decide +kernel
theorem dX7_digest_122 : decode cX7_digest 122 = .ok (.ldc2_w 165, 3) := by decide +kernel
theorem dX7_digest_125 : decode cX7_digest 125 = .ok (.ldc2_w 165, 3) := by decide +kernel
theorem dX7_digest_128 : decode cX7_digest 128 = .ok (.lload_n 1, 1) := by decide +kernel
theorem dX7_digest_129 : decode cX7_digest 129 = .ok (.lmul, 1) := by decide +kernel
theorem dX7_digest_130 : decode cX7_digest 130 = .ok (.aload_n 0, 1) := by decide +kernel
theorem dX7_digest_131 : decode cX7_digest 131 = .ok (.getfield 7, 3) := by decide +kernel
theorem dX7_digest_134 : decode cX7_digest 134 = .ok (.iload_n 3, 1) := by decide +kernel
theorem dX7_digest_135 : decode cX7_digest 135 = .ok (.iaload, 1) := by decide +kernel
theorem dX7_digest_136 : decode cX7_digest 136 = .ok (.i2l, 1) := by decide +kernel
theorem dX7_digest_137 : decode cX7_digest 137 = .ok (.ladd, 1) := by decide +kernel
theorem dX7_digest_138 : decode cX7_digest 138 = .ok (.lmul, 1) := by decide +kernel
theorem dX7_digest_139 : decode cX7_digest 139 = .ok (.aload_n 0, 1) := by decide +kernel
theorem dX7_digest_140 : decode cX7_digest 140 = .ok (.getfield 25, 3) := by decide +kernel
theorem dX7_digest_143 : decode cX7_digest 143 = .ok (.iload_n 3, 1) := by decide +kernel
theorem dX7_digest_144 : decode cX7_digest 144 = .ok (.iaload, 1) := by decide +kernel
theorem dX7_digest_145 : decode cX7_digest 145 = .ok (.i2l, 1) := by decide +kernel
theorem dX7_digest_146 : decode cX7_digest 146 = .ok (.ladd, 1) := by decide +kernel
theorem dX7_digest_147 : decode cX7_digest 147 = .ok (.lstore_n 1, 1) := by decide +kernel
theorem dX7_digest_148 : decode cX7_digest 148 = .ok (.iinc 3 1, 3) := by decide +kernel
theorem dX7_digest_151 : decode cX7_digest 151 = .ok (.goto (-35), 3) := by decide +kernel
theorem dX7_digest_154 : decode cX7_digest 154 = .ok (.iconst 0, 1) := by decide +kernel
theorem dX7_digest_155 : decode cX7_digest 155 = .ok (.istore_n 3, 1) := by decide +kernel
theorem dX7_digest_156 : decode cX7_digest 156 = .ok (.iload_n 3, 1) := by decide +kernel
theorem dX7_digest_157 : decode cX7_digest 157 = .ok (.aload_n 0, 1) := by decide +kernel
theorem dX7_digest_158 : decode cX7_digest 158 = .ok (.getfield 141, 3) := by decide +kernel
theorem dX7_digest_161 : decode cX7_digest 161 = .ok (.if_icmp .ge 35, 3) := by decide +kernel
theorem dX7_digest_164 : decode cX7_digest 164 = .ok (.ldc2_w 165, 3) := by decide +kernel
theorem dX7_digest_167 : decode cX7_digest 167 = .ok (.ldc2_w 165, 3) := by decide +kernel
theorem dX7_digest_170 : decode cX7_digest 170 = .ok (.lload_n 1, 1) := by decide +kernel
theorem dX7_digest_171 : decode cX7_digest 171 = .ok (.lmul, 1) := by decide +kernel
theorem dX7_digest_172 : decode cX7_digest 172 = .ok (.aload_n 0, 1) := by decide +kernel
theorem dX7_digest_173 : decode cX7_digest 173 = .ok (.getfield 59, 3) := by decide +kernel
theorem dX7_digest_176 : decode cX7_digest 176 = .ok (.iload_n 3, 1) := by decide +kernel
theorem dX7_digest_177 : decode cX7_digest 177 = .ok (.iaload, 1) := by decide +kernel
theorem dX7_digest_178 : decode cX7_digest 178 = .ok (.i2l, 1) := by decide +kernel
theorem dX7_digest_179 : decode cX7_digest 179 = .ok (.ladd, 1) := by decide +kernel
theorem dX7_digest_180 : decode cX7_digest 180 = .ok (.lmul, 1) := by decide +kernel
theorem dX7_digest_181 : decode cX7_digest 181 = .ok (.aload_n 0, 1) := by decide +kernel
theorem dX7_digest_182 : decode cX7_digest 182 = .ok (.getfield 62, 3) := by decide +kernel
theorem dX7_digest_185 : decode cX7_digest 185 = .ok (.iload_n 3, 1) := by decide +kernel
theorem dX7_digest_186 : decode cX7_digest 186 = .ok (.iaload, 1) := by decide +kernel
theorem dX7_digest_187 : decode cX7_digest 187 = .ok (.i2l, 1) := by decide +kernel
theorem dX7_digest_188 : decode cX7_digest 188 = .ok (.ladd, 1) := by decide +kernel
theorem dX7_digest_189 : decode cX7_digest 189 = .ok (.lstore_n 1, 1) := by decide +kernel
theorem dX7_digest_190 : decode cX7_digest 190 = .ok (.iinc 3 1, 3) := by decide +kernel
theorem dX7_digest_193 : decode cX7_digest 193 = .ok (.goto (-37), 3) := by decide +kernel
theorem dX7_digest_196 : decode cX7_digest 196 = .ok (.iconst 0, 1) := by decide +kernel
theorem dX7_digest_197 : decode cX7_digest 197 = .ok (.istore_n 3, 1) := by decide +kernel
theorem dX7_digest_198 : decode cX7_digest 198 = .ok (.iload_n 3, 1) := by decide +kernel
theorem dX7_digest_199 : decode cX7_digest 199 = .ok (.iconst 4, 1) := by decide +kernel
theorem dX7_digest_200 : decode cX7_digest 200 = .ok (.if_icmp .ge 23, 3) := by decide +kernel
theorem dX7_digest_203 : decode cX7_digest 203 = .ok (.ldc2_w 165, 3) := by decide +kernel
theorem dX7_digest_206 : decode cX7_digest 206 = .ok (.lload_n 1, 1) := by decide +kernel
theorem dX7_digest_207 : decode cX7_digest 207 = .ok (.lmul, 1) := by decide +kernel
theorem dX7_digest_208 : decode cX7_digest 208 = .ok (.aload_n 0, 1) := by decide +kernel
theorem dX7_digest_209 : decode cX7_digest 209 = .ok (.getfield 65, 3) := by decide +kernel
theorem dX7_digest_212 : decode cX7_digest 212 = .ok (.iload_n 3, 1) := by decide +kernel
theorem dX7_digest_213 : decode cX7_digest 213 = .ok (.iaload, 1) := by decide +kernel
theorem dX7_digest_214 : decode cX7_digest 214 = .ok (.i2l, 1) := by decide +kernel
theorem dX7_digest_215 : decode cX7_digest 215 = .ok (.ladd, 1) := by decide +kernel
theorem dX7_digest_216 : decode cX7_digest 216 = .ok (.lstore_n 1, 1) := by decide +kernel
theorem dX7_digest_217 : decode cX7_digest 217 = .ok (.iinc 3 1, 3) := by decide +kernel
theorem dX7_digest_220 : decode cX7_digest 220 = .ok (.goto (-22), 3) := by decide +kernel
theorem dX7_digest_223 : decode cX7_digest 223 = .ok (.lload_n 1, 1) := by decide +kernel
theorem dX7_digest_224 : decode cX7_digest 224 = .ok (.lreturn, 1) := by decide +kernel
