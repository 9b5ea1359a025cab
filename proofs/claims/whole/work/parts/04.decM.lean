-- names, fields, the words of the tables by their places: by program (wip/whole/gen01.py) out of the claim's printed texts
theorem dX10_init_0 : decode cX10_init 0 = .ok (.aload_n 0, 1) := by decide +kernel
theorem dX10_init_1 : decode cX10_init 1 = .ok (.invokespecial 1, 3) := by decide +kernel
theorem dX10_init_4 : decode cX10_init 4 = .ok (.aload_n 0, 1) := by decide +kernel
theorem dX10_init_5 : decode cX10_init 5 = .ok (.iconst 4, 1) := by decide +kernel
theorem dX10_init_6 : decode cX10_init 6 = .ok (.newarray .int, 2) := by decide +kernel
theorem dX10_init_8 : decode cX10_init 8 = .ok (.putfield 7, 3) := by decide +kernel
theorem dX10_init_11 : decode cX10_init 11 = .ok (.aload_n 0, 1) := by decide +kernel
theorem dX10_init_12 : decode cX10_init 12 = .ok (.bipush 24, 2) := by decide +kernel
theorem dX10_init_14 : decode cX10_init 14 = .ok (.newarray .int, 2) := by decide +kernel
theorem dX10_init_16 : decode cX10_init 16 = .ok (.putfield 13, 3) := by decide +kernel
theorem dX10_init_19 : decode cX10_init 19 = .ok (.aload_n 0, 1) := by decide +kernel
theorem dX10_init_20 : decode cX10_init 20 = .ok (.bipush 12, 2) := by decide +kernel
theorem dX10_init_22 : decode cX10_init 22 = .ok (.newarray .int, 2) := by decide +kernel
theorem dX10_init_24 : decode cX10_init 24 = .ok (.putfield 16, 3) := by decide +kernel
theorem dX10_init_27 : decode cX10_init 27 = .ok (.aload_n 0, 1) := by decide +kernel
theorem dX10_init_28 : decode cX10_init 28 = .ok (.bipush 12, 2) := by decide +kernel
theorem dX10_init_30 : decode cX10_init 30 = .ok (.newarray .int, 2) := by decide +kernel
theorem dX10_init_32 : decode cX10_init 32 = .ok (.putfield 19, 3) := by decide +kernel
theorem dX10_init_35 : decode cX10_init 35 = .ok (.aload_n 0, 1) := by decide +kernel
theorem dX10_init_36 : decode cX10_init 36 = .ok (.bipush 12, 2) := by decide +kernel
theorem dX10_init_38 : decode cX10_init 38 = .ok (.newarray .boolean, 2) := by decide +kernel
theorem dX10_init_40 : decode cX10_init 40 = .ok (.putfield 22, 3) := by decide +kernel
theorem dX10_init_43 : decode cX10_init 43 = .ok (.aload_n 0, 1) := by decide +kernel
theorem dX10_init_44 : decode cX10_init 44 = .ok (.bipush 72, 2) := by decide +kernel
theorem dX10_init_46 : decode cX10_init 46 = .ok (.newarray .boolean, 2) := by decide +kernel
theorem dX10_init_48 : decode cX10_init 48 = .ok (.putfield 26, 3) := by decide +kernel
theorem dX10_init_51 : decode cX10_init 51 = .ok (.aload_n 0, 1) := by decide +kernel
theorem dX10_init_52 : decode cX10_init 52 = .ok (.bipush 72, 2) := by decide +kernel
theorem dX10_init_54 : decode cX10_init 54 = .ok (.newarray .long, 2) := by decide +kernel
theorem dX10_init_56 : decode cX10_init 56 = .ok (.putfield 29, 3) := by decide +kernel
theorem dX10_init_59 : decode cX10_init 59 = .ok (.aload_n 0, 1) := by decide +kernel
theorem dX10_init_60 : decode cX10_init 60 = .ok (.bipush 10, 2) := by decide +kernel
theorem dX10_init_62 : decode cX10_init 62 = .ok (.newarray .int, 2) := by decide +kernel
theorem dX10_init_64 : decode cX10_init 64 = .ok (.putfield 33, 3) := by decide +kernel
theorem dX10_init_67 : decode cX10_init 67 = .ok (.aload_n 0, 1) := by decide +kernel
theorem dX10_init_68 : decode cX10_init 68 = .ok (.bipush 10, 2) := by decide +kernel
theorem dX10_init_70 : decode cX10_init 70 = .ok (.newarray .int, 2) := by decide +kernel
theorem dX10_init_72 : decode cX10_init 72 = .ok (.putfield 36, 3) := by decide +kernel
theorem dX10_init_75 : decode cX10_init 75 = .ok (.aload_n 0, 1) := by decide +kernel
theorem dX10_init_76 : decode cX10_init 76 = .ok (.bipush 10, 2) := by decide +kernel
theorem dX10_init_78 : decode cX10_init 78 = .ok (.newarray .int, 2) := by decide +kernel
theorem dX10_init_80 : decode cX10_init 80 = .ok (.putfield 39, 3) := by decide +kernel
theorem dX10_init_83 : decode cX10_init 83 = .ok (.aload_n 0, 1) := by decide +kernel
theorem dX10_init_84 : decode cX10_init 84 = .ok (.bipush 10, 2) := by decide +kernel
theorem dX10_init_86 : decode cX10_init 86 = .ok (.newarray .int, 2) := by decide +kernel
theorem dX10_init_88 : decode cX10_init 88 = .ok (.putfield 42, 3) := by decide +kernel
theorem dX10_init_91 : decode cX10_init 91 = .ok (.aload_n 0, 1) := by decide +kernel
theorem dX10_init_92 : decode cX10_init 92 = .ok (.bipush 10, 2) := by decide +kernel
theorem dX10_init_94 : decode cX10_init 94 = .ok (.newarray .int, 2) := by decide +kernel
theorem dX10_init_96 : decode cX10_init 96 = .ok (.putfield 45, 3) := by decide +kernel
theorem dX10_init_99 : decode cX10_init 99 = .ok (.aload_n 0, 1) := by decide +kernel
theorem dX10_init_100 : decode cX10_init 100 = .ok (.bipush 10, 2) := by decide +kernel
theorem dX10_init_102 : decode cX10_init 102 = .ok (.newarray .long, 2) := by decide +kernel
theorem dX10_init_104 : decode cX10_init 104 = .ok (.putfield 48, 3) := by decide +kernel
theorem dX10_init_107 : decode cX10_init 107 = .ok (.aload_n 0, 1) := by decide +kernel
theorem dX10_init_108 : decode cX10_init 108 = .ok (.bipush 10, 2) := by decide +kernel
theorem dX10_init_110 : decode cX10_init 110 = .ok (.newarray .long, 2) := by decide +kernel
theorem dX10_init_112 : decode cX10_init 112 = .ok (.putfield 51, 3) := by decide +kernel
theorem dX10_init_115 : decode cX10_init 115 = .ok (.aload_n 0, 1) := by decide +kernel
theorem dX10_init_116 : decode cX10_init 116 = .ok (.bipush 10, 2) := by decide +kernel
theorem dX10_init_118 : decode cX10_init 118 = .ok (.newarray .boolean, 2) := by decide +kernel
theorem dX10_init_120 : decode cX10_init 120 = .ok (.putfield 54, 3) := by decide +kernel
theorem dX10_init_123 : decode cX10_init 123 = .ok (.aload_n 0, 1) := by decide +kernel
theorem dX10_init_124 : decode cX10_init 124 = .ok (.iconst 3, 1) := by decide +kernel
theorem dX10_init_125 : decode cX10_init 125 = .ok (.newarray .int, 2) := by decide +kernel
theorem dX10_init_127 : decode cX10_init 127 = .ok (.putfield 57, 3) := by decide +kernel
theorem dX10_init_130 : decode cX10_init 130 = .ok (.aload_n 0, 1) := by decide +kernel
theorem dX10_init_131 : decode cX10_init 131 = .ok (.bipush 18, 2) := by decide +kernel
theorem dX10_init_133 : decode cX10_init 133 = .ok (.newarray .boolean, 2) := by decide +kernel
theorem dX10_init_135 : decode cX10_init 135 = .ok (.putfield 60, 3) := by decide +kernel
theorem dX10_init_138 : decode cX10_init 138 = .ok (.aload_n 0, 1) := by decide +kernel
theorem dX10_init_139 : decode cX10_init 139 = .ok (.bipush 18, 2) := by decide +kernel
theorem dX10_init_141 : decode cX10_init 141 = .ok (.newarray .long, 2) := by decide +kernel
theorem dX10_init_143 : decode cX10_init 143 = .ok (.putfield 63, 3) := by decide +kernel
theorem dX10_init_146 : decode cX10_init 146 = .ok (.aload_n 0, 1) := by decide +kernel
theorem dX10_init_147 : decode cX10_init 147 = .ok (.bipush 6, 2) := by decide +kernel
theorem dX10_init_149 : decode cX10_init 149 = .ok (.newarray .int, 2) := by decide +kernel
theorem dX10_init_151 : decode cX10_init 151 = .ok (.putfield 66, 3) := by decide +kernel
theorem dX10_init_154 : decode cX10_init 154 = .ok (.aload_n 0, 1) := by decide +kernel
theorem dX10_init_155 : decode cX10_init 155 = .ok (.bipush 6, 2) := by decide +kernel
theorem dX10_init_157 : decode cX10_init 157 = .ok (.newarray .int, 2) := by decide +kernel
theorem dX10_init_159 : decode cX10_init 159 = .ok (.putfield 69, 3) := by decide +kernel
theorem dX10_init_162 : decode cX10_init 162 = .ok (.aload_n 0, 1) := by decide +kernel
theorem dX10_init_163 : decode cX10_init 163 = .ok (.bipush 6, 2) := by decide +kernel
theorem dX10_init_165 : decode cX10_init 165 = .ok (.newarray .int, 2) := by decide +kernel
theorem dX10_init_167 : decode cX10_init 167 = .ok (.putfield 72, 3) := by decide +kernel
theorem dX10_init_170 : decode cX10_init 170 = .ok (.aload_n 0, 1) := by decide +kernel
theorem dX10_init_171 : decode cX10_init 171 = .ok (.bipush 6, 2) := by decide +kernel
theorem dX10_init_173 : decode cX10_init 173 = .ok (.newarray .int, 2) := by decide +kernel
theorem dX10_init_175 : decode cX10_init 175 = .ok (.putfield 75, 3) := by decide +kernel
theorem dX10_init_178 : decode cX10_init 178 = .ok (.aload_n 0, 1) := by decide +kernel
theorem dX10_init_179 : decode cX10_init 179 = .ok (.sipush 4096, 3) := by decide +kernel
theorem dX10_init_182 : decode cX10_init 182 = .ok (.newarray .int, 2) := by decide +kernel
theorem dX10_init_184 : decode cX10_init 184 = .ok (.putfield 78, 3) := by decide +kernel
theorem dX10_init_187 : decode cX10_init 187 = .ok (.aload_n 0, 1) := by decide +kernel
theorem dX10_init_188 : decode cX10_init 188 = .ok (.sipush 4096, 3) := by decide +kernel
theorem dX10_init_191 : decode cX10_init 191 = .ok (.newarray .boolean, 2) := by decide +kernel
theorem dX10_init_193 : decode cX10_init 193 = .ok (.putfield 81, 3) := by decide +kernel
theorem dX10_init_196 : decode cX10_init 196 = .ok (.aload_n 0, 1) := by decide +kernel
theorem dX10_init_197 : decode cX10_init 197 = .ok (.sipush 4096, 3) := by decide +kernel
theorem dX10_init_200 : decode cX10_init 200 = .ok (.newarray .int, 2) := by decide +kernel
theorem dX10_init_202 : decode cX10_init 202 = .ok (.putfield 84, 3) := by decide +kernel
theorem dX10_init_205 : decode cX10_init 205 = .ok (.aload_n 0, 1) := by decide +kernel
theorem dX10_init_206 : decode cX10_init 206 = .ok (.bipush 12, 2) := by decide +kernel
theorem dX10_init_208 : decode cX10_init 208 = .ok (.newarray .long, 2) := by decide +kernel
theorem dX10_init_210 : decode cX10_init 210 = .ok (.putfield 87, 3) := by decide +kernel
theorem dX10_init_213 : decode cX10_init 213 = .ok (.aload_n 0, 1) := by decide +kernel
theorem dX10_init_214 : decode cX10_init 214 = .ok (.iconst 3, 1) := by decide +kernel
theorem dX10_init_215 : decode cX10_init 215 = .ok (.newarray .int, 2) := by decide +kernel
theorem dX10_init_217 : decode cX10_init 217 = .ok (.putfield 90, 3) := by decide +kernel
theorem dX10_init_220 : decode cX10_init 220 = .ok (.return_, 1) := by decide +kernel
theorem dX10_in_0 : decode cX10_in 0 = .ok (.lload_n 0, 1) := by decide +kernel
theorem dX10_in_1 : decode cX10_in 1 = .ok (.lload_n 2, 1) := by decide +kernel
theorem dX10_in_2 : decode cX10_in 2 = .ok (.lcmp, 1) := by decide +kernel
theorem dX10_in_3 : decode cX10_in 3 = .ok (.ifCond .lt 14, 3) := by decide +kernel
theorem dX10_in_6 : decode cX10_in 6 = .ok (.lload_n 0, 1) := by decide +kernel
theorem dX10_in_7 : decode cX10_in 7 = .ok (.lload 4, 2) := by decide +kernel
theorem dX10_in_9 : decode cX10_in 9 = .ok (.lcmp, 1) := by decide +kernel
theorem dX10_in_10 : decode cX10_in 10 = .ok (.ifCond .gt 7, 3) := by decide +kernel
theorem dX10_in_13 : decode cX10_in 13 = .ok (.iconst 1, 1) := by decide +kernel
theorem dX10_in_14 : decode cX10_in 14 = .ok (.goto 4, 3) := by decide +kernel
theorem dX10_in_17 : decode cX10_in 17 = .ok (.iconst 0, 1) := by decide +kernel
theorem dX10_in_18 : decode cX10_in 18 = .ok (.ireturn, 1) := by decide +kernel
theorem dX10_finds_0 : decode cX10_finds 0 = .ok (.aload_n 0, 1) := by decide +kernel
theorem dX10_finds_1 : decode cX10_finds 1 = .ok (.dup, 1) := by decide +kernel
theorem dX10_finds_2 : decode cX10_finds 2 = .ok (.getfield 97, 3) := by decide +kernel
theorem dX10_finds_5 : decode cX10_finds 5 = .ok (.iconst 1, 1) := by decide +kernel
theorem dX10_finds_6 : decode cX10_finds 6 = .ok (.iadd, 1) := by decide +kernel
theorem dX10_finds_7 : decode cX10_finds 7 = .ok (.putfield 97, 3) := by decide +kernel
theorem dX10_finds_10 : decode cX10_finds 10 = .ok (.iload_n 1, 1) := by decide +kernel
theorem dX10_finds_11 : decode cX10_finds 11 = .ok (.ireturn, 1) := by decide +kernel
theorem dX10_lack_0 : decode cX10_lack 0 = .ok (.iload_n 1, 1) := by decide +kernel
theorem dX10_lack_1 : decode cX10_lack 1 = .ok (.i2l, 1) := by decide +kernel
theorem dX10_lack_2 : decode cX10_lack 2 = .ok (.lconst 0, 1) := by decide +kernel
theorem dX10_lack_3 : decode cX10_lack 3 = .ok (.ldc2_w 100, 3) := by decide +kernel
theorem dX10_lack_6 : decode cX10_lack 6 = .ok (.invokestatic 102, 3) := by decide +kernel
theorem dX10_lack_9 : decode cX10_lack 9 = .ok (.ifCond .ne 8, 3) := by decide +kernel
theorem dX10_lack_12 : decode cX10_lack 12 = .ok (.bipush (-12), 2) := by decide +kernel
theorem dX10_lack_14 : decode cX10_lack 14 = .ok (.goto 18, 3) := by decide +kernel
theorem dX10_lack_17 : decode cX10_lack 17 = .ok (.aload_n 0, 1) := by decide +kernel
theorem dX10_lack_18 : decode cX10_lack 18 = .ok (.getfield 7, 3) := by decide +kernel
theorem dX10_lack_21 : decode cX10_lack 21 = .ok (.iload_n 1, 1) := by decide +kernel
theorem dX10_lack_22 : decode cX10_lack 22 = .ok (.iaload, 1) := by decide +kernel
theorem dX10_lack_23 : decode cX10_lack 23 = .ok (.ifCond .ne 8, 3) := by decide +kernel
theorem dX10_lack_26 : decode cX10_lack 26 = .ok (.bipush (-11), 2) := by decide +kernel
theorem dX10_lack_28 : decode cX10_lack 28 = .ok (.goto 4, 3) := by decide +kernel
theorem dX10_lack_31 : decode cX10_lack 31 = .ok (.iconst 0, 1) := by decide +kernel
theorem dX10_lack_32 : decode cX10_lack 32 = .ok (.ireturn, 1) := by decide +kernel
theorem dX10_noRow_0 : decode cX10_noRow 0 = .ok (.iload_n 1, 1) := by decide +kernel
theorem dX10_noRow_1 : decode cX10_noRow 1 = .ok (.i2l, 1) := by decide +kernel
theorem dX10_noRow_2 : decode cX10_noRow 2 = .ok (.lconst 0, 1) := by decide +kernel
theorem dX10_noRow_3 : decode cX10_noRow 3 = .ok (.aload_n 0, 1) := by decide +kernel
theorem dX10_noRow_4 : decode cX10_noRow 4 = .ok (.getfield 106, 3) := by decide +kernel
theorem dX10_noRow_7 : decode cX10_noRow 7 = .ok (.iconst 1, 1) := by decide +kernel
theorem dX10_noRow_8 : decode cX10_noRow 8 = .ok (.isub, 1) := by decide +kernel
theorem dX10_noRow_9 : decode cX10_noRow 9 = .ok (.i2l, 1) := by decide +kernel
theorem dX10_noRow_10 : decode cX10_noRow 10 = .ok (.invokestatic 102, 3) := by decide +kernel
theorem dX10_noRow_13 : decode cX10_noRow 13 = .ok (.ifCond .ne 7, 3) := by decide +kernel
theorem dX10_noRow_16 : decode cX10_noRow 16 = .ok (.iconst 1, 1) := by decide +kernel
theorem dX10_noRow_17 : decode cX10_noRow 17 = .ok (.goto 4, 3) := by decide +kernel
theorem dX10_noRow_20 : decode cX10_noRow 20 = .ok (.iconst 0, 1) := by decide +kernel
theorem dX10_noRow_21 : decode cX10_noRow 21 = .ok (.ireturn, 1) := by decide +kernel
theorem dX10_noLaw_0 : decode cX10_noLaw 0 = .ok (.iload_n 1, 1) := by decide +kernel
theorem dX10_noLaw_1 : decode cX10_noLaw 1 = .ok (.i2l, 1) := by decide +kernel
theorem dX10_noLaw_2 : decode cX10_noLaw 2 = .ok (.lconst 0, 1) := by decide +kernel
theorem dX10_noLaw_3 : decode cX10_noLaw 3 = .ok (.aload_n 0, 1) := by decide +kernel
theorem dX10_noLaw_4 : decode cX10_noLaw 4 = .ok (.getfield 109, 3) := by decide +kernel
theorem dX10_noLaw_7 : decode cX10_noLaw 7 = .ok (.iconst 1, 1) := by decide +kernel
theorem dX10_noLaw_8 : decode cX10_noLaw 8 = .ok (.isub, 1) := by decide +kernel
theorem dX10_noLaw_9 : decode cX10_noLaw 9 = .ok (.i2l, 1) := by decide +kernel
theorem dX10_noLaw_10 : decode cX10_noLaw 10 = .ok (.invokestatic 102, 3) := by decide +kernel
theorem dX10_noLaw_13 : decode cX10_noLaw 13 = .ok (.ifCond .ne 7, 3) := by decide +kernel
theorem dX10_noLaw_16 : decode cX10_noLaw 16 = .ok (.iconst 1, 1) := by decide +kernel
theorem dX10_noLaw_17 : decode cX10_noLaw 17 = .ok (.goto 4, 3) := by decide +kernel
theorem dX10_noLaw_20 : decode cX10_noLaw 20 = .ok (.iconst 0, 1) := by decide +kernel
theorem dX10_noLaw_21 : decode cX10_noLaw 21 = .ok (.ireturn, 1) := by decide +kernel
theorem dX10_noColumn_0 : decode cX10_noColumn 0 = .ok (.iload_n 2, 1) := by decide +kernel
theorem dX10_noColumn_1 : decode cX10_noColumn 1 = .ok (.i2l, 1) := by decide +kernel
theorem dX10_noColumn_2 : decode cX10_noColumn 2 = .ok (.lconst 0, 1) := by decide +kernel
theorem dX10_noColumn_3 : decode cX10_noColumn 3 = .ok (.aload_n 0, 1) := by decide +kernel
theorem dX10_noColumn_4 : decode cX10_noColumn 4 = .ok (.getfield 7, 3) := by decide +kernel
theorem dX10_noColumn_7 : decode cX10_noColumn 7 = .ok (.iload_n 1, 1) := by decide +kernel
theorem dX10_noColumn_8 : decode cX10_noColumn 8 = .ok (.iaload, 1) := by decide +kernel
theorem dX10_noColumn_9 : decode cX10_noColumn 9 = .ok (.iconst 1, 1) := by decide +kernel
theorem dX10_noColumn_10 : decode cX10_noColumn 10 = .ok (.isub, 1) := by decide +kernel
theorem dX10_noColumn_11 : decode cX10_noColumn 11 = .ok (.i2l, 1) := by decide +kernel
theorem dX10_noColumn_12 : decode cX10_noColumn 12 = .ok (.invokestatic 102, 3) := by decide +kernel
theorem dX10_noColumn_15 : decode cX10_noColumn 15 = .ok (.ifCond .ne 7, 3) := by decide +kernel
theorem dX10_noColumn_18 : decode cX10_noColumn 18 = .ok (.iconst 1, 1) := by decide +kernel
theorem dX10_noColumn_19 : decode cX10_noColumn 19 = .ok (.goto 4, 3) := by decide +kernel
theorem dX10_noColumn_22 : decode cX10_noColumn 22 = .ok (.iconst 0, 1) := by decide +kernel
theorem dX10_noColumn_23 : decode cX10_noColumn 23 = .ok (.ireturn, 1) := by decide +kernel
theorem dX10_table_0 : decode cX10_table 0 = .ok (.aload_n 0, 1) := by decide +kernel
theorem dX10_table_1 : decode cX10_table 1 = .ok (.iconst 0, 1) := by decide +kernel
theorem dX10_table_2 : decode cX10_table 2 = .ok (.putfield 93, 3) := by decide +kernel
theorem dX10_table_5 : decode cX10_table 5 = .ok (.iload_n 1, 1) := by decide +kernel
theorem dX10_table_6 : decode cX10_table 6 = .ok (.i2l, 1) := by decide +kernel
theorem dX10_table_7 : decode cX10_table 7 = .ok (.lconst 0, 1) := by decide +kernel
theorem dX10_table_8 : decode cX10_table 8 = .ok (.ldc2_w 100, 3) := by decide +kernel
theorem dX10_table_11 : decode cX10_table 11 = .ok (.invokestatic 102, 3) := by decide +kernel
theorem dX10_table_14 : decode cX10_table 14 = .ok (.ifCond .ne 10, 3) := by decide +kernel
theorem dX10_table_17 : decode cX10_table 17 = .ok (.aload_n 0, 1) := by decide +kernel
theorem dX10_table_18 : decode cX10_table 18 = .ok (.bipush (-12), 2) := by decide +kernel
theorem dX10_table_20 : decode cX10_table 20 = .ok (.invokevirtual 112, 3) := by decide +kernel
theorem dX10_table_23 : decode cX10_table 23 = .ok (.ireturn, 1) := by decide +kernel
theorem dX10_table_24 : decode cX10_table 24 = .ok (.iload_n 2, 1) := by decide +kernel
theorem dX10_table_25 : decode cX10_table 25 = .ok (.ifCond .ge 10, 3) := by decide +kernel
theorem dX10_table_28 : decode cX10_table 28 = .ok (.aload_n 0, 1) := by decide +kernel
theorem dX10_table_29 : decode cX10_table 29 = .ok (.bipush (-14), 2) := by decide +kernel
theorem dX10_table_31 : decode cX10_table 31 = .ok (.invokevirtual 112, 3) := by decide +kernel
theorem dX10_table_34 : decode cX10_table 34 = .ok (.ireturn, 1) := by decide +kernel
theorem dX10_table_35 : decode cX10_table 35 = .ok (.iload_n 2, 1) := by decide +kernel
theorem dX10_table_36 : decode cX10_table 36 = .ok (.ifCond .eq 13, 3) := by decide +kernel
theorem dX10_table_39 : decode cX10_table 39 = .ok (.iload_n 2, 1) := by decide +kernel
theorem dX10_table_40 : decode cX10_table 40 = .ok (.bipush 6, 2) := by decide +kernel
theorem dX10_table_42 : decode cX10_table 42 = .ok (.if_icmp .gt 7, 3) := by decide +kernel
theorem dX10_table_45 : decode cX10_table 45 = .ok (.iload_n 3, 1) := by decide +kernel
theorem dX10_table_46 : decode cX10_table 46 = .ok (.ifCond .ge 6, 3) := by decide +kernel
theorem dX10_table_49 : decode cX10_table 49 = .ok (.bipush (-2), 2) := by decide +kernel
theorem dX10_table_51 : decode cX10_table 51 = .ok (.ireturn, 1) := by decide +kernel
theorem dX10_table_52 : decode cX10_table 52 = .ok (.iload_n 3, 1) := by decide +kernel
theorem dX10_table_53 : decode cX10_table 53 = .ok (.istore 4, 2) := by decide +kernel
theorem dX10_table_55 : decode cX10_table 55 = .ok (.iconst 1, 1) := by decide +kernel
theorem dX10_table_56 : decode cX10_table 56 = .ok (.istore 5, 2) := by decide +kernel
theorem dX10_table_58 : decode cX10_table 58 = .ok (.iconst 0, 1) := by decide +kernel
theorem dX10_table_59 : decode cX10_table 59 = .ok (.istore 6, 2) := by decide +kernel
theorem dX10_table_61 : decode cX10_table 61 = .ok (.iload 6, 2) := by decide +kernel
theorem dX10_table_63 : decode cX10_table 63 = .ok (.iload_n 2, 1) := by decide +kernel
theorem dX10_table_64 : decode cX10_table 64 = .ok (.if_icmp .ge 38, 3) := by decide +kernel
theorem dX10_table_67 : decode cX10_table 67 = .ok (.iload 5, 2) := by decide +kernel
theorem dX10_table_69 : decode cX10_table 69 = .ok (.ifCond .eq 17, 3) := by decide +kernel
theorem dX10_table_72 : decode cX10_table 72 = .ok (.iload 4, 2) := by decide +kernel
theorem dX10_table_74 : decode cX10_table 74 = .ok (.bipush 10, 2) := by decide +kernel
theorem dX10_table_76 : decode cX10_table 76 = .ok (.irem, 1) := by decide +kernel
theorem dX10_table_77 : decode cX10_table 77 = .ok (.bipush 6, 2) := by decide +kernel
theorem dX10_table_79 : decode cX10_table 79 = .ok (.if_icmp .ge 7, 3) := by decide +kernel
theorem dX10_table_82 : decode cX10_table 82 = .ok (.iconst 1, 1) := by decide +kernel
theorem dX10_table_83 : decode cX10_table 83 = .ok (.goto 4, 3) := by decide +kernel
theorem dX10_table_86 : decode cX10_table 86 = .ok (.iconst 0, 1) := by decide +kernel
theorem dX10_table_87 : decode cX10_table 87 = .ok (.istore 5, 2) := by decide +kernel
theorem dX10_table_89 : decode cX10_table 89 = .ok (.iload 4, 2) := by decide +kernel
theorem dX10_table_91 : decode cX10_table 91 = .ok (.bipush 10, 2) := by decide +kernel
theorem dX10_table_93 : decode cX10_table 93 = .ok (.idiv, 1) := by decide +kernel
theorem dX10_table_94 : decode cX10_table 94 = .ok (.istore 4, 2) := by decide +kernel
theorem dX10_table_96 : decode cX10_table 96 = .ok (.iinc 6 1, 3) := by decide +kernel
theorem dX10_table_99 : decode cX10_table 99 = .ok (.goto (-38), 3) := by decide +kernel
theorem dX10_table_102 : decode cX10_table 102 = .ok (.iload 5, 2) := by decide +kernel
theorem dX10_table_104 : decode cX10_table 104 = .ok (.ifCond .eq 8, 3) := by decide +kernel
theorem dX10_table_107 : decode cX10_table 107 = .ok (.iload 4, 2) := by decide +kernel
theorem dX10_table_109 : decode cX10_table 109 = .ok (.ifCond .le 6, 3) := by decide +kernel
theorem dX10_table_112 : decode cX10_table 112 = .ok (.bipush (-2), 2) := by decide +kernel
theorem dX10_table_114 : decode cX10_table 114 = .ok (.ireturn, 1) := by decide +kernel
theorem dX10_table_115 : decode cX10_table 115 = .ok (.aload_n 0, 1) := by decide +kernel
theorem dX10_table_116 : decode cX10_table 116 = .ok (.getfield 7, 3) := by decide +kernel
theorem dX10_table_119 : decode cX10_table 119 = .ok (.iload_n 1, 1) := by decide +kernel
theorem dX10_table_120 : decode cX10_table 120 = .ok (.iaload, 1) := by decide +kernel
theorem dX10_table_121 : decode cX10_table 121 = .ok (.ifCond .le 6, 3) := by decide +kernel
theorem dX10_table_124 : decode cX10_table 124 = .ok (.bipush (-3), 2) := by decide +kernel
theorem dX10_table_126 : decode cX10_table 126 = .ok (.ireturn, 1) := by decide +kernel
theorem dX10_table_127 : decode cX10_table 127 = .ok (.aload_n 0, 1) := by decide +kernel
theorem dX10_table_128 : decode cX10_table 128 = .ok (.getfield 7, 3) := by decide +kernel
theorem dX10_table_131 : decode cX10_table 131 = .ok (.iload_n 1, 1) := by decide +kernel
theorem dX10_table_132 : decode cX10_table 132 = .ok (.iload_n 2, 1) := by decide +kernel
theorem dX10_table_133 : decode cX10_table 133 = .ok (.iastore, 1) := by decide +kernel
theorem dX10_table_134 : decode cX10_table 134 = .ok (.iload_n 3, 1) := by decide +kernel
theorem dX10_table_135 : decode cX10_table 135 = .ok (.istore 4, 2) := by decide +kernel
theorem dX10_table_137 : decode cX10_table 137 = .ok (.iconst 0, 1) := by decide +kernel
theorem dX10_table_138 : decode cX10_table 138 = .ok (.istore 6, 2) := by decide +kernel
theorem dX10_table_140 : decode cX10_table 140 = .ok (.iload 6, 2) := by decide +kernel
theorem dX10_table_142 : decode cX10_table 142 = .ok (.iload_n 2, 1) := by decide +kernel
theorem dX10_table_143 : decode cX10_table 143 = .ok (.if_icmp .ge 33, 3) := by decide +kernel
theorem dX10_table_146 : decode cX10_table 146 = .ok (.aload_n 0, 1) := by decide +kernel
theorem dX10_table_147 : decode cX10_table 147 = .ok (.getfield 13, 3) := by decide +kernel
theorem dX10_table_150 : decode cX10_table 150 = .ok (.bipush 6, 2) := by decide +kernel
theorem dX10_table_152 : decode cX10_table 152 = .ok (.iload_n 1, 1) := by decide +kernel
theorem dX10_table_153 : decode cX10_table 153 = .ok (.imul, 1) := by decide +kernel
theorem dX10_table_154 : decode cX10_table 154 = .ok (.iload 6, 2) := by decide +kernel
theorem dX10_table_156 : decode cX10_table 156 = .ok (.iadd, 1) := by decide +kernel
theorem dX10_table_157 : decode cX10_table 157 = .ok (.iload 4, 2) := by decide +kernel
theorem dX10_table_159 : decode cX10_table 159 = .ok (.bipush 10, 2) := by decide +kernel
theorem dX10_table_161 : decode cX10_table 161 = .ok (.irem, 1) := by decide +kernel
theorem dX10_table_162 : decode cX10_table 162 = .ok (.iastore, 1) := by decide +kernel
theorem dX10_table_163 : decode cX10_table 163 = .ok (.iload 4, 2) := by decide +kernel
theorem dX10_table_165 : decode cX10_table 165 = .ok (.bipush 10, 2) := by decide +kernel
theorem dX10_table_167 : decode cX10_table 167 = .ok (.idiv, 1) := by decide +kernel
theorem dX10_table_168 : decode cX10_table 168 = .ok (.istore 4, 2) := by decide +kernel
theorem dX10_table_170 : decode cX10_table 170 = .ok (.iinc 6 1, 3) := by decide +kernel
theorem dX10_table_173 : decode cX10_table 173 = .ok (.goto (-33), 3) := by decide +kernel
theorem dX10_table_176 : decode cX10_table 176 = .ok (.iload_n 2, 1) := by decide +kernel
theorem dX10_table_177 : decode cX10_table 177 = .ok (.ireturn, 1) := by decide +kernel
theorem dX10_row_0 : decode cX10_row 0 = .ok (.aload_n 0, 1) := by decide +kernel
theorem dX10_row_1 : decode cX10_row 1 = .ok (.iconst 0, 1) := by decide +kernel
theorem dX10_row_2 : decode cX10_row 2 = .ok (.putfield 93, 3) := by decide +kernel
theorem dX10_row_5 : decode cX10_row 5 = .ok (.aload_n 0, 1) := by decide +kernel
theorem dX10_row_6 : decode cX10_row 6 = .ok (.iload_n 1, 1) := by decide +kernel
theorem dX10_row_7 : decode cX10_row 7 = .ok (.invokevirtual 116, 3) := by decide +kernel
theorem dX10_row_10 : decode cX10_row 10 = .ok (.ifCond .eq 13, 3) := by decide +kernel
theorem dX10_row_13 : decode cX10_row 13 = .ok (.aload_n 0, 1) := by decide +kernel
theorem dX10_row_14 : decode cX10_row 14 = .ok (.aload_n 0, 1) := by decide +kernel
theorem dX10_row_15 : decode cX10_row 15 = .ok (.iload_n 1, 1) := by decide +kernel
theorem dX10_row_16 : decode cX10_row 16 = .ok (.invokevirtual 116, 3) := by decide +kernel
theorem dX10_row_19 : decode cX10_row 19 = .ok (.invokevirtual 112, 3) := by decide +kernel
theorem dX10_row_22 : decode cX10_row 22 = .ok (.ireturn, 1) := by decide +kernel
theorem dX10_row_23 : decode cX10_row 23 = .ok (.iload_n 2, 1) := by decide +kernel
theorem dX10_row_24 : decode cX10_row 24 = .ok (.i2l, 1) := by decide +kernel
theorem dX10_row_25 : decode cX10_row 25 = .ok (.lconst 1, 1) := by decide +kernel
theorem dX10_row_26 : decode cX10_row 26 = .ok (.ldc2_w 119, 3) := by decide +kernel
theorem dX10_row_29 : decode cX10_row 29 = .ok (.invokestatic 102, 3) := by decide +kernel
theorem dX10_row_32 : decode cX10_row 32 = .ok (.ifCond .ne 6, 3) := by decide +kernel
theorem dX10_row_35 : decode cX10_row 35 = .ok (.bipush (-2), 2) := by decide +kernel
theorem dX10_row_37 : decode cX10_row 37 = .ok (.ireturn, 1) := by decide +kernel
theorem dX10_row_38 : decode cX10_row 38 = .ok (.aload_n 0, 1) := by decide +kernel
theorem dX10_row_39 : decode cX10_row 39 = .ok (.getfield 106, 3) := by decide +kernel
theorem dX10_row_42 : decode cX10_row 42 = .ok (.bipush 12, 2) := by decide +kernel
theorem dX10_row_44 : decode cX10_row 44 = .ok (.if_icmp .ne 6, 3) := by decide +kernel
theorem dX10_row_47 : decode cX10_row 47 = .ok (.bipush (-4), 2) := by decide +kernel
theorem dX10_row_49 : decode cX10_row 49 = .ok (.ireturn, 1) := by decide +kernel
theorem dX10_row_50 : decode cX10_row 50 = .ok (.aload_n 0, 1) := by decide +kernel
theorem dX10_row_51 : decode cX10_row 51 = .ok (.getfield 16, 3) := by decide +kernel
theorem dX10_row_54 : decode cX10_row 54 = .ok (.aload_n 0, 1) := by decide +kernel
theorem dX10_row_55 : decode cX10_row 55 = .ok (.getfield 106, 3) := by decide +kernel
theorem dX10_row_58 : decode cX10_row 58 = .ok (.iload_n 1, 1) := by decide +kernel
theorem dX10_row_59 : decode cX10_row 59 = .ok (.iastore, 1) := by decide +kernel
theorem dX10_row_60 : decode cX10_row 60 = .ok (.aload_n 0, 1) := by decide +kernel
theorem dX10_row_61 : decode cX10_row 61 = .ok (.getfield 19, 3) := by decide +kernel
theorem dX10_row_64 : decode cX10_row 64 = .ok (.aload_n 0, 1) := by decide +kernel
theorem dX10_row_65 : decode cX10_row 65 = .ok (.getfield 106, 3) := by decide +kernel
theorem dX10_row_68 : decode cX10_row 68 = .ok (.iload_n 2, 1) := by decide +kernel
theorem dX10_row_69 : decode cX10_row 69 = .ok (.iastore, 1) := by decide +kernel
theorem dX10_row_70 : decode cX10_row 70 = .ok (.aload_n 0, 1) := by decide +kernel
theorem dX10_row_71 : decode cX10_row 71 = .ok (.getfield 22, 3) := by decide +kernel
theorem dX10_row_74 : decode cX10_row 74 = .ok (.aload_n 0, 1) := by decide +kernel
theorem dX10_row_75 : decode cX10_row 75 = .ok (.getfield 106, 3) := by decide +kernel
theorem dX10_row_78 : decode cX10_row 78 = .ok (.iconst 1, 1) := by decide +kernel
theorem dX10_row_79 : decode cX10_row 79 = .ok (.bastore, 1) := by decide +kernel
theorem dX10_row_80 : decode cX10_row 80 = .ok (.aload_n 0, 1) := by decide +kernel
theorem dX10_row_81 : decode cX10_row 81 = .ok (.dup, 1) := by decide +kernel
theorem dX10_row_82 : decode cX10_row 82 = .ok (.getfield 106, 3) := by decide +kernel
theorem dX10_row_85 : decode cX10_row 85 = .ok (.iconst 1, 1) := by decide +kernel
theorem dX10_row_86 : decode cX10_row 86 = .ok (.iadd, 1) := by decide +kernel
theorem dX10_row_87 : decode cX10_row 87 = .ok (.putfield 106, 3) := by decide +kernel
theorem dX10_row_90 : decode cX10_row 90 = .ok (.aload_n 0, 1) := by decide +kernel
theorem dX10_row_91 : decode cX10_row 91 = .ok (.iconst 0, 1) := by decide +kernel
theorem dX10_row_92 : decode cX10_row 92 = .ok (.putfield 121, 3) := by decide +kernel
theorem dX10_row_95 : decode cX10_row 95 = .ok (.aload_n 0, 1) := by decide +kernel
theorem dX10_row_96 : decode cX10_row 96 = .ok (.getfield 106, 3) := by decide +kernel
theorem dX10_row_99 : decode cX10_row 99 = .ok (.iconst 1, 1) := by decide +kernel
theorem dX10_row_100 : decode cX10_row 100 = .ok (.isub, 1) := by decide +kernel
theorem dX10_row_101 : decode cX10_row 101 = .ok (.ireturn, 1) := by decide +kernel
theorem dX10_lies_0 : decode cX10_lies 0 = .ok (.iload_n 0, 1) := by decide +kernel
theorem dX10_lies_1 : decode cX10_lies 1 = .ok (.tableswitch 56 0 4 #[35, 40, 45, 50, 54], 35) := by decide +kernel
theorem dX10_lies_36 : decode cX10_lies 36 = .ok (.lload_n 1, 1) := by decide +kernel
theorem dX10_lies_37 : decode cX10_lies 37 = .ok (.l2i, 1) := by decide +kernel
theorem dX10_lies_38 : decode cX10_lies 38 = .ok (.i2b, 1) := by decide +kernel
theorem dX10_lies_39 : decode cX10_lies 39 = .ok (.i2l, 1) := by decide +kernel
theorem dX10_lies_40 : decode cX10_lies 40 = .ok (.lreturn, 1) := by decide +kernel
theorem dX10_lies_41 : decode cX10_lies 41 = .ok (.lload_n 1, 1) := by decide +kernel
theorem dX10_lies_42 : decode cX10_lies 42 = .ok (.l2i, 1) := by decide +kernel
theorem dX10_lies_43 : decode cX10_lies 43 = .ok (.i2s, 1) := by decide +kernel
theorem dX10_lies_44 : decode cX10_lies 44 = .ok (.i2l, 1) := by decide +kernel
theorem dX10_lies_45 : decode cX10_lies 45 = .ok (.lreturn, 1) := by decide +kernel
theorem dX10_lies_46 : decode cX10_lies 46 = .ok (.lload_n 1, 1) := by decide +kernel
theorem dX10_lies_47 : decode cX10_lies 47 = .ok (.l2i, 1) := by decide +kernel
theorem dX10_lies_48 : decode cX10_lies 48 = .ok (.i2c, 1) := by decide +kernel
theorem dX10_lies_49 : decode cX10_lies 49 = .ok (.i2l, 1) := by decide +kernel
theorem dX10_lies_50 : decode cX10_lies 50 = .ok (.lreturn, 1) := by decide +kernel
theorem dX10_lies_51 : decode cX10_lies 51 = .ok (.lload_n 1, 1) := by decide +kernel
theorem dX10_lies_52 : decode cX10_lies 52 = .ok (.l2i, 1) := by decide +kernel
theorem dX10_lies_53 : decode cX10_lies 53 = .ok (.i2l, 1) := by decide +kernel
theorem dX10_lies_54 : decode cX10_lies 54 = .ok (.lreturn, 1) := by decide +kernel
theorem dX10_lies_55 : decode cX10_lies 55 = .ok (.lload_n 1, 1) := by decide +kernel
theorem dX10_lies_56 : decode cX10_lies 56 = .ok (.lreturn, 1) := by decide +kernel
theorem dX10_lies_57 : decode cX10_lies 57 = .ok (.lload_n 1, 1) := by decide +kernel
theorem dX10_lies_58 : decode cX10_lies 58 = .ok (.l2d, 1) := by decide +kernel
theorem dX10_lies_59 : decode cX10_lies 59 = .ok (.d2l, 1) := by decide +kernel
theorem dX10_lies_60 : decode cX10_lies 60 = .ok (.lreturn, 1) := by decide +kernel
theorem dX10_put_0 : decode cX10_put 0 = .ok (.aload_n 0, 1) := by decide +kernel
theorem dX10_put_1 : decode cX10_put 1 = .ok (.iconst 0, 1) := by decide +kernel
theorem dX10_put_2 : decode cX10_put 2 = .ok (.putfield 93, 3) := by decide +kernel
theorem dX10_put_5 : decode cX10_put 5 = .ok (.aload_n 0, 1) := by decide +kernel
theorem dX10_put_6 : decode cX10_put 6 = .ok (.iload_n 1, 1) := by decide +kernel
theorem dX10_put_7 : decode cX10_put 7 = .ok (.invokevirtual 125, 3) := by decide +kernel
theorem dX10_put_10 : decode cX10_put 10 = .ok (.ifCond .eq 5, 3) := by decide +kernel
theorem dX10_put_13 : decode cX10_put 13 = .ok (.iconst (-1), 1) := by decide +kernel
theorem dX10_put_14 : decode cX10_put 14 = .ok (.ireturn, 1) := by decide +kernel
theorem dX10_put_15 : decode cX10_put 15 = .ok (.aload_n 0, 1) := by decide +kernel
theorem dX10_put_16 : decode cX10_put 16 = .ok (.aload_n 0, 1) := by decide +kernel
theorem dX10_put_17 : decode cX10_put 17 = .ok (.getfield 16, 3) := by decide +kernel
theorem dX10_put_20 : decode cX10_put 20 = .ok (.iload_n 1, 1) := by decide +kernel
theorem dX10_put_21 : decode cX10_put 21 = .ok (.iaload, 1) := by decide +kernel
theorem dX10_put_22 : decode cX10_put 22 = .ok (.iload_n 2, 1) := by decide +kernel
theorem dX10_put_23 : decode cX10_put 23 = .ok (.invokevirtual 129, 3) := by decide +kernel
theorem dX10_put_26 : decode cX10_put 26 = .ok (.ifCond .eq 10, 3) := by decide +kernel
theorem dX10_put_29 : decode cX10_put 29 = .ok (.aload_n 0, 1) := by decide +kernel
theorem dX10_put_30 : decode cX10_put 30 = .ok (.bipush (-12), 2) := by decide +kernel
theorem dX10_put_32 : decode cX10_put 32 = .ok (.invokevirtual 112, 3) := by decide +kernel
theorem dX10_put_35 : decode cX10_put 35 = .ok (.ireturn, 1) := by decide +kernel
theorem dX10_put_36 : decode cX10_put 36 = .ok (.aload_n 0, 1) := by decide +kernel
theorem dX10_put_37 : decode cX10_put 37 = .ok (.getfield 29, 3) := by decide +kernel
theorem dX10_put_40 : decode cX10_put 40 = .ok (.bipush 6, 2) := by decide +kernel
theorem dX10_put_42 : decode cX10_put 42 = .ok (.iload_n 1, 1) := by decide +kernel
theorem dX10_put_43 : decode cX10_put 43 = .ok (.imul, 1) := by decide +kernel
theorem dX10_put_44 : decode cX10_put 44 = .ok (.iload_n 2, 1) := by decide +kernel
theorem dX10_put_45 : decode cX10_put 45 = .ok (.iadd, 1) := by decide +kernel
theorem dX10_put_46 : decode cX10_put 46 = .ok (.aload_n 0, 1) := by decide +kernel
theorem dX10_put_47 : decode cX10_put 47 = .ok (.getfield 13, 3) := by decide +kernel
theorem dX10_put_50 : decode cX10_put 50 = .ok (.bipush 6, 2) := by decide +kernel
theorem dX10_put_52 : decode cX10_put 52 = .ok (.aload_n 0, 1) := by decide +kernel
theorem dX10_put_53 : decode cX10_put 53 = .ok (.getfield 16, 3) := by decide +kernel
theorem dX10_put_56 : decode cX10_put 56 = .ok (.iload_n 1, 1) := by decide +kernel
theorem dX10_put_57 : decode cX10_put 57 = .ok (.iaload, 1) := by decide +kernel
theorem dX10_put_58 : decode cX10_put 58 = .ok (.imul, 1) := by decide +kernel
theorem dX10_put_59 : decode cX10_put 59 = .ok (.iload_n 2, 1) := by decide +kernel
theorem dX10_put_60 : decode cX10_put 60 = .ok (.iadd, 1) := by decide +kernel
theorem dX10_put_61 : decode cX10_put 61 = .ok (.iaload, 1) := by decide +kernel
theorem dX10_put_62 : decode cX10_put 62 = .ok (.lload_n 3, 1) := by decide +kernel
theorem dX10_put_63 : decode cX10_put 63 = .ok (.invokestatic 133, 3) := by decide +kernel
theorem dX10_put_66 : decode cX10_put 66 = .ok (.lastore, 1) := by decide +kernel
theorem dX10_put_67 : decode cX10_put 67 = .ok (.aload_n 0, 1) := by decide +kernel
theorem dX10_put_68 : decode cX10_put 68 = .ok (.getfield 26, 3) := by decide +kernel
theorem dX10_put_71 : decode cX10_put 71 = .ok (.bipush 6, 2) := by decide +kernel
theorem dX10_put_73 : decode cX10_put 73 = .ok (.iload_n 1, 1) := by decide +kernel
theorem dX10_put_74 : decode cX10_put 74 = .ok (.imul, 1) := by decide +kernel
theorem dX10_put_75 : decode cX10_put 75 = .ok (.iload_n 2, 1) := by decide +kernel
theorem dX10_put_76 : decode cX10_put 76 = .ok (.iadd, 1) := by decide +kernel
theorem dX10_put_77 : decode cX10_put 77 = .ok (.iconst 1, 1) := by decide +kernel
theorem dX10_put_78 : decode cX10_put 78 = .ok (.bastore, 1) := by decide +kernel
theorem dX10_put_79 : decode cX10_put 79 = .ok (.aload_n 0, 1) := by decide +kernel
theorem dX10_put_80 : decode cX10_put 80 = .ok (.iconst 0, 1) := by decide +kernel
theorem dX10_put_81 : decode cX10_put 81 = .ok (.putfield 121, 3) := by decide +kernel
theorem dX10_put_84 : decode cX10_put 84 = .ok (.iconst 1, 1) := by decide +kernel
theorem dX10_put_85 : decode cX10_put 85 = .ok (.ireturn, 1) := by decide +kernel
theorem dX10_miss_0 : decode cX10_miss 0 = .ok (.aload_n 0, 1) := by decide +kernel
theorem dX10_miss_1 : decode cX10_miss 1 = .ok (.iconst 0, 1) := by decide +kernel
theorem dX10_miss_2 : decode cX10_miss 2 = .ok (.putfield 93, 3) := by decide +kernel
theorem dX10_miss_5 : decode cX10_miss 5 = .ok (.aload_n 0, 1) := by decide +kernel
theorem dX10_miss_6 : decode cX10_miss 6 = .ok (.iload_n 1, 1) := by decide +kernel
theorem dX10_miss_7 : decode cX10_miss 7 = .ok (.invokevirtual 125, 3) := by decide +kernel
theorem dX10_miss_10 : decode cX10_miss 10 = .ok (.ifCond .eq 5, 3) := by decide +kernel
theorem dX10_miss_13 : decode cX10_miss 13 = .ok (.iconst (-1), 1) := by decide +kernel
theorem dX10_miss_14 : decode cX10_miss 14 = .ok (.ireturn, 1) := by decide +kernel
theorem dX10_miss_15 : decode cX10_miss 15 = .ok (.aload_n 0, 1) := by decide +kernel
theorem dX10_miss_16 : decode cX10_miss 16 = .ok (.aload_n 0, 1) := by decide +kernel
theorem dX10_miss_17 : decode cX10_miss 17 = .ok (.getfield 16, 3) := by decide +kernel
theorem dX10_miss_20 : decode cX10_miss 20 = .ok (.iload_n 1, 1) := by decide +kernel
theorem dX10_miss_21 : decode cX10_miss 21 = .ok (.iaload, 1) := by decide +kernel
theorem dX10_miss_22 : decode cX10_miss 22 = .ok (.iload_n 2, 1) := by decide +kernel
theorem dX10_miss_23 : decode cX10_miss 23 = .ok (.invokevirtual 129, 3) := by decide +kernel
theorem dX10_miss_26 : decode cX10_miss 26 = .ok (.ifCond .eq 10, 3) := by decide +kernel
theorem dX10_miss_29 : decode cX10_miss 29 = .ok (.aload_n 0, 1) := by decide +kernel
theorem dX10_miss_30 : decode cX10_miss 30 = .ok (.bipush (-12), 2) := by decide +kernel
theorem dX10_miss_32 : decode cX10_miss 32 = .ok (.invokevirtual 112, 3) := by decide +kernel
theorem dX10_miss_35 : decode cX10_miss 35 = .ok (.ireturn, 1) := by decide +kernel
theorem dX10_miss_36 : decode cX10_miss 36 = .ok (.aload_n 0, 1) := by decide +kernel
theorem dX10_miss_37 : decode cX10_miss 37 = .ok (.getfield 26, 3) := by decide +kernel
theorem dX10_miss_40 : decode cX10_miss 40 = .ok (.bipush 6, 2) := by decide +kernel
theorem dX10_miss_42 : decode cX10_miss 42 = .ok (.iload_n 1, 1) := by decide +kernel
theorem dX10_miss_43 : decode cX10_miss 43 = .ok (.imul, 1) := by decide +kernel
theorem dX10_miss_44 : decode cX10_miss 44 = .ok (.iload_n 2, 1) := by decide +kernel
theorem dX10_miss_45 : decode cX10_miss 45 = .ok (.iadd, 1) := by decide +kernel
theorem dX10_miss_46 : decode cX10_miss 46 = .ok (.baload, 1) := by decide +kernel
theorem dX10_miss_47 : decode cX10_miss 47 = .ok (.ifCond .eq 7, 3) := by decide +kernel
theorem dX10_miss_50 : decode cX10_miss 50 = .ok (.iconst 0, 1) := by decide +kernel
theorem dX10_miss_51 : decode cX10_miss 51 = .ok (.goto 4, 3) := by decide +kernel
theorem dX10_miss_54 : decode cX10_miss 54 = .ok (.iconst 1, 1) := by decide +kernel
theorem dX10_miss_55 : decode cX10_miss 55 = .ok (.istore_n 3, 1) := by decide +kernel
theorem dX10_miss_56 : decode cX10_miss 56 = .ok (.aload_n 0, 1) := by decide +kernel
theorem dX10_miss_57 : decode cX10_miss 57 = .ok (.getfield 26, 3) := by decide +kernel
theorem dX10_miss_60 : decode cX10_miss 60 = .ok (.bipush 6, 2) := by decide +kernel
theorem dX10_miss_62 : decode cX10_miss 62 = .ok (.iload_n 1, 1) := by decide +kernel
theorem dX10_miss_63 : decode cX10_miss 63 = .ok (.imul, 1) := by decide +kernel
theorem dX10_miss_64 : decode cX10_miss 64 = .ok (.iload_n 2, 1) := by decide +kernel
theorem dX10_miss_65 : decode cX10_miss 65 = .ok (.iadd, 1) := by decide +kernel
theorem dX10_miss_66 : decode cX10_miss 66 = .ok (.iconst 0, 1) := by decide +kernel
theorem dX10_miss_67 : decode cX10_miss 67 = .ok (.bastore, 1) := by decide +kernel
theorem dX10_miss_68 : decode cX10_miss 68 = .ok (.aload_n 0, 1) := by decide +kernel
theorem dX10_miss_69 : decode cX10_miss 69 = .ok (.getfield 29, 3) := by decide +kernel
theorem dX10_miss_72 : decode cX10_miss 72 = .ok (.bipush 6, 2) := by decide +kernel
theorem dX10_miss_74 : decode cX10_miss 74 = .ok (.iload_n 1, 1) := by decide +kernel
theorem dX10_miss_75 : decode cX10_miss 75 = .ok (.imul, 1) := by decide +kernel
theorem dX10_miss_76 : decode cX10_miss 76 = .ok (.iload_n 2, 1) := by decide +kernel
theorem dX10_miss_77 : decode cX10_miss 77 = .ok (.iadd, 1) := by decide +kernel
theorem dX10_miss_78 : decode cX10_miss 78 = .ok (.lconst 0, 1) := by decide +kernel
theorem dX10_miss_79 : decode cX10_miss 79 = .ok (.lastore, 1) := by decide +kernel
theorem dX10_miss_80 : decode cX10_miss 80 = .ok (.aload_n 0, 1) := by decide +kernel
theorem dX10_miss_81 : decode cX10_miss 81 = .ok (.iconst 0, 1) := by decide +kernel
theorem dX10_miss_82 : decode cX10_miss 82 = .ok (.putfield 121, 3) := by decide +kernel
theorem dX10_miss_85 : decode cX10_miss 85 = .ok (.iload_n 3, 1) := by decide +kernel
theorem dX10_miss_86 : decode cX10_miss 86 = .ok (.ireturn, 1) := by decide +kernel
theorem dX10_has_0 : decode cX10_has 0 = .ok (.aload_n 0, 1) := by decide +kernel
theorem dX10_has_1 : decode cX10_has 1 = .ok (.iconst 0, 1) := by decide +kernel
theorem dX10_has_2 : decode cX10_has 2 = .ok (.putfield 93, 3) := by decide +kernel
theorem dX10_has_5 : decode cX10_has 5 = .ok (.aload_n 0, 1) := by decide +kernel
theorem dX10_has_6 : decode cX10_has 6 = .ok (.iload_n 1, 1) := by decide +kernel
theorem dX10_has_7 : decode cX10_has 7 = .ok (.invokevirtual 125, 3) := by decide +kernel
theorem dX10_has_10 : decode cX10_has 10 = .ok (.ifCond .eq 5, 3) := by decide +kernel
theorem dX10_has_13 : decode cX10_has 13 = .ok (.iconst (-1), 1) := by decide +kernel
theorem dX10_has_14 : decode cX10_has 14 = .ok (.ireturn, 1) := by decide +kernel
theorem dX10_has_15 : decode cX10_has 15 = .ok (.aload_n 0, 1) := by decide +kernel
theorem dX10_has_16 : decode cX10_has 16 = .ok (.aload_n 0, 1) := by decide +kernel
theorem dX10_has_17 : decode cX10_has 17 = .ok (.getfield 16, 3) := by decide +kernel
theorem dX10_has_20 : decode cX10_has 20 = .ok (.iload_n 1, 1) := by decide +kernel
theorem dX10_has_21 : decode cX10_has 21 = .ok (.iaload, 1) := by decide +kernel
theorem dX10_has_22 : decode cX10_has 22 = .ok (.iload_n 2, 1) := by decide +kernel
theorem dX10_has_23 : decode cX10_has 23 = .ok (.invokevirtual 129, 3) := by decide +kernel
theorem dX10_has_26 : decode cX10_has 26 = .ok (.ifCond .eq 12, 3) := by decide +kernel
theorem dX10_has_29 : decode cX10_has 29 = .ok (.aload_n 0, 1) := by decide +kernel
theorem dX10_has_30 : decode cX10_has 30 = .ok (.bipush (-12), 2) := by decide +kernel
theorem dX10_has_32 : decode cX10_has 32 = .ok (.invokevirtual 112, 3) := by decide +kernel
theorem dX10_has_35 : decode cX10_has 35 = .ok (.goto 22, 3) := by decide +kernel
theorem dX10_has_38 : decode cX10_has 38 = .ok (.aload_n 0, 1) := by decide +kernel
theorem dX10_has_39 : decode cX10_has 39 = .ok (.getfield 26, 3) := by decide +kernel
theorem dX10_has_42 : decode cX10_has 42 = .ok (.bipush 6, 2) := by decide +kernel
theorem dX10_has_44 : decode cX10_has 44 = .ok (.iload_n 1, 1) := by decide +kernel
theorem dX10_has_45 : decode cX10_has 45 = .ok (.imul, 1) := by decide +kernel
theorem dX10_has_46 : decode cX10_has 46 = .ok (.iload_n 2, 1) := by decide +kernel
theorem dX10_has_47 : decode cX10_has 47 = .ok (.iadd, 1) := by decide +kernel
theorem dX10_has_48 : decode cX10_has 48 = .ok (.baload, 1) := by decide +kernel
theorem dX10_has_49 : decode cX10_has 49 = .ok (.ifCond .eq 7, 3) := by decide +kernel
theorem dX10_has_52 : decode cX10_has 52 = .ok (.iconst 1, 1) := by decide +kernel
theorem dX10_has_53 : decode cX10_has 53 = .ok (.goto 4, 3) := by decide +kernel
theorem dX10_has_56 : decode cX10_has 56 = .ok (.iconst 0, 1) := by decide +kernel
theorem dX10_has_57 : decode cX10_has 57 = .ok (.ireturn, 1) := by decide +kernel
theorem dX10_cell_0 : decode cX10_cell 0 = .ok (.aload_n 0, 1) := by decide +kernel
theorem dX10_cell_1 : decode cX10_cell 1 = .ok (.iconst 0, 1) := by decide +kernel
theorem dX10_cell_2 : decode cX10_cell 2 = .ok (.putfield 93, 3) := by decide +kernel
theorem dX10_cell_5 : decode cX10_cell 5 = .ok (.aload_n 0, 1) := by decide +kernel
theorem dX10_cell_6 : decode cX10_cell 6 = .ok (.iload_n 1, 1) := by decide +kernel
theorem dX10_cell_7 : decode cX10_cell 7 = .ok (.invokevirtual 125, 3) := by decide +kernel
theorem dX10_cell_10 : decode cX10_cell 10 = .ok (.ifCond .eq 7, 3) := by decide +kernel
theorem dX10_cell_13 : decode cX10_cell 13 = .ok (.ldc2_w 137, 3) := by decide +kernel
theorem dX10_cell_16 : decode cX10_cell 16 = .ok (.lreturn, 1) := by decide +kernel
theorem dX10_cell_17 : decode cX10_cell 17 = .ok (.aload_n 0, 1) := by decide +kernel
theorem dX10_cell_18 : decode cX10_cell 18 = .ok (.aload_n 0, 1) := by decide +kernel
theorem dX10_cell_19 : decode cX10_cell 19 = .ok (.getfield 16, 3) := by decide +kernel
theorem dX10_cell_22 : decode cX10_cell 22 = .ok (.iload_n 1, 1) := by decide +kernel
theorem dX10_cell_23 : decode cX10_cell 23 = .ok (.iaload, 1) := by decide +kernel
theorem dX10_cell_24 : decode cX10_cell 24 = .ok (.iload_n 2, 1) := by decide +kernel
theorem dX10_cell_25 : decode cX10_cell 25 = .ok (.invokevirtual 129, 3) := by decide +kernel
theorem dX10_cell_28 : decode cX10_cell 28 = .ok (.ifCond .eq 13, 3) := by decide +kernel
theorem dX10_cell_31 : decode cX10_cell 31 = .ok (.aload_n 0, 1) := by decide +kernel
theorem dX10_cell_32 : decode cX10_cell 32 = .ok (.bipush (-12), 2) := by decide +kernel
theorem dX10_cell_34 : decode cX10_cell 34 = .ok (.invokevirtual 112, 3) := by decide +kernel
theorem dX10_cell_37 : decode cX10_cell 37 = .ok (.i2l, 1) := by decide +kernel
theorem dX10_cell_38 : decode cX10_cell 38 = .ok (.goto 32, 3) := by decide +kernel
theorem dX10_cell_41 : decode cX10_cell 41 = .ok (.aload_n 0, 1) := by decide +kernel
theorem dX10_cell_42 : decode cX10_cell 42 = .ok (.getfield 26, 3) := by decide +kernel
theorem dX10_cell_45 : decode cX10_cell 45 = .ok (.bipush 6, 2) := by decide +kernel
theorem dX10_cell_47 : decode cX10_cell 47 = .ok (.iload_n 1, 1) := by decide +kernel
theorem dX10_cell_48 : decode cX10_cell 48 = .ok (.imul, 1) := by decide +kernel
theorem dX10_cell_49 : decode cX10_cell 49 = .ok (.iload_n 2, 1) := by decide +kernel
theorem dX10_cell_50 : decode cX10_cell 50 = .ok (.iadd, 1) := by decide +kernel
theorem dX10_cell_51 : decode cX10_cell 51 = .ok (.baload, 1) := by decide +kernel
theorem dX10_cell_52 : decode cX10_cell 52 = .ok (.ifCond .eq 17, 3) := by decide +kernel
theorem dX10_cell_55 : decode cX10_cell 55 = .ok (.aload_n 0, 1) := by decide +kernel
theorem dX10_cell_56 : decode cX10_cell 56 = .ok (.getfield 29, 3) := by decide +kernel
theorem dX10_cell_59 : decode cX10_cell 59 = .ok (.bipush 6, 2) := by decide +kernel
theorem dX10_cell_61 : decode cX10_cell 61 = .ok (.iload_n 1, 1) := by decide +kernel
theorem dX10_cell_62 : decode cX10_cell 62 = .ok (.imul, 1) := by decide +kernel
theorem dX10_cell_63 : decode cX10_cell 63 = .ok (.iload_n 2, 1) := by decide +kernel
theorem dX10_cell_64 : decode cX10_cell 64 = .ok (.iadd, 1) := by decide +kernel
theorem dX10_cell_65 : decode cX10_cell 65 = .ok (.laload, 1) := by decide +kernel
theorem dX10_cell_66 : decode cX10_cell 66 = .ok (.goto 4, 3) := by decide +kernel
theorem dX10_cell_69 : decode cX10_cell 69 = .ok (.lconst 0, 1) := by decide +kernel
theorem dX10_cell_70 : decode cX10_cell 70 = .ok (.lreturn, 1) := by decide +kernel
theorem dX10_column_0 : decode cX10_column 0 = .ok (.aload_n 0, 1) := by decide +kernel
theorem dX10_column_1 : decode cX10_column 1 = .ok (.iconst 0, 1) := by decide +kernel
theorem dX10_column_2 : decode cX10_column 2 = .ok (.putfield 93, 3) := by decide +kernel
theorem dX10_column_5 : decode cX10_column 5 = .ok (.aload_n 0, 1) := by decide +kernel
theorem dX10_column_6 : decode cX10_column 6 = .ok (.iload_n 1, 1) := by decide +kernel
theorem dX10_column_7 : decode cX10_column 7 = .ok (.invokevirtual 116, 3) := by decide +kernel
theorem dX10_column_10 : decode cX10_column 10 = .ok (.ifCond .eq 13, 3) := by decide +kernel
theorem dX10_column_13 : decode cX10_column 13 = .ok (.aload_n 0, 1) := by decide +kernel
theorem dX10_column_14 : decode cX10_column 14 = .ok (.aload_n 0, 1) := by decide +kernel
theorem dX10_column_15 : decode cX10_column 15 = .ok (.iload_n 1, 1) := by decide +kernel
theorem dX10_column_16 : decode cX10_column 16 = .ok (.invokevirtual 116, 3) := by decide +kernel
theorem dX10_column_19 : decode cX10_column 19 = .ok (.invokevirtual 112, 3) := by decide +kernel
theorem dX10_column_22 : decode cX10_column 22 = .ok (.ireturn, 1) := by decide +kernel
theorem dX10_column_23 : decode cX10_column 23 = .ok (.iload_n 3, 1) := by decide +kernel
theorem dX10_column_24 : decode cX10_column 24 = .ok (.i2l, 1) := by decide +kernel
theorem dX10_column_25 : decode cX10_column 25 = .ok (.lconst 0, 1) := by decide +kernel
theorem dX10_column_26 : decode cX10_column 26 = .ok (.ldc2_w 139, 3) := by decide +kernel
theorem dX10_column_29 : decode cX10_column 29 = .ok (.invokestatic 102, 3) := by decide +kernel
theorem dX10_column_32 : decode cX10_column 32 = .ok (.ifCond .ne 6, 3) := by decide +kernel
theorem dX10_column_35 : decode cX10_column 35 = .ok (.bipush (-2), 2) := by decide +kernel
theorem dX10_column_37 : decode cX10_column 37 = .ok (.ireturn, 1) := by decide +kernel
theorem dX10_column_38 : decode cX10_column 38 = .ok (.aload_n 0, 1) := by decide +kernel
theorem dX10_column_39 : decode cX10_column 39 = .ok (.iload_n 1, 1) := by decide +kernel
theorem dX10_column_40 : decode cX10_column 40 = .ok (.iload_n 2, 1) := by decide +kernel
theorem dX10_column_41 : decode cX10_column 41 = .ok (.invokevirtual 129, 3) := by decide +kernel
theorem dX10_column_44 : decode cX10_column 44 = .ok (.ifCond .eq 10, 3) := by decide +kernel
theorem dX10_column_47 : decode cX10_column 47 = .ok (.aload_n 0, 1) := by decide +kernel
theorem dX10_column_48 : decode cX10_column 48 = .ok (.bipush (-12), 2) := by decide +kernel
theorem dX10_column_50 : decode cX10_column 50 = .ok (.invokevirtual 112, 3) := by decide +kernel
theorem dX10_column_53 : decode cX10_column 53 = .ok (.ireturn, 1) := by decide +kernel
theorem dX10_column_54 : decode cX10_column 54 = .ok (.aload_n 0, 1) := by decide +kernel
theorem dX10_column_55 : decode cX10_column 55 = .ok (.getfield 13, 3) := by decide +kernel
theorem dX10_column_58 : decode cX10_column 58 = .ok (.bipush 6, 2) := by decide +kernel
theorem dX10_column_60 : decode cX10_column 60 = .ok (.iload_n 1, 1) := by decide +kernel
theorem dX10_column_61 : decode cX10_column 61 = .ok (.imul, 1) := by decide +kernel
theorem dX10_column_62 : decode cX10_column 62 = .ok (.iload_n 2, 1) := by decide +kernel
theorem dX10_column_63 : decode cX10_column 63 = .ok (.iadd, 1) := by decide +kernel
theorem dX10_column_64 : decode cX10_column 64 = .ok (.iaload, 1) := by decide +kernel
theorem dX10_column_65 : decode cX10_column 65 = .ok (.iload_n 3, 1) := by decide +kernel
theorem dX10_column_66 : decode cX10_column 66 = .ok (.if_icmp .eq 10, 3) := by decide +kernel
theorem dX10_column_69 : decode cX10_column 69 = .ok (.aload_n 0, 1) := by decide +kernel
theorem dX10_column_70 : decode cX10_column 70 = .ok (.bipush (-13), 2) := by decide +kernel
theorem dX10_column_72 : decode cX10_column 72 = .ok (.invokevirtual 112, 3) := by decide +kernel
theorem dX10_column_75 : decode cX10_column 75 = .ok (.ireturn, 1) := by decide +kernel
theorem dX10_column_76 : decode cX10_column 76 = .ok (.iconst 0, 1) := by decide +kernel
theorem dX10_column_77 : decode cX10_column 77 = .ok (.istore 4, 2) := by decide +kernel
theorem dX10_column_79 : decode cX10_column 79 = .ok (.iconst 0, 1) := by decide +kernel
theorem dX10_column_80 : decode cX10_column 80 = .ok (.istore 5, 2) := by decide +kernel
theorem dX10_column_82 : decode cX10_column 82 = .ok (.iload 5, 2) := by decide +kernel
theorem dX10_column_84 : decode cX10_column 84 = .ok (.aload_n 0, 1) := by decide +kernel
theorem dX10_column_85 : decode cX10_column 85 = .ok (.getfield 106, 3) := by decide +kernel
theorem dX10_column_88 : decode cX10_column 88 = .ok (.if_icmp .ge 30, 3) := by decide +kernel
theorem dX10_column_91 : decode cX10_column 91 = .ok (.iload 4, 2) := by decide +kernel
theorem dX10_column_93 : decode cX10_column 93 = .ok (.aload_n 0, 1) := by decide +kernel
theorem dX10_column_94 : decode cX10_column 94 = .ok (.getfield 16, 3) := by decide +kernel
theorem dX10_column_97 : decode cX10_column 97 = .ok (.iload 5, 2) := by decide +kernel
theorem dX10_column_99 : decode cX10_column 99 = .ok (.iaload, 1) := by decide +kernel
theorem dX10_column_100 : decode cX10_column 100 = .ok (.iload_n 1, 1) := by decide +kernel
theorem dX10_column_101 : decode cX10_column 101 = .ok (.if_icmp .ne 7, 3) := by decide +kernel
theorem dX10_column_104 : decode cX10_column 104 = .ok (.iconst 1, 1) := by decide +kernel
theorem dX10_column_105 : decode cX10_column 105 = .ok (.goto 4, 3) := by decide +kernel
theorem dX10_column_108 : decode cX10_column 108 = .ok (.iconst 0, 1) := by decide +kernel
theorem dX10_column_109 : decode cX10_column 109 = .ok (.iadd, 1) := by decide +kernel
theorem dX10_column_110 : decode cX10_column 110 = .ok (.istore 4, 2) := by decide +kernel
theorem dX10_column_112 : decode cX10_column 112 = .ok (.iinc 5 1, 3) := by decide +kernel
theorem dX10_column_115 : decode cX10_column 115 = .ok (.goto (-33), 3) := by decide +kernel
theorem dX10_column_118 : decode cX10_column 118 = .ok (.iload 4, 2) := by decide +kernel
theorem dX10_column_120 : decode cX10_column 120 = .ok (.ireturn, 1) := by decide +kernel
theorem dX10_trust_0 : decode cX10_trust 0 = .ok (.aload_n 0, 1) := by decide +kernel
theorem dX10_trust_1 : decode cX10_trust 1 = .ok (.iconst 0, 1) := by decide +kernel
theorem dX10_trust_2 : decode cX10_trust 2 = .ok (.putfield 93, 3) := by decide +kernel
theorem dX10_trust_5 : decode cX10_trust 5 = .ok (.aload_n 0, 1) := by decide +kernel
theorem dX10_trust_6 : decode cX10_trust 6 = .ok (.iload_n 1, 1) := by decide +kernel
theorem dX10_trust_7 : decode cX10_trust 7 = .ok (.invokevirtual 125, 3) := by decide +kernel
theorem dX10_trust_10 : decode cX10_trust 10 = .ok (.ifCond .eq 5, 3) := by decide +kernel
theorem dX10_trust_13 : decode cX10_trust 13 = .ok (.iconst (-1), 1) := by decide +kernel
theorem dX10_trust_14 : decode cX10_trust 14 = .ok (.ireturn, 1) := by decide +kernel
theorem dX10_trust_15 : decode cX10_trust 15 = .ok (.iload_n 2, 1) := by decide +kernel
theorem dX10_trust_16 : decode cX10_trust 16 = .ok (.i2l, 1) := by decide +kernel
theorem dX10_trust_17 : decode cX10_trust 17 = .ok (.lconst 1, 1) := by decide +kernel
theorem dX10_trust_18 : decode cX10_trust 18 = .ok (.ldc2_w 119, 3) := by decide +kernel
theorem dX10_trust_21 : decode cX10_trust 21 = .ok (.invokestatic 102, 3) := by decide +kernel
theorem dX10_trust_24 : decode cX10_trust 24 = .ok (.ifCond .ne 6, 3) := by decide +kernel
theorem dX10_trust_27 : decode cX10_trust 27 = .ok (.bipush (-2), 2) := by decide +kernel
theorem dX10_trust_29 : decode cX10_trust 29 = .ok (.ireturn, 1) := by decide +kernel
theorem dX10_trust_30 : decode cX10_trust 30 = .ok (.aload_n 0, 1) := by decide +kernel
theorem dX10_trust_31 : decode cX10_trust 31 = .ok (.getfield 19, 3) := by decide +kernel
theorem dX10_trust_34 : decode cX10_trust 34 = .ok (.iload_n 1, 1) := by decide +kernel
theorem dX10_trust_35 : decode cX10_trust 35 = .ok (.iaload, 1) := by decide +kernel
theorem dX10_trust_36 : decode cX10_trust 36 = .ok (.istore_n 3, 1) := by decide +kernel
theorem dX10_trust_37 : decode cX10_trust 37 = .ok (.aload_n 0, 1) := by decide +kernel
theorem dX10_trust_38 : decode cX10_trust 38 = .ok (.getfield 19, 3) := by decide +kernel
theorem dX10_trust_41 : decode cX10_trust 41 = .ok (.iload_n 1, 1) := by decide +kernel
theorem dX10_trust_42 : decode cX10_trust 42 = .ok (.iload_n 2, 1) := by decide +kernel
theorem dX10_trust_43 : decode cX10_trust 43 = .ok (.iastore, 1) := by decide +kernel
theorem dX10_trust_44 : decode cX10_trust 44 = .ok (.iload_n 3, 1) := by decide +kernel
theorem dX10_trust_45 : decode cX10_trust 45 = .ok (.ireturn, 1) := by decide +kernel
theorem dX10_keep_0 : decode cX10_keep 0 = .ok (.aload_n 0, 1) := by decide +kernel
theorem dX10_keep_1 : decode cX10_keep 1 = .ok (.iconst 0, 1) := by decide +kernel
theorem dX10_keep_2 : decode cX10_keep 2 = .ok (.putfield 93, 3) := by decide +kernel
theorem dX10_keep_5 : decode cX10_keep 5 = .ok (.aload_n 0, 1) := by decide +kernel
theorem dX10_keep_6 : decode cX10_keep 6 = .ok (.iload_n 1, 1) := by decide +kernel
theorem dX10_keep_7 : decode cX10_keep 7 = .ok (.invokevirtual 125, 3) := by decide +kernel
theorem dX10_keep_10 : decode cX10_keep 10 = .ok (.ifCond .eq 5, 3) := by decide +kernel
theorem dX10_keep_13 : decode cX10_keep 13 = .ok (.iconst (-1), 1) := by decide +kernel
theorem dX10_keep_14 : decode cX10_keep 14 = .ok (.ireturn, 1) := by decide +kernel
theorem dX10_keep_15 : decode cX10_keep 15 = .ok (.aload_n 0, 1) := by decide +kernel
theorem dX10_keep_16 : decode cX10_keep 16 = .ok (.getfield 22, 3) := by decide +kernel
theorem dX10_keep_19 : decode cX10_keep 19 = .ok (.iload_n 1, 1) := by decide +kernel
theorem dX10_keep_20 : decode cX10_keep 20 = .ok (.baload, 1) := by decide +kernel
theorem dX10_keep_21 : decode cX10_keep 21 = .ok (.ifCond .eq 7, 3) := by decide +kernel
theorem dX10_keep_24 : decode cX10_keep 24 = .ok (.iconst 1, 1) := by decide +kernel
theorem dX10_keep_25 : decode cX10_keep 25 = .ok (.goto 4, 3) := by decide +kernel
theorem dX10_keep_28 : decode cX10_keep 28 = .ok (.iconst 0, 1) := by decide +kernel
theorem dX10_keep_29 : decode cX10_keep 29 = .ok (.istore_n 3, 1) := by decide +kernel
theorem dX10_keep_30 : decode cX10_keep 30 = .ok (.aload_n 0, 1) := by decide +kernel
theorem dX10_keep_31 : decode cX10_keep 31 = .ok (.getfield 22, 3) := by decide +kernel
theorem dX10_keep_34 : decode cX10_keep 34 = .ok (.iload_n 1, 1) := by decide +kernel
theorem dX10_keep_35 : decode cX10_keep 35 = .ok (.iload_n 2, 1) := by decide +kernel
theorem dX10_keep_36 : decode cX10_keep 36 = .ok (.bastore, 1) := by decide +kernel
theorem dX10_keep_37 : decode cX10_keep 37 = .ok (.aload_n 0, 1) := by decide +kernel
theorem dX10_keep_38 : decode cX10_keep 38 = .ok (.iconst 0, 1) := by decide +kernel
theorem dX10_keep_39 : decode cX10_keep 39 = .ok (.putfield 121, 3) := by decide +kernel
theorem dX10_keep_42 : decode cX10_keep 42 = .ok (.iload_n 3, 1) := by decide +kernel
theorem dX10_keep_43 : decode cX10_keep 43 = .ok (.ireturn, 1) := by decide +kernel
theorem dX10_about_0 : decode cX10_about 0 = .ok (.aload_n 0, 1) := by decide +kernel
theorem dX10_about_1 : decode cX10_about 1 = .ok (.iconst 0, 1) := by decide +kernel
theorem dX10_about_2 : decode cX10_about 2 = .ok (.putfield 93, 3) := by decide +kernel
theorem dX10_about_5 : decode cX10_about 5 = .ok (.aload_n 0, 1) := by decide +kernel
theorem dX10_about_6 : decode cX10_about 6 = .ok (.iload_n 1, 1) := by decide +kernel
theorem dX10_about_7 : decode cX10_about 7 = .ok (.invokevirtual 125, 3) := by decide +kernel
theorem dX10_about_10 : decode cX10_about 10 = .ok (.ifCond .eq 5, 3) := by decide +kernel
theorem dX10_about_13 : decode cX10_about 13 = .ok (.iconst (-1), 1) := by decide +kernel
theorem dX10_about_14 : decode cX10_about 14 = .ok (.ireturn, 1) := by decide +kernel
theorem dX10_about_15 : decode cX10_about 15 = .ok (.iload_n 2, 1) := by decide +kernel
theorem dX10_about_16 : decode cX10_about 16 = .ok (.ifCond .ne 12, 3) := by decide +kernel
theorem dX10_about_19 : decode cX10_about 19 = .ok (.aload_n 0, 1) := by decide +kernel
theorem dX10_about_20 : decode cX10_about 20 = .ok (.getfield 16, 3) := by decide +kernel
theorem dX10_about_23 : decode cX10_about 23 = .ok (.iload_n 1, 1) := by decide +kernel
theorem dX10_about_24 : decode cX10_about 24 = .ok (.iaload, 1) := by decide +kernel
theorem dX10_about_25 : decode cX10_about 25 = .ok (.goto 41, 3) := by decide +kernel
theorem dX10_about_28 : decode cX10_about 28 = .ok (.iload_n 2, 1) := by decide +kernel
theorem dX10_about_29 : decode cX10_about 29 = .ok (.iconst 1, 1) := by decide +kernel
theorem dX10_about_30 : decode cX10_about 30 = .ok (.if_icmp .ne 12, 3) := by decide +kernel
theorem dX10_about_33 : decode cX10_about 33 = .ok (.aload_n 0, 1) := by decide +kernel
theorem dX10_about_34 : decode cX10_about 34 = .ok (.getfield 19, 3) := by decide +kernel
theorem dX10_about_37 : decode cX10_about 37 = .ok (.iload_n 1, 1) := by decide +kernel
theorem dX10_about_38 : decode cX10_about 38 = .ok (.iaload, 1) := by decide +kernel
theorem dX10_about_39 : decode cX10_about 39 = .ok (.goto 27, 3) := by decide +kernel
theorem dX10_about_42 : decode cX10_about 42 = .ok (.iload_n 2, 1) := by decide +kernel
theorem dX10_about_43 : decode cX10_about 43 = .ok (.iconst 2, 1) := by decide +kernel
theorem dX10_about_44 : decode cX10_about 44 = .ok (.if_icmp .ne 20, 3) := by decide +kernel
theorem dX10_about_47 : decode cX10_about 47 = .ok (.aload_n 0, 1) := by decide +kernel
theorem dX10_about_48 : decode cX10_about 48 = .ok (.getfield 22, 3) := by decide +kernel
theorem dX10_about_51 : decode cX10_about 51 = .ok (.iload_n 1, 1) := by decide +kernel
theorem dX10_about_52 : decode cX10_about 52 = .ok (.baload, 1) := by decide +kernel
theorem dX10_about_53 : decode cX10_about 53 = .ok (.ifCond .eq 7, 3) := by decide +kernel
theorem dX10_about_56 : decode cX10_about 56 = .ok (.iconst 1, 1) := by decide +kernel
theorem dX10_about_57 : decode cX10_about 57 = .ok (.goto 9, 3) := by decide +kernel
theorem dX10_about_60 : decode cX10_about 60 = .ok (.iconst 0, 1) := by decide +kernel
theorem dX10_about_61 : decode cX10_about 61 = .ok (.goto 5, 3) := by decide +kernel
theorem dX10_about_64 : decode cX10_about 64 = .ok (.bipush (-2), 2) := by decide +kernel
theorem dX10_about_66 : decode cX10_about 66 = .ok (.ireturn, 1) := by decide +kernel
theorem dX10_add_0 : decode cX10_add 0 = .ok (.aload_n 0, 1) := by decide +kernel
theorem dX10_add_1 : decode cX10_add 1 = .ok (.getfield 33, 3) := by decide +kernel
theorem dX10_add_4 : decode cX10_add 4 = .ok (.aload_n 0, 1) := by decide +kernel
theorem dX10_add_5 : decode cX10_add 5 = .ok (.getfield 109, 3) := by decide +kernel
theorem dX10_add_8 : decode cX10_add 8 = .ok (.iload_n 1, 1) := by decide +kernel
theorem dX10_add_9 : decode cX10_add 9 = .ok (.iastore, 1) := by decide +kernel
theorem dX10_add_10 : decode cX10_add 10 = .ok (.aload_n 0, 1) := by decide +kernel
theorem dX10_add_11 : decode cX10_add 11 = .ok (.getfield 36, 3) := by decide +kernel
theorem dX10_add_14 : decode cX10_add 14 = .ok (.aload_n 0, 1) := by decide +kernel
theorem dX10_add_15 : decode cX10_add 15 = .ok (.getfield 109, 3) := by decide +kernel
theorem dX10_add_18 : decode cX10_add 18 = .ok (.iload_n 2, 1) := by decide +kernel
theorem dX10_add_19 : decode cX10_add 19 = .ok (.iastore, 1) := by decide +kernel
theorem dX10_add_20 : decode cX10_add 20 = .ok (.aload_n 0, 1) := by decide +kernel
theorem dX10_add_21 : decode cX10_add 21 = .ok (.getfield 39, 3) := by decide +kernel
theorem dX10_add_24 : decode cX10_add 24 = .ok (.aload_n 0, 1) := by decide +kernel
theorem dX10_add_25 : decode cX10_add 25 = .ok (.getfield 109, 3) := by decide +kernel
theorem dX10_add_28 : decode cX10_add 28 = .ok (.iload_n 3, 1) := by decide +kernel
theorem dX10_add_29 : decode cX10_add 29 = .ok (.iastore, 1) := by decide +kernel
theorem dX10_add_30 : decode cX10_add 30 = .ok (.aload_n 0, 1) := by decide +kernel
theorem dX10_add_31 : decode cX10_add 31 = .ok (.getfield 42, 3) := by decide +kernel
theorem dX10_add_34 : decode cX10_add 34 = .ok (.aload_n 0, 1) := by decide +kernel
theorem dX10_add_35 : decode cX10_add 35 = .ok (.getfield 109, 3) := by decide +kernel
theorem dX10_add_38 : decode cX10_add 38 = .ok (.iload 4, 2) := by decide +kernel
theorem dX10_add_40 : decode cX10_add 40 = .ok (.iastore, 1) := by decide +kernel
theorem dX10_add_41 : decode cX10_add 41 = .ok (.aload_n 0, 1) := by decide +kernel
theorem dX10_add_42 : decode cX10_add 42 = .ok (.getfield 45, 3) := by decide +kernel
theorem dX10_add_45 : decode cX10_add 45 = .ok (.aload_n 0, 1) := by decide +kernel
theorem dX10_add_46 : decode cX10_add 46 = .ok (.getfield 109, 3) := by decide +kernel
theorem dX10_add_49 : decode cX10_add 49 = .ok (.iload 5, 2) := by decide +kernel
theorem dX10_add_51 : decode cX10_add 51 = .ok (.iastore, 1) := by decide +kernel
theorem dX10_add_52 : decode cX10_add 52 = .ok (.aload_n 0, 1) := by decide +kernel
theorem dX10_add_53 : decode cX10_add 53 = .ok (.getfield 48, 3) := by decide +kernel
theorem dX10_add_56 : decode cX10_add 56 = .ok (.aload_n 0, 1) := by decide +kernel
theorem dX10_add_57 : decode cX10_add 57 = .ok (.getfield 109, 3) := by decide +kernel
theorem dX10_add_60 : decode cX10_add 60 = .ok (.lload 6, 2) := by decide +kernel
theorem dX10_add_62 : decode cX10_add 62 = .ok (.lastore, 1) := by decide +kernel
theorem dX10_add_63 : decode cX10_add 63 = .ok (.aload_n 0, 1) := by decide +kernel
theorem dX10_add_64 : decode cX10_add 64 = .ok (.getfield 51, 3) := by decide +kernel
theorem dX10_add_67 : decode cX10_add 67 = .ok (.aload_n 0, 1) := by decide +kernel
theorem dX10_add_68 : decode cX10_add 68 = .ok (.getfield 109, 3) := by decide +kernel
theorem dX10_add_71 : decode cX10_add 71 = .ok (.lload 8, 2) := by decide +kernel
theorem dX10_add_73 : decode cX10_add 73 = .ok (.lastore, 1) := by decide +kernel
theorem dX10_add_74 : decode cX10_add 74 = .ok (.aload_n 0, 1) := by decide +kernel
theorem dX10_add_75 : decode cX10_add 75 = .ok (.getfield 54, 3) := by decide +kernel
theorem dX10_add_78 : decode cX10_add 78 = .ok (.aload_n 0, 1) := by decide +kernel
theorem dX10_add_79 : decode cX10_add 79 = .ok (.getfield 109, 3) := by decide +kernel
theorem dX10_add_82 : decode cX10_add 82 = .ok (.iconst 1, 1) := by decide +kernel
theorem dX10_add_83 : decode cX10_add 83 = .ok (.bastore, 1) := by decide +kernel
theorem dX10_add_84 : decode cX10_add 84 = .ok (.aload_n 0, 1) := by decide +kernel
theorem dX10_add_85 : decode cX10_add 85 = .ok (.dup, 1) := by decide +kernel
theorem dX10_add_86 : decode cX10_add 86 = .ok (.getfield 109, 3) := by decide +kernel
theorem dX10_add_89 : decode cX10_add 89 = .ok (.iconst 1, 1) := by decide +kernel
theorem dX10_add_90 : decode cX10_add 90 = .ok (.iadd, 1) := by decide +kernel
theorem dX10_add_91 : decode cX10_add 91 = .ok (.putfield 109, 3) := by decide +kernel
theorem dX10_add_94 : decode cX10_add 94 = .ok (.aload_n 0, 1) := by decide +kernel
theorem dX10_add_95 : decode cX10_add 95 = .ok (.iconst 0, 1) := by decide +kernel
theorem dX10_add_96 : decode cX10_add 96 = .ok (.putfield 121, 3) := by decide +kernel
theorem dX10_add_99 : decode cX10_add 99 = .ok (.aload_n 0, 1) := by decide +kernel
theorem dX10_add_100 : decode cX10_add 100 = .ok (.getfield 109, 3) := by decide +kernel
theorem dX10_add_103 : decode cX10_add 103 = .ok (.iconst 1, 1) := by decide +kernel
theorem dX10_add_104 : decode cX10_add 104 = .ok (.isub, 1) := by decide +kernel
theorem dX10_add_105 : decode cX10_add 105 = .ok (.ireturn, 1) := by decide +kernel
theorem dX10_law_0 : decode cX10_law 0 = .ok (.aload_n 0, 1) := by decide +kernel
theorem dX10_law_1 : decode cX10_law 1 = .ok (.iconst 0, 1) := by decide +kernel
theorem dX10_law_2 : decode cX10_law 2 = .ok (.putfield 93, 3) := by decide +kernel
theorem dX10_law_5 : decode cX10_law 5 = .ok (.iload_n 1, 1) := by decide +kernel
theorem dX10_law_6 : decode cX10_law 6 = .ok (.i2l, 1) := by decide +kernel
theorem dX10_law_7 : decode cX10_law 7 = .ok (.lconst 0, 1) := by decide +kernel
theorem dX10_law_8 : decode cX10_law 8 = .ok (.ldc2_w 141, 3) := by decide +kernel
theorem dX10_law_11 : decode cX10_law 11 = .ok (.invokestatic 102, 3) := by decide +kernel
theorem dX10_law_14 : decode cX10_law 14 = .ok (.ifCond .eq 15, 3) := by decide +kernel
theorem dX10_law_17 : decode cX10_law 17 = .ok (.iload_n 1, 1) := by decide +kernel
theorem dX10_law_18 : decode cX10_law 18 = .ok (.iconst 4, 1) := by decide +kernel
theorem dX10_law_19 : decode cX10_law 19 = .ok (.if_icmp .ne 13, 3) := by decide +kernel
theorem dX10_law_22 : decode cX10_law 22 = .ok (.lload 5, 2) := by decide +kernel
theorem dX10_law_24 : decode cX10_law 24 = .ok (.lconst 0, 1) := by decide +kernel
theorem dX10_law_25 : decode cX10_law 25 = .ok (.lcmp, 1) := by decide +kernel
theorem dX10_law_26 : decode cX10_law 26 = .ok (.ifCond .ge 6, 3) := by decide +kernel
theorem dX10_law_29 : decode cX10_law 29 = .ok (.bipush (-2), 2) := by decide +kernel
theorem dX10_law_31 : decode cX10_law 31 = .ok (.ireturn, 1) := by decide +kernel
theorem dX10_law_32 : decode cX10_law 32 = .ok (.aload_n 0, 1) := by decide +kernel
theorem dX10_law_33 : decode cX10_law 33 = .ok (.getfield 109, 3) := by decide +kernel
theorem dX10_law_36 : decode cX10_law 36 = .ok (.bipush 10, 2) := by decide +kernel
theorem dX10_law_38 : decode cX10_law 38 = .ok (.if_icmp .ne 6, 3) := by decide +kernel
theorem dX10_law_41 : decode cX10_law 41 = .ok (.bipush (-4), 2) := by decide +kernel
theorem dX10_law_43 : decode cX10_law 43 = .ok (.ireturn, 1) := by decide +kernel
theorem dX10_law_44 : decode cX10_law 44 = .ok (.aload_n 0, 1) := by decide +kernel
theorem dX10_law_45 : decode cX10_law 45 = .ok (.iload_n 2, 1) := by decide +kernel
theorem dX10_law_46 : decode cX10_law 46 = .ok (.invokevirtual 116, 3) := by decide +kernel
theorem dX10_law_49 : decode cX10_law 49 = .ok (.ifCond .eq 13, 3) := by decide +kernel
theorem dX10_law_52 : decode cX10_law 52 = .ok (.aload_n 0, 1) := by decide +kernel
theorem dX10_law_53 : decode cX10_law 53 = .ok (.aload_n 0, 1) := by decide +kernel
theorem dX10_law_54 : decode cX10_law 54 = .ok (.iload_n 2, 1) := by decide +kernel
theorem dX10_law_55 : decode cX10_law 55 = .ok (.invokevirtual 116, 3) := by decide +kernel
theorem dX10_law_58 : decode cX10_law 58 = .ok (.invokevirtual 112, 3) := by decide +kernel
theorem dX10_law_61 : decode cX10_law 61 = .ok (.ireturn, 1) := by decide +kernel
theorem dX10_law_62 : decode cX10_law 62 = .ok (.aload_n 0, 1) := by decide +kernel
theorem dX10_law_63 : decode cX10_law 63 = .ok (.iload_n 2, 1) := by decide +kernel
theorem dX10_law_64 : decode cX10_law 64 = .ok (.iload_n 3, 1) := by decide +kernel
theorem dX10_law_65 : decode cX10_law 65 = .ok (.invokevirtual 129, 3) := by decide +kernel
theorem dX10_law_68 : decode cX10_law 68 = .ok (.ifCond .ne 27, 3) := by decide +kernel
theorem dX10_law_71 : decode cX10_law 71 = .ok (.iload_n 1, 1) := by decide +kernel
theorem dX10_law_72 : decode cX10_law 72 = .ok (.ifCond .eq 13, 3) := by decide +kernel
theorem dX10_law_75 : decode cX10_law 75 = .ok (.iload_n 1, 1) := by decide +kernel
theorem dX10_law_76 : decode cX10_law 76 = .ok (.iconst 2, 1) := by decide +kernel
theorem dX10_law_77 : decode cX10_law 77 = .ok (.if_icmp .eq 8, 3) := by decide +kernel
theorem dX10_law_80 : decode cX10_law 80 = .ok (.iload_n 1, 1) := by decide +kernel
theorem dX10_law_81 : decode cX10_law 81 = .ok (.iconst 4, 1) := by decide +kernel
theorem dX10_law_82 : decode cX10_law 82 = .ok (.if_icmp .ne 20, 3) := by decide +kernel
theorem dX10_law_85 : decode cX10_law 85 = .ok (.aload_n 0, 1) := by decide +kernel
theorem dX10_law_86 : decode cX10_law 86 = .ok (.iload_n 2, 1) := by decide +kernel
theorem dX10_law_87 : decode cX10_law 87 = .ok (.iload 4, 2) := by decide +kernel
theorem dX10_law_89 : decode cX10_law 89 = .ok (.invokevirtual 129, 3) := by decide +kernel
theorem dX10_law_92 : decode cX10_law 92 = .ok (.ifCond .eq 10, 3) := by decide +kernel
theorem dX10_law_95 : decode cX10_law 95 = .ok (.aload_n 0, 1) := by decide +kernel
theorem dX10_law_96 : decode cX10_law 96 = .ok (.bipush (-12), 2) := by decide +kernel
theorem dX10_law_98 : decode cX10_law 98 = .ok (.invokevirtual 112, 3) := by decide +kernel
theorem dX10_law_101 : decode cX10_law 101 = .ok (.ireturn, 1) := by decide +kernel
theorem dX10_law_102 : decode cX10_law 102 = .ok (.aload_n 0, 1) := by decide +kernel
theorem dX10_law_103 : decode cX10_law 103 = .ok (.iload_n 1, 1) := by decide +kernel
theorem dX10_law_104 : decode cX10_law 104 = .ok (.iload_n 2, 1) := by decide +kernel
theorem dX10_law_105 : decode cX10_law 105 = .ok (.iload_n 3, 1) := by decide +kernel
theorem dX10_law_106 : decode cX10_law 106 = .ok (.iload 4, 2) := by decide +kernel
theorem dX10_law_108 : decode cX10_law 108 = .ok (.iconst 0, 1) := by decide +kernel
theorem dX10_law_109 : decode cX10_law 109 = .ok (.lload 5, 2) := by decide +kernel
theorem dX10_law_111 : decode cX10_law 111 = .ok (.lload 7, 2) := by decide +kernel
theorem dX10_law_113 : decode cX10_law 113 = .ok (.invokevirtual 143, 3) := by decide +kernel
theorem dX10_law_116 : decode cX10_law 116 = .ok (.ireturn, 1) := by decide +kernel
theorem dX10_among_0 : decode cX10_among 0 = .ok (.aload_n 0, 1) := by decide +kernel
theorem dX10_among_1 : decode cX10_among 1 = .ok (.iconst 0, 1) := by decide +kernel
theorem dX10_among_2 : decode cX10_among 2 = .ok (.putfield 93, 3) := by decide +kernel
theorem dX10_among_5 : decode cX10_among 5 = .ok (.aload_n 0, 1) := by decide +kernel
theorem dX10_among_6 : decode cX10_among 6 = .ok (.getfield 109, 3) := by decide +kernel
theorem dX10_among_9 : decode cX10_among 9 = .ok (.bipush 10, 2) := by decide +kernel
theorem dX10_among_11 : decode cX10_among 11 = .ok (.if_icmp .ne 6, 3) := by decide +kernel
theorem dX10_among_14 : decode cX10_among 14 = .ok (.bipush (-4), 2) := by decide +kernel
theorem dX10_among_16 : decode cX10_among 16 = .ok (.ireturn, 1) := by decide +kernel
theorem dX10_among_17 : decode cX10_among 17 = .ok (.aload_n 0, 1) := by decide +kernel
theorem dX10_among_18 : decode cX10_among 18 = .ok (.iload_n 1, 1) := by decide +kernel
theorem dX10_among_19 : decode cX10_among 19 = .ok (.invokevirtual 116, 3) := by decide +kernel
theorem dX10_among_22 : decode cX10_among 22 = .ok (.ifCond .eq 13, 3) := by decide +kernel
theorem dX10_among_25 : decode cX10_among 25 = .ok (.aload_n 0, 1) := by decide +kernel
theorem dX10_among_26 : decode cX10_among 26 = .ok (.aload_n 0, 1) := by decide +kernel
theorem dX10_among_27 : decode cX10_among 27 = .ok (.iload_n 1, 1) := by decide +kernel
theorem dX10_among_28 : decode cX10_among 28 = .ok (.invokevirtual 116, 3) := by decide +kernel
theorem dX10_among_31 : decode cX10_among 31 = .ok (.invokevirtual 112, 3) := by decide +kernel
theorem dX10_among_34 : decode cX10_among 34 = .ok (.ireturn, 1) := by decide +kernel
theorem dX10_among_35 : decode cX10_among 35 = .ok (.aload_n 0, 1) := by decide +kernel
theorem dX10_among_36 : decode cX10_among 36 = .ok (.iload_n 1, 1) := by decide +kernel
theorem dX10_among_37 : decode cX10_among 37 = .ok (.iload_n 2, 1) := by decide +kernel
theorem dX10_among_38 : decode cX10_among 38 = .ok (.invokevirtual 129, 3) := by decide +kernel
theorem dX10_among_41 : decode cX10_among 41 = .ok (.ifCond .eq 10, 3) := by decide +kernel
theorem dX10_among_44 : decode cX10_among 44 = .ok (.aload_n 0, 1) := by decide +kernel
theorem dX10_among_45 : decode cX10_among 45 = .ok (.bipush (-12), 2) := by decide +kernel
theorem dX10_among_47 : decode cX10_among 47 = .ok (.invokevirtual 112, 3) := by decide +kernel
theorem dX10_among_50 : decode cX10_among 50 = .ok (.ireturn, 1) := by decide +kernel
theorem dX10_among_51 : decode cX10_among 51 = .ok (.aload_n 0, 1) := by decide +kernel
theorem dX10_among_52 : decode cX10_among 52 = .ok (.iload_n 3, 1) := by decide +kernel
theorem dX10_among_53 : decode cX10_among 53 = .ok (.invokevirtual 116, 3) := by decide +kernel
theorem dX10_among_56 : decode cX10_among 56 = .ok (.ifCond .eq 13, 3) := by decide +kernel
theorem dX10_among_59 : decode cX10_among 59 = .ok (.aload_n 0, 1) := by decide +kernel
theorem dX10_among_60 : decode cX10_among 60 = .ok (.aload_n 0, 1) := by decide +kernel
theorem dX10_among_61 : decode cX10_among 61 = .ok (.iload_n 3, 1) := by decide +kernel
theorem dX10_among_62 : decode cX10_among 62 = .ok (.invokevirtual 116, 3) := by decide +kernel
theorem dX10_among_65 : decode cX10_among 65 = .ok (.invokevirtual 112, 3) := by decide +kernel
theorem dX10_among_68 : decode cX10_among 68 = .ok (.ireturn, 1) := by decide +kernel
theorem dX10_among_69 : decode cX10_among 69 = .ok (.aload_n 0, 1) := by decide +kernel
theorem dX10_among_70 : decode cX10_among 70 = .ok (.iload_n 3, 1) := by decide +kernel
theorem dX10_among_71 : decode cX10_among 71 = .ok (.iload 4, 2) := by decide +kernel
theorem dX10_among_73 : decode cX10_among 73 = .ok (.invokevirtual 129, 3) := by decide +kernel
theorem dX10_among_76 : decode cX10_among 76 = .ok (.ifCond .eq 10, 3) := by decide +kernel
theorem dX10_among_79 : decode cX10_among 79 = .ok (.aload_n 0, 1) := by decide +kernel
theorem dX10_among_80 : decode cX10_among 80 = .ok (.bipush (-12), 2) := by decide +kernel
theorem dX10_among_82 : decode cX10_among 82 = .ok (.invokevirtual 112, 3) := by decide +kernel
theorem dX10_among_85 : decode cX10_among 85 = .ok (.ireturn, 1) := by decide +kernel
theorem dX10_among_86 : decode cX10_among 86 = .ok (.aload_n 0, 1) := by decide +kernel
theorem dX10_among_87 : decode cX10_among 87 = .ok (.iconst 5, 1) := by decide +kernel
theorem dX10_among_88 : decode cX10_among 88 = .ok (.iload_n 1, 1) := by decide +kernel
theorem dX10_among_89 : decode cX10_among 89 = .ok (.iload_n 2, 1) := by decide +kernel
theorem dX10_among_90 : decode cX10_among 90 = .ok (.iload 4, 2) := by decide +kernel
theorem dX10_among_92 : decode cX10_among 92 = .ok (.iload_n 3, 1) := by decide +kernel
theorem dX10_among_93 : decode cX10_among 93 = .ok (.lconst 0, 1) := by decide +kernel
theorem dX10_among_94 : decode cX10_among 94 = .ok (.lconst 0, 1) := by decide +kernel
theorem dX10_among_95 : decode cX10_among 95 = .ok (.invokevirtual 143, 3) := by decide +kernel
theorem dX10_among_98 : decode cX10_among 98 = .ok (.ireturn, 1) := by decide +kernel
theorem dX10_force_0 : decode cX10_force 0 = .ok (.aload_n 0, 1) := by decide +kernel
theorem dX10_force_1 : decode cX10_force 1 = .ok (.iconst 0, 1) := by decide +kernel
theorem dX10_force_2 : decode cX10_force 2 = .ok (.putfield 93, 3) := by decide +kernel
theorem dX10_force_5 : decode cX10_force 5 = .ok (.aload_n 0, 1) := by decide +kernel
theorem dX10_force_6 : decode cX10_force 6 = .ok (.iload_n 1, 1) := by decide +kernel
theorem dX10_force_7 : decode cX10_force 7 = .ok (.invokevirtual 147, 3) := by decide +kernel
theorem dX10_force_10 : decode cX10_force 10 = .ok (.ifCond .eq 5, 3) := by decide +kernel
theorem dX10_force_13 : decode cX10_force 13 = .ok (.iconst (-1), 1) := by decide +kernel
theorem dX10_force_14 : decode cX10_force 14 = .ok (.ireturn, 1) := by decide +kernel
theorem dX10_force_15 : decode cX10_force 15 = .ok (.aload_n 0, 1) := by decide +kernel
theorem dX10_force_16 : decode cX10_force 16 = .ok (.getfield 54, 3) := by decide +kernel
theorem dX10_force_19 : decode cX10_force 19 = .ok (.iload_n 1, 1) := by decide +kernel
theorem dX10_force_20 : decode cX10_force 20 = .ok (.baload, 1) := by decide +kernel
theorem dX10_force_21 : decode cX10_force 21 = .ok (.ifCond .eq 7, 3) := by decide +kernel
theorem dX10_force_24 : decode cX10_force 24 = .ok (.iconst 1, 1) := by decide +kernel
theorem dX10_force_25 : decode cX10_force 25 = .ok (.goto 4, 3) := by decide +kernel
theorem dX10_force_28 : decode cX10_force 28 = .ok (.iconst 0, 1) := by decide +kernel
theorem dX10_force_29 : decode cX10_force 29 = .ok (.istore_n 3, 1) := by decide +kernel
theorem dX10_force_30 : decode cX10_force 30 = .ok (.aload_n 0, 1) := by decide +kernel
theorem dX10_force_31 : decode cX10_force 31 = .ok (.getfield 54, 3) := by decide +kernel
theorem dX10_force_34 : decode cX10_force 34 = .ok (.iload_n 1, 1) := by decide +kernel
theorem dX10_force_35 : decode cX10_force 35 = .ok (.iload_n 2, 1) := by decide +kernel
theorem dX10_force_36 : decode cX10_force 36 = .ok (.bastore, 1) := by decide +kernel
theorem dX10_force_37 : decode cX10_force 37 = .ok (.aload_n 0, 1) := by decide +kernel
theorem dX10_force_38 : decode cX10_force 38 = .ok (.iconst 0, 1) := by decide +kernel
theorem dX10_force_39 : decode cX10_force 39 = .ok (.putfield 121, 3) := by decide +kernel
theorem dX10_force_42 : decode cX10_force 42 = .ok (.iload_n 3, 1) := by decide +kernel
theorem dX10_force_43 : decode cX10_force 43 = .ok (.ireturn, 1) := by decide +kernel
theorem dX10_most_0 : decode cX10_most 0 = .ok (.aload_n 0, 1) := by decide +kernel
theorem dX10_most_1 : decode cX10_most 1 = .ok (.iconst 0, 1) := by decide +kernel
theorem dX10_most_2 : decode cX10_most 2 = .ok (.putfield 93, 3) := by decide +kernel
theorem dX10_most_5 : decode cX10_most 5 = .ok (.aload_n 0, 1) := by decide +kernel
theorem dX10_most_6 : decode cX10_most 6 = .ok (.iload_n 1, 1) := by decide +kernel
theorem dX10_most_7 : decode cX10_most 7 = .ok (.invokevirtual 147, 3) := by decide +kernel
theorem dX10_most_10 : decode cX10_most 10 = .ok (.ifCond .eq 9, 3) := by decide +kernel
theorem dX10_most_13 : decode cX10_most 13 = .ok (.ldc2_w 137, 3) := by decide +kernel
theorem dX10_most_16 : decode cX10_most 16 = .ok (.goto 29, 3) := by decide +kernel
theorem dX10_most_19 : decode cX10_most 19 = .ok (.aload_n 0, 1) := by decide +kernel
theorem dX10_most_20 : decode cX10_most 20 = .ok (.getfield 33, 3) := by decide +kernel
theorem dX10_most_23 : decode cX10_most 23 = .ok (.iload_n 1, 1) := by decide +kernel
theorem dX10_most_24 : decode cX10_most 24 = .ok (.iaload, 1) := by decide +kernel
theorem dX10_most_25 : decode cX10_most 25 = .ok (.iconst 4, 1) := by decide +kernel
theorem dX10_most_26 : decode cX10_most 26 = .ok (.if_icmp .ne 12, 3) := by decide +kernel
theorem dX10_most_29 : decode cX10_most 29 = .ok (.aload_n 0, 1) := by decide +kernel
theorem dX10_most_30 : decode cX10_most 30 = .ok (.getfield 48, 3) := by decide +kernel
theorem dX10_most_33 : decode cX10_most 33 = .ok (.iload_n 1, 1) := by decide +kernel
theorem dX10_most_34 : decode cX10_most 34 = .ok (.laload, 1) := by decide +kernel
theorem dX10_most_35 : decode cX10_most 35 = .ok (.goto 10, 3) := by decide +kernel
theorem dX10_most_38 : decode cX10_most 38 = .ok (.aload_n 0, 1) := by decide +kernel
theorem dX10_most_39 : decode cX10_most 39 = .ok (.bipush (-13), 2) := by decide +kernel
theorem dX10_most_41 : decode cX10_most 41 = .ok (.invokevirtual 112, 3) := by decide +kernel
theorem dX10_most_44 : decode cX10_most 44 = .ok (.i2l, 1) := by decide +kernel
theorem dX10_most_45 : decode cX10_most 45 = .ok (.lreturn, 1) := by decide +kernel
theorem dX10_keptSet_0 : decode cX10_keptSet 0 = .ok (.iconst 0, 1) := by decide +kernel
theorem dX10_keptSet_1 : decode cX10_keptSet 1 = .ok (.istore_n 1, 1) := by decide +kernel
theorem dX10_keptSet_2 : decode cX10_keptSet 2 = .ok (.iconst 0, 1) := by decide +kernel
theorem dX10_keptSet_3 : decode cX10_keptSet 3 = .ok (.istore_n 2, 1) := by decide +kernel
theorem dX10_keptSet_4 : decode cX10_keptSet 4 = .ok (.iload_n 2, 1) := by decide +kernel
theorem dX10_keptSet_5 : decode cX10_keptSet 5 = .ok (.aload_n 0, 1) := by decide +kernel
theorem dX10_keptSet_6 : decode cX10_keptSet 6 = .ok (.getfield 106, 3) := by decide +kernel
theorem dX10_keptSet_9 : decode cX10_keptSet 9 = .ok (.if_icmp .ge 28, 3) := by decide +kernel
theorem dX10_keptSet_12 : decode cX10_keptSet 12 = .ok (.iload_n 1, 1) := by decide +kernel
theorem dX10_keptSet_13 : decode cX10_keptSet 13 = .ok (.aload_n 0, 1) := by decide +kernel
theorem dX10_keptSet_14 : decode cX10_keptSet 14 = .ok (.getfield 22, 3) := by decide +kernel
theorem dX10_keptSet_17 : decode cX10_keptSet 17 = .ok (.iload_n 2, 1) := by decide +kernel
theorem dX10_keptSet_18 : decode cX10_keptSet 18 = .ok (.baload, 1) := by decide +kernel
theorem dX10_keptSet_19 : decode cX10_keptSet 19 = .ok (.ifCond .eq 9, 3) := by decide +kernel
theorem dX10_keptSet_22 : decode cX10_keptSet 22 = .ok (.iconst 1, 1) := by decide +kernel
theorem dX10_keptSet_23 : decode cX10_keptSet 23 = .ok (.iload_n 2, 1) := by decide +kernel
theorem dX10_keptSet_24 : decode cX10_keptSet 24 = .ok (.ishl, 1) := by decide +kernel
theorem dX10_keptSet_25 : decode cX10_keptSet 25 = .ok (.goto 4, 3) := by decide +kernel
theorem dX10_keptSet_28 : decode cX10_keptSet 28 = .ok (.iconst 0, 1) := by decide +kernel
theorem dX10_keptSet_29 : decode cX10_keptSet 29 = .ok (.ior, 1) := by decide +kernel
theorem dX10_keptSet_30 : decode cX10_keptSet 30 = .ok (.istore_n 1, 1) := by decide +kernel
theorem dX10_keptSet_31 : decode cX10_keptSet 31 = .ok (.iinc 2 1, 3) := by decide +kernel
theorem dX10_keptSet_34 : decode cX10_keptSet 34 = .ok (.goto (-30), 3) := by decide +kernel
theorem dX10_keptSet_37 : decode cX10_keptSet 37 = .ok (.iload_n 1, 1) := by decide +kernel
theorem dX10_keptSet_38 : decode cX10_keptSet 38 = .ok (.ireturn, 1) := by decide +kernel
theorem dX10_isLike_0 : decode cX10_isLike 0 = .ok (.aload_n 0, 1) := by decide +kernel
theorem dX10_isLike_1 : decode cX10_isLike 1 = .ok (.getfield 26, 3) := by decide +kernel
theorem dX10_isLike_4 : decode cX10_isLike 4 = .ok (.bipush 6, 2) := by decide +kernel
theorem dX10_isLike_6 : decode cX10_isLike 6 = .ok (.iload_n 1, 1) := by decide +kernel
theorem dX10_isLike_7 : decode cX10_isLike 7 = .ok (.imul, 1) := by decide +kernel
theorem dX10_isLike_8 : decode cX10_isLike 8 = .ok (.iload_n 2, 1) := by decide +kernel
theorem dX10_isLike_9 : decode cX10_isLike 9 = .ok (.iadd, 1) := by decide +kernel
theorem dX10_isLike_10 : decode cX10_isLike 10 = .ok (.baload, 1) := by decide +kernel
theorem dX10_isLike_11 : decode cX10_isLike 11 = .ok (.ifCond .eq 49, 3) := by decide +kernel
theorem dX10_isLike_14 : decode cX10_isLike 14 = .ok (.aload_n 0, 1) := by decide +kernel
theorem dX10_isLike_15 : decode cX10_isLike 15 = .ok (.getfield 26, 3) := by decide +kernel
theorem dX10_isLike_18 : decode cX10_isLike 18 = .ok (.bipush 6, 2) := by decide +kernel
theorem dX10_isLike_20 : decode cX10_isLike 20 = .ok (.iload_n 3, 1) := by decide +kernel
theorem dX10_isLike_21 : decode cX10_isLike 21 = .ok (.imul, 1) := by decide +kernel
theorem dX10_isLike_22 : decode cX10_isLike 22 = .ok (.iload 4, 2) := by decide +kernel
theorem dX10_isLike_24 : decode cX10_isLike 24 = .ok (.iadd, 1) := by decide +kernel
theorem dX10_isLike_25 : decode cX10_isLike 25 = .ok (.baload, 1) := by decide +kernel
theorem dX10_isLike_26 : decode cX10_isLike 26 = .ok (.ifCond .eq 34, 3) := by decide +kernel
theorem dX10_isLike_29 : decode cX10_isLike 29 = .ok (.aload_n 0, 1) := by decide +kernel
theorem dX10_isLike_30 : decode cX10_isLike 30 = .ok (.getfield 29, 3) := by decide +kernel
theorem dX10_isLike_33 : decode cX10_isLike 33 = .ok (.bipush 6, 2) := by decide +kernel
theorem dX10_isLike_35 : decode cX10_isLike 35 = .ok (.iload_n 1, 1) := by decide +kernel
theorem dX10_isLike_36 : decode cX10_isLike 36 = .ok (.imul, 1) := by decide +kernel
theorem dX10_isLike_37 : decode cX10_isLike 37 = .ok (.iload_n 2, 1) := by decide +kernel
theorem dX10_isLike_38 : decode cX10_isLike 38 = .ok (.iadd, 1) := by decide +kernel
theorem dX10_isLike_39 : decode cX10_isLike 39 = .ok (.laload, 1) := by decide +kernel
theorem dX10_isLike_40 : decode cX10_isLike 40 = .ok (.aload_n 0, 1) := by decide +kernel
theorem dX10_isLike_41 : decode cX10_isLike 41 = .ok (.getfield 29, 3) := by decide +kernel
theorem dX10_isLike_44 : decode cX10_isLike 44 = .ok (.bipush 6, 2) := by decide +kernel
theorem dX10_isLike_46 : decode cX10_isLike 46 = .ok (.iload_n 3, 1) := by decide +kernel
theorem dX10_isLike_47 : decode cX10_isLike 47 = .ok (.imul, 1) := by decide +kernel
theorem dX10_isLike_48 : decode cX10_isLike 48 = .ok (.iload 4, 2) := by decide +kernel
theorem dX10_isLike_50 : decode cX10_isLike 50 = .ok (.iadd, 1) := by decide +kernel
theorem dX10_isLike_51 : decode cX10_isLike 51 = .ok (.laload, 1) := by decide +kernel
theorem dX10_isLike_52 : decode cX10_isLike 52 = .ok (.lcmp, 1) := by decide +kernel
theorem dX10_isLike_53 : decode cX10_isLike 53 = .ok (.ifCond .ne 7, 3) := by decide +kernel
theorem dX10_isLike_56 : decode cX10_isLike 56 = .ok (.iconst 1, 1) := by decide +kernel
theorem dX10_isLike_57 : decode cX10_isLike 57 = .ok (.goto 4, 3) := by decide +kernel
theorem dX10_isLike_60 : decode cX10_isLike 60 = .ok (.iconst 0, 1) := by decide +kernel
theorem dX10_isLike_61 : decode cX10_isLike 61 = .ok (.ireturn, 1) := by decide +kernel
theorem dX10_breakTwo_0 : decode cX10_breakTwo 0 = .ok (.aload_n 0, 1) := by decide +kernel
theorem dX10_breakTwo_1 : decode cX10_breakTwo 1 = .ok (.getfield 39, 3) := by decide +kernel
theorem dX10_breakTwo_4 : decode cX10_breakTwo 4 = .ok (.iload_n 1, 1) := by decide +kernel
theorem dX10_breakTwo_5 : decode cX10_breakTwo 5 = .ok (.iaload, 1) := by decide +kernel
theorem dX10_breakTwo_6 : decode cX10_breakTwo 6 = .ok (.istore 4, 2) := by decide +kernel
theorem dX10_breakTwo_8 : decode cX10_breakTwo 8 = .ok (.aload_n 0, 1) := by decide +kernel
theorem dX10_breakTwo_9 : decode cX10_breakTwo 9 = .ok (.getfield 42, 3) := by decide +kernel
theorem dX10_breakTwo_12 : decode cX10_breakTwo 12 = .ok (.iload_n 1, 1) := by decide +kernel
theorem dX10_breakTwo_13 : decode cX10_breakTwo 13 = .ok (.iaload, 1) := by decide +kernel
theorem dX10_breakTwo_14 : decode cX10_breakTwo 14 = .ok (.istore 5, 2) := by decide +kernel
theorem dX10_breakTwo_16 : decode cX10_breakTwo 16 = .ok (.aload_n 0, 1) := by decide +kernel
theorem dX10_breakTwo_17 : decode cX10_breakTwo 17 = .ok (.iload_n 2, 1) := by decide +kernel
theorem dX10_breakTwo_18 : decode cX10_breakTwo 18 = .ok (.iload 4, 2) := by decide +kernel
theorem dX10_breakTwo_20 : decode cX10_breakTwo 20 = .ok (.iload_n 3, 1) := by decide +kernel
theorem dX10_breakTwo_21 : decode cX10_breakTwo 21 = .ok (.iload 4, 2) := by decide +kernel
theorem dX10_breakTwo_23 : decode cX10_breakTwo 23 = .ok (.invokevirtual 150, 3) := by decide +kernel
theorem dX10_breakTwo_26 : decode cX10_breakTwo 26 = .ok (.ifCond .eq 33, 3) := by decide +kernel
theorem dX10_breakTwo_29 : decode cX10_breakTwo 29 = .ok (.aload_n 0, 1) := by decide +kernel
theorem dX10_breakTwo_30 : decode cX10_breakTwo 30 = .ok (.getfield 26, 3) := by decide +kernel
theorem dX10_breakTwo_33 : decode cX10_breakTwo 33 = .ok (.bipush 6, 2) := by decide +kernel
theorem dX10_breakTwo_35 : decode cX10_breakTwo 35 = .ok (.iload_n 2, 1) := by decide +kernel
theorem dX10_breakTwo_36 : decode cX10_breakTwo 36 = .ok (.imul, 1) := by decide +kernel
theorem dX10_breakTwo_37 : decode cX10_breakTwo 37 = .ok (.iload 5, 2) := by decide +kernel
theorem dX10_breakTwo_39 : decode cX10_breakTwo 39 = .ok (.iadd, 1) := by decide +kernel
theorem dX10_breakTwo_40 : decode cX10_breakTwo 40 = .ok (.baload, 1) := by decide +kernel
theorem dX10_breakTwo_41 : decode cX10_breakTwo 41 = .ok (.ifCond .eq 18, 3) := by decide +kernel
theorem dX10_breakTwo_44 : decode cX10_breakTwo 44 = .ok (.aload_n 0, 1) := by decide +kernel
theorem dX10_breakTwo_45 : decode cX10_breakTwo 45 = .ok (.getfield 26, 3) := by decide +kernel
theorem dX10_breakTwo_48 : decode cX10_breakTwo 48 = .ok (.bipush 6, 2) := by decide +kernel
theorem dX10_breakTwo_50 : decode cX10_breakTwo 50 = .ok (.iload_n 3, 1) := by decide +kernel
theorem dX10_breakTwo_51 : decode cX10_breakTwo 51 = .ok (.imul, 1) := by decide +kernel
theorem dX10_breakTwo_52 : decode cX10_breakTwo 52 = .ok (.iload 5, 2) := by decide +kernel
theorem dX10_breakTwo_54 : decode cX10_breakTwo 54 = .ok (.iadd, 1) := by decide +kernel
theorem dX10_breakTwo_55 : decode cX10_breakTwo 55 = .ok (.baload, 1) := by decide +kernel
theorem dX10_breakTwo_56 : decode cX10_breakTwo 56 = .ok (.ifCond .ne 5, 3) := by decide +kernel
theorem dX10_breakTwo_59 : decode cX10_breakTwo 59 = .ok (.iconst 0, 1) := by decide +kernel
theorem dX10_breakTwo_60 : decode cX10_breakTwo 60 = .ok (.ireturn, 1) := by decide +kernel
theorem dX10_breakTwo_61 : decode cX10_breakTwo 61 = .ok (.aload_n 0, 1) := by decide +kernel
theorem dX10_breakTwo_62 : decode cX10_breakTwo 62 = .ok (.getfield 29, 3) := by decide +kernel
theorem dX10_breakTwo_65 : decode cX10_breakTwo 65 = .ok (.bipush 6, 2) := by decide +kernel
theorem dX10_breakTwo_67 : decode cX10_breakTwo 67 = .ok (.iload_n 2, 1) := by decide +kernel
theorem dX10_breakTwo_68 : decode cX10_breakTwo 68 = .ok (.imul, 1) := by decide +kernel
theorem dX10_breakTwo_69 : decode cX10_breakTwo 69 = .ok (.iload 5, 2) := by decide +kernel
theorem dX10_breakTwo_71 : decode cX10_breakTwo 71 = .ok (.iadd, 1) := by decide +kernel
theorem dX10_breakTwo_72 : decode cX10_breakTwo 72 = .ok (.laload, 1) := by decide +kernel
theorem dX10_breakTwo_73 : decode cX10_breakTwo 73 = .ok (.lstore 6, 2) := by decide +kernel
theorem dX10_breakTwo_75 : decode cX10_breakTwo 75 = .ok (.aload_n 0, 1) := by decide +kernel
theorem dX10_breakTwo_76 : decode cX10_breakTwo 76 = .ok (.getfield 29, 3) := by decide +kernel
theorem dX10_breakTwo_79 : decode cX10_breakTwo 79 = .ok (.bipush 6, 2) := by decide +kernel
theorem dX10_breakTwo_81 : decode cX10_breakTwo 81 = .ok (.iload_n 3, 1) := by decide +kernel
theorem dX10_breakTwo_82 : decode cX10_breakTwo 82 = .ok (.imul, 1) := by decide +kernel
theorem dX10_breakTwo_83 : decode cX10_breakTwo 83 = .ok (.iload 5, 2) := by decide +kernel
theorem dX10_breakTwo_85 : decode cX10_breakTwo 85 = .ok (.iadd, 1) := by decide +kernel
theorem dX10_breakTwo_86 : decode cX10_breakTwo 86 = .ok (.laload, 1) := by decide +kernel
theorem dX10_breakTwo_87 : decode cX10_breakTwo 87 = .ok (.lstore 8, 2) := by decide +kernel
theorem dX10_breakTwo_89 : decode cX10_breakTwo 89 = .ok (.aload_n 0, 1) := by decide +kernel
theorem dX10_breakTwo_90 : decode cX10_breakTwo 90 = .ok (.getfield 33, 3) := by decide +kernel
theorem dX10_breakTwo_93 : decode cX10_breakTwo 93 = .ok (.iload_n 1, 1) := by decide +kernel
theorem dX10_breakTwo_94 : decode cX10_breakTwo 94 = .ok (.iaload, 1) := by decide +kernel
theorem dX10_breakTwo_95 : decode cX10_breakTwo 95 = .ok (.ifCond .ne 17, 3) := by decide +kernel
theorem dX10_breakTwo_98 : decode cX10_breakTwo 98 = .ok (.lload 6, 2) := by decide +kernel
theorem dX10_breakTwo_100 : decode cX10_breakTwo 100 = .ok (.lload 8, 2) := by decide +kernel
theorem dX10_breakTwo_102 : decode cX10_breakTwo 102 = .ok (.lcmp, 1) := by decide +kernel
theorem dX10_breakTwo_103 : decode cX10_breakTwo 103 = .ok (.ifCond .eq 7, 3) := by decide +kernel
theorem dX10_breakTwo_106 : decode cX10_breakTwo 106 = .ok (.iconst 1, 1) := by decide +kernel
theorem dX10_breakTwo_107 : decode cX10_breakTwo 107 = .ok (.goto 4, 3) := by decide +kernel
theorem dX10_breakTwo_110 : decode cX10_breakTwo 110 = .ok (.iconst 0, 1) := by decide +kernel
theorem dX10_breakTwo_111 : decode cX10_breakTwo 111 = .ok (.ireturn, 1) := by decide +kernel
theorem dX10_breakTwo_112 : decode cX10_breakTwo 112 = .ok (.lload 6, 2) := by decide +kernel
theorem dX10_breakTwo_114 : decode cX10_breakTwo 114 = .ok (.lload 8, 2) := by decide +kernel
theorem dX10_breakTwo_116 : decode cX10_breakTwo 116 = .ok (.lcmp, 1) := by decide +kernel
theorem dX10_breakTwo_117 : decode cX10_breakTwo 117 = .ok (.ifCond .le 11, 3) := by decide +kernel
theorem dX10_breakTwo_120 : decode cX10_breakTwo 120 = .ok (.lload 6, 2) := by decide +kernel
theorem dX10_breakTwo_122 : decode cX10_breakTwo 122 = .ok (.lload 8, 2) := by decide +kernel
theorem dX10_breakTwo_124 : decode cX10_breakTwo 124 = .ok (.lsub, 1) := by decide +kernel
theorem dX10_breakTwo_125 : decode cX10_breakTwo 125 = .ok (.goto 8, 3) := by decide +kernel
theorem dX10_breakTwo_128 : decode cX10_breakTwo 128 = .ok (.lload 8, 2) := by decide +kernel
theorem dX10_breakTwo_130 : decode cX10_breakTwo 130 = .ok (.lload 6, 2) := by decide +kernel
theorem dX10_breakTwo_132 : decode cX10_breakTwo 132 = .ok (.lsub, 1) := by decide +kernel
theorem dX10_breakTwo_133 : decode cX10_breakTwo 133 = .ok (.lstore 10, 2) := by decide +kernel
theorem dX10_breakTwo_135 : decode cX10_breakTwo 135 = .ok (.lload 10, 2) := by decide +kernel
theorem dX10_breakTwo_137 : decode cX10_breakTwo 137 = .ok (.lconst 0, 1) := by decide +kernel
theorem dX10_breakTwo_138 : decode cX10_breakTwo 138 = .ok (.lcmp, 1) := by decide +kernel
theorem dX10_breakTwo_139 : decode cX10_breakTwo 139 = .ok (.ifCond .lt 19, 3) := by decide +kernel
theorem dX10_breakTwo_142 : decode cX10_breakTwo 142 = .ok (.lload 10, 2) := by decide +kernel
theorem dX10_breakTwo_144 : decode cX10_breakTwo 144 = .ok (.aload_n 0, 1) := by decide +kernel
theorem dX10_breakTwo_145 : decode cX10_breakTwo 145 = .ok (.getfield 48, 3) := by decide +kernel
theorem dX10_breakTwo_148 : decode cX10_breakTwo 148 = .ok (.iload_n 1, 1) := by decide +kernel
theorem dX10_breakTwo_149 : decode cX10_breakTwo 149 = .ok (.laload, 1) := by decide +kernel
theorem dX10_breakTwo_150 : decode cX10_breakTwo 150 = .ok (.lcmp, 1) := by decide +kernel
theorem dX10_breakTwo_151 : decode cX10_breakTwo 151 = .ok (.ifCond .ge 7, 3) := by decide +kernel
theorem dX10_breakTwo_154 : decode cX10_breakTwo 154 = .ok (.iconst 1, 1) := by decide +kernel
theorem dX10_breakTwo_155 : decode cX10_breakTwo 155 = .ok (.goto 4, 3) := by decide +kernel
theorem dX10_breakTwo_158 : decode cX10_breakTwo 158 = .ok (.iconst 0, 1) := by decide +kernel
theorem dX10_breakTwo_159 : decode cX10_breakTwo 159 = .ok (.ireturn, 1) := by decide +kernel
theorem dX10_breakOne_0 : decode cX10_breakOne 0 = .ok (.bipush 6, 2) := by decide +kernel
theorem dX10_breakOne_2 : decode cX10_breakOne 2 = .ok (.iload_n 2, 1) := by decide +kernel
theorem dX10_breakOne_3 : decode cX10_breakOne 3 = .ok (.imul, 1) := by decide +kernel
theorem dX10_breakOne_4 : decode cX10_breakOne 4 = .ok (.aload_n 0, 1) := by decide +kernel
theorem dX10_breakOne_5 : decode cX10_breakOne 5 = .ok (.getfield 39, 3) := by decide +kernel
theorem dX10_breakOne_8 : decode cX10_breakOne 8 = .ok (.iload_n 1, 1) := by decide +kernel
theorem dX10_breakOne_9 : decode cX10_breakOne 9 = .ok (.iaload, 1) := by decide +kernel
theorem dX10_breakOne_10 : decode cX10_breakOne 10 = .ok (.iadd, 1) := by decide +kernel
theorem dX10_breakOne_11 : decode cX10_breakOne 11 = .ok (.istore 4, 2) := by decide +kernel
theorem dX10_breakOne_13 : decode cX10_breakOne 13 = .ok (.aload_n 0, 1) := by decide +kernel
theorem dX10_breakOne_14 : decode cX10_breakOne 14 = .ok (.getfield 33, 3) := by decide +kernel
theorem dX10_breakOne_17 : decode cX10_breakOne 17 = .ok (.iload_n 1, 1) := by decide +kernel
theorem dX10_breakOne_18 : decode cX10_breakOne 18 = .ok (.iaload, 1) := by decide +kernel
theorem dX10_breakOne_19 : decode cX10_breakOne 19 = .ok (.tableswitch 189 1 5 #[33, 189, 83, 189, 99], 33) := by decide +kernel
theorem dX10_breakOne_52 : decode cX10_breakOne 52 = .ok (.aload_n 0, 1) := by decide +kernel
theorem dX10_breakOne_53 : decode cX10_breakOne 53 = .ok (.getfield 26, 3) := by decide +kernel
theorem dX10_breakOne_56 : decode cX10_breakOne 56 = .ok (.iload 4, 2) := by decide +kernel
theorem dX10_breakOne_58 : decode cX10_breakOne 58 = .ok (.baload, 1) := by decide +kernel
theorem dX10_breakOne_59 : decode cX10_breakOne 59 = .ok (.ifCond .eq 41, 3) := by decide +kernel
theorem dX10_breakOne_62 : decode cX10_breakOne 62 = .ok (.aload_n 0, 1) := by decide +kernel
theorem dX10_breakOne_63 : decode cX10_breakOne 63 = .ok (.getfield 29, 3) := by decide +kernel
theorem dX10_breakOne_66 : decode cX10_breakOne 66 = .ok (.iload 4, 2) := by decide +kernel
theorem dX10_breakOne_68 : decode cX10_breakOne 68 = .ok (.laload, 1) := by decide +kernel
theorem dX10_breakOne_69 : decode cX10_breakOne 69 = .ok (.aload_n 0, 1) := by decide +kernel
theorem dX10_breakOne_70 : decode cX10_breakOne 70 = .ok (.getfield 48, 3) := by decide +kernel
theorem dX10_breakOne_73 : decode cX10_breakOne 73 = .ok (.iload_n 1, 1) := by decide +kernel
theorem dX10_breakOne_74 : decode cX10_breakOne 74 = .ok (.laload, 1) := by decide +kernel
theorem dX10_breakOne_75 : decode cX10_breakOne 75 = .ok (.lcmp, 1) := by decide +kernel
theorem dX10_breakOne_76 : decode cX10_breakOne 76 = .ok (.ifCond .lt 20, 3) := by decide +kernel
theorem dX10_breakOne_79 : decode cX10_breakOne 79 = .ok (.aload_n 0, 1) := by decide +kernel
theorem dX10_breakOne_80 : decode cX10_breakOne 80 = .ok (.getfield 29, 3) := by decide +kernel
theorem dX10_breakOne_83 : decode cX10_breakOne 83 = .ok (.iload 4, 2) := by decide +kernel
theorem dX10_breakOne_85 : decode cX10_breakOne 85 = .ok (.laload, 1) := by decide +kernel
theorem dX10_breakOne_86 : decode cX10_breakOne 86 = .ok (.aload_n 0, 1) := by decide +kernel
theorem dX10_breakOne_87 : decode cX10_breakOne 87 = .ok (.getfield 51, 3) := by decide +kernel
theorem dX10_breakOne_90 : decode cX10_breakOne 90 = .ok (.iload_n 1, 1) := by decide +kernel
theorem dX10_breakOne_91 : decode cX10_breakOne 91 = .ok (.laload, 1) := by decide +kernel
theorem dX10_breakOne_92 : decode cX10_breakOne 92 = .ok (.lcmp, 1) := by decide +kernel
theorem dX10_breakOne_93 : decode cX10_breakOne 93 = .ok (.ifCond .le 7, 3) := by decide +kernel
theorem dX10_breakOne_96 : decode cX10_breakOne 96 = .ok (.iconst 1, 1) := by decide +kernel
theorem dX10_breakOne_97 : decode cX10_breakOne 97 = .ok (.goto 4, 3) := by decide +kernel
theorem dX10_breakOne_100 : decode cX10_breakOne 100 = .ok (.iconst 0, 1) := by decide +kernel
theorem dX10_breakOne_101 : decode cX10_breakOne 101 = .ok (.ireturn, 1) := by decide +kernel
theorem dX10_breakOne_102 : decode cX10_breakOne 102 = .ok (.aload_n 0, 1) := by decide +kernel
theorem dX10_breakOne_103 : decode cX10_breakOne 103 = .ok (.getfield 26, 3) := by decide +kernel
theorem dX10_breakOne_106 : decode cX10_breakOne 106 = .ok (.iload 4, 2) := by decide +kernel
theorem dX10_breakOne_108 : decode cX10_breakOne 108 = .ok (.baload, 1) := by decide +kernel
theorem dX10_breakOne_109 : decode cX10_breakOne 109 = .ok (.ifCond .ne 7, 3) := by decide +kernel
theorem dX10_breakOne_112 : decode cX10_breakOne 112 = .ok (.iconst 1, 1) := by decide +kernel
theorem dX10_breakOne_113 : decode cX10_breakOne 113 = .ok (.goto 4, 3) := by decide +kernel
theorem dX10_breakOne_116 : decode cX10_breakOne 116 = .ok (.iconst 0, 1) := by decide +kernel
theorem dX10_breakOne_117 : decode cX10_breakOne 117 = .ok (.ireturn, 1) := by decide +kernel
theorem dX10_breakOne_118 : decode cX10_breakOne 118 = .ok (.aload_n 0, 1) := by decide +kernel
theorem dX10_breakOne_119 : decode cX10_breakOne 119 = .ok (.getfield 26, 3) := by decide +kernel
theorem dX10_breakOne_122 : decode cX10_breakOne 122 = .ok (.iload 4, 2) := by decide +kernel
theorem dX10_breakOne_124 : decode cX10_breakOne 124 = .ok (.baload, 1) := by decide +kernel
theorem dX10_breakOne_125 : decode cX10_breakOne 125 = .ok (.istore 5, 2) := by decide +kernel
theorem dX10_breakOne_127 : decode cX10_breakOne 127 = .ok (.iconst 0, 1) := by decide +kernel
theorem dX10_breakOne_128 : decode cX10_breakOne 128 = .ok (.istore 6, 2) := by decide +kernel
theorem dX10_breakOne_130 : decode cX10_breakOne 130 = .ok (.iload 6, 2) := by decide +kernel
theorem dX10_breakOne_132 : decode cX10_breakOne 132 = .ok (.aload_n 0, 1) := by decide +kernel
theorem dX10_breakOne_133 : decode cX10_breakOne 133 = .ok (.getfield 106, 3) := by decide +kernel
theorem dX10_breakOne_136 : decode cX10_breakOne 136 = .ok (.if_icmp .ge 69, 3) := by decide +kernel
theorem dX10_breakOne_139 : decode cX10_breakOne 139 = .ok (.iload 5, 2) := by decide +kernel
theorem dX10_breakOne_141 : decode cX10_breakOne 141 = .ok (.ifCond .eq 64, 3) := by decide +kernel
theorem dX10_breakOne_144 : decode cX10_breakOne 144 = .ok (.iload_n 3, 1) := by decide +kernel
theorem dX10_breakOne_145 : decode cX10_breakOne 145 = .ok (.iload 6, 2) := by decide +kernel
theorem dX10_breakOne_147 : decode cX10_breakOne 147 = .ok (.ishr, 1) := by decide +kernel
theorem dX10_breakOne_148 : decode cX10_breakOne 148 = .ok (.iconst 1, 1) := by decide +kernel
theorem dX10_breakOne_149 : decode cX10_breakOne 149 = .ok (.iand, 1) := by decide +kernel
theorem dX10_breakOne_150 : decode cX10_breakOne 150 = .ok (.iconst 1, 1) := by decide +kernel
theorem dX10_breakOne_151 : decode cX10_breakOne 151 = .ok (.if_icmp .ne 41, 3) := by decide +kernel
theorem dX10_breakOne_154 : decode cX10_breakOne 154 = .ok (.aload_n 0, 1) := by decide +kernel
theorem dX10_breakOne_155 : decode cX10_breakOne 155 = .ok (.getfield 16, 3) := by decide +kernel
theorem dX10_breakOne_158 : decode cX10_breakOne 158 = .ok (.iload 6, 2) := by decide +kernel
theorem dX10_breakOne_160 : decode cX10_breakOne 160 = .ok (.iaload, 1) := by decide +kernel
theorem dX10_breakOne_161 : decode cX10_breakOne 161 = .ok (.aload_n 0, 1) := by decide +kernel
theorem dX10_breakOne_162 : decode cX10_breakOne 162 = .ok (.getfield 45, 3) := by decide +kernel
theorem dX10_breakOne_165 : decode cX10_breakOne 165 = .ok (.iload_n 1, 1) := by decide +kernel
theorem dX10_breakOne_166 : decode cX10_breakOne 166 = .ok (.iaload, 1) := by decide +kernel
theorem dX10_breakOne_167 : decode cX10_breakOne 167 = .ok (.if_icmp .ne 25, 3) := by decide +kernel
theorem dX10_breakOne_170 : decode cX10_breakOne 170 = .ok (.aload_n 0, 1) := by decide +kernel
theorem dX10_breakOne_171 : decode cX10_breakOne 171 = .ok (.iload_n 2, 1) := by decide +kernel
theorem dX10_breakOne_172 : decode cX10_breakOne 172 = .ok (.aload_n 0, 1) := by decide +kernel
theorem dX10_breakOne_173 : decode cX10_breakOne 173 = .ok (.getfield 39, 3) := by decide +kernel
theorem dX10_breakOne_176 : decode cX10_breakOne 176 = .ok (.iload_n 1, 1) := by decide +kernel
theorem dX10_breakOne_177 : decode cX10_breakOne 177 = .ok (.iaload, 1) := by decide +kernel
theorem dX10_breakOne_178 : decode cX10_breakOne 178 = .ok (.iload 6, 2) := by decide +kernel
theorem dX10_breakOne_180 : decode cX10_breakOne 180 = .ok (.aload_n 0, 1) := by decide +kernel
theorem dX10_breakOne_181 : decode cX10_breakOne 181 = .ok (.getfield 42, 3) := by decide +kernel
theorem dX10_breakOne_184 : decode cX10_breakOne 184 = .ok (.iload_n 1, 1) := by decide +kernel
theorem dX10_breakOne_185 : decode cX10_breakOne 185 = .ok (.iaload, 1) := by decide +kernel
theorem dX10_breakOne_186 : decode cX10_breakOne 186 = .ok (.invokevirtual 150, 3) := by decide +kernel
theorem dX10_breakOne_189 : decode cX10_breakOne 189 = .ok (.ifCond .ne 7, 3) := by decide +kernel
theorem dX10_breakOne_192 : decode cX10_breakOne 192 = .ok (.iconst 1, 1) := by decide +kernel
theorem dX10_breakOne_193 : decode cX10_breakOne 193 = .ok (.goto 4, 3) := by decide +kernel
theorem dX10_breakOne_196 : decode cX10_breakOne 196 = .ok (.iconst 0, 1) := by decide +kernel
theorem dX10_breakOne_197 : decode cX10_breakOne 197 = .ok (.istore 5, 2) := by decide +kernel
theorem dX10_breakOne_199 : decode cX10_breakOne 199 = .ok (.iinc 6 1, 3) := by decide +kernel
theorem dX10_breakOne_202 : decode cX10_breakOne 202 = .ok (.goto (-72), 3) := by decide +kernel
theorem dX10_breakOne_205 : decode cX10_breakOne 205 = .ok (.iload 5, 2) := by decide +kernel
theorem dX10_breakOne_207 : decode cX10_breakOne 207 = .ok (.ireturn, 1) := by decide +kernel
theorem dX10_breakOne_208 : decode cX10_breakOne 208 = .ok (.iconst 0, 1) := by decide +kernel
theorem dX10_breakOne_209 : decode cX10_breakOne 209 = .ok (.ireturn, 1) := by decide +kernel
theorem dX10_isOf_0 : decode cX10_isOf 0 = .ok (.iload_n 3, 1) := by decide +kernel
theorem dX10_isOf_1 : decode cX10_isOf 1 = .ok (.iload_n 2, 1) := by decide +kernel
theorem dX10_isOf_2 : decode cX10_isOf 2 = .ok (.ishr, 1) := by decide +kernel
theorem dX10_isOf_3 : decode cX10_isOf 3 = .ok (.iconst 1, 1) := by decide +kernel
theorem dX10_isOf_4 : decode cX10_isOf 4 = .ok (.iand, 1) := by decide +kernel
theorem dX10_isOf_5 : decode cX10_isOf 5 = .ok (.iconst 1, 1) := by decide +kernel
theorem dX10_isOf_6 : decode cX10_isOf 6 = .ok (.if_icmp .ne 22, 3) := by decide +kernel
theorem dX10_isOf_9 : decode cX10_isOf 9 = .ok (.aload_n 0, 1) := by decide +kernel
theorem dX10_isOf_10 : decode cX10_isOf 10 = .ok (.getfield 16, 3) := by decide +kernel
theorem dX10_isOf_13 : decode cX10_isOf 13 = .ok (.iload_n 2, 1) := by decide +kernel
theorem dX10_isOf_14 : decode cX10_isOf 14 = .ok (.iaload, 1) := by decide +kernel
theorem dX10_isOf_15 : decode cX10_isOf 15 = .ok (.aload_n 0, 1) := by decide +kernel
theorem dX10_isOf_16 : decode cX10_isOf 16 = .ok (.getfield 36, 3) := by decide +kernel
theorem dX10_isOf_19 : decode cX10_isOf 19 = .ok (.iload_n 1, 1) := by decide +kernel
theorem dX10_isOf_20 : decode cX10_isOf 20 = .ok (.iaload, 1) := by decide +kernel
theorem dX10_isOf_21 : decode cX10_isOf 21 = .ok (.if_icmp .ne 7, 3) := by decide +kernel
theorem dX10_isOf_24 : decode cX10_isOf 24 = .ok (.iconst 1, 1) := by decide +kernel
theorem dX10_isOf_25 : decode cX10_isOf 25 = .ok (.goto 4, 3) := by decide +kernel
theorem dX10_isOf_28 : decode cX10_isOf 28 = .ok (.iconst 0, 1) := by decide +kernel
theorem dX10_isOf_29 : decode cX10_isOf 29 = .ok (.ireturn, 1) := by decide +kernel
theorem dX10_counts_0 : decode cX10_counts 0 = .ok (.aload_n 0, 1) := by decide +kernel
theorem dX10_counts_1 : decode cX10_counts 1 = .ok (.getfield 26, 3) := by decide +kernel
theorem dX10_counts_4 : decode cX10_counts 4 = .ok (.bipush 6, 2) := by decide +kernel
theorem dX10_counts_6 : decode cX10_counts 6 = .ok (.iload_n 2, 1) := by decide +kernel
theorem dX10_counts_7 : decode cX10_counts 7 = .ok (.imul, 1) := by decide +kernel
theorem dX10_counts_8 : decode cX10_counts 8 = .ok (.aload_n 0, 1) := by decide +kernel
theorem dX10_counts_9 : decode cX10_counts 9 = .ok (.getfield 39, 3) := by decide +kernel
theorem dX10_counts_12 : decode cX10_counts 12 = .ok (.iload_n 1, 1) := by decide +kernel
theorem dX10_counts_13 : decode cX10_counts 13 = .ok (.iaload, 1) := by decide +kernel
theorem dX10_counts_14 : decode cX10_counts 14 = .ok (.iadd, 1) := by decide +kernel
theorem dX10_counts_15 : decode cX10_counts 15 = .ok (.baload, 1) := by decide +kernel
theorem dX10_counts_16 : decode cX10_counts 16 = .ok (.ifCond .eq 47, 3) := by decide +kernel
theorem dX10_counts_19 : decode cX10_counts 19 = .ok (.aload_n 0, 1) := by decide +kernel
theorem dX10_counts_20 : decode cX10_counts 20 = .ok (.getfield 26, 3) := by decide +kernel
theorem dX10_counts_23 : decode cX10_counts 23 = .ok (.bipush 6, 2) := by decide +kernel
theorem dX10_counts_25 : decode cX10_counts 25 = .ok (.iload_n 2, 1) := by decide +kernel
theorem dX10_counts_26 : decode cX10_counts 26 = .ok (.imul, 1) := by decide +kernel
theorem dX10_counts_27 : decode cX10_counts 27 = .ok (.aload_n 0, 1) := by decide +kernel
theorem dX10_counts_28 : decode cX10_counts 28 = .ok (.getfield 42, 3) := by decide +kernel
theorem dX10_counts_31 : decode cX10_counts 31 = .ok (.iload_n 1, 1) := by decide +kernel
theorem dX10_counts_32 : decode cX10_counts 32 = .ok (.iaload, 1) := by decide +kernel
theorem dX10_counts_33 : decode cX10_counts 33 = .ok (.iadd, 1) := by decide +kernel
theorem dX10_counts_34 : decode cX10_counts 34 = .ok (.baload, 1) := by decide +kernel
theorem dX10_counts_35 : decode cX10_counts 35 = .ok (.ifCond .eq 28, 3) := by decide +kernel
theorem dX10_counts_38 : decode cX10_counts 38 = .ok (.aload_n 0, 1) := by decide +kernel
theorem dX10_counts_39 : decode cX10_counts 39 = .ok (.getfield 29, 3) := by decide +kernel
theorem dX10_counts_42 : decode cX10_counts 42 = .ok (.bipush 6, 2) := by decide +kernel
theorem dX10_counts_44 : decode cX10_counts 44 = .ok (.iload_n 2, 1) := by decide +kernel
theorem dX10_counts_45 : decode cX10_counts 45 = .ok (.imul, 1) := by decide +kernel
theorem dX10_counts_46 : decode cX10_counts 46 = .ok (.aload_n 0, 1) := by decide +kernel
theorem dX10_counts_47 : decode cX10_counts 47 = .ok (.getfield 42, 3) := by decide +kernel
theorem dX10_counts_50 : decode cX10_counts 50 = .ok (.iload_n 1, 1) := by decide +kernel
theorem dX10_counts_51 : decode cX10_counts 51 = .ok (.iaload, 1) := by decide +kernel
theorem dX10_counts_52 : decode cX10_counts 52 = .ok (.iadd, 1) := by decide +kernel
theorem dX10_counts_53 : decode cX10_counts 53 = .ok (.laload, 1) := by decide +kernel
theorem dX10_counts_54 : decode cX10_counts 54 = .ok (.lconst 0, 1) := by decide +kernel
theorem dX10_counts_55 : decode cX10_counts 55 = .ok (.lcmp, 1) := by decide +kernel
theorem dX10_counts_56 : decode cX10_counts 56 = .ok (.ifCond .le 7, 3) := by decide +kernel
theorem dX10_counts_59 : decode cX10_counts 59 = .ok (.iconst 1, 1) := by decide +kernel
theorem dX10_counts_60 : decode cX10_counts 60 = .ok (.goto 4, 3) := by decide +kernel
theorem dX10_counts_63 : decode cX10_counts 63 = .ok (.iconst 0, 1) := by decide +kernel
theorem dX10_counts_64 : decode cX10_counts 64 = .ok (.ireturn, 1) := by decide +kernel
theorem dX10_isMore_0 : decode cX10_isMore 0 = .ok (.aload_n 0, 1) := by decide +kernel
theorem dX10_isMore_1 : decode cX10_isMore 1 = .ok (.getfield 48, 3) := by decide +kernel
theorem dX10_isMore_4 : decode cX10_isMore 4 = .ok (.iload_n 1, 1) := by decide +kernel
theorem dX10_isMore_5 : decode cX10_isMore 5 = .ok (.laload, 1) := by decide +kernel
theorem dX10_isMore_6 : decode cX10_isMore 6 = .ok (.lstore 5, 2) := by decide +kernel
theorem dX10_isMore_8 : decode cX10_isMore 8 = .ok (.iconst 0, 1) := by decide +kernel
theorem dX10_isMore_9 : decode cX10_isMore 9 = .ok (.istore 7, 2) := by decide +kernel
theorem dX10_isMore_11 : decode cX10_isMore 11 = .ok (.iload 7, 2) := by decide +kernel
theorem dX10_isMore_13 : decode cX10_isMore 13 = .ok (.aload_n 0, 1) := by decide +kernel
theorem dX10_isMore_14 : decode cX10_isMore 14 = .ok (.getfield 106, 3) := by decide +kernel
theorem dX10_isMore_17 : decode cX10_isMore 17 = .ok (.if_icmp .ge 106, 3) := by decide +kernel
theorem dX10_isMore_20 : decode cX10_isMore 20 = .ok (.iload 7, 2) := by decide +kernel
theorem dX10_isMore_22 : decode cX10_isMore 22 = .ok (.iload 4, 2) := by decide +kernel
theorem dX10_isMore_24 : decode cX10_isMore 24 = .ok (.if_icmp .eq 93, 3) := by decide +kernel
theorem dX10_isMore_27 : decode cX10_isMore 27 = .ok (.aload_n 0, 1) := by decide +kernel
theorem dX10_isMore_28 : decode cX10_isMore 28 = .ok (.iload_n 1, 1) := by decide +kernel
theorem dX10_isMore_29 : decode cX10_isMore 29 = .ok (.iload 7, 2) := by decide +kernel
theorem dX10_isMore_31 : decode cX10_isMore 31 = .ok (.iload_n 3, 1) := by decide +kernel
theorem dX10_isMore_32 : decode cX10_isMore 32 = .ok (.invokevirtual 154, 3) := by decide +kernel
theorem dX10_isMore_35 : decode cX10_isMore 35 = .ok (.ifCond .eq 82, 3) := by decide +kernel
theorem dX10_isMore_38 : decode cX10_isMore 38 = .ok (.aload_n 0, 1) := by decide +kernel
theorem dX10_isMore_39 : decode cX10_isMore 39 = .ok (.iload_n 1, 1) := by decide +kernel
theorem dX10_isMore_40 : decode cX10_isMore 40 = .ok (.iload 7, 2) := by decide +kernel
theorem dX10_isMore_42 : decode cX10_isMore 42 = .ok (.invokevirtual 158, 3) := by decide +kernel
theorem dX10_isMore_45 : decode cX10_isMore 45 = .ok (.ifCond .eq 72, 3) := by decide +kernel
theorem dX10_isMore_48 : decode cX10_isMore 48 = .ok (.aload_n 0, 1) := by decide +kernel
theorem dX10_isMore_49 : decode cX10_isMore 49 = .ok (.iload 7, 2) := by decide +kernel
theorem dX10_isMore_51 : decode cX10_isMore 51 = .ok (.aload_n 0, 1) := by decide +kernel
theorem dX10_isMore_52 : decode cX10_isMore 52 = .ok (.getfield 39, 3) := by decide +kernel
theorem dX10_isMore_55 : decode cX10_isMore 55 = .ok (.iload_n 1, 1) := by decide +kernel
theorem dX10_isMore_56 : decode cX10_isMore 56 = .ok (.iaload, 1) := by decide +kernel
theorem dX10_isMore_57 : decode cX10_isMore 57 = .ok (.iload_n 2, 1) := by decide +kernel
theorem dX10_isMore_58 : decode cX10_isMore 58 = .ok (.aload_n 0, 1) := by decide +kernel
theorem dX10_isMore_59 : decode cX10_isMore 59 = .ok (.getfield 39, 3) := by decide +kernel
theorem dX10_isMore_62 : decode cX10_isMore 62 = .ok (.iload_n 1, 1) := by decide +kernel
theorem dX10_isMore_63 : decode cX10_isMore 63 = .ok (.iaload, 1) := by decide +kernel
theorem dX10_isMore_64 : decode cX10_isMore 64 = .ok (.invokevirtual 150, 3) := by decide +kernel
theorem dX10_isMore_67 : decode cX10_isMore 67 = .ok (.ifCond .eq 50, 3) := by decide +kernel
theorem dX10_isMore_70 : decode cX10_isMore 70 = .ok (.aload_n 0, 1) := by decide +kernel
theorem dX10_isMore_71 : decode cX10_isMore 71 = .ok (.getfield 29, 3) := by decide +kernel
theorem dX10_isMore_74 : decode cX10_isMore 74 = .ok (.bipush 6, 2) := by decide +kernel
theorem dX10_isMore_76 : decode cX10_isMore 76 = .ok (.iload 7, 2) := by decide +kernel
theorem dX10_isMore_78 : decode cX10_isMore 78 = .ok (.imul, 1) := by decide +kernel
theorem dX10_isMore_79 : decode cX10_isMore 79 = .ok (.aload_n 0, 1) := by decide +kernel
theorem dX10_isMore_80 : decode cX10_isMore 80 = .ok (.getfield 42, 3) := by decide +kernel
theorem dX10_isMore_83 : decode cX10_isMore 83 = .ok (.iload_n 1, 1) := by decide +kernel
theorem dX10_isMore_84 : decode cX10_isMore 84 = .ok (.iaload, 1) := by decide +kernel
theorem dX10_isMore_85 : decode cX10_isMore 85 = .ok (.iadd, 1) := by decide +kernel
theorem dX10_isMore_86 : decode cX10_isMore 86 = .ok (.laload, 1) := by decide +kernel
theorem dX10_isMore_87 : decode cX10_isMore 87 = .ok (.lload 5, 2) := by decide +kernel
theorem dX10_isMore_89 : decode cX10_isMore 89 = .ok (.lcmp, 1) := by decide +kernel
theorem dX10_isMore_90 : decode cX10_isMore 90 = .ok (.ifCond .le 5, 3) := by decide +kernel
theorem dX10_isMore_93 : decode cX10_isMore 93 = .ok (.iconst 1, 1) := by decide +kernel
theorem dX10_isMore_94 : decode cX10_isMore 94 = .ok (.ireturn, 1) := by decide +kernel
theorem dX10_isMore_95 : decode cX10_isMore 95 = .ok (.lload 5, 2) := by decide +kernel
theorem dX10_isMore_97 : decode cX10_isMore 97 = .ok (.aload_n 0, 1) := by decide +kernel
theorem dX10_isMore_98 : decode cX10_isMore 98 = .ok (.getfield 29, 3) := by decide +kernel
theorem dX10_isMore_101 : decode cX10_isMore 101 = .ok (.bipush 6, 2) := by decide +kernel
theorem dX10_isMore_103 : decode cX10_isMore 103 = .ok (.iload 7, 2) := by decide +kernel
theorem dX10_isMore_105 : decode cX10_isMore 105 = .ok (.imul, 1) := by decide +kernel
theorem dX10_isMore_106 : decode cX10_isMore 106 = .ok (.aload_n 0, 1) := by decide +kernel
theorem dX10_isMore_107 : decode cX10_isMore 107 = .ok (.getfield 42, 3) := by decide +kernel
theorem dX10_isMore_110 : decode cX10_isMore 110 = .ok (.iload_n 1, 1) := by decide +kernel
theorem dX10_isMore_111 : decode cX10_isMore 111 = .ok (.iaload, 1) := by decide +kernel
theorem dX10_isMore_112 : decode cX10_isMore 112 = .ok (.iadd, 1) := by decide +kernel
theorem dX10_isMore_113 : decode cX10_isMore 113 = .ok (.laload, 1) := by decide +kernel
theorem dX10_isMore_114 : decode cX10_isMore 114 = .ok (.lsub, 1) := by decide +kernel
theorem dX10_isMore_115 : decode cX10_isMore 115 = .ok (.lstore 5, 2) := by decide +kernel
theorem dX10_isMore_117 : decode cX10_isMore 117 = .ok (.iinc 7 1, 3) := by decide +kernel
theorem dX10_isMore_120 : decode cX10_isMore 120 = .ok (.goto (-109), 3) := by decide +kernel
theorem dX10_isMore_123 : decode cX10_isMore 123 = .ok (.iconst 0, 1) := by decide +kernel
theorem dX10_isMore_124 : decode cX10_isMore 124 = .ok (.ireturn, 1) := by decide +kernel
theorem dX10_breaksLaw_0 : decode cX10_breaksLaw 0 = .ok (.iconst 0, 1) := by decide +kernel
theorem dX10_breaksLaw_1 : decode cX10_breaksLaw 1 = .ok (.istore_n 3, 1) := by decide +kernel
theorem dX10_breaksLaw_2 : decode cX10_breaksLaw 2 = .ok (.iload_n 3, 1) := by decide +kernel
theorem dX10_breaksLaw_3 : decode cX10_breaksLaw 3 = .ok (.aload_n 0, 1) := by decide +kernel
theorem dX10_breaksLaw_4 : decode cX10_breaksLaw 4 = .ok (.getfield 106, 3) := by decide +kernel
theorem dX10_breaksLaw_7 : decode cX10_breaksLaw 7 = .ok (.if_icmp .ge 120, 3) := by decide +kernel
theorem dX10_breaksLaw_10 : decode cX10_breaksLaw 10 = .ok (.aload_n 0, 1) := by decide +kernel
theorem dX10_breaksLaw_11 : decode cX10_breaksLaw 11 = .ok (.iload_n 1, 1) := by decide +kernel
theorem dX10_breaksLaw_12 : decode cX10_breaksLaw 12 = .ok (.iload_n 3, 1) := by decide +kernel
theorem dX10_breaksLaw_13 : decode cX10_breaksLaw 13 = .ok (.iload_n 2, 1) := by decide +kernel
theorem dX10_breaksLaw_14 : decode cX10_breaksLaw 14 = .ok (.invokevirtual 154, 3) := by decide +kernel
theorem dX10_breaksLaw_17 : decode cX10_breaksLaw 17 = .ok (.ifCond .eq 104, 3) := by decide +kernel
theorem dX10_breaksLaw_20 : decode cX10_breaksLaw 20 = .ok (.aload_n 0, 1) := by decide +kernel
theorem dX10_breaksLaw_21 : decode cX10_breaksLaw 21 = .ok (.getfield 33, 3) := by decide +kernel
theorem dX10_breaksLaw_24 : decode cX10_breaksLaw 24 = .ok (.iload_n 1, 1) := by decide +kernel
theorem dX10_breaksLaw_25 : decode cX10_breaksLaw 25 = .ok (.iaload, 1) := by decide +kernel
theorem dX10_breaksLaw_26 : decode cX10_breaksLaw 26 = .ok (.iconst 4, 1) := by decide +kernel
theorem dX10_breaksLaw_27 : decode cX10_breaksLaw 27 = .ok (.if_icmp .ne 24, 3) := by decide +kernel
theorem dX10_breaksLaw_30 : decode cX10_breaksLaw 30 = .ok (.aload_n 0, 1) := by decide +kernel
theorem dX10_breaksLaw_31 : decode cX10_breaksLaw 31 = .ok (.iload_n 1, 1) := by decide +kernel
theorem dX10_breaksLaw_32 : decode cX10_breaksLaw 32 = .ok (.iload_n 3, 1) := by decide +kernel
theorem dX10_breaksLaw_33 : decode cX10_breaksLaw 33 = .ok (.invokevirtual 158, 3) := by decide +kernel
theorem dX10_breaksLaw_36 : decode cX10_breaksLaw 36 = .ok (.ifCond .eq 15, 3) := by decide +kernel
theorem dX10_breaksLaw_39 : decode cX10_breaksLaw 39 = .ok (.aload_n 0, 1) := by decide +kernel
theorem dX10_breaksLaw_40 : decode cX10_breaksLaw 40 = .ok (.iload_n 1, 1) := by decide +kernel
theorem dX10_breaksLaw_41 : decode cX10_breaksLaw 41 = .ok (.iload_n 3, 1) := by decide +kernel
theorem dX10_breaksLaw_42 : decode cX10_breaksLaw 42 = .ok (.iload_n 2, 1) := by decide +kernel
theorem dX10_breaksLaw_43 : decode cX10_breaksLaw 43 = .ok (.bipush (-9), 2) := by decide +kernel
theorem dX10_breaksLaw_45 : decode cX10_breaksLaw 45 = .ok (.invokevirtual 161, 3) := by decide +kernel
theorem dX10_breaksLaw_48 : decode cX10_breaksLaw 48 = .ok (.ifCond .ne 13, 3) := by decide +kernel
theorem dX10_breaksLaw_51 : decode cX10_breaksLaw 51 = .ok (.aload_n 0, 1) := by decide +kernel
theorem dX10_breaksLaw_52 : decode cX10_breaksLaw 52 = .ok (.iload_n 1, 1) := by decide +kernel
theorem dX10_breaksLaw_53 : decode cX10_breaksLaw 53 = .ok (.iload_n 3, 1) := by decide +kernel
theorem dX10_breaksLaw_54 : decode cX10_breaksLaw 54 = .ok (.iload_n 2, 1) := by decide +kernel
theorem dX10_breaksLaw_55 : decode cX10_breaksLaw 55 = .ok (.invokevirtual 164, 3) := by decide +kernel
theorem dX10_breaksLaw_58 : decode cX10_breaksLaw 58 = .ok (.ifCond .eq 5, 3) := by decide +kernel
theorem dX10_breaksLaw_61 : decode cX10_breaksLaw 61 = .ok (.iconst 1, 1) := by decide +kernel
theorem dX10_breaksLaw_62 : decode cX10_breaksLaw 62 = .ok (.ireturn, 1) := by decide +kernel
theorem dX10_breaksLaw_63 : decode cX10_breaksLaw 63 = .ok (.iconst 0, 1) := by decide +kernel
theorem dX10_breaksLaw_64 : decode cX10_breaksLaw 64 = .ok (.istore 4, 2) := by decide +kernel
theorem dX10_breaksLaw_66 : decode cX10_breaksLaw 66 = .ok (.iload 4, 2) := by decide +kernel
theorem dX10_breaksLaw_68 : decode cX10_breaksLaw 68 = .ok (.iload_n 3, 1) := by decide +kernel
theorem dX10_breaksLaw_69 : decode cX10_breaksLaw 69 = .ok (.if_icmp .ge 52, 3) := by decide +kernel
theorem dX10_breaksLaw_72 : decode cX10_breaksLaw 72 = .ok (.aload_n 0, 1) := by decide +kernel
theorem dX10_breaksLaw_73 : decode cX10_breaksLaw 73 = .ok (.getfield 33, 3) := by decide +kernel
theorem dX10_breaksLaw_76 : decode cX10_breaksLaw 76 = .ok (.iload_n 1, 1) := by decide +kernel
theorem dX10_breaksLaw_77 : decode cX10_breaksLaw 77 = .ok (.iaload, 1) := by decide +kernel
theorem dX10_breaksLaw_78 : decode cX10_breaksLaw 78 = .ok (.ifCond .eq 13, 3) := by decide +kernel
theorem dX10_breaksLaw_81 : decode cX10_breaksLaw 81 = .ok (.aload_n 0, 1) := by decide +kernel
theorem dX10_breaksLaw_82 : decode cX10_breaksLaw 82 = .ok (.getfield 33, 3) := by decide +kernel
theorem dX10_breaksLaw_85 : decode cX10_breaksLaw 85 = .ok (.iload_n 1, 1) := by decide +kernel
theorem dX10_breaksLaw_86 : decode cX10_breaksLaw 86 = .ok (.iaload, 1) := by decide +kernel
theorem dX10_breaksLaw_87 : decode cX10_breaksLaw 87 = .ok (.iconst 2, 1) := by decide +kernel
theorem dX10_breaksLaw_88 : decode cX10_breaksLaw 88 = .ok (.if_icmp .ne 27, 3) := by decide +kernel
theorem dX10_breaksLaw_91 : decode cX10_breaksLaw 91 = .ok (.aload_n 0, 1) := by decide +kernel
theorem dX10_breaksLaw_92 : decode cX10_breaksLaw 92 = .ok (.iload_n 1, 1) := by decide +kernel
theorem dX10_breaksLaw_93 : decode cX10_breaksLaw 93 = .ok (.iload 4, 2) := by decide +kernel
theorem dX10_breaksLaw_95 : decode cX10_breaksLaw 95 = .ok (.iload_n 2, 1) := by decide +kernel
theorem dX10_breaksLaw_96 : decode cX10_breaksLaw 96 = .ok (.invokevirtual 154, 3) := by decide +kernel
theorem dX10_breaksLaw_99 : decode cX10_breaksLaw 99 = .ok (.ifCond .eq 16, 3) := by decide +kernel
theorem dX10_breaksLaw_102 : decode cX10_breaksLaw 102 = .ok (.aload_n 0, 1) := by decide +kernel
theorem dX10_breaksLaw_103 : decode cX10_breaksLaw 103 = .ok (.iload_n 1, 1) := by decide +kernel
theorem dX10_breaksLaw_104 : decode cX10_breaksLaw 104 = .ok (.iload_n 3, 1) := by decide +kernel
theorem dX10_breaksLaw_105 : decode cX10_breaksLaw 105 = .ok (.iload 4, 2) := by decide +kernel
theorem dX10_breaksLaw_107 : decode cX10_breaksLaw 107 = .ok (.invokevirtual 167, 3) := by decide +kernel
theorem dX10_breaksLaw_110 : decode cX10_breaksLaw 110 = .ok (.ifCond .eq 5, 3) := by decide +kernel
theorem dX10_breaksLaw_113 : decode cX10_breaksLaw 113 = .ok (.iconst 1, 1) := by decide +kernel
theorem dX10_breaksLaw_114 : decode cX10_breaksLaw 114 = .ok (.ireturn, 1) := by decide +kernel
theorem dX10_breaksLaw_115 : decode cX10_breaksLaw 115 = .ok (.iinc 4 1, 3) := by decide +kernel
theorem dX10_breaksLaw_118 : decode cX10_breaksLaw 118 = .ok (.goto (-52), 3) := by decide +kernel
theorem dX10_breaksLaw_121 : decode cX10_breaksLaw 121 = .ok (.iinc 3 1, 3) := by decide +kernel
theorem dX10_breaksLaw_124 : decode cX10_breaksLaw 124 = .ok (.goto (-122), 3) := by decide +kernel
theorem dX10_breaksLaw_127 : decode cX10_breaksLaw 127 = .ok (.iconst 0, 1) := by decide +kernel
theorem dX10_breaksLaw_128 : decode cX10_breaksLaw 128 = .ok (.ireturn, 1) := by decide +kernel
theorem dX10_bitsOf_0 : decode cX10_bitsOf 0 = .ok (.iconst 0, 1) := by decide +kernel
theorem dX10_bitsOf_1 : decode cX10_bitsOf 1 = .ok (.istore_n 1, 1) := by decide +kernel
theorem dX10_bitsOf_2 : decode cX10_bitsOf 2 = .ok (.iconst 0, 1) := by decide +kernel
theorem dX10_bitsOf_3 : decode cX10_bitsOf 3 = .ok (.istore_n 2, 1) := by decide +kernel
theorem dX10_bitsOf_4 : decode cX10_bitsOf 4 = .ok (.iload_n 2, 1) := by decide +kernel
theorem dX10_bitsOf_5 : decode cX10_bitsOf 5 = .ok (.bipush 12, 2) := by decide +kernel
theorem dX10_bitsOf_7 : decode cX10_bitsOf 7 = .ok (.if_icmp .ge 17, 3) := by decide +kernel
theorem dX10_bitsOf_10 : decode cX10_bitsOf 10 = .ok (.iload_n 1, 1) := by decide +kernel
theorem dX10_bitsOf_11 : decode cX10_bitsOf 11 = .ok (.iload_n 0, 1) := by decide +kernel
theorem dX10_bitsOf_12 : decode cX10_bitsOf 12 = .ok (.iload_n 2, 1) := by decide +kernel
theorem dX10_bitsOf_13 : decode cX10_bitsOf 13 = .ok (.ishr, 1) := by decide +kernel
theorem dX10_bitsOf_14 : decode cX10_bitsOf 14 = .ok (.iconst 1, 1) := by decide +kernel
theorem dX10_bitsOf_15 : decode cX10_bitsOf 15 = .ok (.iand, 1) := by decide +kernel
theorem dX10_bitsOf_16 : decode cX10_bitsOf 16 = .ok (.iadd, 1) := by decide +kernel
theorem dX10_bitsOf_17 : decode cX10_bitsOf 17 = .ok (.istore_n 1, 1) := by decide +kernel
theorem dX10_bitsOf_18 : decode cX10_bitsOf 18 = .ok (.iinc 2 1, 3) := by decide +kernel
theorem dX10_bitsOf_21 : decode cX10_bitsOf 21 = .ok (.goto (-17), 3) := by decide +kernel
theorem dX10_bitsOf_24 : decode cX10_bitsOf 24 = .ok (.iload_n 1, 1) := by decide +kernel
theorem dX10_bitsOf_25 : decode cX10_bitsOf 25 = .ok (.ireturn, 1) := by decide +kernel
theorem dX10_isLeastSum_0 : decode cX10_isLeastSum 0 = .ok (.iconst 0, 1) := by decide +kernel
theorem dX10_isLeastSum_1 : decode cX10_isLeastSum 1 = .ok (.istore_n 3, 1) := by decide +kernel
theorem dX10_isLeastSum_2 : decode cX10_isLeastSum 2 = .ok (.iload_n 2, 1) := by decide +kernel
theorem dX10_isLeastSum_3 : decode cX10_isLeastSum 3 = .ok (.iload_n 3, 1) := by decide +kernel
theorem dX10_isLeastSum_4 : decode cX10_isLeastSum 4 = .ok (.ishr, 1) := by decide +kernel
theorem dX10_isLeastSum_5 : decode cX10_isLeastSum 5 = .ok (.iconst 1, 1) := by decide +kernel
theorem dX10_isLeastSum_6 : decode cX10_isLeastSum 6 = .ok (.iand, 1) := by decide +kernel
theorem dX10_isLeastSum_7 : decode cX10_isLeastSum 7 = .ok (.ifCond .ne 9, 3) := by decide +kernel
theorem dX10_isLeastSum_10 : decode cX10_isLeastSum 10 = .ok (.iinc 3 1, 3) := by decide +kernel
theorem dX10_isLeastSum_13 : decode cX10_isLeastSum 13 = .ok (.goto (-11), 3) := by decide +kernel
theorem dX10_isLeastSum_16 : decode cX10_isLeastSum 16 = .ok (.iconst 0, 1) := by decide +kernel
theorem dX10_isLeastSum_17 : decode cX10_isLeastSum 17 = .ok (.istore 4, 2) := by decide +kernel
theorem dX10_isLeastSum_19 : decode cX10_isLeastSum 19 = .ok (.iload 4, 2) := by decide +kernel
theorem dX10_isLeastSum_21 : decode cX10_isLeastSum 21 = .ok (.aload_n 0, 1) := by decide +kernel
theorem dX10_isLeastSum_22 : decode cX10_isLeastSum 22 = .ok (.getfield 106, 3) := by decide +kernel
theorem dX10_isLeastSum_25 : decode cX10_isLeastSum 25 = .ok (.if_icmp .ge 76, 3) := by decide +kernel
theorem dX10_isLeastSum_28 : decode cX10_isLeastSum 28 = .ok (.iload_n 2, 1) := by decide +kernel
theorem dX10_isLeastSum_29 : decode cX10_isLeastSum 29 = .ok (.iload 4, 2) := by decide +kernel
theorem dX10_isLeastSum_31 : decode cX10_isLeastSum 31 = .ok (.ishr, 1) := by decide +kernel
theorem dX10_isLeastSum_32 : decode cX10_isLeastSum 32 = .ok (.iconst 1, 1) := by decide +kernel
theorem dX10_isLeastSum_33 : decode cX10_isLeastSum 33 = .ok (.iand, 1) := by decide +kernel
theorem dX10_isLeastSum_34 : decode cX10_isLeastSum 34 = .ok (.iconst 1, 1) := by decide +kernel
theorem dX10_isLeastSum_35 : decode cX10_isLeastSum 35 = .ok (.if_icmp .ne 60, 3) := by decide +kernel
theorem dX10_isLeastSum_38 : decode cX10_isLeastSum 38 = .ok (.aload_n 0, 1) := by decide +kernel
theorem dX10_isLeastSum_39 : decode cX10_isLeastSum 39 = .ok (.iload_n 1, 1) := by decide +kernel
theorem dX10_isLeastSum_40 : decode cX10_isLeastSum 40 = .ok (.iload 4, 2) := by decide +kernel
theorem dX10_isLeastSum_42 : decode cX10_isLeastSum 42 = .ok (.iload_n 2, 1) := by decide +kernel
theorem dX10_isLeastSum_43 : decode cX10_isLeastSum 43 = .ok (.invokevirtual 154, 3) := by decide +kernel
theorem dX10_isLeastSum_46 : decode cX10_isLeastSum 46 = .ok (.ifCond .eq 47, 3) := by decide +kernel
theorem dX10_isLeastSum_49 : decode cX10_isLeastSum 49 = .ok (.aload_n 0, 1) := by decide +kernel
theorem dX10_isLeastSum_50 : decode cX10_isLeastSum 50 = .ok (.iload_n 1, 1) := by decide +kernel
theorem dX10_isLeastSum_51 : decode cX10_isLeastSum 51 = .ok (.iload 4, 2) := by decide +kernel
theorem dX10_isLeastSum_53 : decode cX10_isLeastSum 53 = .ok (.invokevirtual 158, 3) := by decide +kernel
theorem dX10_isLeastSum_56 : decode cX10_isLeastSum 56 = .ok (.ifCond .eq 37, 3) := by decide +kernel
theorem dX10_isLeastSum_59 : decode cX10_isLeastSum 59 = .ok (.aload_n 0, 1) := by decide +kernel
theorem dX10_isLeastSum_60 : decode cX10_isLeastSum 60 = .ok (.iload 4, 2) := by decide +kernel
theorem dX10_isLeastSum_62 : decode cX10_isLeastSum 62 = .ok (.aload_n 0, 1) := by decide +kernel
theorem dX10_isLeastSum_63 : decode cX10_isLeastSum 63 = .ok (.getfield 39, 3) := by decide +kernel
theorem dX10_isLeastSum_66 : decode cX10_isLeastSum 66 = .ok (.iload_n 1, 1) := by decide +kernel
theorem dX10_isLeastSum_67 : decode cX10_isLeastSum 67 = .ok (.iaload, 1) := by decide +kernel
theorem dX10_isLeastSum_68 : decode cX10_isLeastSum 68 = .ok (.iload_n 3, 1) := by decide +kernel
theorem dX10_isLeastSum_69 : decode cX10_isLeastSum 69 = .ok (.aload_n 0, 1) := by decide +kernel
theorem dX10_isLeastSum_70 : decode cX10_isLeastSum 70 = .ok (.getfield 39, 3) := by decide +kernel
theorem dX10_isLeastSum_73 : decode cX10_isLeastSum 73 = .ok (.iload_n 1, 1) := by decide +kernel
theorem dX10_isLeastSum_74 : decode cX10_isLeastSum 74 = .ok (.iaload, 1) := by decide +kernel
theorem dX10_isLeastSum_75 : decode cX10_isLeastSum 75 = .ok (.invokevirtual 150, 3) := by decide +kernel
theorem dX10_isLeastSum_78 : decode cX10_isLeastSum 78 = .ok (.ifCond .eq 15, 3) := by decide +kernel
theorem dX10_isLeastSum_81 : decode cX10_isLeastSum 81 = .ok (.aload_n 0, 1) := by decide +kernel
theorem dX10_isLeastSum_82 : decode cX10_isLeastSum 82 = .ok (.iload_n 1, 1) := by decide +kernel
theorem dX10_isLeastSum_83 : decode cX10_isLeastSum 83 = .ok (.iload_n 3, 1) := by decide +kernel
theorem dX10_isLeastSum_84 : decode cX10_isLeastSum 84 = .ok (.iload_n 2, 1) := by decide +kernel
theorem dX10_isLeastSum_85 : decode cX10_isLeastSum 85 = .ok (.iload 4, 2) := by decide +kernel
theorem dX10_isLeastSum_87 : decode cX10_isLeastSum 87 = .ok (.invokevirtual 161, 3) := by decide +kernel
theorem dX10_isLeastSum_90 : decode cX10_isLeastSum 90 = .ok (.ifCond .eq 5, 3) := by decide +kernel
theorem dX10_isLeastSum_93 : decode cX10_isLeastSum 93 = .ok (.iconst 0, 1) := by decide +kernel
theorem dX10_isLeastSum_94 : decode cX10_isLeastSum 94 = .ok (.ireturn, 1) := by decide +kernel
theorem dX10_isLeastSum_95 : decode cX10_isLeastSum 95 = .ok (.iinc 4 1, 3) := by decide +kernel
theorem dX10_isLeastSum_98 : decode cX10_isLeastSum 98 = .ok (.goto (-79), 3) := by decide +kernel
theorem dX10_isLeastSum_101 : decode cX10_isLeastSum 101 = .ok (.aload_n 0, 1) := by decide +kernel
theorem dX10_isLeastSum_102 : decode cX10_isLeastSum 102 = .ok (.iload_n 1, 1) := by decide +kernel
theorem dX10_isLeastSum_103 : decode cX10_isLeastSum 103 = .ok (.iload_n 3, 1) := by decide +kernel
theorem dX10_isLeastSum_104 : decode cX10_isLeastSum 104 = .ok (.iload_n 2, 1) := by decide +kernel
theorem dX10_isLeastSum_105 : decode cX10_isLeastSum 105 = .ok (.bipush (-9), 2) := by decide +kernel
theorem dX10_isLeastSum_107 : decode cX10_isLeastSum 107 = .ok (.invokevirtual 161, 3) := by decide +kernel
theorem dX10_isLeastSum_110 : decode cX10_isLeastSum 110 = .ok (.ireturn, 1) := by decide +kernel
theorem dX10_findQuarrels_0 : decode cX10_findQuarrels 0 = .ok (.aload_n 0, 1) := by decide +kernel
theorem dX10_findQuarrels_1 : decode cX10_findQuarrels 1 = .ok (.invokevirtual 170, 3) := by decide +kernel
theorem dX10_findQuarrels_4 : decode cX10_findQuarrels 4 = .ok (.istore_n 2, 1) := by decide +kernel
theorem dX10_findQuarrels_5 : decode cX10_findQuarrels 5 = .ok (.aload_n 0, 1) := by decide +kernel
theorem dX10_findQuarrels_6 : decode cX10_findQuarrels 6 = .ok (.iconst 0, 1) := by decide +kernel
theorem dX10_findQuarrels_7 : decode cX10_findQuarrels 7 = .ok (.putfield 174, 3) := by decide +kernel
theorem dX10_findQuarrels_10 : decode cX10_findQuarrels 10 = .ok (.iconst 1, 1) := by decide +kernel
theorem dX10_findQuarrels_11 : decode cX10_findQuarrels 11 = .ok (.istore_n 3, 1) := by decide +kernel
theorem dX10_findQuarrels_12 : decode cX10_findQuarrels 12 = .ok (.iload_n 3, 1) := by decide +kernel
theorem dX10_findQuarrels_13 : decode cX10_findQuarrels 13 = .ok (.iconst 1, 1) := by decide +kernel
theorem dX10_findQuarrels_14 : decode cX10_findQuarrels 14 = .ok (.aload_n 0, 1) := by decide +kernel
theorem dX10_findQuarrels_15 : decode cX10_findQuarrels 15 = .ok (.getfield 106, 3) := by decide +kernel
theorem dX10_findQuarrels_18 : decode cX10_findQuarrels 18 = .ok (.ishl, 1) := by decide +kernel
theorem dX10_findQuarrels_19 : decode cX10_findQuarrels 19 = .ok (.if_icmp .ge 169, 3) := by decide +kernel
theorem dX10_findQuarrels_22 : decode cX10_findQuarrels 22 = .ok (.iload_n 3, 1) := by decide +kernel
theorem dX10_findQuarrels_23 : decode cX10_findQuarrels 23 = .ok (.iload_n 2, 1) := by decide +kernel
theorem dX10_findQuarrels_24 : decode cX10_findQuarrels 24 = .ok (.iconst (-1), 1) := by decide +kernel
theorem dX10_findQuarrels_25 : decode cX10_findQuarrels 25 = .ok (.ixor, 1) := by decide +kernel
theorem dX10_findQuarrels_26 : decode cX10_findQuarrels 26 = .ok (.iand, 1) := by decide +kernel
theorem dX10_findQuarrels_27 : decode cX10_findQuarrels 27 = .ok (.ifCond .eq 6, 3) := by decide +kernel
theorem dX10_findQuarrels_30 : decode cX10_findQuarrels 30 = .ok (.goto 152, 3) := by decide +kernel
theorem dX10_findQuarrels_33 : decode cX10_findQuarrels 33 = .ok (.iload_n 3, 1) := by decide +kernel
theorem dX10_findQuarrels_34 : decode cX10_findQuarrels 34 = .ok (.invokestatic 177, 3) := by decide +kernel
theorem dX10_findQuarrels_37 : decode cX10_findQuarrels 37 = .ok (.istore 4, 2) := by decide +kernel
theorem dX10_findQuarrels_39 : decode cX10_findQuarrels 39 = .ok (.aload_n 0, 1) := by decide +kernel
theorem dX10_findQuarrels_40 : decode cX10_findQuarrels 40 = .ok (.getfield 33, 3) := by decide +kernel
theorem dX10_findQuarrels_43 : decode cX10_findQuarrels 43 = .ok (.iload_n 1, 1) := by decide +kernel
theorem dX10_findQuarrels_44 : decode cX10_findQuarrels 44 = .ok (.iaload, 1) := by decide +kernel
theorem dX10_findQuarrels_45 : decode cX10_findQuarrels 45 = .ok (.iconst 4, 1) := by decide +kernel
theorem dX10_findQuarrels_46 : decode cX10_findQuarrels 46 = .ok (.if_icmp .ne 14, 3) := by decide +kernel
theorem dX10_findQuarrels_49 : decode cX10_findQuarrels 49 = .ok (.aload_n 0, 1) := by decide +kernel
theorem dX10_findQuarrels_50 : decode cX10_findQuarrels 50 = .ok (.iload_n 1, 1) := by decide +kernel
theorem dX10_findQuarrels_51 : decode cX10_findQuarrels 51 = .ok (.iload_n 3, 1) := by decide +kernel
theorem dX10_findQuarrels_52 : decode cX10_findQuarrels 52 = .ok (.invokevirtual 180, 3) := by decide +kernel
theorem dX10_findQuarrels_55 : decode cX10_findQuarrels 55 = .ok (.istore 5, 2) := by decide +kernel
theorem dX10_findQuarrels_57 : decode cX10_findQuarrels 57 = .ok (.goto 100, 3) := by decide +kernel
theorem dX10_findQuarrels_60 : decode cX10_findQuarrels 60 = .ok (.aload_n 0, 1) := by decide +kernel
theorem dX10_findQuarrels_61 : decode cX10_findQuarrels 61 = .ok (.getfield 33, 3) := by decide +kernel
theorem dX10_findQuarrels_64 : decode cX10_findQuarrels 64 = .ok (.iload_n 1, 1) := by decide +kernel
theorem dX10_findQuarrels_65 : decode cX10_findQuarrels 65 = .ok (.iaload, 1) := by decide +kernel
theorem dX10_findQuarrels_66 : decode cX10_findQuarrels 66 = .ok (.ifCond .eq 13, 3) := by decide +kernel
theorem dX10_findQuarrels_69 : decode cX10_findQuarrels 69 = .ok (.aload_n 0, 1) := by decide +kernel
theorem dX10_findQuarrels_70 : decode cX10_findQuarrels 70 = .ok (.getfield 33, 3) := by decide +kernel
theorem dX10_findQuarrels_73 : decode cX10_findQuarrels 73 = .ok (.iload_n 1, 1) := by decide +kernel
theorem dX10_findQuarrels_74 : decode cX10_findQuarrels 74 = .ok (.iaload, 1) := by decide +kernel
theorem dX10_findQuarrels_75 : decode cX10_findQuarrels 75 = .ok (.iconst 2, 1) := by decide +kernel
theorem dX10_findQuarrels_76 : decode cX10_findQuarrels 76 = .ok (.if_icmp .ne 28, 3) := by decide +kernel
theorem dX10_findQuarrels_79 : decode cX10_findQuarrels 79 = .ok (.iload 4, 2) := by decide +kernel
theorem dX10_findQuarrels_81 : decode cX10_findQuarrels 81 = .ok (.iconst 2, 1) := by decide +kernel
theorem dX10_findQuarrels_82 : decode cX10_findQuarrels 82 = .ok (.if_icmp .ne 16, 3) := by decide +kernel
theorem dX10_findQuarrels_85 : decode cX10_findQuarrels 85 = .ok (.aload_n 0, 1) := by decide +kernel
theorem dX10_findQuarrels_86 : decode cX10_findQuarrels 86 = .ok (.iload_n 1, 1) := by decide +kernel
theorem dX10_findQuarrels_87 : decode cX10_findQuarrels 87 = .ok (.iload_n 3, 1) := by decide +kernel
theorem dX10_findQuarrels_88 : decode cX10_findQuarrels 88 = .ok (.invokevirtual 183, 3) := by decide +kernel
theorem dX10_findQuarrels_91 : decode cX10_findQuarrels 91 = .ok (.ifCond .eq 7, 3) := by decide +kernel
theorem dX10_findQuarrels_94 : decode cX10_findQuarrels 94 = .ok (.iconst 1, 1) := by decide +kernel
theorem dX10_findQuarrels_95 : decode cX10_findQuarrels 95 = .ok (.goto 4, 3) := by decide +kernel
theorem dX10_findQuarrels_98 : decode cX10_findQuarrels 98 = .ok (.iconst 0, 1) := by decide +kernel
theorem dX10_findQuarrels_99 : decode cX10_findQuarrels 99 = .ok (.istore 5, 2) := by decide +kernel
theorem dX10_findQuarrels_101 : decode cX10_findQuarrels 101 = .ok (.goto 56, 3) := by decide +kernel
theorem dX10_findQuarrels_104 : decode cX10_findQuarrels 104 = .ok (.iconst 0, 1) := by decide +kernel
theorem dX10_findQuarrels_105 : decode cX10_findQuarrels 105 = .ok (.istore 6, 2) := by decide +kernel
theorem dX10_findQuarrels_107 : decode cX10_findQuarrels 107 = .ok (.iload_n 3, 1) := by decide +kernel
theorem dX10_findQuarrels_108 : decode cX10_findQuarrels 108 = .ok (.iload 6, 2) := by decide +kernel
theorem dX10_findQuarrels_110 : decode cX10_findQuarrels 110 = .ok (.ishr, 1) := by decide +kernel
theorem dX10_findQuarrels_111 : decode cX10_findQuarrels 111 = .ok (.iconst 1, 1) := by decide +kernel
theorem dX10_findQuarrels_112 : decode cX10_findQuarrels 112 = .ok (.iand, 1) := by decide +kernel
theorem dX10_findQuarrels_113 : decode cX10_findQuarrels 113 = .ok (.ifCond .ne 9, 3) := by decide +kernel
theorem dX10_findQuarrels_116 : decode cX10_findQuarrels 116 = .ok (.iinc 6 1, 3) := by decide +kernel
theorem dX10_findQuarrels_119 : decode cX10_findQuarrels 119 = .ok (.goto (-12), 3) := by decide +kernel
theorem dX10_findQuarrels_122 : decode cX10_findQuarrels 122 = .ok (.iload 4, 2) := by decide +kernel
theorem dX10_findQuarrels_124 : decode cX10_findQuarrels 124 = .ok (.iconst 1, 1) := by decide +kernel
theorem dX10_findQuarrels_125 : decode cX10_findQuarrels 125 = .ok (.if_icmp .ne 29, 3) := by decide +kernel
theorem dX10_findQuarrels_128 : decode cX10_findQuarrels 128 = .ok (.aload_n 0, 1) := by decide +kernel
theorem dX10_findQuarrels_129 : decode cX10_findQuarrels 129 = .ok (.iload_n 1, 1) := by decide +kernel
theorem dX10_findQuarrels_130 : decode cX10_findQuarrels 130 = .ok (.iload 6, 2) := by decide +kernel
theorem dX10_findQuarrels_132 : decode cX10_findQuarrels 132 = .ok (.iload_n 3, 1) := by decide +kernel
theorem dX10_findQuarrels_133 : decode cX10_findQuarrels 133 = .ok (.invokevirtual 154, 3) := by decide +kernel
theorem dX10_findQuarrels_136 : decode cX10_findQuarrels 136 = .ok (.ifCond .eq 18, 3) := by decide +kernel
theorem dX10_findQuarrels_139 : decode cX10_findQuarrels 139 = .ok (.aload_n 0, 1) := by decide +kernel
theorem dX10_findQuarrels_140 : decode cX10_findQuarrels 140 = .ok (.iload_n 1, 1) := by decide +kernel
theorem dX10_findQuarrels_141 : decode cX10_findQuarrels 141 = .ok (.iload 6, 2) := by decide +kernel
theorem dX10_findQuarrels_143 : decode cX10_findQuarrels 143 = .ok (.iload_n 2, 1) := by decide +kernel
theorem dX10_findQuarrels_144 : decode cX10_findQuarrels 144 = .ok (.invokevirtual 164, 3) := by decide +kernel
theorem dX10_findQuarrels_147 : decode cX10_findQuarrels 147 = .ok (.ifCond .eq 7, 3) := by decide +kernel
theorem dX10_findQuarrels_150 : decode cX10_findQuarrels 150 = .ok (.iconst 1, 1) := by decide +kernel
theorem dX10_findQuarrels_151 : decode cX10_findQuarrels 151 = .ok (.goto 4, 3) := by decide +kernel
theorem dX10_findQuarrels_154 : decode cX10_findQuarrels 154 = .ok (.iconst 0, 1) := by decide +kernel
theorem dX10_findQuarrels_155 : decode cX10_findQuarrels 155 = .ok (.istore 5, 2) := by decide +kernel
theorem dX10_findQuarrels_157 : decode cX10_findQuarrels 157 = .ok (.iload 5, 2) := by decide +kernel
theorem dX10_findQuarrels_159 : decode cX10_findQuarrels 159 = .ok (.ifCond .eq 23, 3) := by decide +kernel
theorem dX10_findQuarrels_162 : decode cX10_findQuarrels 162 = .ok (.aload_n 0, 1) := by decide +kernel
theorem dX10_findQuarrels_163 : decode cX10_findQuarrels 163 = .ok (.getfield 84, 3) := by decide +kernel
theorem dX10_findQuarrels_166 : decode cX10_findQuarrels 166 = .ok (.aload_n 0, 1) := by decide +kernel
theorem dX10_findQuarrels_167 : decode cX10_findQuarrels 167 = .ok (.getfield 174, 3) := by decide +kernel
theorem dX10_findQuarrels_170 : decode cX10_findQuarrels 170 = .ok (.iload_n 3, 1) := by decide +kernel
theorem dX10_findQuarrels_171 : decode cX10_findQuarrels 171 = .ok (.iastore, 1) := by decide +kernel
theorem dX10_findQuarrels_172 : decode cX10_findQuarrels 172 = .ok (.aload_n 0, 1) := by decide +kernel
theorem dX10_findQuarrels_173 : decode cX10_findQuarrels 173 = .ok (.dup, 1) := by decide +kernel
theorem dX10_findQuarrels_174 : decode cX10_findQuarrels 174 = .ok (.getfield 174, 3) := by decide +kernel
theorem dX10_findQuarrels_177 : decode cX10_findQuarrels 177 = .ok (.iconst 1, 1) := by decide +kernel
theorem dX10_findQuarrels_178 : decode cX10_findQuarrels 178 = .ok (.iadd, 1) := by decide +kernel
theorem dX10_findQuarrels_179 : decode cX10_findQuarrels 179 = .ok (.putfield 174, 3) := by decide +kernel
theorem dX10_findQuarrels_182 : decode cX10_findQuarrels 182 = .ok (.iinc 3 1, 3) := by decide +kernel
theorem dX10_findQuarrels_185 : decode cX10_findQuarrels 185 = .ok (.goto (-173), 3) := by decide +kernel
theorem dX10_findQuarrels_188 : decode cX10_findQuarrels 188 = .ok (.return_, 1) := by decide +kernel
theorem dX10_quarrels_0 : decode cX10_quarrels 0 = .ok (.aload_n 0, 1) := by decide +kernel
theorem dX10_quarrels_1 : decode cX10_quarrels 1 = .ok (.iconst 0, 1) := by decide +kernel
theorem dX10_quarrels_2 : decode cX10_quarrels 2 = .ok (.putfield 93, 3) := by decide +kernel
theorem dX10_quarrels_5 : decode cX10_quarrels 5 = .ok (.aload_n 0, 1) := by decide +kernel
theorem dX10_quarrels_6 : decode cX10_quarrels 6 = .ok (.iload_n 1, 1) := by decide +kernel
theorem dX10_quarrels_7 : decode cX10_quarrels 7 = .ok (.invokevirtual 147, 3) := by decide +kernel
theorem dX10_quarrels_10 : decode cX10_quarrels 10 = .ok (.ifCond .eq 5, 3) := by decide +kernel
theorem dX10_quarrels_13 : decode cX10_quarrels 13 = .ok (.iconst (-1), 1) := by decide +kernel
theorem dX10_quarrels_14 : decode cX10_quarrels 14 = .ok (.ireturn, 1) := by decide +kernel
theorem dX10_quarrels_15 : decode cX10_quarrels 15 = .ok (.aload_n 0, 1) := by decide +kernel
theorem dX10_quarrels_16 : decode cX10_quarrels 16 = .ok (.iload_n 1, 1) := by decide +kernel
theorem dX10_quarrels_17 : decode cX10_quarrels 17 = .ok (.invokevirtual 186, 3) := by decide +kernel
theorem dX10_quarrels_20 : decode cX10_quarrels 20 = .ok (.aload_n 0, 1) := by decide +kernel
theorem dX10_quarrels_21 : decode cX10_quarrels 21 = .ok (.getfield 174, 3) := by decide +kernel
theorem dX10_quarrels_24 : decode cX10_quarrels 24 = .ok (.ireturn, 1) := by decide +kernel
theorem dX10_quarrel_0 : decode cX10_quarrel 0 = .ok (.aload_n 0, 1) := by decide +kernel
theorem dX10_quarrel_1 : decode cX10_quarrel 1 = .ok (.iconst 0, 1) := by decide +kernel
theorem dX10_quarrel_2 : decode cX10_quarrel 2 = .ok (.putfield 93, 3) := by decide +kernel
theorem dX10_quarrel_5 : decode cX10_quarrel 5 = .ok (.aload_n 0, 1) := by decide +kernel
theorem dX10_quarrel_6 : decode cX10_quarrel 6 = .ok (.iload_n 1, 1) := by decide +kernel
theorem dX10_quarrel_7 : decode cX10_quarrel 7 = .ok (.invokevirtual 147, 3) := by decide +kernel
theorem dX10_quarrel_10 : decode cX10_quarrel 10 = .ok (.ifCond .eq 5, 3) := by decide +kernel
theorem dX10_quarrel_13 : decode cX10_quarrel 13 = .ok (.iconst (-1), 1) := by decide +kernel
theorem dX10_quarrel_14 : decode cX10_quarrel 14 = .ok (.ireturn, 1) := by decide +kernel
theorem dX10_quarrel_15 : decode cX10_quarrel 15 = .ok (.aload_n 0, 1) := by decide +kernel
theorem dX10_quarrel_16 : decode cX10_quarrel 16 = .ok (.iload_n 1, 1) := by decide +kernel
theorem dX10_quarrel_17 : decode cX10_quarrel 17 = .ok (.invokevirtual 186, 3) := by decide +kernel
theorem dX10_quarrel_20 : decode cX10_quarrel 20 = .ok (.iload_n 2, 1) := by decide +kernel
theorem dX10_quarrel_21 : decode cX10_quarrel 21 = .ok (.i2l, 1) := by decide +kernel
theorem dX10_quarrel_22 : decode cX10_quarrel 22 = .ok (.lconst 0, 1) := by decide +kernel
theorem dX10_quarrel_23 : decode cX10_quarrel 23 = .ok (.aload_n 0, 1) := by decide +kernel
theorem dX10_quarrel_24 : decode cX10_quarrel 24 = .ok (.getfield 174, 3) := by decide +kernel
theorem dX10_quarrel_27 : decode cX10_quarrel 27 = .ok (.iconst 1, 1) := by decide +kernel
theorem dX10_quarrel_28 : decode cX10_quarrel 28 = .ok (.isub, 1) := by decide +kernel
theorem dX10_quarrel_29 : decode cX10_quarrel 29 = .ok (.i2l, 1) := by decide +kernel
theorem dX10_quarrel_30 : decode cX10_quarrel 30 = .ok (.invokestatic 102, 3) := by decide +kernel
theorem dX10_quarrel_33 : decode cX10_quarrel 33 = .ok (.ifCond .eq 12, 3) := by decide +kernel
theorem dX10_quarrel_36 : decode cX10_quarrel 36 = .ok (.aload_n 0, 1) := by decide +kernel
theorem dX10_quarrel_37 : decode cX10_quarrel 37 = .ok (.getfield 84, 3) := by decide +kernel
theorem dX10_quarrel_40 : decode cX10_quarrel 40 = .ok (.iload_n 2, 1) := by decide +kernel
theorem dX10_quarrel_41 : decode cX10_quarrel 41 = .ok (.iaload, 1) := by decide +kernel
theorem dX10_quarrel_42 : decode cX10_quarrel 42 = .ok (.goto 5, 3) := by decide +kernel
theorem dX10_quarrel_45 : decode cX10_quarrel 45 = .ok (.bipush (-9), 2) := by decide +kernel
theorem dX10_quarrel_47 : decode cX10_quarrel 47 = .ok (.ireturn, 1) := by decide +kernel
theorem dX10_firstBroken_0 : decode cX10_firstBroken 0 = .ok (.iconst 0, 1) := by decide +kernel
theorem dX10_firstBroken_1 : decode cX10_firstBroken 1 = .ok (.istore_n 2, 1) := by decide +kernel
theorem dX10_firstBroken_2 : decode cX10_firstBroken 2 = .ok (.iload_n 2, 1) := by decide +kernel
theorem dX10_firstBroken_3 : decode cX10_firstBroken 3 = .ok (.aload_n 0, 1) := by decide +kernel
theorem dX10_firstBroken_4 : decode cX10_firstBroken 4 = .ok (.getfield 109, 3) := by decide +kernel
theorem dX10_firstBroken_7 : decode cX10_firstBroken 7 = .ok (.if_icmp .ge 29, 3) := by decide +kernel
theorem dX10_firstBroken_10 : decode cX10_firstBroken 10 = .ok (.aload_n 0, 1) := by decide +kernel
theorem dX10_firstBroken_11 : decode cX10_firstBroken 11 = .ok (.getfield 54, 3) := by decide +kernel
theorem dX10_firstBroken_14 : decode cX10_firstBroken 14 = .ok (.iload_n 2, 1) := by decide +kernel
theorem dX10_firstBroken_15 : decode cX10_firstBroken 15 = .ok (.baload, 1) := by decide +kernel
theorem dX10_firstBroken_16 : decode cX10_firstBroken 16 = .ok (.ifCond .eq 14, 3) := by decide +kernel
theorem dX10_firstBroken_19 : decode cX10_firstBroken 19 = .ok (.aload_n 0, 1) := by decide +kernel
theorem dX10_firstBroken_20 : decode cX10_firstBroken 20 = .ok (.iload_n 2, 1) := by decide +kernel
theorem dX10_firstBroken_21 : decode cX10_firstBroken 21 = .ok (.iload_n 1, 1) := by decide +kernel
theorem dX10_firstBroken_22 : decode cX10_firstBroken 22 = .ok (.invokevirtual 183, 3) := by decide +kernel
theorem dX10_firstBroken_25 : decode cX10_firstBroken 25 = .ok (.ifCond .eq 5, 3) := by decide +kernel
theorem dX10_firstBroken_28 : decode cX10_firstBroken 28 = .ok (.iload_n 2, 1) := by decide +kernel
theorem dX10_firstBroken_29 : decode cX10_firstBroken 29 = .ok (.ireturn, 1) := by decide +kernel
theorem dX10_firstBroken_30 : decode cX10_firstBroken 30 = .ok (.iinc 2 1, 3) := by decide +kernel
theorem dX10_firstBroken_33 : decode cX10_firstBroken 33 = .ok (.goto (-31), 3) := by decide +kernel
theorem dX10_firstBroken_36 : decode cX10_firstBroken 36 = .ok (.bipush (-9), 2) := by decide +kernel
theorem dX10_firstBroken_38 : decode cX10_firstBroken 38 = .ok (.ireturn, 1) := by decide +kernel
theorem dX10_clean_0 : decode cX10_clean 0 = .ok (.aload_n 0, 1) := by decide +kernel
theorem dX10_clean_1 : decode cX10_clean 1 = .ok (.iconst 0, 1) := by decide +kernel
theorem dX10_clean_2 : decode cX10_clean 2 = .ok (.putfield 93, 3) := by decide +kernel
theorem dX10_clean_5 : decode cX10_clean 5 = .ok (.aload_n 0, 1) := by decide +kernel
theorem dX10_clean_6 : decode cX10_clean 6 = .ok (.aload_n 0, 1) := by decide +kernel
theorem dX10_clean_7 : decode cX10_clean 7 = .ok (.invokevirtual 170, 3) := by decide +kernel
theorem dX10_clean_10 : decode cX10_clean 10 = .ok (.invokevirtual 190, 3) := by decide +kernel
theorem dX10_clean_13 : decode cX10_clean 13 = .ok (.bipush (-9), 2) := by decide +kernel
theorem dX10_clean_15 : decode cX10_clean 15 = .ok (.if_icmp .ne 7, 3) := by decide +kernel
theorem dX10_clean_18 : decode cX10_clean 18 = .ok (.iconst 1, 1) := by decide +kernel
theorem dX10_clean_19 : decode cX10_clean 19 = .ok (.goto 4, 3) := by decide +kernel
theorem dX10_clean_22 : decode cX10_clean 22 = .ok (.iconst 0, 1) := by decide +kernel
theorem dX10_clean_23 : decode cX10_clean 23 = .ok (.ireturn, 1) := by decide +kernel
theorem dX10_breaks_0 : decode cX10_breaks 0 = .ok (.aload_n 0, 1) := by decide +kernel
theorem dX10_breaks_1 : decode cX10_breaks 1 = .ok (.iconst 0, 1) := by decide +kernel
theorem dX10_breaks_2 : decode cX10_breaks 2 = .ok (.putfield 93, 3) := by decide +kernel
theorem dX10_breaks_5 : decode cX10_breaks 5 = .ok (.iload_n 1, 1) := by decide +kernel
theorem dX10_breaks_6 : decode cX10_breaks 6 = .ok (.aload_n 0, 1) := by decide +kernel
theorem dX10_breaks_7 : decode cX10_breaks 7 = .ok (.invokevirtual 170, 3) := by decide +kernel
theorem dX10_breaks_10 : decode cX10_breaks 10 = .ok (.iconst (-1), 1) := by decide +kernel
theorem dX10_breaks_11 : decode cX10_breaks 11 = .ok (.ixor, 1) := by decide +kernel
theorem dX10_breaks_12 : decode cX10_breaks 12 = .ok (.iand, 1) := by decide +kernel
theorem dX10_breaks_13 : decode cX10_breaks 13 = .ok (.ifCond .eq 8, 3) := by decide +kernel
theorem dX10_breaks_16 : decode cX10_breaks 16 = .ok (.bipush (-2), 2) := by decide +kernel
theorem dX10_breaks_18 : decode cX10_breaks 18 = .ok (.goto 8, 3) := by decide +kernel
theorem dX10_breaks_21 : decode cX10_breaks 21 = .ok (.aload_n 0, 1) := by decide +kernel
theorem dX10_breaks_22 : decode cX10_breaks 22 = .ok (.iload_n 1, 1) := by decide +kernel
theorem dX10_breaks_23 : decode cX10_breaks 23 = .ok (.invokevirtual 190, 3) := by decide +kernel
theorem dX10_breaks_26 : decode cX10_breaks 26 = .ok (.ireturn, 1) := by decide +kernel
theorem dX10_know_0 : decode cX10_know 0 = .ok (.aload_n 0, 1) := by decide +kernel
theorem dX10_know_1 : decode cX10_know 1 = .ok (.getfield 121, 3) := by decide +kernel
theorem dX10_know_4 : decode cX10_know 4 = .ok (.ifCond .eq 4, 3) := by decide +kernel
theorem dX10_know_7 : decode cX10_know 7 = .ok (.return_, 1) := by decide +kernel
theorem dX10_know_8 : decode cX10_know 8 = .ok (.aload_n 0, 1) := by decide +kernel
theorem dX10_know_9 : decode cX10_know 9 = .ok (.iconst 1, 1) := by decide +kernel
theorem dX10_know_10 : decode cX10_know 10 = .ok (.putfield 121, 3) := by decide +kernel
theorem dX10_know_13 : decode cX10_know 13 = .ok (.aload_n 0, 1) := by decide +kernel
theorem dX10_know_14 : decode cX10_know 14 = .ok (.invokevirtual 170, 3) := by decide +kernel
theorem dX10_know_17 : decode cX10_know 17 = .ok (.istore_n 1, 1) := by decide +kernel
theorem dX10_know_18 : decode cX10_know 18 = .ok (.aload_n 0, 1) := by decide +kernel
theorem dX10_know_19 : decode cX10_know 19 = .ok (.iconst 0, 1) := by decide +kernel
theorem dX10_know_20 : decode cX10_know 20 = .ok (.putfield 193, 3) := by decide +kernel
theorem dX10_know_23 : decode cX10_know 23 = .ok (.iconst 0, 1) := by decide +kernel
theorem dX10_know_24 : decode cX10_know 24 = .ok (.istore_n 2, 1) := by decide +kernel
theorem dX10_know_25 : decode cX10_know 25 = .ok (.iload_n 2, 1) := by decide +kernel
theorem dX10_know_26 : decode cX10_know 26 = .ok (.iconst 1, 1) := by decide +kernel
theorem dX10_know_27 : decode cX10_know 27 = .ok (.aload_n 0, 1) := by decide +kernel
theorem dX10_know_28 : decode cX10_know 28 = .ok (.getfield 106, 3) := by decide +kernel
theorem dX10_know_31 : decode cX10_know 31 = .ok (.ishl, 1) := by decide +kernel
theorem dX10_know_32 : decode cX10_know 32 = .ok (.if_icmp .ge 125, 3) := by decide +kernel
theorem dX10_know_35 : decode cX10_know 35 = .ok (.aload_n 0, 1) := by decide +kernel
theorem dX10_know_36 : decode cX10_know 36 = .ok (.getfield 81, 3) := by decide +kernel
theorem dX10_know_39 : decode cX10_know 39 = .ok (.iload_n 2, 1) := by decide +kernel
theorem dX10_know_40 : decode cX10_know 40 = .ok (.iload_n 2, 1) := by decide +kernel
theorem dX10_know_41 : decode cX10_know 41 = .ok (.iload_n 1, 1) := by decide +kernel
theorem dX10_know_42 : decode cX10_know 42 = .ok (.iconst (-1), 1) := by decide +kernel
theorem dX10_know_43 : decode cX10_know 43 = .ok (.ixor, 1) := by decide +kernel
theorem dX10_know_44 : decode cX10_know 44 = .ok (.iand, 1) := by decide +kernel
theorem dX10_know_45 : decode cX10_know 45 = .ok (.ifCond .ne 21, 3) := by decide +kernel
theorem dX10_know_48 : decode cX10_know 48 = .ok (.aload_n 0, 1) := by decide +kernel
theorem dX10_know_49 : decode cX10_know 49 = .ok (.iload_n 1, 1) := by decide +kernel
theorem dX10_know_50 : decode cX10_know 50 = .ok (.iload_n 2, 1) := by decide +kernel
theorem dX10_know_51 : decode cX10_know 51 = .ok (.iconst (-1), 1) := by decide +kernel
theorem dX10_know_52 : decode cX10_know 52 = .ok (.ixor, 1) := by decide +kernel
theorem dX10_know_53 : decode cX10_know 53 = .ok (.iand, 1) := by decide +kernel
theorem dX10_know_54 : decode cX10_know 54 = .ok (.invokevirtual 190, 3) := by decide +kernel
theorem dX10_know_57 : decode cX10_know 57 = .ok (.bipush (-9), 2) := by decide +kernel
theorem dX10_know_59 : decode cX10_know 59 = .ok (.if_icmp .ne 7, 3) := by decide +kernel
theorem dX10_know_62 : decode cX10_know 62 = .ok (.iconst 1, 1) := by decide +kernel
theorem dX10_know_63 : decode cX10_know 63 = .ok (.goto 4, 3) := by decide +kernel
theorem dX10_know_66 : decode cX10_know 66 = .ok (.iconst 0, 1) := by decide +kernel
theorem dX10_know_67 : decode cX10_know 67 = .ok (.bastore, 1) := by decide +kernel
theorem dX10_know_68 : decode cX10_know 68 = .ok (.aload_n 0, 1) := by decide +kernel
theorem dX10_know_69 : decode cX10_know 69 = .ok (.getfield 81, 3) := by decide +kernel
theorem dX10_know_72 : decode cX10_know 72 = .ok (.iload_n 2, 1) := by decide +kernel
theorem dX10_know_73 : decode cX10_know 73 = .ok (.baload, 1) := by decide +kernel
theorem dX10_know_74 : decode cX10_know 74 = .ok (.istore_n 3, 1) := by decide +kernel
theorem dX10_know_75 : decode cX10_know 75 = .ok (.iload_n 2, 1) := by decide +kernel
theorem dX10_know_76 : decode cX10_know 76 = .ok (.iconst 1, 1) := by decide +kernel
theorem dX10_know_77 : decode cX10_know 77 = .ok (.isub, 1) := by decide +kernel
theorem dX10_know_78 : decode cX10_know 78 = .ok (.iload_n 2, 1) := by decide +kernel
theorem dX10_know_79 : decode cX10_know 79 = .ok (.iand, 1) := by decide +kernel
theorem dX10_know_80 : decode cX10_know 80 = .ok (.istore 4, 2) := by decide +kernel
theorem dX10_know_82 : decode cX10_know 82 = .ok (.iload_n 3, 1) := by decide +kernel
theorem dX10_know_83 : decode cX10_know 83 = .ok (.ifCond .eq 44, 3) := by decide +kernel
theorem dX10_know_86 : decode cX10_know 86 = .ok (.iload 4, 2) := by decide +kernel
theorem dX10_know_88 : decode cX10_know 88 = .ok (.iload_n 2, 1) := by decide +kernel
theorem dX10_know_89 : decode cX10_know 89 = .ok (.if_icmp .eq 38, 3) := by decide +kernel
theorem dX10_know_92 : decode cX10_know 92 = .ok (.aload_n 0, 1) := by decide +kernel
theorem dX10_know_93 : decode cX10_know 93 = .ok (.getfield 81, 3) := by decide +kernel
theorem dX10_know_96 : decode cX10_know 96 = .ok (.iload 4, 2) := by decide +kernel
theorem dX10_know_98 : decode cX10_know 98 = .ok (.baload, 1) := by decide +kernel
theorem dX10_know_99 : decode cX10_know 99 = .ok (.ifCond .ne 7, 3) := by decide +kernel
theorem dX10_know_102 : decode cX10_know 102 = .ok (.iconst 1, 1) := by decide +kernel
theorem dX10_know_103 : decode cX10_know 103 = .ok (.goto 4, 3) := by decide +kernel
theorem dX10_know_106 : decode cX10_know 106 = .ok (.iconst 0, 1) := by decide +kernel
theorem dX10_know_107 : decode cX10_know 107 = .ok (.istore_n 3, 1) := by decide +kernel
theorem dX10_know_108 : decode cX10_know 108 = .ok (.iload 4, 2) := by decide +kernel
theorem dX10_know_110 : decode cX10_know 110 = .ok (.ifCond .ne 6, 3) := by decide +kernel
theorem dX10_know_113 : decode cX10_know 113 = .ok (.goto 14, 3) := by decide +kernel
theorem dX10_know_116 : decode cX10_know 116 = .ok (.iload 4, 2) := by decide +kernel
theorem dX10_know_118 : decode cX10_know 118 = .ok (.iconst 1, 1) := by decide +kernel
theorem dX10_know_119 : decode cX10_know 119 = .ok (.isub, 1) := by decide +kernel
theorem dX10_know_120 : decode cX10_know 120 = .ok (.iload_n 2, 1) := by decide +kernel
theorem dX10_know_121 : decode cX10_know 121 = .ok (.iand, 1) := by decide +kernel
theorem dX10_know_122 : decode cX10_know 122 = .ok (.istore 4, 2) := by decide +kernel
theorem dX10_know_124 : decode cX10_know 124 = .ok (.goto (-42), 3) := by decide +kernel
theorem dX10_know_127 : decode cX10_know 127 = .ok (.iload_n 3, 1) := by decide +kernel
theorem dX10_know_128 : decode cX10_know 128 = .ok (.ifCond .eq 23, 3) := by decide +kernel
theorem dX10_know_131 : decode cX10_know 131 = .ok (.aload_n 0, 1) := by decide +kernel
theorem dX10_know_132 : decode cX10_know 132 = .ok (.getfield 78, 3) := by decide +kernel
theorem dX10_know_135 : decode cX10_know 135 = .ok (.aload_n 0, 1) := by decide +kernel
theorem dX10_know_136 : decode cX10_know 136 = .ok (.getfield 193, 3) := by decide +kernel
theorem dX10_know_139 : decode cX10_know 139 = .ok (.iload_n 2, 1) := by decide +kernel
theorem dX10_know_140 : decode cX10_know 140 = .ok (.iastore, 1) := by decide +kernel
theorem dX10_know_141 : decode cX10_know 141 = .ok (.aload_n 0, 1) := by decide +kernel
theorem dX10_know_142 : decode cX10_know 142 = .ok (.dup, 1) := by decide +kernel
theorem dX10_know_143 : decode cX10_know 143 = .ok (.getfield 193, 3) := by decide +kernel
theorem dX10_know_146 : decode cX10_know 146 = .ok (.iconst 1, 1) := by decide +kernel
theorem dX10_know_147 : decode cX10_know 147 = .ok (.iadd, 1) := by decide +kernel
theorem dX10_know_148 : decode cX10_know 148 = .ok (.putfield 193, 3) := by decide +kernel
theorem dX10_know_151 : decode cX10_know 151 = .ok (.iinc 2 1, 3) := by decide +kernel
theorem dX10_know_154 : decode cX10_know 154 = .ok (.goto (-129), 3) := by decide +kernel
theorem dX10_know_157 : decode cX10_know 157 = .ok (.return_, 1) := by decide +kernel
theorem dX10_priceOf_0 : decode cX10_priceOf 0 = .ok (.iconst 0, 1) := by decide +kernel
theorem dX10_priceOf_1 : decode cX10_priceOf 1 = .ok (.istore_n 2, 1) := by decide +kernel
theorem dX10_priceOf_2 : decode cX10_priceOf 2 = .ok (.iconst 0, 1) := by decide +kernel
theorem dX10_priceOf_3 : decode cX10_priceOf 3 = .ok (.istore_n 3, 1) := by decide +kernel
theorem dX10_priceOf_4 : decode cX10_priceOf 4 = .ok (.iload_n 3, 1) := by decide +kernel
theorem dX10_priceOf_5 : decode cX10_priceOf 5 = .ok (.aload_n 0, 1) := by decide +kernel
theorem dX10_priceOf_6 : decode cX10_priceOf 6 = .ok (.getfield 106, 3) := by decide +kernel
theorem dX10_priceOf_9 : decode cX10_priceOf 9 = .ok (.if_icmp .ge 31, 3) := by decide +kernel
theorem dX10_priceOf_12 : decode cX10_priceOf 12 = .ok (.iload_n 2, 1) := by decide +kernel
theorem dX10_priceOf_13 : decode cX10_priceOf 13 = .ok (.iload_n 1, 1) := by decide +kernel
theorem dX10_priceOf_14 : decode cX10_priceOf 14 = .ok (.iload_n 3, 1) := by decide +kernel
theorem dX10_priceOf_15 : decode cX10_priceOf 15 = .ok (.ishr, 1) := by decide +kernel
theorem dX10_priceOf_16 : decode cX10_priceOf 16 = .ok (.iconst 1, 1) := by decide +kernel
theorem dX10_priceOf_17 : decode cX10_priceOf 17 = .ok (.iand, 1) := by decide +kernel
theorem dX10_priceOf_18 : decode cX10_priceOf 18 = .ok (.iconst 1, 1) := by decide +kernel
theorem dX10_priceOf_19 : decode cX10_priceOf 19 = .ok (.if_icmp .ne 12, 3) := by decide +kernel
theorem dX10_priceOf_22 : decode cX10_priceOf 22 = .ok (.aload_n 0, 1) := by decide +kernel
theorem dX10_priceOf_23 : decode cX10_priceOf 23 = .ok (.getfield 19, 3) := by decide +kernel
theorem dX10_priceOf_26 : decode cX10_priceOf 26 = .ok (.iload_n 3, 1) := by decide +kernel
theorem dX10_priceOf_27 : decode cX10_priceOf 27 = .ok (.iaload, 1) := by decide +kernel
theorem dX10_priceOf_28 : decode cX10_priceOf 28 = .ok (.goto 4, 3) := by decide +kernel
theorem dX10_priceOf_31 : decode cX10_priceOf 31 = .ok (.iconst 0, 1) := by decide +kernel
theorem dX10_priceOf_32 : decode cX10_priceOf 32 = .ok (.iadd, 1) := by decide +kernel
theorem dX10_priceOf_33 : decode cX10_priceOf 33 = .ok (.istore_n 2, 1) := by decide +kernel
theorem dX10_priceOf_34 : decode cX10_priceOf 34 = .ok (.iinc 3 1, 3) := by decide +kernel
theorem dX10_priceOf_37 : decode cX10_priceOf 37 = .ok (.goto (-33), 3) := by decide +kernel
theorem dX10_priceOf_40 : decode cX10_priceOf 40 = .ok (.iload_n 2, 1) := by decide +kernel
theorem dX10_priceOf_41 : decode cX10_priceOf 41 = .ok (.ireturn, 1) := by decide +kernel
theorem dX10_bestOf_0 : decode cX10_bestOf 0 = .ok (.aload_n 0, 1) := by decide +kernel
theorem dX10_bestOf_1 : decode cX10_bestOf 1 = .ok (.invokevirtual 196, 3) := by decide +kernel
theorem dX10_bestOf_4 : decode cX10_bestOf 4 = .ok (.aload_n 0, 1) := by decide +kernel
theorem dX10_bestOf_5 : decode cX10_bestOf 5 = .ok (.getfield 78, 3) := by decide +kernel
theorem dX10_bestOf_8 : decode cX10_bestOf 8 = .ok (.iconst 0, 1) := by decide +kernel
theorem dX10_bestOf_9 : decode cX10_bestOf 9 = .ok (.iaload, 1) := by decide +kernel
theorem dX10_bestOf_10 : decode cX10_bestOf 10 = .ok (.istore_n 1, 1) := by decide +kernel
theorem dX10_bestOf_11 : decode cX10_bestOf 11 = .ok (.iconst 1, 1) := by decide +kernel
theorem dX10_bestOf_12 : decode cX10_bestOf 12 = .ok (.istore_n 2, 1) := by decide +kernel
theorem dX10_bestOf_13 : decode cX10_bestOf 13 = .ok (.iload_n 2, 1) := by decide +kernel
theorem dX10_bestOf_14 : decode cX10_bestOf 14 = .ok (.aload_n 0, 1) := by decide +kernel
theorem dX10_bestOf_15 : decode cX10_bestOf 15 = .ok (.getfield 193, 3) := by decide +kernel
theorem dX10_bestOf_18 : decode cX10_bestOf 18 = .ok (.if_icmp .ge 38, 3) := by decide +kernel
theorem dX10_bestOf_21 : decode cX10_bestOf 21 = .ok (.aload_n 0, 1) := by decide +kernel
theorem dX10_bestOf_22 : decode cX10_bestOf 22 = .ok (.aload_n 0, 1) := by decide +kernel
theorem dX10_bestOf_23 : decode cX10_bestOf 23 = .ok (.getfield 78, 3) := by decide +kernel
theorem dX10_bestOf_26 : decode cX10_bestOf 26 = .ok (.iload_n 2, 1) := by decide +kernel
theorem dX10_bestOf_27 : decode cX10_bestOf 27 = .ok (.iaload, 1) := by decide +kernel
theorem dX10_bestOf_28 : decode cX10_bestOf 28 = .ok (.invokevirtual 199, 3) := by decide +kernel
theorem dX10_bestOf_31 : decode cX10_bestOf 31 = .ok (.aload_n 0, 1) := by decide +kernel
theorem dX10_bestOf_32 : decode cX10_bestOf 32 = .ok (.iload_n 1, 1) := by decide +kernel
theorem dX10_bestOf_33 : decode cX10_bestOf 33 = .ok (.invokevirtual 199, 3) := by decide +kernel
theorem dX10_bestOf_36 : decode cX10_bestOf 36 = .ok (.if_icmp .ge 12, 3) := by decide +kernel
theorem dX10_bestOf_39 : decode cX10_bestOf 39 = .ok (.aload_n 0, 1) := by decide +kernel
theorem dX10_bestOf_40 : decode cX10_bestOf 40 = .ok (.getfield 78, 3) := by decide +kernel
theorem dX10_bestOf_43 : decode cX10_bestOf 43 = .ok (.iload_n 2, 1) := by decide +kernel
theorem dX10_bestOf_44 : decode cX10_bestOf 44 = .ok (.iaload, 1) := by decide +kernel
theorem dX10_bestOf_45 : decode cX10_bestOf 45 = .ok (.goto 4, 3) := by decide +kernel
theorem dX10_bestOf_48 : decode cX10_bestOf 48 = .ok (.iload_n 1, 1) := by decide +kernel
theorem dX10_bestOf_49 : decode cX10_bestOf 49 = .ok (.istore_n 1, 1) := by decide +kernel
theorem dX10_bestOf_50 : decode cX10_bestOf 50 = .ok (.iinc 2 1, 3) := by decide +kernel
theorem dX10_bestOf_53 : decode cX10_bestOf 53 = .ok (.goto (-40), 3) := by decide +kernel
theorem dX10_bestOf_56 : decode cX10_bestOf 56 = .ok (.iload_n 1, 1) := by decide +kernel
theorem dX10_bestOf_57 : decode cX10_bestOf 57 = .ok (.ireturn, 1) := by decide +kernel
theorem dX10_mends_0 : decode cX10_mends 0 = .ok (.aload_n 0, 1) := by decide +kernel
theorem dX10_mends_1 : decode cX10_mends 1 = .ok (.iconst 0, 1) := by decide +kernel
theorem dX10_mends_2 : decode cX10_mends 2 = .ok (.putfield 93, 3) := by decide +kernel
theorem dX10_mends_5 : decode cX10_mends 5 = .ok (.aload_n 0, 1) := by decide +kernel
theorem dX10_mends_6 : decode cX10_mends 6 = .ok (.invokevirtual 196, 3) := by decide +kernel
theorem dX10_mends_9 : decode cX10_mends 9 = .ok (.aload_n 0, 1) := by decide +kernel
theorem dX10_mends_10 : decode cX10_mends 10 = .ok (.getfield 193, 3) := by decide +kernel
theorem dX10_mends_13 : decode cX10_mends 13 = .ok (.ireturn, 1) := by decide +kernel
theorem dX10_mending_0 : decode cX10_mending 0 = .ok (.aload_n 0, 1) := by decide +kernel
theorem dX10_mending_1 : decode cX10_mending 1 = .ok (.iconst 0, 1) := by decide +kernel
theorem dX10_mending_2 : decode cX10_mending 2 = .ok (.putfield 93, 3) := by decide +kernel
theorem dX10_mending_5 : decode cX10_mending 5 = .ok (.aload_n 0, 1) := by decide +kernel
theorem dX10_mending_6 : decode cX10_mending 6 = .ok (.invokevirtual 196, 3) := by decide +kernel
theorem dX10_mending_9 : decode cX10_mending 9 = .ok (.iload_n 1, 1) := by decide +kernel
theorem dX10_mending_10 : decode cX10_mending 10 = .ok (.i2l, 1) := by decide +kernel
theorem dX10_mending_11 : decode cX10_mending 11 = .ok (.lconst 0, 1) := by decide +kernel
theorem dX10_mending_12 : decode cX10_mending 12 = .ok (.aload_n 0, 1) := by decide +kernel
theorem dX10_mending_13 : decode cX10_mending 13 = .ok (.getfield 193, 3) := by decide +kernel
theorem dX10_mending_16 : decode cX10_mending 16 = .ok (.iconst 1, 1) := by decide +kernel
theorem dX10_mending_17 : decode cX10_mending 17 = .ok (.isub, 1) := by decide +kernel
theorem dX10_mending_18 : decode cX10_mending 18 = .ok (.i2l, 1) := by decide +kernel
theorem dX10_mending_19 : decode cX10_mending 19 = .ok (.invokestatic 102, 3) := by decide +kernel
theorem dX10_mending_22 : decode cX10_mending 22 = .ok (.ifCond .eq 12, 3) := by decide +kernel
theorem dX10_mending_25 : decode cX10_mending 25 = .ok (.aload_n 0, 1) := by decide +kernel
theorem dX10_mending_26 : decode cX10_mending 26 = .ok (.getfield 78, 3) := by decide +kernel
theorem dX10_mending_29 : decode cX10_mending 29 = .ok (.iload_n 1, 1) := by decide +kernel
theorem dX10_mending_30 : decode cX10_mending 30 = .ok (.iaload, 1) := by decide +kernel
theorem dX10_mending_31 : decode cX10_mending 31 = .ok (.goto 5, 3) := by decide +kernel
theorem dX10_mending_34 : decode cX10_mending 34 = .ok (.bipush (-9), 2) := by decide +kernel
theorem dX10_mending_36 : decode cX10_mending 36 = .ok (.ireturn, 1) := by decide +kernel
theorem dX10_price_0 : decode cX10_price 0 = .ok (.aload_n 0, 1) := by decide +kernel
theorem dX10_price_1 : decode cX10_price 1 = .ok (.iconst 0, 1) := by decide +kernel
theorem dX10_price_2 : decode cX10_price 2 = .ok (.putfield 93, 3) := by decide +kernel
theorem dX10_price_5 : decode cX10_price 5 = .ok (.aload_n 0, 1) := by decide +kernel
theorem dX10_price_6 : decode cX10_price 6 = .ok (.aload_n 0, 1) := by decide +kernel
theorem dX10_price_7 : decode cX10_price 7 = .ok (.invokevirtual 202, 3) := by decide +kernel
theorem dX10_price_10 : decode cX10_price 10 = .ok (.invokevirtual 199, 3) := by decide +kernel
theorem dX10_price_13 : decode cX10_price 13 = .ok (.ireturn, 1) := by decide +kernel
theorem dX10_best_0 : decode cX10_best 0 = .ok (.aload_n 0, 1) := by decide +kernel
theorem dX10_best_1 : decode cX10_best 1 = .ok (.iconst 0, 1) := by decide +kernel
theorem dX10_best_2 : decode cX10_best 2 = .ok (.putfield 93, 3) := by decide +kernel
theorem dX10_best_5 : decode cX10_best 5 = .ok (.aload_n 0, 1) := by decide +kernel
theorem dX10_best_6 : decode cX10_best 6 = .ok (.invokevirtual 202, 3) := by decide +kernel
theorem dX10_best_9 : decode cX10_best 9 = .ok (.ireturn, 1) := by decide +kernel
theorem dX10_blame_0 : decode cX10_blame 0 = .ok (.aload_n 0, 1) := by decide +kernel
theorem dX10_blame_1 : decode cX10_blame 1 = .ok (.iconst 0, 1) := by decide +kernel
theorem dX10_blame_2 : decode cX10_blame 2 = .ok (.putfield 93, 3) := by decide +kernel
theorem dX10_blame_5 : decode cX10_blame 5 = .ok (.aload_n 0, 1) := by decide +kernel
theorem dX10_blame_6 : decode cX10_blame 6 = .ok (.iload_n 1, 1) := by decide +kernel
theorem dX10_blame_7 : decode cX10_blame 7 = .ok (.invokevirtual 125, 3) := by decide +kernel
theorem dX10_blame_10 : decode cX10_blame 10 = .ok (.ifCond .eq 5, 3) := by decide +kernel
theorem dX10_blame_13 : decode cX10_blame 13 = .ok (.iconst (-1), 1) := by decide +kernel
theorem dX10_blame_14 : decode cX10_blame 14 = .ok (.ireturn, 1) := by decide +kernel
theorem dX10_blame_15 : decode cX10_blame 15 = .ok (.aload_n 0, 1) := by decide +kernel
theorem dX10_blame_16 : decode cX10_blame 16 = .ok (.invokevirtual 196, 3) := by decide +kernel
theorem dX10_blame_19 : decode cX10_blame 19 = .ok (.iconst 0, 1) := by decide +kernel
theorem dX10_blame_20 : decode cX10_blame 20 = .ok (.istore_n 2, 1) := by decide +kernel
theorem dX10_blame_21 : decode cX10_blame 21 = .ok (.iconst 0, 1) := by decide +kernel
theorem dX10_blame_22 : decode cX10_blame 22 = .ok (.istore_n 3, 1) := by decide +kernel
theorem dX10_blame_23 : decode cX10_blame 23 = .ok (.iload_n 3, 1) := by decide +kernel
theorem dX10_blame_24 : decode cX10_blame 24 = .ok (.aload_n 0, 1) := by decide +kernel
theorem dX10_blame_25 : decode cX10_blame 25 = .ok (.getfield 193, 3) := by decide +kernel
theorem dX10_blame_28 : decode cX10_blame 28 = .ok (.if_icmp .ge 22, 3) := by decide +kernel
theorem dX10_blame_31 : decode cX10_blame 31 = .ok (.iload_n 2, 1) := by decide +kernel
theorem dX10_blame_32 : decode cX10_blame 32 = .ok (.aload_n 0, 1) := by decide +kernel
theorem dX10_blame_33 : decode cX10_blame 33 = .ok (.getfield 78, 3) := by decide +kernel
theorem dX10_blame_36 : decode cX10_blame 36 = .ok (.iload_n 3, 1) := by decide +kernel
theorem dX10_blame_37 : decode cX10_blame 37 = .ok (.iaload, 1) := by decide +kernel
theorem dX10_blame_38 : decode cX10_blame 38 = .ok (.iload_n 1, 1) := by decide +kernel
theorem dX10_blame_39 : decode cX10_blame 39 = .ok (.ishr, 1) := by decide +kernel
theorem dX10_blame_40 : decode cX10_blame 40 = .ok (.iconst 1, 1) := by decide +kernel
theorem dX10_blame_41 : decode cX10_blame 41 = .ok (.iand, 1) := by decide +kernel
theorem dX10_blame_42 : decode cX10_blame 42 = .ok (.iadd, 1) := by decide +kernel
theorem dX10_blame_43 : decode cX10_blame 43 = .ok (.istore_n 2, 1) := by decide +kernel
theorem dX10_blame_44 : decode cX10_blame 44 = .ok (.iinc 3 1, 3) := by decide +kernel
theorem dX10_blame_47 : decode cX10_blame 47 = .ok (.goto (-24), 3) := by decide +kernel
theorem dX10_blame_50 : decode cX10_blame 50 = .ok (.iload_n 2, 1) := by decide +kernel
theorem dX10_blame_51 : decode cX10_blame 51 = .ok (.ireturn, 1) := by decide +kernel
theorem dX10_sum_0 : decode cX10_sum 0 = .ok (.aload_n 0, 1) := by decide +kernel
theorem dX10_sum_1 : decode cX10_sum 1 = .ok (.iconst 0, 1) := by decide +kernel
theorem dX10_sum_2 : decode cX10_sum 2 = .ok (.putfield 93, 3) := by decide +kernel
theorem dX10_sum_5 : decode cX10_sum 5 = .ok (.aload_n 0, 1) := by decide +kernel
theorem dX10_sum_6 : decode cX10_sum 6 = .ok (.iload_n 1, 1) := by decide +kernel
theorem dX10_sum_7 : decode cX10_sum 7 = .ok (.invokevirtual 116, 3) := by decide +kernel
theorem dX10_sum_10 : decode cX10_sum 10 = .ok (.ifCond .eq 14, 3) := by decide +kernel
theorem dX10_sum_13 : decode cX10_sum 13 = .ok (.aload_n 0, 1) := by decide +kernel
theorem dX10_sum_14 : decode cX10_sum 14 = .ok (.aload_n 0, 1) := by decide +kernel
theorem dX10_sum_15 : decode cX10_sum 15 = .ok (.iload_n 1, 1) := by decide +kernel
theorem dX10_sum_16 : decode cX10_sum 16 = .ok (.invokevirtual 116, 3) := by decide +kernel
theorem dX10_sum_19 : decode cX10_sum 19 = .ok (.invokevirtual 112, 3) := by decide +kernel
theorem dX10_sum_22 : decode cX10_sum 22 = .ok (.i2l, 1) := by decide +kernel
theorem dX10_sum_23 : decode cX10_sum 23 = .ok (.lreturn, 1) := by decide +kernel
theorem dX10_sum_24 : decode cX10_sum 24 = .ok (.aload_n 0, 1) := by decide +kernel
theorem dX10_sum_25 : decode cX10_sum 25 = .ok (.iload_n 1, 1) := by decide +kernel
theorem dX10_sum_26 : decode cX10_sum 26 = .ok (.iload_n 2, 1) := by decide +kernel
theorem dX10_sum_27 : decode cX10_sum 27 = .ok (.invokevirtual 129, 3) := by decide +kernel
theorem dX10_sum_30 : decode cX10_sum 30 = .ok (.ifCond .eq 11, 3) := by decide +kernel
theorem dX10_sum_33 : decode cX10_sum 33 = .ok (.aload_n 0, 1) := by decide +kernel
theorem dX10_sum_34 : decode cX10_sum 34 = .ok (.bipush (-12), 2) := by decide +kernel
theorem dX10_sum_36 : decode cX10_sum 36 = .ok (.invokevirtual 112, 3) := by decide +kernel
theorem dX10_sum_39 : decode cX10_sum 39 = .ok (.i2l, 1) := by decide +kernel
theorem dX10_sum_40 : decode cX10_sum 40 = .ok (.lreturn, 1) := by decide +kernel
theorem dX10_sum_41 : decode cX10_sum 41 = .ok (.aload_n 0, 1) := by decide +kernel
theorem dX10_sum_42 : decode cX10_sum 42 = .ok (.invokevirtual 196, 3) := by decide +kernel
theorem dX10_sum_45 : decode cX10_sum 45 = .ok (.aload_n 0, 1) := by decide +kernel
theorem dX10_sum_46 : decode cX10_sum 46 = .ok (.invokevirtual 170, 3) := by decide +kernel
theorem dX10_sum_49 : decode cX10_sum 49 = .ok (.istore 4, 2) := by decide +kernel
theorem dX10_sum_51 : decode cX10_sum 51 = .ok (.lconst 0, 1) := by decide +kernel
theorem dX10_sum_52 : decode cX10_sum 52 = .ok (.lstore 5, 2) := by decide +kernel
theorem dX10_sum_54 : decode cX10_sum 54 = .ok (.iconst 0, 1) := by decide +kernel
theorem dX10_sum_55 : decode cX10_sum 55 = .ok (.istore 7, 2) := by decide +kernel
theorem dX10_sum_57 : decode cX10_sum 57 = .ok (.iload 7, 2) := by decide +kernel
theorem dX10_sum_59 : decode cX10_sum 59 = .ok (.aload_n 0, 1) := by decide +kernel
theorem dX10_sum_60 : decode cX10_sum 60 = .ok (.getfield 193, 3) := by decide +kernel
theorem dX10_sum_63 : decode cX10_sum 63 = .ok (.if_icmp .ge 147, 3) := by decide +kernel
theorem dX10_sum_66 : decode cX10_sum 66 = .ok (.lconst 0, 1) := by decide +kernel
theorem dX10_sum_67 : decode cX10_sum 67 = .ok (.lstore 8, 2) := by decide +kernel
theorem dX10_sum_69 : decode cX10_sum 69 = .ok (.iconst 0, 1) := by decide +kernel
theorem dX10_sum_70 : decode cX10_sum 70 = .ok (.istore 10, 2) := by decide +kernel
theorem dX10_sum_72 : decode cX10_sum 72 = .ok (.iload 10, 2) := by decide +kernel
theorem dX10_sum_74 : decode cX10_sum 74 = .ok (.aload_n 0, 1) := by decide +kernel
theorem dX10_sum_75 : decode cX10_sum 75 = .ok (.getfield 106, 3) := by decide +kernel
theorem dX10_sum_78 : decode cX10_sum 78 = .ok (.if_icmp .ge 89, 3) := by decide +kernel
theorem dX10_sum_81 : decode cX10_sum 81 = .ok (.iload 4, 2) := by decide +kernel
theorem dX10_sum_83 : decode cX10_sum 83 = .ok (.aload_n 0, 1) := by decide +kernel
theorem dX10_sum_84 : decode cX10_sum 84 = .ok (.getfield 78, 3) := by decide +kernel
theorem dX10_sum_87 : decode cX10_sum 87 = .ok (.iload 7, 2) := by decide +kernel
theorem dX10_sum_89 : decode cX10_sum 89 = .ok (.iaload, 1) := by decide +kernel
theorem dX10_sum_90 : decode cX10_sum 90 = .ok (.iconst (-1), 1) := by decide +kernel
theorem dX10_sum_91 : decode cX10_sum 91 = .ok (.ixor, 1) := by decide +kernel
theorem dX10_sum_92 : decode cX10_sum 92 = .ok (.iand, 1) := by decide +kernel
theorem dX10_sum_93 : decode cX10_sum 93 = .ok (.iload 10, 2) := by decide +kernel
theorem dX10_sum_95 : decode cX10_sum 95 = .ok (.ishr, 1) := by decide +kernel
theorem dX10_sum_96 : decode cX10_sum 96 = .ok (.iconst 1, 1) := by decide +kernel
theorem dX10_sum_97 : decode cX10_sum 97 = .ok (.iand, 1) := by decide +kernel
theorem dX10_sum_98 : decode cX10_sum 98 = .ok (.iconst 1, 1) := by decide +kernel
theorem dX10_sum_99 : decode cX10_sum 99 = .ok (.if_icmp .ne 33, 3) := by decide +kernel
theorem dX10_sum_102 : decode cX10_sum 102 = .ok (.aload_n 0, 1) := by decide +kernel
theorem dX10_sum_103 : decode cX10_sum 103 = .ok (.getfield 16, 3) := by decide +kernel
theorem dX10_sum_106 : decode cX10_sum 106 = .ok (.iload 10, 2) := by decide +kernel
theorem dX10_sum_108 : decode cX10_sum 108 = .ok (.iaload, 1) := by decide +kernel
theorem dX10_sum_109 : decode cX10_sum 109 = .ok (.iload_n 1, 1) := by decide +kernel
theorem dX10_sum_110 : decode cX10_sum 110 = .ok (.if_icmp .ne 22, 3) := by decide +kernel
theorem dX10_sum_113 : decode cX10_sum 113 = .ok (.aload_n 0, 1) := by decide +kernel
theorem dX10_sum_114 : decode cX10_sum 114 = .ok (.getfield 26, 3) := by decide +kernel
theorem dX10_sum_117 : decode cX10_sum 117 = .ok (.bipush 6, 2) := by decide +kernel
theorem dX10_sum_119 : decode cX10_sum 119 = .ok (.iload 10, 2) := by decide +kernel
theorem dX10_sum_121 : decode cX10_sum 121 = .ok (.imul, 1) := by decide +kernel
theorem dX10_sum_122 : decode cX10_sum 122 = .ok (.iload_n 2, 1) := by decide +kernel
theorem dX10_sum_123 : decode cX10_sum 123 = .ok (.iadd, 1) := by decide +kernel
theorem dX10_sum_124 : decode cX10_sum 124 = .ok (.baload, 1) := by decide +kernel
theorem dX10_sum_125 : decode cX10_sum 125 = .ok (.ifCond .eq 7, 3) := by decide +kernel
theorem dX10_sum_128 : decode cX10_sum 128 = .ok (.iconst 1, 1) := by decide +kernel
theorem dX10_sum_129 : decode cX10_sum 129 = .ok (.goto 4, 3) := by decide +kernel
theorem dX10_sum_132 : decode cX10_sum 132 = .ok (.iconst 0, 1) := by decide +kernel
theorem dX10_sum_133 : decode cX10_sum 133 = .ok (.istore 11, 2) := by decide +kernel
theorem dX10_sum_135 : decode cX10_sum 135 = .ok (.lload 8, 2) := by decide +kernel
theorem dX10_sum_137 : decode cX10_sum 137 = .ok (.iload 11, 2) := by decide +kernel
theorem dX10_sum_139 : decode cX10_sum 139 = .ok (.ifCond .eq 18, 3) := by decide +kernel
theorem dX10_sum_142 : decode cX10_sum 142 = .ok (.aload_n 0, 1) := by decide +kernel
theorem dX10_sum_143 : decode cX10_sum 143 = .ok (.getfield 29, 3) := by decide +kernel
theorem dX10_sum_146 : decode cX10_sum 146 = .ok (.bipush 6, 2) := by decide +kernel
theorem dX10_sum_148 : decode cX10_sum 148 = .ok (.iload 10, 2) := by decide +kernel
theorem dX10_sum_150 : decode cX10_sum 150 = .ok (.imul, 1) := by decide +kernel
theorem dX10_sum_151 : decode cX10_sum 151 = .ok (.iload_n 2, 1) := by decide +kernel
theorem dX10_sum_152 : decode cX10_sum 152 = .ok (.iadd, 1) := by decide +kernel
theorem dX10_sum_153 : decode cX10_sum 153 = .ok (.laload, 1) := by decide +kernel
theorem dX10_sum_154 : decode cX10_sum 154 = .ok (.goto 4, 3) := by decide +kernel
theorem dX10_sum_157 : decode cX10_sum 157 = .ok (.lconst 0, 1) := by decide +kernel
theorem dX10_sum_158 : decode cX10_sum 158 = .ok (.ladd, 1) := by decide +kernel
theorem dX10_sum_159 : decode cX10_sum 159 = .ok (.lstore 8, 2) := by decide +kernel
theorem dX10_sum_161 : decode cX10_sum 161 = .ok (.iinc 10 1, 3) := by decide +kernel
theorem dX10_sum_164 : decode cX10_sum 164 = .ok (.goto (-92), 3) := by decide +kernel
theorem dX10_sum_167 : decode cX10_sum 167 = .ok (.iload 7, 2) := by decide +kernel
theorem dX10_sum_169 : decode cX10_sum 169 = .ok (.ifCond .eq 26, 3) := by decide +kernel
theorem dX10_sum_172 : decode cX10_sum 172 = .ok (.iload_n 3, 1) := by decide +kernel
theorem dX10_sum_173 : decode cX10_sum 173 = .ok (.ifCond .eq 14, 3) := by decide +kernel
theorem dX10_sum_176 : decode cX10_sum 176 = .ok (.lload 8, 2) := by decide +kernel
theorem dX10_sum_178 : decode cX10_sum 178 = .ok (.lload 5, 2) := by decide +kernel
theorem dX10_sum_180 : decode cX10_sum 180 = .ok (.lcmp, 1) := by decide +kernel
theorem dX10_sum_181 : decode cX10_sum 181 = .ok (.ifCond .le 19, 3) := by decide +kernel
theorem dX10_sum_184 : decode cX10_sum 184 = .ok (.goto 11, 3) := by decide +kernel
theorem dX10_sum_187 : decode cX10_sum 187 = .ok (.lload 8, 2) := by decide +kernel
theorem dX10_sum_189 : decode cX10_sum 189 = .ok (.lload 5, 2) := by decide +kernel
theorem dX10_sum_191 : decode cX10_sum 191 = .ok (.lcmp, 1) := by decide +kernel
theorem dX10_sum_192 : decode cX10_sum 192 = .ok (.ifCond .ge 8, 3) := by decide +kernel
theorem dX10_sum_195 : decode cX10_sum 195 = .ok (.lload 8, 2) := by decide +kernel
theorem dX10_sum_197 : decode cX10_sum 197 = .ok (.goto 5, 3) := by decide +kernel
theorem dX10_sum_200 : decode cX10_sum 200 = .ok (.lload 5, 2) := by decide +kernel
theorem dX10_sum_202 : decode cX10_sum 202 = .ok (.lstore 5, 2) := by decide +kernel
theorem dX10_sum_204 : decode cX10_sum 204 = .ok (.iinc 7 1, 3) := by decide +kernel
theorem dX10_sum_207 : decode cX10_sum 207 = .ok (.goto (-150), 3) := by decide +kernel
theorem dX10_sum_210 : decode cX10_sum 210 = .ok (.lload 5, 2) := by decide +kernel
theorem dX10_sum_212 : decode cX10_sum 212 = .ok (.lreturn, 1) := by decide +kernel
theorem dX10_mend_0 : decode cX10_mend 0 = .ok (.aload_n 0, 1) := by decide +kernel
theorem dX10_mend_1 : decode cX10_mend 1 = .ok (.iconst 0, 1) := by decide +kernel
theorem dX10_mend_2 : decode cX10_mend 2 = .ok (.putfield 93, 3) := by decide +kernel
theorem dX10_mend_5 : decode cX10_mend 5 = .ok (.aload_n 0, 1) := by decide +kernel
theorem dX10_mend_6 : decode cX10_mend 6 = .ok (.invokevirtual 202, 3) := by decide +kernel
theorem dX10_mend_9 : decode cX10_mend 9 = .ok (.istore_n 1, 1) := by decide +kernel
theorem dX10_mend_10 : decode cX10_mend 10 = .ok (.iconst 0, 1) := by decide +kernel
theorem dX10_mend_11 : decode cX10_mend 11 = .ok (.istore_n 2, 1) := by decide +kernel
theorem dX10_mend_12 : decode cX10_mend 12 = .ok (.iload_n 2, 1) := by decide +kernel
theorem dX10_mend_13 : decode cX10_mend 13 = .ok (.aload_n 0, 1) := by decide +kernel
theorem dX10_mend_14 : decode cX10_mend 14 = .ok (.getfield 106, 3) := by decide +kernel
theorem dX10_mend_17 : decode cX10_mend 17 = .ok (.if_icmp .ge 37, 3) := by decide +kernel
theorem dX10_mend_20 : decode cX10_mend 20 = .ok (.aload_n 0, 1) := by decide +kernel
theorem dX10_mend_21 : decode cX10_mend 21 = .ok (.getfield 22, 3) := by decide +kernel
theorem dX10_mend_24 : decode cX10_mend 24 = .ok (.iload_n 2, 1) := by decide +kernel
theorem dX10_mend_25 : decode cX10_mend 25 = .ok (.aload_n 0, 1) := by decide +kernel
theorem dX10_mend_26 : decode cX10_mend 26 = .ok (.getfield 22, 3) := by decide +kernel
theorem dX10_mend_29 : decode cX10_mend 29 = .ok (.iload_n 2, 1) := by decide +kernel
theorem dX10_mend_30 : decode cX10_mend 30 = .ok (.baload, 1) := by decide +kernel
theorem dX10_mend_31 : decode cX10_mend 31 = .ok (.ifCond .eq 15, 3) := by decide +kernel
theorem dX10_mend_34 : decode cX10_mend 34 = .ok (.iload_n 1, 1) := by decide +kernel
theorem dX10_mend_35 : decode cX10_mend 35 = .ok (.iload_n 2, 1) := by decide +kernel
theorem dX10_mend_36 : decode cX10_mend 36 = .ok (.ishr, 1) := by decide +kernel
theorem dX10_mend_37 : decode cX10_mend 37 = .ok (.iconst 1, 1) := by decide +kernel
theorem dX10_mend_38 : decode cX10_mend 38 = .ok (.iand, 1) := by decide +kernel
theorem dX10_mend_39 : decode cX10_mend 39 = .ok (.ifCond .ne 7, 3) := by decide +kernel
theorem dX10_mend_42 : decode cX10_mend 42 = .ok (.iconst 1, 1) := by decide +kernel
theorem dX10_mend_43 : decode cX10_mend 43 = .ok (.goto 4, 3) := by decide +kernel
theorem dX10_mend_46 : decode cX10_mend 46 = .ok (.iconst 0, 1) := by decide +kernel
theorem dX10_mend_47 : decode cX10_mend 47 = .ok (.bastore, 1) := by decide +kernel
theorem dX10_mend_48 : decode cX10_mend 48 = .ok (.iinc 2 1, 3) := by decide +kernel
theorem dX10_mend_51 : decode cX10_mend 51 = .ok (.goto (-39), 3) := by decide +kernel
theorem dX10_mend_54 : decode cX10_mend 54 = .ok (.aload_n 0, 1) := by decide +kernel
theorem dX10_mend_55 : decode cX10_mend 55 = .ok (.iconst 0, 1) := by decide +kernel
theorem dX10_mend_56 : decode cX10_mend 56 = .ok (.putfield 121, 3) := by decide +kernel
theorem dX10_mend_59 : decode cX10_mend 59 = .ok (.iload_n 1, 1) := by decide +kernel
theorem dX10_mend_60 : decode cX10_mend 60 = .ok (.invokestatic 177, 3) := by decide +kernel
theorem dX10_mend_63 : decode cX10_mend 63 = .ok (.ireturn, 1) := by decide +kernel
theorem dX10_settled_0 : decode cX10_settled 0 = .ok (.aload_n 0, 1) := by decide +kernel
theorem dX10_settled_1 : decode cX10_settled 1 = .ok (.getfield 42, 3) := by decide +kernel
theorem dX10_settled_4 : decode cX10_settled 4 = .ok (.iload_n 1, 1) := by decide +kernel
theorem dX10_settled_5 : decode cX10_settled 5 = .ok (.iaload, 1) := by decide +kernel
theorem dX10_settled_6 : decode cX10_settled 6 = .ok (.istore 4, 2) := by decide +kernel
theorem dX10_settled_8 : decode cX10_settled 8 = .ok (.lconst 0, 1) := by decide +kernel
theorem dX10_settled_9 : decode cX10_settled 9 = .ok (.lstore 5, 2) := by decide +kernel
theorem dX10_settled_11 : decode cX10_settled 11 = .ok (.bipush (-9), 2) := by decide +kernel
theorem dX10_settled_13 : decode cX10_settled 13 = .ok (.istore 7, 2) := by decide +kernel
theorem dX10_settled_15 : decode cX10_settled 15 = .ok (.iconst 0, 1) := by decide +kernel
theorem dX10_settled_16 : decode cX10_settled 16 = .ok (.istore 8, 2) := by decide +kernel
theorem dX10_settled_18 : decode cX10_settled 18 = .ok (.iload 8, 2) := by decide +kernel
theorem dX10_settled_20 : decode cX10_settled 20 = .ok (.aload_n 0, 1) := by decide +kernel
theorem dX10_settled_21 : decode cX10_settled 21 = .ok (.getfield 106, 3) := by decide +kernel
theorem dX10_settled_24 : decode cX10_settled 24 = .ok (.if_icmp .ge 188, 3) := by decide +kernel
theorem dX10_settled_27 : decode cX10_settled 27 = .ok (.aload_n 0, 1) := by decide +kernel
theorem dX10_settled_28 : decode cX10_settled 28 = .ok (.iload_n 1, 1) := by decide +kernel
theorem dX10_settled_29 : decode cX10_settled 29 = .ok (.iload 8, 2) := by decide +kernel
theorem dX10_settled_31 : decode cX10_settled 31 = .ok (.iload_n 3, 1) := by decide +kernel
theorem dX10_settled_32 : decode cX10_settled 32 = .ok (.invokevirtual 154, 3) := by decide +kernel
theorem dX10_settled_35 : decode cX10_settled 35 = .ok (.ifCond .eq 171, 3) := by decide +kernel
theorem dX10_settled_38 : decode cX10_settled 38 = .ok (.aload_n 0, 1) := by decide +kernel
theorem dX10_settled_39 : decode cX10_settled 39 = .ok (.iload 8, 2) := by decide +kernel
theorem dX10_settled_41 : decode cX10_settled 41 = .ok (.aload_n 0, 1) := by decide +kernel
theorem dX10_settled_42 : decode cX10_settled 42 = .ok (.getfield 39, 3) := by decide +kernel
theorem dX10_settled_45 : decode cX10_settled 45 = .ok (.iload_n 1, 1) := by decide +kernel
theorem dX10_settled_46 : decode cX10_settled 46 = .ok (.iaload, 1) := by decide +kernel
theorem dX10_settled_47 : decode cX10_settled 47 = .ok (.iload_n 2, 1) := by decide +kernel
theorem dX10_settled_48 : decode cX10_settled 48 = .ok (.aload_n 0, 1) := by decide +kernel
theorem dX10_settled_49 : decode cX10_settled 49 = .ok (.getfield 39, 3) := by decide +kernel
theorem dX10_settled_52 : decode cX10_settled 52 = .ok (.iload_n 1, 1) := by decide +kernel
theorem dX10_settled_53 : decode cX10_settled 53 = .ok (.iaload, 1) := by decide +kernel
theorem dX10_settled_54 : decode cX10_settled 54 = .ok (.invokevirtual 150, 3) := by decide +kernel
theorem dX10_settled_57 : decode cX10_settled 57 = .ok (.ifCond .eq 149, 3) := by decide +kernel
theorem dX10_settled_60 : decode cX10_settled 60 = .ok (.aload_n 0, 1) := by decide +kernel
theorem dX10_settled_61 : decode cX10_settled 61 = .ok (.getfield 26, 3) := by decide +kernel
theorem dX10_settled_64 : decode cX10_settled 64 = .ok (.bipush 6, 2) := by decide +kernel
theorem dX10_settled_66 : decode cX10_settled 66 = .ok (.iload 8, 2) := by decide +kernel
theorem dX10_settled_68 : decode cX10_settled 68 = .ok (.imul, 1) := by decide +kernel
theorem dX10_settled_69 : decode cX10_settled 69 = .ok (.iload 4, 2) := by decide +kernel
theorem dX10_settled_71 : decode cX10_settled 71 = .ok (.iadd, 1) := by decide +kernel
theorem dX10_settled_72 : decode cX10_settled 72 = .ok (.baload, 1) := by decide +kernel
theorem dX10_settled_73 : decode cX10_settled 73 = .ok (.ifCond .eq 133, 3) := by decide +kernel
theorem dX10_settled_76 : decode cX10_settled 76 = .ok (.aload_n 0, 1) := by decide +kernel
theorem dX10_settled_77 : decode cX10_settled 77 = .ok (.getfield 29, 3) := by decide +kernel
theorem dX10_settled_80 : decode cX10_settled 80 = .ok (.bipush 6, 2) := by decide +kernel
theorem dX10_settled_82 : decode cX10_settled 82 = .ok (.iload 8, 2) := by decide +kernel
theorem dX10_settled_84 : decode cX10_settled 84 = .ok (.imul, 1) := by decide +kernel
theorem dX10_settled_85 : decode cX10_settled 85 = .ok (.iload 4, 2) := by decide +kernel
theorem dX10_settled_87 : decode cX10_settled 87 = .ok (.iadd, 1) := by decide +kernel
theorem dX10_settled_88 : decode cX10_settled 88 = .ok (.laload, 1) := by decide +kernel
theorem dX10_settled_89 : decode cX10_settled 89 = .ok (.lstore 9, 2) := by decide +kernel
theorem dX10_settled_91 : decode cX10_settled 91 = .ok (.iconst 0, 1) := by decide +kernel
theorem dX10_settled_92 : decode cX10_settled 92 = .ok (.istore 11, 2) := by decide +kernel
theorem dX10_settled_94 : decode cX10_settled 94 = .ok (.iconst 0, 1) := by decide +kernel
theorem dX10_settled_95 : decode cX10_settled 95 = .ok (.istore 12, 2) := by decide +kernel
theorem dX10_settled_97 : decode cX10_settled 97 = .ok (.iload 12, 2) := by decide +kernel
theorem dX10_settled_99 : decode cX10_settled 99 = .ok (.aload_n 0, 1) := by decide +kernel
theorem dX10_settled_100 : decode cX10_settled 100 = .ok (.getfield 106, 3) := by decide +kernel
theorem dX10_settled_103 : decode cX10_settled 103 = .ok (.if_icmp .ge 73, 3) := by decide +kernel
theorem dX10_settled_106 : decode cX10_settled 106 = .ok (.iload 11, 2) := by decide +kernel
theorem dX10_settled_108 : decode cX10_settled 108 = .ok (.aload_n 0, 1) := by decide +kernel
theorem dX10_settled_109 : decode cX10_settled 109 = .ok (.iload_n 1, 1) := by decide +kernel
theorem dX10_settled_110 : decode cX10_settled 110 = .ok (.iload 12, 2) := by decide +kernel
theorem dX10_settled_112 : decode cX10_settled 112 = .ok (.iload_n 3, 1) := by decide +kernel
theorem dX10_settled_113 : decode cX10_settled 113 = .ok (.invokevirtual 154, 3) := by decide +kernel
theorem dX10_settled_116 : decode cX10_settled 116 = .ok (.ifCond .eq 50, 3) := by decide +kernel
theorem dX10_settled_119 : decode cX10_settled 119 = .ok (.aload_n 0, 1) := by decide +kernel
theorem dX10_settled_120 : decode cX10_settled 120 = .ok (.iload 12, 2) := by decide +kernel
theorem dX10_settled_122 : decode cX10_settled 122 = .ok (.aload_n 0, 1) := by decide +kernel
theorem dX10_settled_123 : decode cX10_settled 123 = .ok (.getfield 39, 3) := by decide +kernel
theorem dX10_settled_126 : decode cX10_settled 126 = .ok (.iload_n 1, 1) := by decide +kernel
theorem dX10_settled_127 : decode cX10_settled 127 = .ok (.iaload, 1) := by decide +kernel
theorem dX10_settled_128 : decode cX10_settled 128 = .ok (.iload_n 2, 1) := by decide +kernel
theorem dX10_settled_129 : decode cX10_settled 129 = .ok (.aload_n 0, 1) := by decide +kernel
theorem dX10_settled_130 : decode cX10_settled 130 = .ok (.getfield 39, 3) := by decide +kernel
theorem dX10_settled_133 : decode cX10_settled 133 = .ok (.iload_n 1, 1) := by decide +kernel
theorem dX10_settled_134 : decode cX10_settled 134 = .ok (.iaload, 1) := by decide +kernel
theorem dX10_settled_135 : decode cX10_settled 135 = .ok (.invokevirtual 150, 3) := by decide +kernel
theorem dX10_settled_138 : decode cX10_settled 138 = .ok (.ifCond .eq 28, 3) := by decide +kernel
theorem dX10_settled_141 : decode cX10_settled 141 = .ok (.aload_n 0, 1) := by decide +kernel
theorem dX10_settled_142 : decode cX10_settled 142 = .ok (.iload 12, 2) := by decide +kernel
theorem dX10_settled_144 : decode cX10_settled 144 = .ok (.iload 4, 2) := by decide +kernel
theorem dX10_settled_146 : decode cX10_settled 146 = .ok (.iload 8, 2) := by decide +kernel
theorem dX10_settled_148 : decode cX10_settled 148 = .ok (.iload 4, 2) := by decide +kernel
theorem dX10_settled_150 : decode cX10_settled 150 = .ok (.invokevirtual 150, 3) := by decide +kernel
theorem dX10_settled_153 : decode cX10_settled 153 = .ok (.ifCond .eq 13, 3) := by decide +kernel
theorem dX10_settled_156 : decode cX10_settled 156 = .ok (.aload_n 0, 1) := by decide +kernel
theorem dX10_settled_157 : decode cX10_settled 157 = .ok (.getfield 19, 3) := by decide +kernel
theorem dX10_settled_160 : decode cX10_settled 160 = .ok (.iload 12, 2) := by decide +kernel
theorem dX10_settled_162 : decode cX10_settled 162 = .ok (.iaload, 1) := by decide +kernel
theorem dX10_settled_163 : decode cX10_settled 163 = .ok (.goto 4, 3) := by decide +kernel
theorem dX10_settled_166 : decode cX10_settled 166 = .ok (.iconst 0, 1) := by decide +kernel
theorem dX10_settled_167 : decode cX10_settled 167 = .ok (.iadd, 1) := by decide +kernel
theorem dX10_settled_168 : decode cX10_settled 168 = .ok (.istore 11, 2) := by decide +kernel
theorem dX10_settled_170 : decode cX10_settled 170 = .ok (.iinc 12 1, 3) := by decide +kernel
theorem dX10_settled_173 : decode cX10_settled 173 = .ok (.goto (-76), 3) := by decide +kernel
theorem dX10_settled_176 : decode cX10_settled 176 = .ok (.iload 11, 2) := by decide +kernel
theorem dX10_settled_178 : decode cX10_settled 178 = .ok (.iload 7, 2) := by decide +kernel
theorem dX10_settled_180 : decode cX10_settled 180 = .ok (.if_icmp .gt 18, 3) := by decide +kernel
theorem dX10_settled_183 : decode cX10_settled 183 = .ok (.iload 11, 2) := by decide +kernel
theorem dX10_settled_185 : decode cX10_settled 185 = .ok (.iload 7, 2) := by decide +kernel
theorem dX10_settled_187 : decode cX10_settled 187 = .ok (.if_icmp .ne 19, 3) := by decide +kernel
theorem dX10_settled_190 : decode cX10_settled 190 = .ok (.lload 9, 2) := by decide +kernel
theorem dX10_settled_192 : decode cX10_settled 192 = .ok (.lload 5, 2) := by decide +kernel
theorem dX10_settled_194 : decode cX10_settled 194 = .ok (.lcmp, 1) := by decide +kernel
theorem dX10_settled_195 : decode cX10_settled 195 = .ok (.ifCond .ge 11, 3) := by decide +kernel
theorem dX10_settled_198 : decode cX10_settled 198 = .ok (.iload 11, 2) := by decide +kernel
theorem dX10_settled_200 : decode cX10_settled 200 = .ok (.istore 7, 2) := by decide +kernel
theorem dX10_settled_202 : decode cX10_settled 202 = .ok (.lload 9, 2) := by decide +kernel
theorem dX10_settled_204 : decode cX10_settled 204 = .ok (.lstore 5, 2) := by decide +kernel
theorem dX10_settled_206 : decode cX10_settled 206 = .ok (.iinc 8 1, 3) := by decide +kernel
theorem dX10_settled_209 : decode cX10_settled 209 = .ok (.goto (-191), 3) := by decide +kernel
theorem dX10_settled_212 : decode cX10_settled 212 = .ok (.lload 5, 2) := by decide +kernel
theorem dX10_settled_214 : decode cX10_settled 214 = .ok (.lreturn, 1) := by decide +kernel
theorem dX10_settle_0 : decode cX10_settle 0 = .ok (.aload_n 0, 1) := by decide +kernel
theorem dX10_settle_1 : decode cX10_settle 1 = .ok (.iconst 0, 1) := by decide +kernel
theorem dX10_settle_2 : decode cX10_settle 2 = .ok (.putfield 93, 3) := by decide +kernel
theorem dX10_settle_5 : decode cX10_settle 5 = .ok (.aload_n 0, 1) := by decide +kernel
theorem dX10_settle_6 : decode cX10_settle 6 = .ok (.iload_n 1, 1) := by decide +kernel
theorem dX10_settle_7 : decode cX10_settle 7 = .ok (.invokevirtual 147, 3) := by decide +kernel
theorem dX10_settle_10 : decode cX10_settle 10 = .ok (.ifCond .eq 5, 3) := by decide +kernel
theorem dX10_settle_13 : decode cX10_settle 13 = .ok (.iconst (-1), 1) := by decide +kernel
theorem dX10_settle_14 : decode cX10_settle 14 = .ok (.ireturn, 1) := by decide +kernel
theorem dX10_settle_15 : decode cX10_settle 15 = .ok (.aload_n 0, 1) := by decide +kernel
theorem dX10_settle_16 : decode cX10_settle 16 = .ok (.getfield 33, 3) := by decide +kernel
theorem dX10_settle_19 : decode cX10_settle 19 = .ok (.iload_n 1, 1) := by decide +kernel
theorem dX10_settle_20 : decode cX10_settle 20 = .ok (.iaload, 1) := by decide +kernel
theorem dX10_settle_21 : decode cX10_settle 21 = .ok (.ifCond .eq 10, 3) := by decide +kernel
theorem dX10_settle_24 : decode cX10_settle 24 = .ok (.aload_n 0, 1) := by decide +kernel
theorem dX10_settle_25 : decode cX10_settle 25 = .ok (.bipush (-13), 2) := by decide +kernel
theorem dX10_settle_27 : decode cX10_settle 27 = .ok (.invokevirtual 112, 3) := by decide +kernel
theorem dX10_settle_30 : decode cX10_settle 30 = .ok (.ireturn, 1) := by decide +kernel
theorem dX10_settle_31 : decode cX10_settle 31 = .ok (.aload_n 0, 1) := by decide +kernel
theorem dX10_settle_32 : decode cX10_settle 32 = .ok (.getfield 39, 3) := by decide +kernel
theorem dX10_settle_35 : decode cX10_settle 35 = .ok (.iload_n 1, 1) := by decide +kernel
theorem dX10_settle_36 : decode cX10_settle 36 = .ok (.iaload, 1) := by decide +kernel
theorem dX10_settle_37 : decode cX10_settle 37 = .ok (.aload_n 0, 1) := by decide +kernel
theorem dX10_settle_38 : decode cX10_settle 38 = .ok (.getfield 42, 3) := by decide +kernel
theorem dX10_settle_41 : decode cX10_settle 41 = .ok (.iload_n 1, 1) := by decide +kernel
theorem dX10_settle_42 : decode cX10_settle 42 = .ok (.iaload, 1) := by decide +kernel
theorem dX10_settle_43 : decode cX10_settle 43 = .ok (.if_icmp .ne 6, 3) := by decide +kernel
theorem dX10_settle_46 : decode cX10_settle 46 = .ok (.bipush (-3), 2) := by decide +kernel
theorem dX10_settle_48 : decode cX10_settle 48 = .ok (.ireturn, 1) := by decide +kernel
theorem dX10_settle_49 : decode cX10_settle 49 = .ok (.aload_n 0, 1) := by decide +kernel
theorem dX10_settle_50 : decode cX10_settle 50 = .ok (.invokevirtual 170, 3) := by decide +kernel
theorem dX10_settle_53 : decode cX10_settle 53 = .ok (.istore_n 2, 1) := by decide +kernel
theorem dX10_settle_54 : decode cX10_settle 54 = .ok (.aload_n 0, 1) := by decide +kernel
theorem dX10_settle_55 : decode cX10_settle 55 = .ok (.getfield 42, 3) := by decide +kernel
theorem dX10_settle_58 : decode cX10_settle 58 = .ok (.iload_n 1, 1) := by decide +kernel
theorem dX10_settle_59 : decode cX10_settle 59 = .ok (.iaload, 1) := by decide +kernel
theorem dX10_settle_60 : decode cX10_settle 60 = .ok (.istore_n 3, 1) := by decide +kernel
theorem dX10_settle_61 : decode cX10_settle 61 = .ok (.iconst 0, 1) := by decide +kernel
theorem dX10_settle_62 : decode cX10_settle 62 = .ok (.istore 4, 2) := by decide +kernel
theorem dX10_settle_64 : decode cX10_settle 64 = .ok (.iload 4, 2) := by decide +kernel
theorem dX10_settle_66 : decode cX10_settle 66 = .ok (.aload_n 0, 1) := by decide +kernel
theorem dX10_settle_67 : decode cX10_settle 67 = .ok (.getfield 106, 3) := by decide +kernel
theorem dX10_settle_70 : decode cX10_settle 70 = .ok (.if_icmp .ge 85, 3) := by decide +kernel
theorem dX10_settle_73 : decode cX10_settle 73 = .ok (.aload_n 0, 1) := by decide +kernel
theorem dX10_settle_74 : decode cX10_settle 74 = .ok (.getfield 87, 3) := by decide +kernel
theorem dX10_settle_77 : decode cX10_settle 77 = .ok (.iload 4, 2) := by decide +kernel
theorem dX10_settle_79 : decode cX10_settle 79 = .ok (.aload_n 0, 1) := by decide +kernel
theorem dX10_settle_80 : decode cX10_settle 80 = .ok (.iload_n 1, 1) := by decide +kernel
theorem dX10_settle_81 : decode cX10_settle 81 = .ok (.iload 4, 2) := by decide +kernel
theorem dX10_settle_83 : decode cX10_settle 83 = .ok (.iload_n 2, 1) := by decide +kernel
theorem dX10_settle_84 : decode cX10_settle 84 = .ok (.invokevirtual 154, 3) := by decide +kernel
theorem dX10_settle_87 : decode cX10_settle 87 = .ok (.ifCond .eq 49, 3) := by decide +kernel
theorem dX10_settle_90 : decode cX10_settle 90 = .ok (.aload_n 0, 1) := by decide +kernel
theorem dX10_settle_91 : decode cX10_settle 91 = .ok (.getfield 26, 3) := by decide +kernel
theorem dX10_settle_94 : decode cX10_settle 94 = .ok (.bipush 6, 2) := by decide +kernel
theorem dX10_settle_96 : decode cX10_settle 96 = .ok (.iload 4, 2) := by decide +kernel
theorem dX10_settle_98 : decode cX10_settle 98 = .ok (.imul, 1) := by decide +kernel
theorem dX10_settle_99 : decode cX10_settle 99 = .ok (.aload_n 0, 1) := by decide +kernel
theorem dX10_settle_100 : decode cX10_settle 100 = .ok (.getfield 39, 3) := by decide +kernel
theorem dX10_settle_103 : decode cX10_settle 103 = .ok (.iload_n 1, 1) := by decide +kernel
theorem dX10_settle_104 : decode cX10_settle 104 = .ok (.iaload, 1) := by decide +kernel
theorem dX10_settle_105 : decode cX10_settle 105 = .ok (.iadd, 1) := by decide +kernel
theorem dX10_settle_106 : decode cX10_settle 106 = .ok (.baload, 1) := by decide +kernel
theorem dX10_settle_107 : decode cX10_settle 107 = .ok (.ifCond .eq 29, 3) := by decide +kernel
theorem dX10_settle_110 : decode cX10_settle 110 = .ok (.aload_n 0, 1) := by decide +kernel
theorem dX10_settle_111 : decode cX10_settle 111 = .ok (.getfield 26, 3) := by decide +kernel
theorem dX10_settle_114 : decode cX10_settle 114 = .ok (.bipush 6, 2) := by decide +kernel
theorem dX10_settle_116 : decode cX10_settle 116 = .ok (.iload 4, 2) := by decide +kernel
theorem dX10_settle_118 : decode cX10_settle 118 = .ok (.imul, 1) := by decide +kernel
theorem dX10_settle_119 : decode cX10_settle 119 = .ok (.iload_n 3, 1) := by decide +kernel
theorem dX10_settle_120 : decode cX10_settle 120 = .ok (.iadd, 1) := by decide +kernel
theorem dX10_settle_121 : decode cX10_settle 121 = .ok (.baload, 1) := by decide +kernel
theorem dX10_settle_122 : decode cX10_settle 122 = .ok (.ifCond .eq 14, 3) := by decide +kernel
theorem dX10_settle_125 : decode cX10_settle 125 = .ok (.aload_n 0, 1) := by decide +kernel
theorem dX10_settle_126 : decode cX10_settle 126 = .ok (.iload_n 1, 1) := by decide +kernel
theorem dX10_settle_127 : decode cX10_settle 127 = .ok (.iload 4, 2) := by decide +kernel
theorem dX10_settle_129 : decode cX10_settle 129 = .ok (.iload_n 2, 1) := by decide +kernel
theorem dX10_settle_130 : decode cX10_settle 130 = .ok (.invokevirtual 205, 3) := by decide +kernel
theorem dX10_settle_133 : decode cX10_settle 133 = .ok (.goto 15, 3) := by decide +kernel
theorem dX10_settle_136 : decode cX10_settle 136 = .ok (.aload_n 0, 1) := by decide +kernel
theorem dX10_settle_137 : decode cX10_settle 137 = .ok (.getfield 29, 3) := by decide +kernel
theorem dX10_settle_140 : decode cX10_settle 140 = .ok (.bipush 6, 2) := by decide +kernel
theorem dX10_settle_142 : decode cX10_settle 142 = .ok (.iload 4, 2) := by decide +kernel
theorem dX10_settle_144 : decode cX10_settle 144 = .ok (.imul, 1) := by decide +kernel
theorem dX10_settle_145 : decode cX10_settle 145 = .ok (.iload_n 3, 1) := by decide +kernel
theorem dX10_settle_146 : decode cX10_settle 146 = .ok (.iadd, 1) := by decide +kernel
theorem dX10_settle_147 : decode cX10_settle 147 = .ok (.laload, 1) := by decide +kernel
theorem dX10_settle_148 : decode cX10_settle 148 = .ok (.lastore, 1) := by decide +kernel
theorem dX10_settle_149 : decode cX10_settle 149 = .ok (.iinc 4 1, 3) := by decide +kernel
theorem dX10_settle_152 : decode cX10_settle 152 = .ok (.goto (-88), 3) := by decide +kernel
theorem dX10_settle_155 : decode cX10_settle 155 = .ok (.iconst 0, 1) := by decide +kernel
theorem dX10_settle_156 : decode cX10_settle 156 = .ok (.istore 4, 2) := by decide +kernel
theorem dX10_settle_158 : decode cX10_settle 158 = .ok (.iconst 0, 1) := by decide +kernel
theorem dX10_settle_159 : decode cX10_settle 159 = .ok (.istore 5, 2) := by decide +kernel
theorem dX10_settle_161 : decode cX10_settle 161 = .ok (.iload 5, 2) := by decide +kernel
theorem dX10_settle_163 : decode cX10_settle 163 = .ok (.aload_n 0, 1) := by decide +kernel
theorem dX10_settle_164 : decode cX10_settle 164 = .ok (.getfield 106, 3) := by decide +kernel
theorem dX10_settle_167 : decode cX10_settle 167 = .ok (.if_icmp .ge 104, 3) := by decide +kernel
theorem dX10_settle_170 : decode cX10_settle 170 = .ok (.aload_n 0, 1) := by decide +kernel
theorem dX10_settle_171 : decode cX10_settle 171 = .ok (.iload_n 1, 1) := by decide +kernel
theorem dX10_settle_172 : decode cX10_settle 172 = .ok (.iload 5, 2) := by decide +kernel
theorem dX10_settle_174 : decode cX10_settle 174 = .ok (.iload_n 2, 1) := by decide +kernel
theorem dX10_settle_175 : decode cX10_settle 175 = .ok (.invokevirtual 154, 3) := by decide +kernel
theorem dX10_settle_178 : decode cX10_settle 178 = .ok (.ifCond .eq 30, 3) := by decide +kernel
theorem dX10_settle_181 : decode cX10_settle 181 = .ok (.aload_n 0, 1) := by decide +kernel
theorem dX10_settle_182 : decode cX10_settle 182 = .ok (.getfield 87, 3) := by decide +kernel
theorem dX10_settle_185 : decode cX10_settle 185 = .ok (.iload 5, 2) := by decide +kernel
theorem dX10_settle_187 : decode cX10_settle 187 = .ok (.laload, 1) := by decide +kernel
theorem dX10_settle_188 : decode cX10_settle 188 = .ok (.aload_n 0, 1) := by decide +kernel
theorem dX10_settle_189 : decode cX10_settle 189 = .ok (.getfield 29, 3) := by decide +kernel
theorem dX10_settle_192 : decode cX10_settle 192 = .ok (.bipush 6, 2) := by decide +kernel
theorem dX10_settle_194 : decode cX10_settle 194 = .ok (.iload 5, 2) := by decide +kernel
theorem dX10_settle_196 : decode cX10_settle 196 = .ok (.imul, 1) := by decide +kernel
theorem dX10_settle_197 : decode cX10_settle 197 = .ok (.iload_n 3, 1) := by decide +kernel
theorem dX10_settle_198 : decode cX10_settle 198 = .ok (.iadd, 1) := by decide +kernel
theorem dX10_settle_199 : decode cX10_settle 199 = .ok (.laload, 1) := by decide +kernel
theorem dX10_settle_200 : decode cX10_settle 200 = .ok (.lcmp, 1) := by decide +kernel
theorem dX10_settle_201 : decode cX10_settle 201 = .ok (.ifCond .eq 7, 3) := by decide +kernel
theorem dX10_settle_204 : decode cX10_settle 204 = .ok (.iconst 1, 1) := by decide +kernel
theorem dX10_settle_205 : decode cX10_settle 205 = .ok (.goto 4, 3) := by decide +kernel
theorem dX10_settle_208 : decode cX10_settle 208 = .ok (.iconst 0, 1) := by decide +kernel
theorem dX10_settle_209 : decode cX10_settle 209 = .ok (.istore 6, 2) := by decide +kernel
theorem dX10_settle_211 : decode cX10_settle 211 = .ok (.iload 4, 2) := by decide +kernel
theorem dX10_settle_213 : decode cX10_settle 213 = .ok (.iload 6, 2) := by decide +kernel
theorem dX10_settle_215 : decode cX10_settle 215 = .ok (.ifCond .eq 7, 3) := by decide +kernel
theorem dX10_settle_218 : decode cX10_settle 218 = .ok (.iconst 1, 1) := by decide +kernel
theorem dX10_settle_219 : decode cX10_settle 219 = .ok (.goto 4, 3) := by decide +kernel
theorem dX10_settle_222 : decode cX10_settle 222 = .ok (.iconst 0, 1) := by decide +kernel
theorem dX10_settle_223 : decode cX10_settle 223 = .ok (.iadd, 1) := by decide +kernel
theorem dX10_settle_224 : decode cX10_settle 224 = .ok (.istore 4, 2) := by decide +kernel
theorem dX10_settle_226 : decode cX10_settle 226 = .ok (.aload_n 0, 1) := by decide +kernel
theorem dX10_settle_227 : decode cX10_settle 227 = .ok (.getfield 29, 3) := by decide +kernel
theorem dX10_settle_230 : decode cX10_settle 230 = .ok (.bipush 6, 2) := by decide +kernel
theorem dX10_settle_232 : decode cX10_settle 232 = .ok (.iload 5, 2) := by decide +kernel
theorem dX10_settle_234 : decode cX10_settle 234 = .ok (.imul, 1) := by decide +kernel
theorem dX10_settle_235 : decode cX10_settle 235 = .ok (.iload_n 3, 1) := by decide +kernel
theorem dX10_settle_236 : decode cX10_settle 236 = .ok (.iadd, 1) := by decide +kernel
theorem dX10_settle_237 : decode cX10_settle 237 = .ok (.iload 6, 2) := by decide +kernel
theorem dX10_settle_239 : decode cX10_settle 239 = .ok (.ifCond .eq 13, 3) := by decide +kernel
theorem dX10_settle_242 : decode cX10_settle 242 = .ok (.aload_n 0, 1) := by decide +kernel
theorem dX10_settle_243 : decode cX10_settle 243 = .ok (.getfield 87, 3) := by decide +kernel
theorem dX10_settle_246 : decode cX10_settle 246 = .ok (.iload 5, 2) := by decide +kernel
theorem dX10_settle_248 : decode cX10_settle 248 = .ok (.laload, 1) := by decide +kernel
theorem dX10_settle_249 : decode cX10_settle 249 = .ok (.goto 15, 3) := by decide +kernel
theorem dX10_settle_252 : decode cX10_settle 252 = .ok (.aload_n 0, 1) := by decide +kernel
theorem dX10_settle_253 : decode cX10_settle 253 = .ok (.getfield 29, 3) := by decide +kernel
theorem dX10_settle_256 : decode cX10_settle 256 = .ok (.bipush 6, 2) := by decide +kernel
theorem dX10_settle_258 : decode cX10_settle 258 = .ok (.iload 5, 2) := by decide +kernel
theorem dX10_settle_260 : decode cX10_settle 260 = .ok (.imul, 1) := by decide +kernel
theorem dX10_settle_261 : decode cX10_settle 261 = .ok (.iload_n 3, 1) := by decide +kernel
theorem dX10_settle_262 : decode cX10_settle 262 = .ok (.iadd, 1) := by decide +kernel
theorem dX10_settle_263 : decode cX10_settle 263 = .ok (.laload, 1) := by decide +kernel
theorem dX10_settle_264 : decode cX10_settle 264 = .ok (.lastore, 1) := by decide +kernel
theorem dX10_settle_265 : decode cX10_settle 265 = .ok (.iinc 5 1, 3) := by decide +kernel
theorem dX10_settle_268 : decode cX10_settle 268 = .ok (.goto (-107), 3) := by decide +kernel
theorem dX10_settle_271 : decode cX10_settle 271 = .ok (.aload_n 0, 1) := by decide +kernel
theorem dX10_settle_272 : decode cX10_settle 272 = .ok (.iconst 0, 1) := by decide +kernel
theorem dX10_settle_273 : decode cX10_settle 273 = .ok (.putfield 121, 3) := by decide +kernel
theorem dX10_settle_276 : decode cX10_settle 276 = .ok (.iload 4, 2) := by decide +kernel
theorem dX10_settle_278 : decode cX10_settle 278 = .ok (.ireturn, 1) := by decide +kernel
theorem dX10_noPart_0 : decode cX10_noPart 0 = .ok (.iload_n 1, 1) := by decide +kernel
theorem dX10_noPart_1 : decode cX10_noPart 1 = .ok (.i2l, 1) := by decide +kernel
theorem dX10_noPart_2 : decode cX10_noPart 2 = .ok (.lconst 0, 1) := by decide +kernel
theorem dX10_noPart_3 : decode cX10_noPart 3 = .ok (.aload_n 0, 1) := by decide +kernel
theorem dX10_noPart_4 : decode cX10_noPart 4 = .ok (.getfield 209, 3) := by decide +kernel
theorem dX10_noPart_7 : decode cX10_noPart 7 = .ok (.iconst 1, 1) := by decide +kernel
theorem dX10_noPart_8 : decode cX10_noPart 8 = .ok (.isub, 1) := by decide +kernel
theorem dX10_noPart_9 : decode cX10_noPart 9 = .ok (.i2l, 1) := by decide +kernel
theorem dX10_noPart_10 : decode cX10_noPart 10 = .ok (.invokestatic 102, 3) := by decide +kernel
theorem dX10_noPart_13 : decode cX10_noPart 13 = .ok (.ifCond .ne 7, 3) := by decide +kernel
theorem dX10_noPart_16 : decode cX10_noPart 16 = .ok (.iconst 1, 1) := by decide +kernel
theorem dX10_noPart_17 : decode cX10_noPart 17 = .ok (.goto 4, 3) := by decide +kernel
theorem dX10_noPart_20 : decode cX10_noPart 20 = .ok (.iconst 0, 1) := by decide +kernel
theorem dX10_noPart_21 : decode cX10_noPart 21 = .ok (.ireturn, 1) := by decide +kernel
theorem dX10_ask_0 : decode cX10_ask 0 = .ok (.aload_n 0, 1) := by decide +kernel
theorem dX10_ask_1 : decode cX10_ask 1 = .ok (.iconst 0, 1) := by decide +kernel
theorem dX10_ask_2 : decode cX10_ask 2 = .ok (.putfield 93, 3) := by decide +kernel
theorem dX10_ask_5 : decode cX10_ask 5 = .ok (.aload_n 0, 1) := by decide +kernel
theorem dX10_ask_6 : decode cX10_ask 6 = .ok (.getfield 209, 3) := by decide +kernel
theorem dX10_ask_9 : decode cX10_ask 9 = .ok (.istore_n 1, 1) := by decide +kernel
theorem dX10_ask_10 : decode cX10_ask 10 = .ok (.aload_n 0, 1) := by decide +kernel
theorem dX10_ask_11 : decode cX10_ask 11 = .ok (.iconst 0, 1) := by decide +kernel
theorem dX10_ask_12 : decode cX10_ask 12 = .ok (.putfield 209, 3) := by decide +kernel
theorem dX10_ask_15 : decode cX10_ask 15 = .ok (.aload_n 0, 1) := by decide +kernel
theorem dX10_ask_16 : decode cX10_ask 16 = .ok (.iconst 0, 1) := by decide +kernel
theorem dX10_ask_17 : decode cX10_ask 17 = .ok (.putfield 212, 3) := by decide +kernel
theorem dX10_ask_20 : decode cX10_ask 20 = .ok (.iload_n 1, 1) := by decide +kernel
theorem dX10_ask_21 : decode cX10_ask 21 = .ok (.ireturn, 1) := by decide +kernel
theorem dX10_part_0 : decode cX10_part 0 = .ok (.aload_n 0, 1) := by decide +kernel
theorem dX10_part_1 : decode cX10_part 1 = .ok (.iconst 0, 1) := by decide +kernel
theorem dX10_part_2 : decode cX10_part 2 = .ok (.putfield 93, 3) := by decide +kernel
theorem dX10_part_5 : decode cX10_part 5 = .ok (.aload_n 0, 1) := by decide +kernel
theorem dX10_part_6 : decode cX10_part 6 = .ok (.iload_n 1, 1) := by decide +kernel
theorem dX10_part_7 : decode cX10_part 7 = .ok (.invokevirtual 116, 3) := by decide +kernel
theorem dX10_part_10 : decode cX10_part 10 = .ok (.ifCond .eq 13, 3) := by decide +kernel
theorem dX10_part_13 : decode cX10_part 13 = .ok (.aload_n 0, 1) := by decide +kernel
theorem dX10_part_14 : decode cX10_part 14 = .ok (.aload_n 0, 1) := by decide +kernel
theorem dX10_part_15 : decode cX10_part 15 = .ok (.iload_n 1, 1) := by decide +kernel
theorem dX10_part_16 : decode cX10_part 16 = .ok (.invokevirtual 116, 3) := by decide +kernel
theorem dX10_part_19 : decode cX10_part 19 = .ok (.invokevirtual 112, 3) := by decide +kernel
theorem dX10_part_22 : decode cX10_part 22 = .ok (.ireturn, 1) := by decide +kernel
theorem dX10_part_23 : decode cX10_part 23 = .ok (.aload_n 0, 1) := by decide +kernel
theorem dX10_part_24 : decode cX10_part 24 = .ok (.getfield 209, 3) := by decide +kernel
theorem dX10_part_27 : decode cX10_part 27 = .ok (.iconst 3, 1) := by decide +kernel
theorem dX10_part_28 : decode cX10_part 28 = .ok (.if_icmp .ne 6, 3) := by decide +kernel
theorem dX10_part_31 : decode cX10_part 31 = .ok (.bipush (-4), 2) := by decide +kernel
theorem dX10_part_33 : decode cX10_part 33 = .ok (.ireturn, 1) := by decide +kernel
theorem dX10_part_34 : decode cX10_part 34 = .ok (.aload_n 0, 1) := by decide +kernel
theorem dX10_part_35 : decode cX10_part 35 = .ok (.getfield 57, 3) := by decide +kernel
theorem dX10_part_38 : decode cX10_part 38 = .ok (.aload_n 0, 1) := by decide +kernel
theorem dX10_part_39 : decode cX10_part 39 = .ok (.getfield 209, 3) := by decide +kernel
theorem dX10_part_42 : decode cX10_part 42 = .ok (.iload_n 1, 1) := by decide +kernel
theorem dX10_part_43 : decode cX10_part 43 = .ok (.iastore, 1) := by decide +kernel
theorem dX10_part_44 : decode cX10_part 44 = .ok (.bipush 6, 2) := by decide +kernel
theorem dX10_part_46 : decode cX10_part 46 = .ok (.aload_n 0, 1) := by decide +kernel
theorem dX10_part_47 : decode cX10_part 47 = .ok (.getfield 209, 3) := by decide +kernel
theorem dX10_part_50 : decode cX10_part 50 = .ok (.imul, 1) := by decide +kernel
theorem dX10_part_51 : decode cX10_part 51 = .ok (.istore_n 2, 1) := by decide +kernel
theorem dX10_part_52 : decode cX10_part 52 = .ok (.iload_n 2, 1) := by decide +kernel
theorem dX10_part_53 : decode cX10_part 53 = .ok (.bipush 6, 2) := by decide +kernel
theorem dX10_part_55 : decode cX10_part 55 = .ok (.aload_n 0, 1) := by decide +kernel
theorem dX10_part_56 : decode cX10_part 56 = .ok (.getfield 209, 3) := by decide +kernel
theorem dX10_part_59 : decode cX10_part 59 = .ok (.imul, 1) := by decide +kernel
theorem dX10_part_60 : decode cX10_part 60 = .ok (.bipush 6, 2) := by decide +kernel
theorem dX10_part_62 : decode cX10_part 62 = .ok (.iadd, 1) := by decide +kernel
theorem dX10_part_63 : decode cX10_part 63 = .ok (.if_icmp .ge 16, 3) := by decide +kernel
theorem dX10_part_66 : decode cX10_part 66 = .ok (.aload_n 0, 1) := by decide +kernel
theorem dX10_part_67 : decode cX10_part 67 = .ok (.getfield 60, 3) := by decide +kernel
theorem dX10_part_70 : decode cX10_part 70 = .ok (.iload_n 2, 1) := by decide +kernel
theorem dX10_part_71 : decode cX10_part 71 = .ok (.iconst 0, 1) := by decide +kernel
theorem dX10_part_72 : decode cX10_part 72 = .ok (.bastore, 1) := by decide +kernel
theorem dX10_part_73 : decode cX10_part 73 = .ok (.iinc 2 1, 3) := by decide +kernel
theorem dX10_part_76 : decode cX10_part 76 = .ok (.goto (-24), 3) := by decide +kernel
theorem dX10_part_79 : decode cX10_part 79 = .ok (.aload_n 0, 1) := by decide +kernel
theorem dX10_part_80 : decode cX10_part 80 = .ok (.dup, 1) := by decide +kernel
theorem dX10_part_81 : decode cX10_part 81 = .ok (.getfield 209, 3) := by decide +kernel
theorem dX10_part_84 : decode cX10_part 84 = .ok (.iconst 1, 1) := by decide +kernel
theorem dX10_part_85 : decode cX10_part 85 = .ok (.iadd, 1) := by decide +kernel
theorem dX10_part_86 : decode cX10_part 86 = .ok (.putfield 209, 3) := by decide +kernel
theorem dX10_part_89 : decode cX10_part 89 = .ok (.aload_n 0, 1) := by decide +kernel
theorem dX10_part_90 : decode cX10_part 90 = .ok (.getfield 209, 3) := by decide +kernel
theorem dX10_part_93 : decode cX10_part 93 = .ok (.iconst 1, 1) := by decide +kernel
theorem dX10_part_94 : decode cX10_part 94 = .ok (.isub, 1) := by decide +kernel
theorem dX10_part_95 : decode cX10_part 95 = .ok (.ireturn, 1) := by decide +kernel
theorem dX10_tell_0 : decode cX10_tell 0 = .ok (.aload_n 0, 1) := by decide +kernel
theorem dX10_tell_1 : decode cX10_tell 1 = .ok (.iconst 0, 1) := by decide +kernel
theorem dX10_tell_2 : decode cX10_tell 2 = .ok (.putfield 93, 3) := by decide +kernel
theorem dX10_tell_5 : decode cX10_tell 5 = .ok (.aload_n 0, 1) := by decide +kernel
theorem dX10_tell_6 : decode cX10_tell 6 = .ok (.iload_n 1, 1) := by decide +kernel
theorem dX10_tell_7 : decode cX10_tell 7 = .ok (.invokevirtual 215, 3) := by decide +kernel
theorem dX10_tell_10 : decode cX10_tell 10 = .ok (.ifCond .eq 5, 3) := by decide +kernel
theorem dX10_tell_13 : decode cX10_tell 13 = .ok (.iconst (-1), 1) := by decide +kernel
theorem dX10_tell_14 : decode cX10_tell 14 = .ok (.ireturn, 1) := by decide +kernel
theorem dX10_tell_15 : decode cX10_tell 15 = .ok (.aload_n 0, 1) := by decide +kernel
theorem dX10_tell_16 : decode cX10_tell 16 = .ok (.aload_n 0, 1) := by decide +kernel
theorem dX10_tell_17 : decode cX10_tell 17 = .ok (.getfield 57, 3) := by decide +kernel
theorem dX10_tell_20 : decode cX10_tell 20 = .ok (.iload_n 1, 1) := by decide +kernel
theorem dX10_tell_21 : decode cX10_tell 21 = .ok (.iaload, 1) := by decide +kernel
theorem dX10_tell_22 : decode cX10_tell 22 = .ok (.iload_n 2, 1) := by decide +kernel
theorem dX10_tell_23 : decode cX10_tell 23 = .ok (.invokevirtual 129, 3) := by decide +kernel
theorem dX10_tell_26 : decode cX10_tell 26 = .ok (.ifCond .eq 10, 3) := by decide +kernel
theorem dX10_tell_29 : decode cX10_tell 29 = .ok (.aload_n 0, 1) := by decide +kernel
theorem dX10_tell_30 : decode cX10_tell 30 = .ok (.bipush (-12), 2) := by decide +kernel
theorem dX10_tell_32 : decode cX10_tell 32 = .ok (.invokevirtual 112, 3) := by decide +kernel
theorem dX10_tell_35 : decode cX10_tell 35 = .ok (.ireturn, 1) := by decide +kernel
theorem dX10_tell_36 : decode cX10_tell 36 = .ok (.aload_n 0, 1) := by decide +kernel
theorem dX10_tell_37 : decode cX10_tell 37 = .ok (.getfield 60, 3) := by decide +kernel
theorem dX10_tell_40 : decode cX10_tell 40 = .ok (.bipush 6, 2) := by decide +kernel
theorem dX10_tell_42 : decode cX10_tell 42 = .ok (.iload_n 1, 1) := by decide +kernel
theorem dX10_tell_43 : decode cX10_tell 43 = .ok (.imul, 1) := by decide +kernel
theorem dX10_tell_44 : decode cX10_tell 44 = .ok (.iload_n 2, 1) := by decide +kernel
theorem dX10_tell_45 : decode cX10_tell 45 = .ok (.iadd, 1) := by decide +kernel
theorem dX10_tell_46 : decode cX10_tell 46 = .ok (.iconst 1, 1) := by decide +kernel
theorem dX10_tell_47 : decode cX10_tell 47 = .ok (.bastore, 1) := by decide +kernel
theorem dX10_tell_48 : decode cX10_tell 48 = .ok (.aload_n 0, 1) := by decide +kernel
theorem dX10_tell_49 : decode cX10_tell 49 = .ok (.getfield 63, 3) := by decide +kernel
theorem dX10_tell_52 : decode cX10_tell 52 = .ok (.bipush 6, 2) := by decide +kernel
theorem dX10_tell_54 : decode cX10_tell 54 = .ok (.iload_n 1, 1) := by decide +kernel
theorem dX10_tell_55 : decode cX10_tell 55 = .ok (.imul, 1) := by decide +kernel
theorem dX10_tell_56 : decode cX10_tell 56 = .ok (.iload_n 2, 1) := by decide +kernel
theorem dX10_tell_57 : decode cX10_tell 57 = .ok (.iadd, 1) := by decide +kernel
theorem dX10_tell_58 : decode cX10_tell 58 = .ok (.lload_n 3, 1) := by decide +kernel
theorem dX10_tell_59 : decode cX10_tell 59 = .ok (.lastore, 1) := by decide +kernel
theorem dX10_tell_60 : decode cX10_tell 60 = .ok (.iconst 1, 1) := by decide +kernel
theorem dX10_tell_61 : decode cX10_tell 61 = .ok (.ireturn, 1) := by decide +kernel
theorem dX10_join_0 : decode cX10_join 0 = .ok (.aload_n 0, 1) := by decide +kernel
theorem dX10_join_1 : decode cX10_join 1 = .ok (.iconst 0, 1) := by decide +kernel
theorem dX10_join_2 : decode cX10_join 2 = .ok (.putfield 93, 3) := by decide +kernel
theorem dX10_join_5 : decode cX10_join 5 = .ok (.aload_n 0, 1) := by decide +kernel
theorem dX10_join_6 : decode cX10_join 6 = .ok (.iload_n 1, 1) := by decide +kernel
theorem dX10_join_7 : decode cX10_join 7 = .ok (.invokevirtual 215, 3) := by decide +kernel
theorem dX10_join_10 : decode cX10_join 10 = .ok (.ifCond .ne 11, 3) := by decide +kernel
theorem dX10_join_13 : decode cX10_join 13 = .ok (.aload_n 0, 1) := by decide +kernel
theorem dX10_join_14 : decode cX10_join 14 = .ok (.iload_n 3, 1) := by decide +kernel
theorem dX10_join_15 : decode cX10_join 15 = .ok (.invokevirtual 215, 3) := by decide +kernel
theorem dX10_join_18 : decode cX10_join 18 = .ok (.ifCond .eq 5, 3) := by decide +kernel
theorem dX10_join_21 : decode cX10_join 21 = .ok (.iconst (-1), 1) := by decide +kernel
theorem dX10_join_22 : decode cX10_join 22 = .ok (.ireturn, 1) := by decide +kernel
theorem dX10_join_23 : decode cX10_join 23 = .ok (.aload_n 0, 1) := by decide +kernel
theorem dX10_join_24 : decode cX10_join 24 = .ok (.aload_n 0, 1) := by decide +kernel
theorem dX10_join_25 : decode cX10_join 25 = .ok (.getfield 57, 3) := by decide +kernel
theorem dX10_join_28 : decode cX10_join 28 = .ok (.iload_n 1, 1) := by decide +kernel
theorem dX10_join_29 : decode cX10_join 29 = .ok (.iaload, 1) := by decide +kernel
theorem dX10_join_30 : decode cX10_join 30 = .ok (.iload_n 2, 1) := by decide +kernel
theorem dX10_join_31 : decode cX10_join 31 = .ok (.invokevirtual 129, 3) := by decide +kernel
theorem dX10_join_34 : decode cX10_join 34 = .ok (.ifCond .ne 18, 3) := by decide +kernel
theorem dX10_join_37 : decode cX10_join 37 = .ok (.aload_n 0, 1) := by decide +kernel
theorem dX10_join_38 : decode cX10_join 38 = .ok (.aload_n 0, 1) := by decide +kernel
theorem dX10_join_39 : decode cX10_join 39 = .ok (.getfield 57, 3) := by decide +kernel
theorem dX10_join_42 : decode cX10_join 42 = .ok (.iload_n 3, 1) := by decide +kernel
theorem dX10_join_43 : decode cX10_join 43 = .ok (.iaload, 1) := by decide +kernel
theorem dX10_join_44 : decode cX10_join 44 = .ok (.iload 4, 2) := by decide +kernel
theorem dX10_join_46 : decode cX10_join 46 = .ok (.invokevirtual 129, 3) := by decide +kernel
theorem dX10_join_49 : decode cX10_join 49 = .ok (.ifCond .eq 10, 3) := by decide +kernel
theorem dX10_join_52 : decode cX10_join 52 = .ok (.aload_n 0, 1) := by decide +kernel
theorem dX10_join_53 : decode cX10_join 53 = .ok (.bipush (-12), 2) := by decide +kernel
theorem dX10_join_55 : decode cX10_join 55 = .ok (.invokevirtual 112, 3) := by decide +kernel
theorem dX10_join_58 : decode cX10_join 58 = .ok (.ireturn, 1) := by decide +kernel
theorem dX10_join_59 : decode cX10_join 59 = .ok (.aload_n 0, 1) := by decide +kernel
theorem dX10_join_60 : decode cX10_join 60 = .ok (.getfield 212, 3) := by decide +kernel
theorem dX10_join_63 : decode cX10_join 63 = .ok (.bipush 6, 2) := by decide +kernel
theorem dX10_join_65 : decode cX10_join 65 = .ok (.if_icmp .ne 6, 3) := by decide +kernel
theorem dX10_join_68 : decode cX10_join 68 = .ok (.bipush (-4), 2) := by decide +kernel
theorem dX10_join_70 : decode cX10_join 70 = .ok (.ireturn, 1) := by decide +kernel
theorem dX10_join_71 : decode cX10_join 71 = .ok (.aload_n 0, 1) := by decide +kernel
theorem dX10_join_72 : decode cX10_join 72 = .ok (.getfield 66, 3) := by decide +kernel
theorem dX10_join_75 : decode cX10_join 75 = .ok (.aload_n 0, 1) := by decide +kernel
theorem dX10_join_76 : decode cX10_join 76 = .ok (.getfield 212, 3) := by decide +kernel
theorem dX10_join_79 : decode cX10_join 79 = .ok (.iload_n 1, 1) := by decide +kernel
theorem dX10_join_80 : decode cX10_join 80 = .ok (.iastore, 1) := by decide +kernel
theorem dX10_join_81 : decode cX10_join 81 = .ok (.aload_n 0, 1) := by decide +kernel
theorem dX10_join_82 : decode cX10_join 82 = .ok (.getfield 69, 3) := by decide +kernel
theorem dX10_join_85 : decode cX10_join 85 = .ok (.aload_n 0, 1) := by decide +kernel
theorem dX10_join_86 : decode cX10_join 86 = .ok (.getfield 212, 3) := by decide +kernel
theorem dX10_join_89 : decode cX10_join 89 = .ok (.iload_n 2, 1) := by decide +kernel
theorem dX10_join_90 : decode cX10_join 90 = .ok (.iastore, 1) := by decide +kernel
theorem dX10_join_91 : decode cX10_join 91 = .ok (.aload_n 0, 1) := by decide +kernel
theorem dX10_join_92 : decode cX10_join 92 = .ok (.getfield 72, 3) := by decide +kernel
theorem dX10_join_95 : decode cX10_join 95 = .ok (.aload_n 0, 1) := by decide +kernel
theorem dX10_join_96 : decode cX10_join 96 = .ok (.getfield 212, 3) := by decide +kernel
theorem dX10_join_99 : decode cX10_join 99 = .ok (.iload_n 3, 1) := by decide +kernel
theorem dX10_join_100 : decode cX10_join 100 = .ok (.iastore, 1) := by decide +kernel
theorem dX10_join_101 : decode cX10_join 101 = .ok (.aload_n 0, 1) := by decide +kernel
theorem dX10_join_102 : decode cX10_join 102 = .ok (.getfield 75, 3) := by decide +kernel
theorem dX10_join_105 : decode cX10_join 105 = .ok (.aload_n 0, 1) := by decide +kernel
theorem dX10_join_106 : decode cX10_join 106 = .ok (.getfield 212, 3) := by decide +kernel
theorem dX10_join_109 : decode cX10_join 109 = .ok (.iload 4, 2) := by decide +kernel
theorem dX10_join_111 : decode cX10_join 111 = .ok (.iastore, 1) := by decide +kernel
theorem dX10_join_112 : decode cX10_join 112 = .ok (.aload_n 0, 1) := by decide +kernel
theorem dX10_join_113 : decode cX10_join 113 = .ok (.dup, 1) := by decide +kernel
theorem dX10_join_114 : decode cX10_join 114 = .ok (.getfield 212, 3) := by decide +kernel
theorem dX10_join_117 : decode cX10_join 117 = .ok (.iconst 1, 1) := by decide +kernel
theorem dX10_join_118 : decode cX10_join 118 = .ok (.iadd, 1) := by decide +kernel
theorem dX10_join_119 : decode cX10_join 119 = .ok (.putfield 212, 3) := by decide +kernel
theorem dX10_join_122 : decode cX10_join 122 = .ok (.aload_n 0, 1) := by decide +kernel
theorem dX10_join_123 : decode cX10_join 123 = .ok (.getfield 212, 3) := by decide +kernel
theorem dX10_join_126 : decode cX10_join 126 = .ok (.ireturn, 1) := by decide +kernel
theorem dX10_fitsPart_0 : decode cX10_fitsPart 0 = .ok (.iload_n 3, 1) := by decide +kernel
theorem dX10_fitsPart_1 : decode cX10_fitsPart 1 = .ok (.iload_n 2, 1) := by decide +kernel
theorem dX10_fitsPart_2 : decode cX10_fitsPart 2 = .ok (.ishr, 1) := by decide +kernel
theorem dX10_fitsPart_3 : decode cX10_fitsPart 3 = .ok (.iconst 1, 1) := by decide +kernel
theorem dX10_fitsPart_4 : decode cX10_fitsPart 4 = .ok (.iand, 1) := by decide +kernel
theorem dX10_fitsPart_5 : decode cX10_fitsPart 5 = .ok (.ifCond .eq 18, 3) := by decide +kernel
theorem dX10_fitsPart_8 : decode cX10_fitsPart 8 = .ok (.aload_n 0, 1) := by decide +kernel
theorem dX10_fitsPart_9 : decode cX10_fitsPart 9 = .ok (.getfield 16, 3) := by decide +kernel
theorem dX10_fitsPart_12 : decode cX10_fitsPart 12 = .ok (.iload_n 2, 1) := by decide +kernel
theorem dX10_fitsPart_13 : decode cX10_fitsPart 13 = .ok (.iaload, 1) := by decide +kernel
theorem dX10_fitsPart_14 : decode cX10_fitsPart 14 = .ok (.aload_n 0, 1) := by decide +kernel
theorem dX10_fitsPart_15 : decode cX10_fitsPart 15 = .ok (.getfield 57, 3) := by decide +kernel
theorem dX10_fitsPart_18 : decode cX10_fitsPart 18 = .ok (.iload_n 1, 1) := by decide +kernel
theorem dX10_fitsPart_19 : decode cX10_fitsPart 19 = .ok (.iaload, 1) := by decide +kernel
theorem dX10_fitsPart_20 : decode cX10_fitsPart 20 = .ok (.if_icmp .eq 5, 3) := by decide +kernel
theorem dX10_fitsPart_23 : decode cX10_fitsPart 23 = .ok (.iconst 0, 1) := by decide +kernel
theorem dX10_fitsPart_24 : decode cX10_fitsPart 24 = .ok (.ireturn, 1) := by decide +kernel
theorem dX10_fitsPart_25 : decode cX10_fitsPart 25 = .ok (.iconst 0, 1) := by decide +kernel
theorem dX10_fitsPart_26 : decode cX10_fitsPart 26 = .ok (.istore 4, 2) := by decide +kernel
theorem dX10_fitsPart_28 : decode cX10_fitsPart 28 = .ok (.iload 4, 2) := by decide +kernel
theorem dX10_fitsPart_30 : decode cX10_fitsPart 30 = .ok (.bipush 6, 2) := by decide +kernel
theorem dX10_fitsPart_32 : decode cX10_fitsPart 32 = .ok (.if_icmp .ge 69, 3) := by decide +kernel
theorem dX10_fitsPart_35 : decode cX10_fitsPart 35 = .ok (.aload_n 0, 1) := by decide +kernel
theorem dX10_fitsPart_36 : decode cX10_fitsPart 36 = .ok (.getfield 60, 3) := by decide +kernel
theorem dX10_fitsPart_39 : decode cX10_fitsPart 39 = .ok (.bipush 6, 2) := by decide +kernel
theorem dX10_fitsPart_41 : decode cX10_fitsPart 41 = .ok (.iload_n 1, 1) := by decide +kernel
theorem dX10_fitsPart_42 : decode cX10_fitsPart 42 = .ok (.imul, 1) := by decide +kernel
theorem dX10_fitsPart_43 : decode cX10_fitsPart 43 = .ok (.iload 4, 2) := by decide +kernel
theorem dX10_fitsPart_45 : decode cX10_fitsPart 45 = .ok (.iadd, 1) := by decide +kernel
theorem dX10_fitsPart_46 : decode cX10_fitsPart 46 = .ok (.baload, 1) := by decide +kernel
theorem dX10_fitsPart_47 : decode cX10_fitsPart 47 = .ok (.ifCond .eq 48, 3) := by decide +kernel
theorem dX10_fitsPart_50 : decode cX10_fitsPart 50 = .ok (.aload_n 0, 1) := by decide +kernel
theorem dX10_fitsPart_51 : decode cX10_fitsPart 51 = .ok (.getfield 26, 3) := by decide +kernel
theorem dX10_fitsPart_54 : decode cX10_fitsPart 54 = .ok (.bipush 6, 2) := by decide +kernel
theorem dX10_fitsPart_56 : decode cX10_fitsPart 56 = .ok (.iload_n 2, 1) := by decide +kernel
theorem dX10_fitsPart_57 : decode cX10_fitsPart 57 = .ok (.imul, 1) := by decide +kernel
theorem dX10_fitsPart_58 : decode cX10_fitsPart 58 = .ok (.iload 4, 2) := by decide +kernel
theorem dX10_fitsPart_60 : decode cX10_fitsPart 60 = .ok (.iadd, 1) := by decide +kernel
theorem dX10_fitsPart_61 : decode cX10_fitsPart 61 = .ok (.baload, 1) := by decide +kernel
theorem dX10_fitsPart_62 : decode cX10_fitsPart 62 = .ok (.ifCond .eq 31, 3) := by decide +kernel
theorem dX10_fitsPart_65 : decode cX10_fitsPart 65 = .ok (.aload_n 0, 1) := by decide +kernel
theorem dX10_fitsPart_66 : decode cX10_fitsPart 66 = .ok (.getfield 29, 3) := by decide +kernel
theorem dX10_fitsPart_69 : decode cX10_fitsPart 69 = .ok (.bipush 6, 2) := by decide +kernel
theorem dX10_fitsPart_71 : decode cX10_fitsPart 71 = .ok (.iload_n 2, 1) := by decide +kernel
theorem dX10_fitsPart_72 : decode cX10_fitsPart 72 = .ok (.imul, 1) := by decide +kernel
theorem dX10_fitsPart_73 : decode cX10_fitsPart 73 = .ok (.iload 4, 2) := by decide +kernel
theorem dX10_fitsPart_75 : decode cX10_fitsPart 75 = .ok (.iadd, 1) := by decide +kernel
theorem dX10_fitsPart_76 : decode cX10_fitsPart 76 = .ok (.laload, 1) := by decide +kernel
theorem dX10_fitsPart_77 : decode cX10_fitsPart 77 = .ok (.aload_n 0, 1) := by decide +kernel
theorem dX10_fitsPart_78 : decode cX10_fitsPart 78 = .ok (.getfield 63, 3) := by decide +kernel
theorem dX10_fitsPart_81 : decode cX10_fitsPart 81 = .ok (.bipush 6, 2) := by decide +kernel
theorem dX10_fitsPart_83 : decode cX10_fitsPart 83 = .ok (.iload_n 1, 1) := by decide +kernel
theorem dX10_fitsPart_84 : decode cX10_fitsPart 84 = .ok (.imul, 1) := by decide +kernel
theorem dX10_fitsPart_85 : decode cX10_fitsPart 85 = .ok (.iload 4, 2) := by decide +kernel
theorem dX10_fitsPart_87 : decode cX10_fitsPart 87 = .ok (.iadd, 1) := by decide +kernel
theorem dX10_fitsPart_88 : decode cX10_fitsPart 88 = .ok (.laload, 1) := by decide +kernel
theorem dX10_fitsPart_89 : decode cX10_fitsPart 89 = .ok (.lcmp, 1) := by decide +kernel
theorem dX10_fitsPart_90 : decode cX10_fitsPart 90 = .ok (.ifCond .eq 5, 3) := by decide +kernel
theorem dX10_fitsPart_93 : decode cX10_fitsPart 93 = .ok (.iconst 0, 1) := by decide +kernel
theorem dX10_fitsPart_94 : decode cX10_fitsPart 94 = .ok (.ireturn, 1) := by decide +kernel
theorem dX10_fitsPart_95 : decode cX10_fitsPart 95 = .ok (.iinc 4 1, 3) := by decide +kernel
theorem dX10_fitsPart_98 : decode cX10_fitsPart 98 = .ok (.goto (-70), 3) := by decide +kernel
theorem dX10_fitsPart_101 : decode cX10_fitsPart 101 = .ok (.iconst 1, 1) := by decide +kernel
theorem dX10_fitsPart_102 : decode cX10_fitsPart 102 = .ok (.ireturn, 1) := by decide +kernel
theorem dX10_standsIn_0 : decode cX10_standsIn 0 = .ok (.iconst 1, 1) := by decide +kernel
theorem dX10_standsIn_1 : decode cX10_standsIn 1 = .ok (.istore_n 2, 1) := by decide +kernel
theorem dX10_standsIn_2 : decode cX10_standsIn 2 = .ok (.iconst 0, 1) := by decide +kernel
theorem dX10_standsIn_3 : decode cX10_standsIn 3 = .ok (.istore_n 3, 1) := by decide +kernel
theorem dX10_standsIn_4 : decode cX10_standsIn 4 = .ok (.iload_n 3, 1) := by decide +kernel
theorem dX10_standsIn_5 : decode cX10_standsIn 5 = .ok (.aload_n 0, 1) := by decide +kernel
theorem dX10_standsIn_6 : decode cX10_standsIn 6 = .ok (.getfield 209, 3) := by decide +kernel
theorem dX10_standsIn_9 : decode cX10_standsIn 9 = .ok (.if_icmp .ge 16, 3) := by decide +kernel
theorem dX10_standsIn_12 : decode cX10_standsIn 12 = .ok (.iload_n 2, 1) := by decide +kernel
theorem dX10_standsIn_13 : decode cX10_standsIn 13 = .ok (.aload_n 0, 1) := by decide +kernel
theorem dX10_standsIn_14 : decode cX10_standsIn 14 = .ok (.getfield 106, 3) := by decide +kernel
theorem dX10_standsIn_17 : decode cX10_standsIn 17 = .ok (.imul, 1) := by decide +kernel
theorem dX10_standsIn_18 : decode cX10_standsIn 18 = .ok (.istore_n 2, 1) := by decide +kernel
theorem dX10_standsIn_19 : decode cX10_standsIn 19 = .ok (.iinc 3 1, 3) := by decide +kernel
theorem dX10_standsIn_22 : decode cX10_standsIn 22 = .ok (.goto (-18), 3) := by decide +kernel
theorem dX10_standsIn_25 : decode cX10_standsIn 25 = .ok (.iconst 0, 1) := by decide +kernel
theorem dX10_standsIn_26 : decode cX10_standsIn 26 = .ok (.istore_n 3, 1) := by decide +kernel
theorem dX10_standsIn_27 : decode cX10_standsIn 27 = .ok (.iload_n 3, 1) := by decide +kernel
theorem dX10_standsIn_28 : decode cX10_standsIn 28 = .ok (.iload_n 2, 1) := by decide +kernel
theorem dX10_standsIn_29 : decode cX10_standsIn 29 = .ok (.if_icmp .ge 159, 3) := by decide +kernel
theorem dX10_standsIn_32 : decode cX10_standsIn 32 = .ok (.iload_n 3, 1) := by decide +kernel
theorem dX10_standsIn_33 : decode cX10_standsIn 33 = .ok (.istore 4, 2) := by decide +kernel
theorem dX10_standsIn_35 : decode cX10_standsIn 35 = .ok (.iconst 1, 1) := by decide +kernel
theorem dX10_standsIn_36 : decode cX10_standsIn 36 = .ok (.istore 5, 2) := by decide +kernel
theorem dX10_standsIn_38 : decode cX10_standsIn 38 = .ok (.iconst 0, 1) := by decide +kernel
theorem dX10_standsIn_39 : decode cX10_standsIn 39 = .ok (.istore 6, 2) := by decide +kernel
theorem dX10_standsIn_41 : decode cX10_standsIn 41 = .ok (.iload 6, 2) := by decide +kernel
theorem dX10_standsIn_43 : decode cX10_standsIn 43 = .ok (.aload_n 0, 1) := by decide +kernel
theorem dX10_standsIn_44 : decode cX10_standsIn 44 = .ok (.getfield 209, 3) := by decide +kernel
theorem dX10_standsIn_47 : decode cX10_standsIn 47 = .ok (.if_icmp .ge 61, 3) := by decide +kernel
theorem dX10_standsIn_50 : decode cX10_standsIn 50 = .ok (.aload_n 0, 1) := by decide +kernel
theorem dX10_standsIn_51 : decode cX10_standsIn 51 = .ok (.getfield 90, 3) := by decide +kernel
theorem dX10_standsIn_54 : decode cX10_standsIn 54 = .ok (.iload 6, 2) := by decide +kernel
theorem dX10_standsIn_56 : decode cX10_standsIn 56 = .ok (.iload 4, 2) := by decide +kernel
theorem dX10_standsIn_58 : decode cX10_standsIn 58 = .ok (.aload_n 0, 1) := by decide +kernel
theorem dX10_standsIn_59 : decode cX10_standsIn 59 = .ok (.getfield 106, 3) := by decide +kernel
theorem dX10_standsIn_62 : decode cX10_standsIn 62 = .ok (.irem, 1) := by decide +kernel
theorem dX10_standsIn_63 : decode cX10_standsIn 63 = .ok (.iastore, 1) := by decide +kernel
theorem dX10_standsIn_64 : decode cX10_standsIn 64 = .ok (.iload 4, 2) := by decide +kernel
theorem dX10_standsIn_66 : decode cX10_standsIn 66 = .ok (.aload_n 0, 1) := by decide +kernel
theorem dX10_standsIn_67 : decode cX10_standsIn 67 = .ok (.getfield 106, 3) := by decide +kernel
theorem dX10_standsIn_70 : decode cX10_standsIn 70 = .ok (.idiv, 1) := by decide +kernel
theorem dX10_standsIn_71 : decode cX10_standsIn 71 = .ok (.istore 4, 2) := by decide +kernel
theorem dX10_standsIn_73 : decode cX10_standsIn 73 = .ok (.iload 5, 2) := by decide +kernel
theorem dX10_standsIn_75 : decode cX10_standsIn 75 = .ok (.ifCond .eq 24, 3) := by decide +kernel
theorem dX10_standsIn_78 : decode cX10_standsIn 78 = .ok (.aload_n 0, 1) := by decide +kernel
theorem dX10_standsIn_79 : decode cX10_standsIn 79 = .ok (.iload 6, 2) := by decide +kernel
theorem dX10_standsIn_81 : decode cX10_standsIn 81 = .ok (.aload_n 0, 1) := by decide +kernel
theorem dX10_standsIn_82 : decode cX10_standsIn 82 = .ok (.getfield 90, 3) := by decide +kernel
theorem dX10_standsIn_85 : decode cX10_standsIn 85 = .ok (.iload 6, 2) := by decide +kernel
theorem dX10_standsIn_87 : decode cX10_standsIn 87 = .ok (.iaload, 1) := by decide +kernel
theorem dX10_standsIn_88 : decode cX10_standsIn 88 = .ok (.iload_n 1, 1) := by decide +kernel
theorem dX10_standsIn_89 : decode cX10_standsIn 89 = .ok (.invokevirtual 218, 3) := by decide +kernel
theorem dX10_standsIn_92 : decode cX10_standsIn 92 = .ok (.ifCond .eq 7, 3) := by decide +kernel
theorem dX10_standsIn_95 : decode cX10_standsIn 95 = .ok (.iconst 1, 1) := by decide +kernel
theorem dX10_standsIn_96 : decode cX10_standsIn 96 = .ok (.goto 4, 3) := by decide +kernel
theorem dX10_standsIn_99 : decode cX10_standsIn 99 = .ok (.iconst 0, 1) := by decide +kernel
theorem dX10_standsIn_100 : decode cX10_standsIn 100 = .ok (.istore 5, 2) := by decide +kernel
theorem dX10_standsIn_102 : decode cX10_standsIn 102 = .ok (.iinc 6 1, 3) := by decide +kernel
theorem dX10_standsIn_105 : decode cX10_standsIn 105 = .ok (.goto (-64), 3) := by decide +kernel
theorem dX10_standsIn_108 : decode cX10_standsIn 108 = .ok (.iconst 0, 1) := by decide +kernel
theorem dX10_standsIn_109 : decode cX10_standsIn 109 = .ok (.istore 6, 2) := by decide +kernel
theorem dX10_standsIn_111 : decode cX10_standsIn 111 = .ok (.iload 6, 2) := by decide +kernel
theorem dX10_standsIn_113 : decode cX10_standsIn 113 = .ok (.aload_n 0, 1) := by decide +kernel
theorem dX10_standsIn_114 : decode cX10_standsIn 114 = .ok (.getfield 212, 3) := by decide +kernel
theorem dX10_standsIn_117 : decode cX10_standsIn 117 = .ok (.if_icmp .ge 58, 3) := by decide +kernel
theorem dX10_standsIn_120 : decode cX10_standsIn 120 = .ok (.iload 5, 2) := by decide +kernel
theorem dX10_standsIn_122 : decode cX10_standsIn 122 = .ok (.ifCond .eq 53, 3) := by decide +kernel
theorem dX10_standsIn_125 : decode cX10_standsIn 125 = .ok (.aload_n 0, 1) := by decide +kernel
theorem dX10_standsIn_126 : decode cX10_standsIn 126 = .ok (.aload_n 0, 1) := by decide +kernel
theorem dX10_standsIn_127 : decode cX10_standsIn 127 = .ok (.getfield 90, 3) := by decide +kernel
theorem dX10_standsIn_130 : decode cX10_standsIn 130 = .ok (.aload_n 0, 1) := by decide +kernel
theorem dX10_standsIn_131 : decode cX10_standsIn 131 = .ok (.getfield 66, 3) := by decide +kernel
theorem dX10_standsIn_134 : decode cX10_standsIn 134 = .ok (.iload 6, 2) := by decide +kernel
theorem dX10_standsIn_136 : decode cX10_standsIn 136 = .ok (.iaload, 1) := by decide +kernel
theorem dX10_standsIn_137 : decode cX10_standsIn 137 = .ok (.iaload, 1) := by decide +kernel
theorem dX10_standsIn_138 : decode cX10_standsIn 138 = .ok (.aload_n 0, 1) := by decide +kernel
theorem dX10_standsIn_139 : decode cX10_standsIn 139 = .ok (.getfield 69, 3) := by decide +kernel
theorem dX10_standsIn_142 : decode cX10_standsIn 142 = .ok (.iload 6, 2) := by decide +kernel
theorem dX10_standsIn_144 : decode cX10_standsIn 144 = .ok (.iaload, 1) := by decide +kernel
theorem dX10_standsIn_145 : decode cX10_standsIn 145 = .ok (.aload_n 0, 1) := by decide +kernel
theorem dX10_standsIn_146 : decode cX10_standsIn 146 = .ok (.getfield 90, 3) := by decide +kernel
theorem dX10_standsIn_149 : decode cX10_standsIn 149 = .ok (.aload_n 0, 1) := by decide +kernel
theorem dX10_standsIn_150 : decode cX10_standsIn 150 = .ok (.getfield 72, 3) := by decide +kernel
theorem dX10_standsIn_153 : decode cX10_standsIn 153 = .ok (.iload 6, 2) := by decide +kernel
theorem dX10_standsIn_155 : decode cX10_standsIn 155 = .ok (.iaload, 1) := by decide +kernel
theorem dX10_standsIn_156 : decode cX10_standsIn 156 = .ok (.iaload, 1) := by decide +kernel
theorem dX10_standsIn_157 : decode cX10_standsIn 157 = .ok (.aload_n 0, 1) := by decide +kernel
theorem dX10_standsIn_158 : decode cX10_standsIn 158 = .ok (.getfield 75, 3) := by decide +kernel
theorem dX10_standsIn_161 : decode cX10_standsIn 161 = .ok (.iload 6, 2) := by decide +kernel
theorem dX10_standsIn_163 : decode cX10_standsIn 163 = .ok (.iaload, 1) := by decide +kernel
theorem dX10_standsIn_164 : decode cX10_standsIn 164 = .ok (.invokevirtual 150, 3) := by decide +kernel
theorem dX10_standsIn_167 : decode cX10_standsIn 167 = .ok (.istore 5, 2) := by decide +kernel
theorem dX10_standsIn_169 : decode cX10_standsIn 169 = .ok (.iinc 6 1, 3) := by decide +kernel
theorem dX10_standsIn_172 : decode cX10_standsIn 172 = .ok (.goto (-61), 3) := by decide +kernel
theorem dX10_standsIn_175 : decode cX10_standsIn 175 = .ok (.iload 5, 2) := by decide +kernel
theorem dX10_standsIn_177 : decode cX10_standsIn 177 = .ok (.ifCond .eq 5, 3) := by decide +kernel
theorem dX10_standsIn_180 : decode cX10_standsIn 180 = .ok (.iconst 1, 1) := by decide +kernel
theorem dX10_standsIn_181 : decode cX10_standsIn 181 = .ok (.ireturn, 1) := by decide +kernel
theorem dX10_standsIn_182 : decode cX10_standsIn 182 = .ok (.iinc 3 1, 3) := by decide +kernel
theorem dX10_standsIn_185 : decode cX10_standsIn 185 = .ok (.goto (-158), 3) := by decide +kernel
theorem dX10_standsIn_188 : decode cX10_standsIn 188 = .ok (.iconst 0, 1) := by decide +kernel
theorem dX10_standsIn_189 : decode cX10_standsIn 189 = .ok (.ireturn, 1) := by decide +kernel
theorem dX10_stands_0 : decode cX10_stands 0 = .ok (.aload_n 0, 1) := by decide +kernel
theorem dX10_stands_1 : decode cX10_stands 1 = .ok (.iconst 0, 1) := by decide +kernel
theorem dX10_stands_2 : decode cX10_stands 2 = .ok (.putfield 93, 3) := by decide +kernel
theorem dX10_stands_5 : decode cX10_stands 5 = .ok (.aload_n 0, 1) := by decide +kernel
theorem dX10_stands_6 : decode cX10_stands 6 = .ok (.aload_n 0, 1) := by decide +kernel
theorem dX10_stands_7 : decode cX10_stands 7 = .ok (.invokevirtual 170, 3) := by decide +kernel
theorem dX10_stands_10 : decode cX10_stands 10 = .ok (.invokevirtual 221, 3) := by decide +kernel
theorem dX10_stands_13 : decode cX10_stands 13 = .ok (.ifCond .eq 7, 3) := by decide +kernel
theorem dX10_stands_16 : decode cX10_stands 16 = .ok (.iconst 1, 1) := by decide +kernel
theorem dX10_stands_17 : decode cX10_stands 17 = .ok (.goto 4, 3) := by decide +kernel
theorem dX10_stands_20 : decode cX10_stands 20 = .ok (.iconst 0, 1) := by decide +kernel
theorem dX10_stands_21 : decode cX10_stands 21 = .ok (.ireturn, 1) := by decide +kernel
theorem dX10_oftenOf_0 : decode cX10_oftenOf 0 = .ok (.aload_n 0, 1) := by decide +kernel
theorem dX10_oftenOf_1 : decode cX10_oftenOf 1 = .ok (.invokevirtual 196, 3) := by decide +kernel
theorem dX10_oftenOf_4 : decode cX10_oftenOf 4 = .ok (.iconst 0, 1) := by decide +kernel
theorem dX10_oftenOf_5 : decode cX10_oftenOf 5 = .ok (.istore_n 1, 1) := by decide +kernel
theorem dX10_oftenOf_6 : decode cX10_oftenOf 6 = .ok (.iconst 0, 1) := by decide +kernel
theorem dX10_oftenOf_7 : decode cX10_oftenOf 7 = .ok (.istore_n 2, 1) := by decide +kernel
theorem dX10_oftenOf_8 : decode cX10_oftenOf 8 = .ok (.iload_n 2, 1) := by decide +kernel
theorem dX10_oftenOf_9 : decode cX10_oftenOf 9 = .ok (.aload_n 0, 1) := by decide +kernel
theorem dX10_oftenOf_10 : decode cX10_oftenOf 10 = .ok (.getfield 193, 3) := by decide +kernel
theorem dX10_oftenOf_13 : decode cX10_oftenOf 13 = .ok (.if_icmp .ge 37, 3) := by decide +kernel
theorem dX10_oftenOf_16 : decode cX10_oftenOf 16 = .ok (.iload_n 1, 1) := by decide +kernel
theorem dX10_oftenOf_17 : decode cX10_oftenOf 17 = .ok (.aload_n 0, 1) := by decide +kernel
theorem dX10_oftenOf_18 : decode cX10_oftenOf 18 = .ok (.aload_n 0, 1) := by decide +kernel
theorem dX10_oftenOf_19 : decode cX10_oftenOf 19 = .ok (.invokevirtual 170, 3) := by decide +kernel
theorem dX10_oftenOf_22 : decode cX10_oftenOf 22 = .ok (.aload_n 0, 1) := by decide +kernel
theorem dX10_oftenOf_23 : decode cX10_oftenOf 23 = .ok (.getfield 78, 3) := by decide +kernel
theorem dX10_oftenOf_26 : decode cX10_oftenOf 26 = .ok (.iload_n 2, 1) := by decide +kernel
theorem dX10_oftenOf_27 : decode cX10_oftenOf 27 = .ok (.iaload, 1) := by decide +kernel
theorem dX10_oftenOf_28 : decode cX10_oftenOf 28 = .ok (.iconst (-1), 1) := by decide +kernel
theorem dX10_oftenOf_29 : decode cX10_oftenOf 29 = .ok (.ixor, 1) := by decide +kernel
theorem dX10_oftenOf_30 : decode cX10_oftenOf 30 = .ok (.iand, 1) := by decide +kernel
theorem dX10_oftenOf_31 : decode cX10_oftenOf 31 = .ok (.invokevirtual 221, 3) := by decide +kernel
theorem dX10_oftenOf_34 : decode cX10_oftenOf 34 = .ok (.ifCond .eq 7, 3) := by decide +kernel
theorem dX10_oftenOf_37 : decode cX10_oftenOf 37 = .ok (.iconst 1, 1) := by decide +kernel
theorem dX10_oftenOf_38 : decode cX10_oftenOf 38 = .ok (.goto 4, 3) := by decide +kernel
theorem dX10_oftenOf_41 : decode cX10_oftenOf 41 = .ok (.iconst 0, 1) := by decide +kernel
theorem dX10_oftenOf_42 : decode cX10_oftenOf 42 = .ok (.iadd, 1) := by decide +kernel
theorem dX10_oftenOf_43 : decode cX10_oftenOf 43 = .ok (.istore_n 1, 1) := by decide +kernel
theorem dX10_oftenOf_44 : decode cX10_oftenOf 44 = .ok (.iinc 2 1, 3) := by decide +kernel
theorem dX10_oftenOf_47 : decode cX10_oftenOf 47 = .ok (.goto (-39), 3) := by decide +kernel
theorem dX10_oftenOf_50 : decode cX10_oftenOf 50 = .ok (.iload_n 1, 1) := by decide +kernel
theorem dX10_oftenOf_51 : decode cX10_oftenOf 51 = .ok (.ireturn, 1) := by decide +kernel
theorem dX10_often_0 : decode cX10_often 0 = .ok (.aload_n 0, 1) := by decide +kernel
theorem dX10_often_1 : decode cX10_often 1 = .ok (.iconst 0, 1) := by decide +kernel
theorem dX10_often_2 : decode cX10_often 2 = .ok (.putfield 93, 3) := by decide +kernel
theorem dX10_often_5 : decode cX10_often 5 = .ok (.aload_n 0, 1) := by decide +kernel
theorem dX10_often_6 : decode cX10_often 6 = .ok (.invokevirtual 224, 3) := by decide +kernel
theorem dX10_often_9 : decode cX10_often 9 = .ok (.ireturn, 1) := by decide +kernel
theorem dX10_sure_0 : decode cX10_sure 0 = .ok (.aload_n 0, 1) := by decide +kernel
theorem dX10_sure_1 : decode cX10_sure 1 = .ok (.iconst 0, 1) := by decide +kernel
theorem dX10_sure_2 : decode cX10_sure 2 = .ok (.putfield 93, 3) := by decide +kernel
theorem dX10_sure_5 : decode cX10_sure 5 = .ok (.aload_n 0, 1) := by decide +kernel
theorem dX10_sure_6 : decode cX10_sure 6 = .ok (.invokevirtual 224, 3) := by decide +kernel
theorem dX10_sure_9 : decode cX10_sure 9 = .ok (.istore_n 1, 1) := by decide +kernel
theorem dX10_sure_10 : decode cX10_sure 10 = .ok (.iload_n 1, 1) := by decide +kernel
theorem dX10_sure_11 : decode cX10_sure 11 = .ok (.aload_n 0, 1) := by decide +kernel
theorem dX10_sure_12 : decode cX10_sure 12 = .ok (.getfield 193, 3) := by decide +kernel
theorem dX10_sure_15 : decode cX10_sure 15 = .ok (.if_icmp .ne 7, 3) := by decide +kernel
theorem dX10_sure_18 : decode cX10_sure 18 = .ok (.iconst 2, 1) := by decide +kernel
theorem dX10_sure_19 : decode cX10_sure 19 = .ok (.goto 12, 3) := by decide +kernel
theorem dX10_sure_22 : decode cX10_sure 22 = .ok (.iload_n 1, 1) := by decide +kernel
theorem dX10_sure_23 : decode cX10_sure 23 = .ok (.ifCond .le 7, 3) := by decide +kernel
theorem dX10_sure_26 : decode cX10_sure 26 = .ok (.iconst 1, 1) := by decide +kernel
theorem dX10_sure_27 : decode cX10_sure 27 = .ok (.goto 4, 3) := by decide +kernel
theorem dX10_sure_30 : decode cX10_sure 30 = .ok (.iconst 0, 1) := by decide +kernel
theorem dX10_sure_31 : decode cX10_sure 31 = .ok (.ireturn, 1) := by decide +kernel
theorem dX10_against_0 : decode cX10_against 0 = .ok (.aload_n 0, 1) := by decide +kernel
theorem dX10_against_1 : decode cX10_against 1 = .ok (.iconst 0, 1) := by decide +kernel
theorem dX10_against_2 : decode cX10_against 2 = .ok (.putfield 93, 3) := by decide +kernel
theorem dX10_against_5 : decode cX10_against 5 = .ok (.aload_n 0, 1) := by decide +kernel
theorem dX10_against_6 : decode cX10_against 6 = .ok (.invokevirtual 196, 3) := by decide +kernel
theorem dX10_against_9 : decode cX10_against 9 = .ok (.iconst 0, 1) := by decide +kernel
theorem dX10_against_10 : decode cX10_against 10 = .ok (.istore_n 1, 1) := by decide +kernel
theorem dX10_against_11 : decode cX10_against 11 = .ok (.iload_n 1, 1) := by decide +kernel
theorem dX10_against_12 : decode cX10_against 12 = .ok (.aload_n 0, 1) := by decide +kernel
theorem dX10_against_13 : decode cX10_against 13 = .ok (.getfield 193, 3) := by decide +kernel
theorem dX10_against_16 : decode cX10_against 16 = .ok (.if_icmp .ge 36, 3) := by decide +kernel
theorem dX10_against_19 : decode cX10_against 19 = .ok (.aload_n 0, 1) := by decide +kernel
theorem dX10_against_20 : decode cX10_against 20 = .ok (.aload_n 0, 1) := by decide +kernel
theorem dX10_against_21 : decode cX10_against 21 = .ok (.invokevirtual 170, 3) := by decide +kernel
theorem dX10_against_24 : decode cX10_against 24 = .ok (.aload_n 0, 1) := by decide +kernel
theorem dX10_against_25 : decode cX10_against 25 = .ok (.getfield 78, 3) := by decide +kernel
theorem dX10_against_28 : decode cX10_against 28 = .ok (.iload_n 1, 1) := by decide +kernel
theorem dX10_against_29 : decode cX10_against 29 = .ok (.iaload, 1) := by decide +kernel
theorem dX10_against_30 : decode cX10_against 30 = .ok (.iconst (-1), 1) := by decide +kernel
theorem dX10_against_31 : decode cX10_against 31 = .ok (.ixor, 1) := by decide +kernel
theorem dX10_against_32 : decode cX10_against 32 = .ok (.iand, 1) := by decide +kernel
theorem dX10_against_33 : decode cX10_against 33 = .ok (.invokevirtual 221, 3) := by decide +kernel
theorem dX10_against_36 : decode cX10_against 36 = .ok (.ifCond .ne 10, 3) := by decide +kernel
theorem dX10_against_39 : decode cX10_against 39 = .ok (.aload_n 0, 1) := by decide +kernel
theorem dX10_against_40 : decode cX10_against 40 = .ok (.getfield 78, 3) := by decide +kernel
theorem dX10_against_43 : decode cX10_against 43 = .ok (.iload_n 1, 1) := by decide +kernel
theorem dX10_against_44 : decode cX10_against 44 = .ok (.iaload, 1) := by decide +kernel
theorem dX10_against_45 : decode cX10_against 45 = .ok (.ireturn, 1) := by decide +kernel
theorem dX10_against_46 : decode cX10_against 46 = .ok (.iinc 1 1, 3) := by decide +kernel
theorem dX10_against_49 : decode cX10_against 49 = .ok (.goto (-38), 3) := by decide +kernel
theorem dX10_against_52 : decode cX10_against 52 = .ok (.bipush (-9), 2) := by decide +kernel
theorem dX10_against_54 : decode cX10_against 54 = .ok (.ireturn, 1) := by decide +kernel
theorem dX10_count_0 : decode cX10_count 0 = .ok (.aload_n 0, 1) := by decide +kernel
theorem dX10_count_1 : decode cX10_count 1 = .ok (.iconst 0, 1) := by decide +kernel
theorem dX10_count_2 : decode cX10_count 2 = .ok (.putfield 93, 3) := by decide +kernel
theorem dX10_count_5 : decode cX10_count 5 = .ok (.iload_n 1, 1) := by decide +kernel
theorem dX10_count_6 : decode cX10_count 6 = .ok (.tableswitch 109 0 6 #[42, 47, 52, 57, 62, 67, 75], 42) := by decide +kernel
theorem dX10_count_48 : decode cX10_count 48 = .ok (.aload_n 0, 1) := by decide +kernel
theorem dX10_count_49 : decode cX10_count 49 = .ok (.getfield 106, 3) := by decide +kernel
theorem dX10_count_52 : decode cX10_count 52 = .ok (.ireturn, 1) := by decide +kernel
theorem dX10_count_53 : decode cX10_count 53 = .ok (.aload_n 0, 1) := by decide +kernel
theorem dX10_count_54 : decode cX10_count 54 = .ok (.getfield 109, 3) := by decide +kernel
theorem dX10_count_57 : decode cX10_count 57 = .ok (.ireturn, 1) := by decide +kernel
theorem dX10_count_58 : decode cX10_count 58 = .ok (.aload_n 0, 1) := by decide +kernel
theorem dX10_count_59 : decode cX10_count 59 = .ok (.getfield 209, 3) := by decide +kernel
theorem dX10_count_62 : decode cX10_count 62 = .ok (.ireturn, 1) := by decide +kernel
theorem dX10_count_63 : decode cX10_count 63 = .ok (.aload_n 0, 1) := by decide +kernel
theorem dX10_count_64 : decode cX10_count 64 = .ok (.getfield 212, 3) := by decide +kernel
theorem dX10_count_67 : decode cX10_count 67 = .ok (.ireturn, 1) := by decide +kernel
theorem dX10_count_68 : decode cX10_count 68 = .ok (.aload_n 0, 1) := by decide +kernel
theorem dX10_count_69 : decode cX10_count 69 = .ok (.getfield 97, 3) := by decide +kernel
theorem dX10_count_72 : decode cX10_count 72 = .ok (.ireturn, 1) := by decide +kernel
theorem dX10_count_73 : decode cX10_count 73 = .ok (.aload_n 0, 1) := by decide +kernel
theorem dX10_count_74 : decode cX10_count 74 = .ok (.invokevirtual 170, 3) := by decide +kernel
theorem dX10_count_77 : decode cX10_count 77 = .ok (.invokestatic 177, 3) := by decide +kernel
theorem dX10_count_80 : decode cX10_count 80 = .ok (.ireturn, 1) := by decide +kernel
theorem dX10_count_81 : decode cX10_count 81 = .ok (.iconst 0, 1) := by decide +kernel
theorem dX10_count_82 : decode cX10_count 82 = .ok (.istore_n 2, 1) := by decide +kernel
theorem dX10_count_83 : decode cX10_count 83 = .ok (.iconst 0, 1) := by decide +kernel
theorem dX10_count_84 : decode cX10_count 84 = .ok (.istore_n 3, 1) := by decide +kernel
theorem dX10_count_85 : decode cX10_count 85 = .ok (.iload_n 3, 1) := by decide +kernel
theorem dX10_count_86 : decode cX10_count 86 = .ok (.iconst 4, 1) := by decide +kernel
theorem dX10_count_87 : decode cX10_count 87 = .ok (.if_icmp .ge 26, 3) := by decide +kernel
theorem dX10_count_90 : decode cX10_count 90 = .ok (.iload_n 2, 1) := by decide +kernel
theorem dX10_count_91 : decode cX10_count 91 = .ok (.aload_n 0, 1) := by decide +kernel
theorem dX10_count_92 : decode cX10_count 92 = .ok (.getfield 7, 3) := by decide +kernel
theorem dX10_count_95 : decode cX10_count 95 = .ok (.iload_n 3, 1) := by decide +kernel
theorem dX10_count_96 : decode cX10_count 96 = .ok (.iaload, 1) := by decide +kernel
theorem dX10_count_97 : decode cX10_count 97 = .ok (.ifCond .le 7, 3) := by decide +kernel
theorem dX10_count_100 : decode cX10_count 100 = .ok (.iconst 1, 1) := by decide +kernel
theorem dX10_count_101 : decode cX10_count 101 = .ok (.goto 4, 3) := by decide +kernel
theorem dX10_count_104 : decode cX10_count 104 = .ok (.iconst 0, 1) := by decide +kernel
theorem dX10_count_105 : decode cX10_count 105 = .ok (.iadd, 1) := by decide +kernel
theorem dX10_count_106 : decode cX10_count 106 = .ok (.istore_n 2, 1) := by decide +kernel
theorem dX10_count_107 : decode cX10_count 107 = .ok (.iinc 3 1, 3) := by decide +kernel
theorem dX10_count_110 : decode cX10_count 110 = .ok (.goto (-25), 3) := by decide +kernel
theorem dX10_count_113 : decode cX10_count 113 = .ok (.iload_n 2, 1) := by decide +kernel
theorem dX10_count_114 : decode cX10_count 114 = .ok (.ireturn, 1) := by decide +kernel
theorem dX10_count_115 : decode cX10_count 115 = .ok (.bipush (-2), 2) := by decide +kernel
theorem dX10_count_117 : decode cX10_count 117 = .ok (.ireturn, 1) := by decide +kernel
