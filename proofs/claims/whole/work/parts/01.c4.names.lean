theorem dX7_laySegments_12 : decode cX7_laySegments 12 = .ok (.putfield 67, 3) := by decide +kernel
theorem dX7_laySegments_15 : decode cX7_laySegments 15 = .ok (.iload_n 1, 1) := by decide +kernel
theorem dX7_laySegments_16 : decode cX7_laySegments 16 = .ok (.iconst 1, 1) := by decide +kernel
theorem dX7_laySegments_17 : decode cX7_laySegments 17 = .ok (.iadd, 1) := by decide +kernel
theorem dX7_laySegments_18 : decode cX7_laySegments 18 = .ok (.istore_n 2, 1) := by decide +kernel
theorem dX7_laySegments_19 : decode cX7_laySegments 19 = .ok (.iload_n 2, 1) := by decide +kernel
theorem dX7_laySegments_20 : decode cX7_laySegments 20 = .ok (.aload_n 0, 1) := by decide +kernel
theorem dX7_laySegments_21 : decode cX7_laySegments 21 = .ok (.getfield 60, 3) := by decide +kernel
theorem dX7_laySegments_24 : decode cX7_laySegments 24 = .ok (.if_icmp .gt 66, 3) := by decide +kernel
theorem dX7_laySegments_27 : decode cX7_laySegments 27 = .ok (.aload_n 0, 1) := by decide +kernel
theorem dX7_laySegments_28 : decode cX7_laySegments 28 = .ok (.getfield 13, 3) := by decide +kernel
theorem dX7_laySegments_31 : decode cX7_laySegments 31 = .ok (.iload_n 2, 1) := by decide +kernel
theorem dX7_laySegments_32 : decode cX7_laySegments 32 = .ok (.iconst 1, 1) := by decide +kernel
theorem dX7_laySegments_33 : decode cX7_laySegments 33 = .ok (.isub, 1) := by decide +kernel
theorem dX7_laySegments_34 : decode cX7_laySegments 34 = .ok (.baload, 1) := by decide +kernel
theorem dX7_laySegments_35 : decode cX7_laySegments 35 = .ok (.ifCond .ne 15, 3) := by decide +kernel
theorem dX7_laySegments_38 : decode cX7_laySegments 38 = .ok (.aload_n 0, 1) := by decide +kernel
theorem dX7_laySegments_39 : decode cX7_laySegments 39 = .ok (.aload_n 0, 1) := by decide +kernel
theorem dX7_laySegments_40 : decode cX7_laySegments 40 = .ok (.getfield 39, 3) := by decide +kernel
theorem dX7_laySegments_43 : decode cX7_laySegments 43 = .ok (.iload_n 2, 1) := by decide +kernel
theorem dX7_laySegments_44 : decode cX7_laySegments 44 = .ok (.iconst 1, 1) := by decide +kernel
theorem dX7_laySegments_45 : decode cX7_laySegments 45 = .ok (.isub, 1) := by decide +kernel
theorem dX7_laySegments_46 : decode cX7_laySegments 46 = .ok (.iaload, 1) := by decide +kernel
theorem dX7_laySegments_47 : decode cX7_laySegments 47 = .ok (.invokevirtual 70, 3) := by decide +kernel
theorem dX7_laySegments_50 : decode cX7_laySegments 50 = .ok (.aload_n 0, 1) := by decide +kernel
theorem dX7_laySegments_51 : decode cX7_laySegments 51 = .ok (.getfield 45, 3) := by decide +kernel
theorem dX7_laySegments_54 : decode cX7_laySegments 54 = .ok (.bipush 61, 2) := by decide +kernel
theorem dX7_laySegments_56 : decode cX7_laySegments 56 = .ok (.iload_n 1, 1) := by decide +kernel
theorem dX7_laySegments_57 : decode cX7_laySegments 57 = .ok (.imul, 1) := by decide +kernel
theorem dX7_laySegments_58 : decode cX7_laySegments 58 = .ok (.iload_n 2, 1) := by decide +kernel
theorem dX7_laySegments_59 : decode cX7_laySegments 59 = .ok (.iadd, 1) := by decide +kernel
theorem dX7_laySegments_60 : decode cX7_laySegments 60 = .ok (.aload_n 0, 1) := by decide +kernel
theorem dX7_laySegments_61 : decode cX7_laySegments 61 = .ok (.invokevirtual 74, 3) := by decide +kernel
theorem dX7_laySegments_64 : decode cX7_laySegments 64 = .ok (.iastore, 1) := by decide +kernel
theorem dX7_laySegments_65 : decode cX7_laySegments 65 = .ok (.aload_n 0, 1) := by decide +kernel
theorem dX7_laySegments_66 : decode cX7_laySegments 66 = .ok (.getfield 42, 3) := by decide +kernel
theorem dX7_laySegments_69 : decode cX7_laySegments 69 = .ok (.bipush 61, 2) := by decide +kernel
theorem dX7_laySegments_71 : decode cX7_laySegments 71 = .ok (.iload_n 1, 1) := by decide +kernel
theorem dX7_laySegments_72 : decode cX7_laySegments 72 = .ok (.imul, 1) := by decide +kernel
theorem dX7_laySegments_73 : decode cX7_laySegments 73 = .ok (.iload_n 2, 1) := by decide +kernel
theorem dX7_laySegments_74 : decode cX7_laySegments 74 = .ok (.iadd, 1) := by decide +kernel
theorem dX7_laySegments_75 : decode cX7_laySegments 75 = .ok (.aload_n 0, 1) := by decide +kernel
theorem dX7_laySegments_76 : decode cX7_laySegments 76 = .ok (.aload_n 0, 1) := by decide +kernel
theorem dX7_laySegments_77 : decode cX7_laySegments 77 = .ok (.invokevirtual 74, 3) := by decide +kernel
theorem dX7_laySegments_80 : decode cX7_laySegments 80 = .ok (.invokevirtual 85, 3) := by decide +kernel
theorem dX7_laySegments_83 : decode cX7_laySegments 83 = .ok (.iastore, 1) := by decide +kernel
theorem dX7_laySegments_84 : decode cX7_laySegments 84 = .ok (.iinc 2 1, 3) := by decide +kernel
theorem dX7_laySegments_87 : decode cX7_laySegments 87 = .ok (.goto (-68), 3) := by decide +kernel
theorem dX7_laySegments_90 : decode cX7_laySegments 90 = .ok (.iinc 1 1, 3) := by decide +kernel
theorem dX7_laySegments_93 : decode cX7_laySegments 93 = .ok (.goto (-91), 3) := by decide +kernel
theorem dX7_laySegments_96 : decode cX7_laySegments 96 = .ok (.return_, 1) := by decide +kernel
set_option maxRecDepth 20000 in
theorem ggX7_layDivision_X7_laySeasons : GoodIn wsX7_layDivision wsX7_laySeasons := goodIn_r _ [12, 13, 2, 14, 15, 16, 17, 18, 19, 20, 21, 22, 11, 23, 24, 25, 26, 27, 28, 41, 42, 43, 44, 45, 46, 47, 48, 49, 50, 51, 52, 53, 54, 55, 56, 57, 58, 59, 60] (by decide +kernel) (by decide +kernel)
set_option maxRecDepth 20000 in
theorem gX7_layDivision_X7_laySeasons : GoodIn wsX7_layDivision (wsV RX7 88 RX7 yX7_laySeasons wsX7_laySeasons) := goodIn_app (goodIn_of _ (by decide +kernel)) ggX7_layDivision_X7_laySeasons
set_option maxRecDepth 20000 in
theorem ggX7_layDivision_X7_laySegments : GoodIn wsX7_layDivision wsX7_laySegments := goodIn_r _ [32, 2, 13, 14, 19, 33, 6, 20, 21, 22, 11, 23, 24, 25, 26, 27, 28, 34, 35, 36, 37, 38, 39, 40, 41, 42, 43, 44, 45, 46, 47, 48, 49, 50, 51, 52, 53, 54, 55, 56, 57, 58, 59, 60] (by decide +kernel) (by decide +kernel)
set_option maxRecDepth 20000 in
theorem gX7_layDivision_X7_laySegments : GoodIn wsX7_layDivision (wsV RX7 91 RX7 yX7_laySegments wsX7_laySegments) := goodIn_app (goodIn_of _ (by decide +kernel)) ggX7_layDivision_X7_laySegments
theorem dX7_layDivision_0 : decode cX7_layDivision 0 = .ok (.aload_n 0, 1) := by decide +kernel
theorem dX7_layDivision_1 : decode cX7_layDivision 1 = .ok (.invokevirtual 88, 3) := by decide +kernel
theorem dX7_layDivision_4 : decode cX7_layDivision 4 = .ok (.aload_n 0, 1) := by decide +kernel
theorem dX7_layDivision_5 : decode cX7_layDivision 5 = .ok (.invokevirtual 91, 3) := by decide +kernel
theorem dX7_layDivision_8 : decode cX7_layDivision 8 = .ok (.aload_n 0, 1) := by decide +kernel
theorem dX7_layDivision_9 : decode cX7_layDivision 9 = .ok (.getfield 48, 3) := by decide +kernel
theorem dX7_layDivision_12 : decode cX7_layDivision 12 = .ok (.aload_n 0, 1) := by decide +kernel
theorem dX7_layDivision_13 : decode cX7_layDivision 13 = .ok (.getfield 60, 3) := by decide +kernel
theorem dX7_layDivision_16 : decode cX7_layDivision 16 = .ok (.iconst 0, 1) := by decide +kernel
theorem dX7_layDivision_17 : decode cX7_layDivision 17 = .ok (.iastore, 1) := by decide +kernel
theorem dX7_layDivision_18 : decode cX7_layDivision 18 = .ok (.aload_n 0, 1) := by decide +kernel
theorem dX7_layDivision_19 : decode cX7_layDivision 19 = .ok (.getfield 60, 3) := by decide +kernel
theorem dX7_layDivision_22 : decode cX7_layDivision 22 = .ok (.iconst 1, 1) := by decide +kernel
theorem dX7_layDivision_23 : decode cX7_layDivision 23 = .ok (.isub, 1) := by decide +kernel
theorem dX7_layDivision_24 : decode cX7_layDivision 24 = .ok (.istore_n 1, 1) := by decide +kernel
theorem dX7_layDivision_25 : decode cX7_layDivision 25 = .ok (.iload_n 1, 1) := by decide +kernel
theorem dX7_layDivision_26 : decode cX7_layDivision 26 = .ok (.ifCond .lt 184, 3) := by decide +kernel
theorem dX7_layDivision_29 : decode cX7_layDivision 29 = .ok (.aload_n 0, 1) := by decide +kernel
theorem dX7_layDivision_30 : decode cX7_layDivision 30 = .ok (.getfield 48, 3) := by decide +kernel
theorem dX7_layDivision_33 : decode cX7_layDivision 33 = .ok (.iload_n 1, 1) := by decide +kernel
theorem dX7_layDivision_34 : decode cX7_layDivision 34 = .ok (.ldc 94, 2) := by decide +kernel
theorem dX7_layDivision_36 : decode cX7_layDivision 36 = .ok (.iastore, 1) := by decide +kernel
theorem dX7_layDivision_37 : decode cX7_layDivision 37 = .ok (.aload_n 0, 1) := by decide +kernel
theorem dX7_layDivision_38 : decode cX7_layDivision 38 = .ok (.getfield 51, 3) := by decide +kernel
theorem dX7_layDivision_41 : decode cX7_layDivision 41 = .ok (.iload_n 1, 1) := by decide +kernel
theorem dX7_layDivision_42 : decode cX7_layDivision 42 = .ok (.aload_n 0, 1) := by decide +kernel
theorem dX7_layDivision_43 : decode cX7_layDivision 43 = .ok (.getfield 60, 3) := by decide +kernel
theorem dX7_layDivision_46 : decode cX7_layDivision 46 = .ok (.iastore, 1) := by decide +kernel
theorem dX7_layDivision_47 : decode cX7_layDivision 47 = .ok (.iload_n 1, 1) := by decide +kernel
theorem dX7_layDivision_48 : decode cX7_layDivision 48 = .ok (.iconst 1, 1) := by decide +kernel
theorem dX7_layDivision_49 : decode cX7_layDivision 49 = .ok (.iadd, 1) := by decide +kernel
theorem dX7_layDivision_50 : decode cX7_layDivision 50 = .ok (.istore_n 2, 1) := by decide +kernel
theorem dX7_layDivision_51 : decode cX7_layDivision 51 = .ok (.iload_n 2, 1) := by decide +kernel
theorem dX7_layDivision_52 : decode cX7_layDivision 52 = .ok (.aload_n 0, 1) := by decide +kernel
theorem dX7_layDivision_53 : decode cX7_layDivision 53 = .ok (.getfield 60, 3) := by decide +kernel
theorem dX7_layDivision_56 : decode cX7_layDivision 56 = .ok (.if_icmp .gt 148, 3) := by decide +kernel
theorem dX7_layDivision_59 : decode cX7_layDivision 59 = .ok (.iload_n 2, 1) := by decide +kernel
theorem dX7_layDivision_60 : decode cX7_layDivision 60 = .ok (.iload_n 1, 1) := by decide +kernel
theorem dX7_layDivision_61 : decode cX7_layDivision 61 = .ok (.isub, 1) := by decide +kernel
theorem dX7_layDivision_62 : decode cX7_layDivision 62 = .ok (.aload_n 0, 1) := by decide +kernel
theorem dX7_layDivision_63 : decode cX7_layDivision 63 = .ok (.getfield 21, 3) := by decide +kernel
theorem dX7_layDivision_66 : decode cX7_layDivision 66 = .ok (.if_icmp .ge 15, 3) := by decide +kernel
theorem dX7_layDivision_69 : decode cX7_layDivision 69 = .ok (.iload_n 1, 1) := by decide +kernel
theorem dX7_layDivision_70 : decode cX7_layDivision 70 = .ok (.ifCond .ne 15, 3) := by decide +kernel
theorem dX7_layDivision_73 : decode cX7_layDivision 73 = .ok (.iload_n 2, 1) := by decide +kernel
theorem dX7_layDivision_74 : decode cX7_layDivision 74 = .ok (.aload_n 0, 1) := by decide +kernel
theorem dX7_layDivision_75 : decode cX7_layDivision 75 = .ok (.getfield 60, 3) := by decide +kernel
theorem dX7_layDivision_78 : decode cX7_layDivision 78 = .ok (.if_icmp .ne 7, 3) := by decide +kernel
theorem dX7_layDivision_81 : decode cX7_layDivision 81 = .ok (.iconst 1, 1) := by decide +kernel
theorem dX7_layDivision_82 : decode cX7_layDivision 82 = .ok (.goto 4, 3) := by decide +kernel
theorem dX7_layDivision_85 : decode cX7_layDivision 85 = .ok (.iconst 0, 1) := by decide +kernel
theorem dX7_layDivision_86 : decode cX7_layDivision 86 = .ok (.istore_n 3, 1) := by decide +kernel
theorem dX7_layDivision_87 : decode cX7_layDivision 87 = .ok (.iload_n 3, 1) := by decide +kernel
theorem dX7_layDivision_88 : decode cX7_layDivision 88 = .ok (.ifCond .eq 26, 3) := by decide +kernel
theorem dX7_layDivision_91 : decode cX7_layDivision 91 = .ok (.iload_n 2, 1) := by decide +kernel
theorem dX7_layDivision_92 : decode cX7_layDivision 92 = .ok (.aload_n 0, 1) := by decide +kernel
theorem dX7_layDivision_93 : decode cX7_layDivision 93 = .ok (.getfield 60, 3) := by decide +kernel
theorem dX7_layDivision_96 : decode cX7_layDivision 96 = .ok (.if_icmp .eq 14, 3) := by decide +kernel
theorem dX7_layDivision_99 : decode cX7_layDivision 99 = .ok (.aload_n 0, 1) := by decide +kernel
theorem dX7_layDivision_100 : decode cX7_layDivision 100 = .ok (.getfield 48, 3) := by decide +kernel
theorem dX7_layDivision_103 : decode cX7_layDivision 103 = .ok (.iload_n 2, 1) := by decide +kernel
theorem dX7_layDivision_104 : decode cX7_layDivision 104 = .ok (.iaload, 1) := by decide +kernel
theorem dX7_layDivision_105 : decode cX7_layDivision 105 = .ok (.ldc 94, 2) := by decide +kernel
theorem dX7_layDivision_107 : decode cX7_layDivision 107 = .ok (.if_icmp .ge 7, 3) := by decide +kernel
theorem dX7_layDivision_110 : decode cX7_layDivision 110 = .ok (.iconst 1, 1) := by decide +kernel
theorem dX7_layDivision_111 : decode cX7_layDivision 111 = .ok (.goto 4, 3) := by decide +kernel
theorem dX7_layDivision_114 : decode cX7_layDivision 114 = .ok (.iconst 0, 1) := by decide +kernel
theorem dX7_layDivision_115 : decode cX7_layDivision 115 = .ok (.istore 4, 2) := by decide +kernel
theorem dX7_layDivision_117 : decode cX7_layDivision 117 = .ok (.iload 4, 2) := by decide +kernel
theorem dX7_layDivision_119 : decode cX7_layDivision 119 = .ok (.ifCond .eq 49, 3) := by decide +kernel
theorem dX7_layDivision_122 : decode cX7_layDivision 122 = .ok (.bipush 64, 2) := by decide +kernel
theorem dX7_layDivision_124 : decode cX7_layDivision 124 = .ok (.aload_n 0, 1) := by decide +kernel
theorem dX7_layDivision_125 : decode cX7_layDivision 125 = .ok (.getfield 42, 3) := by decide +kernel
theorem dX7_layDivision_128 : decode cX7_layDivision 128 = .ok (.bipush 61, 2) := by decide +kernel
theorem dX7_layDivision_130 : decode cX7_layDivision 130 = .ok (.iload_n 1, 1) := by decide +kernel
theorem dX7_layDivision_131 : decode cX7_layDivision 131 = .ok (.imul, 1) := by decide +kernel
theorem dX7_layDivision_132 : decode cX7_layDivision 132 = .ok (.iload_n 2, 1) := by decide +kernel
theorem dX7_layDivision_133 : decode cX7_layDivision 133 = .ok (.iadd, 1) := by decide +kernel
theorem dX7_layDivision_134 : decode cX7_layDivision 134 = .ok (.iaload, 1) := by decide +kernel
theorem dX7_layDivision_135 : decode cX7_layDivision 135 = .ok (.imul, 1) := by decide +kernel
theorem dX7_layDivision_136 : decode cX7_layDivision 136 = .ok (.iload_n 2, 1) := by decide +kernel
theorem dX7_layDivision_137 : decode cX7_layDivision 137 = .ok (.aload_n 0, 1) := by decide +kernel
theorem dX7_layDivision_138 : decode cX7_layDivision 138 = .ok (.getfield 60, 3) := by decide +kernel
theorem dX7_layDivision_141 : decode cX7_layDivision 141 = .ok (.if_icmp .ne 7, 3) := by decide +kernel
theorem dX7_layDivision_144 : decode cX7_layDivision 144 = .ok (.iconst 0, 1) := by decide +kernel
theorem dX7_layDivision_145 : decode cX7_layDivision 145 = .ok (.goto 19, 3) := by decide +kernel
theorem dX7_layDivision_148 : decode cX7_layDivision 148 = .ok (.aload_n 0, 1) := by decide +kernel
theorem dX7_layDivision_149 : decode cX7_layDivision 149 = .ok (.getfield 48, 3) := by decide +kernel
theorem dX7_layDivision_152 : decode cX7_layDivision 152 = .ok (.iload_n 2, 1) := by decide +kernel
theorem dX7_layDivision_153 : decode cX7_layDivision 153 = .ok (.iaload, 1) := by decide +kernel
theorem dX7_layDivision_154 : decode cX7_layDivision 154 = .ok (.bipush 64, 2) := by decide +kernel
theorem dX7_layDivision_156 : decode cX7_layDivision 156 = .ok (.aload_n 0, 1) := by decide +kernel
theorem dX7_layDivision_157 : decode cX7_layDivision 157 = .ok (.getfield 24, 3) := by decide +kernel
theorem dX7_layDivision_160 : decode cX7_layDivision 160 = .ok (.imul, 1) := by decide +kernel
theorem dX7_layDivision_161 : decode cX7_layDivision 161 = .ok (.iadd, 1) := by decide +kernel
theorem dX7_layDivision_162 : decode cX7_layDivision 162 = .ok (.iconst 1, 1) := by decide +kernel
theorem dX7_layDivision_163 : decode cX7_layDivision 163 = .ok (.iadd, 1) := by decide +kernel
theorem dX7_layDivision_164 : decode cX7_layDivision 164 = .ok (.iadd, 1) := by decide +kernel
theorem dX7_layDivision_165 : decode cX7_layDivision 165 = .ok (.goto 5, 3) := by decide +kernel
theorem dX7_layDivision_168 : decode cX7_layDivision 168 = .ok (.ldc 94, 2) := by decide +kernel
theorem dX7_layDivision_170 : decode cX7_layDivision 170 = .ok (.istore 5, 2) := by decide +kernel
theorem dX7_layDivision_172 : decode cX7_layDivision 172 = .ok (.iload 5, 2) := by decide +kernel
theorem dX7_layDivision_174 : decode cX7_layDivision 174 = .ok (.aload_n 0, 1) := by decide +kernel
theorem dX7_layDivision_175 : decode cX7_layDivision 175 = .ok (.getfield 48, 3) := by decide +kernel
theorem dX7_layDivision_178 : decode cX7_layDivision 178 = .ok (.iload_n 1, 1) := by decide +kernel
theorem dX7_layDivision_179 : decode cX7_layDivision 179 = .ok (.iaload, 1) := by decide +kernel
theorem dX7_layDivision_180 : decode cX7_layDivision 180 = .ok (.if_icmp .ge 18, 3) := by decide +kernel
theorem dX7_layDivision_183 : decode cX7_layDivision 183 = .ok (.aload_n 0, 1) := by decide +kernel
theorem dX7_layDivision_184 : decode cX7_layDivision 184 = .ok (.getfield 48, 3) := by decide +kernel
theorem dX7_layDivision_187 : decode cX7_layDivision 187 = .ok (.iload_n 1, 1) := by decide +kernel
theorem dX7_layDivision_188 : decode cX7_layDivision 188 = .ok (.iload 5, 2) := by decide +kernel
theorem dX7_layDivision_190 : decode cX7_layDivision 190 = .ok (.iastore, 1) := by decide +kernel
theorem dX7_layDivision_191 : decode cX7_layDivision 191 = .ok (.aload_n 0, 1) := by decide +kernel
theorem dX7_layDivision_192 : decode cX7_layDivision 192 = .ok (.getfield 51, 3) := by decide +kernel
theorem dX7_layDivision_195 : decode cX7_layDivision 195 = .ok (.iload_n 1, 1) := by decide +kernel
theorem dX7_layDivision_196 : decode cX7_layDivision 196 = .ok (.iload_n 2, 1) := by decide +kernel
theorem dX7_layDivision_197 : decode cX7_layDivision 197 = .ok (.iastore, 1) := by decide +kernel
theorem dX7_layDivision_198 : decode cX7_layDivision 198 = .ok (.iinc 2 1, 3) := by decide +kernel
theorem dX7_layDivision_201 : decode cX7_layDivision 201 = .ok (.goto (-150), 3) := by decide +kernel
theorem dX7_layDivision_204 : decode cX7_layDivision 204 = .ok (.iinc 1 (-1), 3) := by decide +kernel
theorem dX7_layDivision_207 : decode cX7_layDivision 207 = .ok (.goto (-182), 3) := by decide +kernel
theorem dX7_layDivision_210 : decode cX7_layDivision 210 = .ok (.return_, 1) := by decide +kernel
theorem dX7_startFor_0 : decode cX7_startFor 0 = .ok (.iconst 0, 1) := by decide +kernel
theorem dX7_startFor_1 : decode cX7_startFor 1 = .ok (.istore_n 2, 1) := by decide +kernel
theorem dX7_startFor_2 : decode cX7_startFor 2 = .ok (.aload_n 0, 1) := by decide +kernel
theorem dX7_startFor_3 : decode cX7_startFor 3 = .ok (.getfield 51, 3) := by decide +kernel
theorem dX7_startFor_6 : decode cX7_startFor 6 = .ok (.iload_n 2, 1) := by decide +kernel
theorem dX7_startFor_7 : decode cX7_startFor 7 = .ok (.iaload, 1) := by decide +kernel
theorem dX7_startFor_8 : decode cX7_startFor 8 = .ok (.iload_n 1, 1) := by decide +kernel
theorem dX7_startFor_9 : decode cX7_startFor 9 = .ok (.if_icmp .gt 13, 3) := by decide +kernel
theorem dX7_startFor_12 : decode cX7_startFor 12 = .ok (.aload_n 0, 1) := by decide +kernel
theorem dX7_startFor_13 : decode cX7_startFor 13 = .ok (.getfield 51, 3) := by decide +kernel
theorem dX7_startFor_16 : decode cX7_startFor 16 = .ok (.iload_n 2, 1) := by decide +kernel
theorem dX7_startFor_17 : decode cX7_startFor 17 = .ok (.iaload, 1) := by decide +kernel
theorem dX7_startFor_18 : decode cX7_startFor 18 = .ok (.istore_n 2, 1) := by decide +kernel
theorem dX7_startFor_19 : decode cX7_startFor 19 = .ok (.goto (-17), 3) := by decide +kernel
theorem dX7_startFor_22 : decode cX7_startFor 22 = .ok (.iload_n 2, 1) := by decide +kernel
theorem dX7_startFor_23 : decode cX7_startFor 23 = .ok (.ireturn, 1) := by decide +kernel
set_option maxRecDepth 20000 in
theorem ggX7_layAll_X7_layDivision : GoodIn wsX7_layAll wsX7_layDivision := goodIn_r _ [13, 14, 1, 15, 5, 16, 17, 18, 19, 20, 21, 12, 22, 6, 7, 23, 24, 25, 26, 3, 27, 28, 29, 30, 31, 32, 33, 34, 35, 36, 37, 38, 39, 4, 40, 41, 42, 43, 44, 45, 46, 51, 52, 53, 54, 55, 56, 57, 58, 59, 60, 61, 62, 63, 64, 65, 66, 67, 68, 69, 70] (by decide +kernel) (by decide +kernel)
set_option maxRecDepth 20000 in
theorem gX7_layAll_X7_layDivision : GoodIn wsX7_layAll (wsV RX7 95 RX7 yX7_layDivision wsX7_layDivision) := goodIn_app (goodIn_of _ (by decide +kernel)) ggX7_layAll_X7_layDivision
set_option maxRecDepth 20000 in
theorem ggX7_layAll_X7_startFor : GoodIn wsX7_layAll wsX7_startFor := goodIn_r _ [50, 5, 51, 52, 53, 54, 55, 56, 57, 58, 59, 60, 61, 62, 63, 64, 65, 66, 67, 68, 69, 70] (by decide +kernel) (by decide +kernel)
set_option maxRecDepth 20000 in
theorem gX7_layAll_X7_startFor : GoodIn wsX7_layAll (wsV RX7 98 RX7 yX7_startFor wsX7_startFor) := goodIn_app (goodIn_of _ (by decide +kernel)) ggX7_layAll_X7_startFor
set_option maxRecDepth 20000 in
theorem ggX7_layAll_X7_sizeOf : GoodIn wsX7_layAll wsX7_sizeOf := goodIn_r _ [46] (by decide +kernel) (by decide +kernel)
set_option maxRecDepth 20000 in
theorem gX7_layAll_X7_sizeOf : GoodIn wsX7_layAll (va_wsS RX7 81 yX7_sizeOf wsX7_sizeOf) := goodIn_app (goodIn_of _ (by decide +kernel)) ggX7_layAll_X7_sizeOf
set_option maxRecDepth 20000 in
theorem ggX7_layAll_X7_count : GoodIn wsX7_layAll wsX7_count := goodIn_r _ [30, 6, 31, 51, 52, 53, 54, 55, 56, 57, 58, 59, 60, 61, 62, 63, 64, 65, 66, 67, 68, 69, 70] (by decide +kernel) (by decide +kernel)
set_option maxRecDepth 20000 in
theorem gX7_layAll_X7_count : GoodIn wsX7_layAll (wsV RX7 70 RX7 yX7_count wsX7_count) := goodIn_app (goodIn_of _ (by decide +kernel)) ggX7_layAll_X7_count
set_option maxRecDepth 20000 in
theorem ggX7_layAll_X7_median : GoodIn wsX7_layAll wsX7_median := goodIn_r _ [35, 6, 31, 51, 52, 53, 54, 55, 56, 57, 58, 59, 60, 61, 62, 63, 64, 65, 66, 67, 68, 69, 70] (by decide +kernel) (by decide +kernel)
set_option maxRecDepth 20000 in
theorem gX7_layAll_X7_median : GoodIn wsX7_layAll (wsV RX7 74 RX7 yX7_median wsX7_median) := goodIn_app (goodIn_of _ (by decide +kernel)) ggX7_layAll_X7_median
theorem dX7_layAll_0 : decode cX7_layAll 0 = .ok (.aload_n 0, 1) := by decide +kernel
theorem dX7_layAll_1 : decode cX7_layAll 1 = .ok (.invokevirtual 95, 3) := by decide +kernel
theorem dX7_layAll_4 : decode cX7_layAll 4 = .ok (.iconst 0, 1) := by decide +kernel
theorem dX7_layAll_5 : decode cX7_layAll 5 = .ok (.istore_n 1, 1) := by decide +kernel
theorem dX7_layAll_6 : decode cX7_layAll 6 = .ok (.iload_n 1, 1) := by decide +kernel
theorem dX7_layAll_7 : decode cX7_layAll 7 = .ok (.aload_n 0, 1) := by decide +kernel
theorem dX7_layAll_8 : decode cX7_layAll 8 = .ok (.getfield 60, 3) := by decide +kernel
theorem dX7_layAll_11 : decode cX7_layAll 11 = .ok (.if_icmp .ge 44, 3) := by decide +kernel
theorem dX7_layAll_14 : decode cX7_layAll 14 = .ok (.aload_n 0, 1) := by decide +kernel
theorem dX7_layAll_15 : decode cX7_layAll 15 = .ok (.iload_n 1, 1) := by decide +kernel
theorem dX7_layAll_16 : decode cX7_layAll 16 = .ok (.invokevirtual 98, 3) := by decide +kernel
theorem dX7_layAll_19 : decode cX7_layAll 19 = .ok (.istore_n 2, 1) := by decide +kernel
theorem dX7_layAll_20 : decode cX7_layAll 20 = .ok (.aload_n 0, 1) := by decide +kernel
theorem dX7_layAll_21 : decode cX7_layAll 21 = .ok (.getfield 54, 3) := by decide +kernel
theorem dX7_layAll_24 : decode cX7_layAll 24 = .ok (.iload_n 1, 1) := by decide +kernel
theorem dX7_layAll_25 : decode cX7_layAll 25 = .ok (.aload_n 0, 1) := by decide +kernel
theorem dX7_layAll_26 : decode cX7_layAll 26 = .ok (.getfield 39, 3) := by decide +kernel
theorem dX7_layAll_29 : decode cX7_layAll 29 = .ok (.iload_n 1, 1) := by decide +kernel
theorem dX7_layAll_30 : decode cX7_layAll 30 = .ok (.iaload, 1) := by decide +kernel
theorem dX7_layAll_31 : decode cX7_layAll 31 = .ok (.aload_n 0, 1) := by decide +kernel
theorem dX7_layAll_32 : decode cX7_layAll 32 = .ok (.getfield 45, 3) := by decide +kernel
theorem dX7_layAll_35 : decode cX7_layAll 35 = .ok (.bipush 61, 2) := by decide +kernel
theorem dX7_layAll_37 : decode cX7_layAll 37 = .ok (.iload_n 2, 1) := by decide +kernel
theorem dX7_layAll_38 : decode cX7_layAll 38 = .ok (.imul, 1) := by decide +kernel
theorem dX7_layAll_39 : decode cX7_layAll 39 = .ok (.aload_n 0, 1) := by decide +kernel
theorem dX7_layAll_40 : decode cX7_layAll 40 = .ok (.getfield 51, 3) := by decide +kernel
theorem dX7_layAll_43 : decode cX7_layAll 43 = .ok (.iload_n 2, 1) := by decide +kernel
theorem dX7_layAll_44 : decode cX7_layAll 44 = .ok (.iaload, 1) := by decide +kernel
theorem dX7_layAll_45 : decode cX7_layAll 45 = .ok (.iadd, 1) := by decide +kernel
theorem dX7_layAll_46 : decode cX7_layAll 46 = .ok (.iaload, 1) := by decide +kernel
theorem dX7_layAll_47 : decode cX7_layAll 47 = .ok (.isub, 1) := by decide +kernel
theorem dX7_layAll_48 : decode cX7_layAll 48 = .ok (.iastore, 1) := by decide +kernel
theorem dX7_layAll_49 : decode cX7_layAll 49 = .ok (.iinc 1 1, 3) := by decide +kernel
theorem dX7_layAll_52 : decode cX7_layAll 52 = .ok (.goto (-46), 3) := by decide +kernel
theorem dX7_layAll_55 : decode cX7_layAll 55 = .ok (.aload_n 0, 1) := by decide +kernel
theorem dX7_layAll_56 : decode cX7_layAll 56 = .ok (.iconst 0, 1) := by decide +kernel
theorem dX7_layAll_57 : decode cX7_layAll 57 = .ok (.putfield 67, 3) := by decide +kernel
theorem dX7_layAll_60 : decode cX7_layAll 60 = .ok (.iconst 0, 1) := by decide +kernel
theorem dX7_layAll_61 : decode cX7_layAll 61 = .ok (.istore_n 1, 1) := by decide +kernel
theorem dX7_layAll_62 : decode cX7_layAll 62 = .ok (.iload_n 1, 1) := by decide +kernel
theorem dX7_layAll_63 : decode cX7_layAll 63 = .ok (.aload_n 0, 1) := by decide +kernel
theorem dX7_layAll_64 : decode cX7_layAll 64 = .ok (.getfield 60, 3) := by decide +kernel
theorem dX7_layAll_67 : decode cX7_layAll 67 = .ok (.if_icmp .ge 31, 3) := by decide +kernel
theorem dX7_layAll_70 : decode cX7_layAll 70 = .ok (.aload_n 0, 1) := by decide +kernel
theorem dX7_layAll_71 : decode cX7_layAll 71 = .ok (.getfield 13, 3) := by decide +kernel
theorem dX7_layAll_74 : decode cX7_layAll 74 = .ok (.iload_n 1, 1) := by decide +kernel
theorem dX7_layAll_75 : decode cX7_layAll 75 = .ok (.baload, 1) := by decide +kernel
theorem dX7_layAll_76 : decode cX7_layAll 76 = .ok (.ifCond .ne 16, 3) := by decide +kernel
theorem dX7_layAll_79 : decode cX7_layAll 79 = .ok (.aload_n 0, 1) := by decide +kernel
theorem dX7_layAll_80 : decode cX7_layAll 80 = .ok (.aload_n 0, 1) := by decide +kernel
theorem dX7_layAll_81 : decode cX7_layAll 81 = .ok (.getfield 54, 3) := by decide +kernel
theorem dX7_layAll_84 : decode cX7_layAll 84 = .ok (.iload_n 1, 1) := by decide +kernel
theorem dX7_layAll_85 : decode cX7_layAll 85 = .ok (.iaload, 1) := by decide +kernel
theorem dX7_layAll_86 : decode cX7_layAll 86 = .ok (.invokestatic 81, 3) := by decide +kernel
theorem dX7_layAll_89 : decode cX7_layAll 89 = .ok (.invokevirtual 70, 3) := by decide +kernel
theorem dX7_layAll_92 : decode cX7_layAll 92 = .ok (.iinc 1 1, 3) := by decide +kernel
theorem dX7_layAll_95 : decode cX7_layAll 95 = .ok (.goto (-33), 3) := by decide +kernel
theorem dX7_layAll_98 : decode cX7_layAll 98 = .ok (.aload_n 0, 1) := by decide +kernel
theorem dX7_layAll_99 : decode cX7_layAll 99 = .ok (.aload_n 0, 1) := by decide +kernel
theorem dX7_layAll_100 : decode cX7_layAll 100 = .ok (.invokevirtual 74, 3) := by decide +kernel
theorem dX7_layAll_103 : decode cX7_layAll 103 = .ok (.putfield 101, 3) := by decide +kernel
theorem dX7_layAll_106 : decode cX7_layAll 106 = .ok (.return_, 1) := by decide +kernel
theorem dX7_boundNow_0 : decode cX7_boundNow 0 = .ok (.aload_n 0, 1) := by decide +kernel
theorem dX7_boundNow_1 : decode cX7_boundNow 1 = .ok (.getfield 27, 3) := by decide +kernel
theorem dX7_boundNow_4 : decode cX7_boundNow 4 = .ok (.aload_n 0, 1) := by decide +kernel
theorem dX7_boundNow_5 : decode cX7_boundNow 5 = .ok (.getfield 101, 3) := by decide +kernel
theorem dX7_boundNow_8 : decode cX7_boundNow 8 = .ok (.imul, 1) := by decide +kernel
theorem dX7_boundNow_9 : decode cX7_boundNow 9 = .ok (.bipush 100, 2) := by decide +kernel
theorem dX7_boundNow_11 : decode cX7_boundNow 11 = .ok (.idiv, 1) := by decide +kernel
theorem dX7_boundNow_12 : decode cX7_boundNow 12 = .ok (.istore_n 1, 1) := by decide +kernel
theorem dX7_boundNow_13 : decode cX7_boundNow 13 = .ok (.iload_n 1, 1) := by decide +kernel
theorem dX7_boundNow_14 : decode cX7_boundNow 14 = .ok (.aload_n 0, 1) := by decide +kernel
theorem dX7_boundNow_15 : decode cX7_boundNow 15 = .ok (.getfield 30, 3) := by decide +kernel
theorem dX7_boundNow_18 : decode cX7_boundNow 18 = .ok (.if_icmp .ge 10, 3) := by decide +kernel
theorem dX7_boundNow_21 : decode cX7_boundNow 21 = .ok (.aload_n 0, 1) := by decide +kernel
theorem dX7_boundNow_22 : decode cX7_boundNow 22 = .ok (.getfield 30, 3) := by decide +kernel
theorem dX7_boundNow_25 : decode cX7_boundNow 25 = .ok (.goto 4, 3) := by decide +kernel
theorem dX7_boundNow_28 : decode cX7_boundNow 28 = .ok (.iload_n 1, 1) := by decide +kernel
theorem dX7_boundNow_29 : decode cX7_boundNow 29 = .ok (.ireturn, 1) := by decide +kernel
set_option maxRecDepth 20000 in
theorem ggX7_add_X7_isGiven : GoodIn wsX7_add wsX7_isGiven := goodIn_r _ [8, 9, 10, 7, 11] (by decide +kernel) (by decide +kernel)
set_option maxRecDepth 20000 in
theorem gX7_add_X7_isGiven : GoodIn wsX7_add (va_wsS RX7 104 yX7_isGiven wsX7_isGiven) := goodIn_app (goodIn_of _ (by decide +kernel)) ggX7_add_X7_isGiven
set_option maxRecDepth 20000 in
theorem ggX7_add_X7_fails : GoodIn wsX7_add wsX7_fails := goodIn_r _ [15, 1, 16, 17, 18, 19, 20, 21, 22, 23, 24, 25, 26, 27, 28, 29, 30, 31, 32, 33, 34, 35] (by decide +kernel) (by decide +kernel)
set_option maxRecDepth 20000 in
theorem gX7_add_X7_fails : GoodIn wsX7_add (wsV RX7 108 RX7 yX7_fails wsX7_fails) := goodIn_app (goodIn_of _ (by decide +kernel)) ggX7_add_X7_fails
theorem dX7_add_0 : decode cX7_add 0 = .ok (.aload_n 0, 1) := by decide +kernel
theorem dX7_add_1 : decode cX7_add 1 = .ok (.iconst 0, 1) := by decide +kernel
theorem dX7_add_2 : decode cX7_add 2 = .ok (.putfield 57, 3) := by decide +kernel
theorem dX7_add_5 : decode cX7_add 5 = .ok (.iload_n 1, 1) := by decide +kernel
theorem dX7_add_6 : decode cX7_add 6 = .ok (.invokestatic 104, 3) := by decide +kernel
theorem dX7_add_9 : decode cX7_add 9 = .ok (.ifCond .ne 9, 3) := by decide +kernel
theorem dX7_add_12 : decode cX7_add 12 = .ok (.aload_n 0, 1) := by decide +kernel
theorem dX7_add_13 : decode cX7_add 13 = .ok (.iconst 1, 1) := by decide +kernel
theorem dX7_add_14 : decode cX7_add 14 = .ok (.invokevirtual 108, 3) := by decide +kernel
theorem dX7_add_17 : decode cX7_add 17 = .ok (.ireturn, 1) := by decide +kernel
theorem dX7_add_18 : decode cX7_add 18 = .ok (.aload_n 0, 1) := by decide +kernel
theorem dX7_add_19 : decode cX7_add 19 = .ok (.getfield 60, 3) := by decide +kernel
theorem dX7_add_22 : decode cX7_add 22 = .ok (.bipush 60, 2) := by decide +kernel
theorem dX7_add_24 : decode cX7_add 24 = .ok (.if_icmp .ne 9, 3) := by decide +kernel
theorem dX7_add_27 : decode cX7_add 27 = .ok (.aload_n 0, 1) := by decide +kernel
theorem dX7_add_28 : decode cX7_add 28 = .ok (.iconst 2, 1) := by decide +kernel
theorem dX7_add_29 : decode cX7_add 29 = .ok (.invokevirtual 108, 3) := by decide +kernel
theorem dX7_add_32 : decode cX7_add 32 = .ok (.ireturn, 1) := by decide +kernel
theorem dX7_add_33 : decode cX7_add 33 = .ok (.aload_n 0, 1) := by decide +kernel
theorem dX7_add_34 : decode cX7_add 34 = .ok (.getfield 7, 3) := by decide +kernel
theorem dX7_add_37 : decode cX7_add 37 = .ok (.aload_n 0, 1) := by decide +kernel
theorem dX7_add_38 : decode cX7_add 38 = .ok (.getfield 60, 3) := by decide +kernel
theorem dX7_add_41 : decode cX7_add 41 = .ok (.iload_n 1, 1) := by decide +kernel
theorem dX7_add_42 : decode cX7_add 42 = .ok (.iastore, 1) := by decide +kernel
theorem dX7_add_43 : decode cX7_add 43 = .ok (.aload_n 0, 1) := by decide +kernel
theorem dX7_add_44 : decode cX7_add 44 = .ok (.getfield 13, 3) := by decide +kernel
theorem dX7_add_47 : decode cX7_add 47 = .ok (.aload_n 0, 1) := by decide +kernel
theorem dX7_add_48 : decode cX7_add 48 = .ok (.getfield 60, 3) := by decide +kernel
theorem dX7_add_51 : decode cX7_add 51 = .ok (.iconst 0, 1) := by decide +kernel
theorem dX7_add_52 : decode cX7_add 52 = .ok (.bastore, 1) := by decide +kernel
theorem dX7_add_53 : decode cX7_add 53 = .ok (.aload_n 0, 1) := by decide +kernel
theorem dX7_add_54 : decode cX7_add 54 = .ok (.dup, 1) := by decide +kernel
theorem dX7_add_55 : decode cX7_add 55 = .ok (.getfield 60, 3) := by decide +kernel
theorem dX7_add_58 : decode cX7_add 58 = .ok (.iconst 1, 1) := by decide +kernel
theorem dX7_add_59 : decode cX7_add 59 = .ok (.iadd, 1) := by decide +kernel
theorem dX7_add_60 : decode cX7_add 60 = .ok (.putfield 60, 3) := by decide +kernel
theorem dX7_add_63 : decode cX7_add 63 = .ok (.aload_n 0, 1) := by decide +kernel
theorem dX7_add_64 : decode cX7_add 64 = .ok (.getfield 60, 3) := by decide +kernel
theorem dX7_add_67 : decode cX7_add 67 = .ok (.iconst 1, 1) := by decide +kernel
theorem dX7_add_68 : decode cX7_add 68 = .ok (.isub, 1) := by decide +kernel
theorem dX7_add_69 : decode cX7_add 69 = .ok (.ireturn, 1) := by decide +kernel
set_option maxRecDepth 20000 in
theorem ggX7_addMany_X7_isGiven : GoodIn wsX7_addMany wsX7_isGiven := goodIn_r _ [8, 9, 10, 7, 11] (by decide +kernel) (by decide +kernel)
set_option maxRecDepth 20000 in
theorem gX7_addMany_X7_isGiven : GoodIn wsX7_addMany (va_wsS RX7 104 yX7_isGiven wsX7_isGiven) := goodIn_app (goodIn_of _ (by decide +kernel)) ggX7_addMany_X7_isGiven
set_option maxRecDepth 20000 in
theorem ggX7_addMany_X7_in : GoodIn wsX7_addMany wsX7_in := goodIn_r _ [11] (by decide +kernel) (by decide +kernel)
set_option maxRecDepth 20000 in
theorem gX7_addMany_X7_in : GoodIn wsX7_addMany (va_wsS RX7 63 yX7_in wsX7_in) := goodIn_app (goodIn_of _ (by decide +kernel)) ggX7_addMany_X7_in
set_option maxRecDepth 20000 in
theorem ggX7_addMany_X7_fails : GoodIn wsX7_addMany wsX7_fails := goodIn_r _ [15, 1, 16, 17, 18, 19, 20, 21, 22, 23, 24, 25, 26, 27, 28, 29, 30, 31, 32, 33, 34, 35] (by decide +kernel) (by decide +kernel)
set_option maxRecDepth 20000 in
theorem gX7_addMany_X7_fails : GoodIn wsX7_addMany (wsV RX7 108 RX7 yX7_fails wsX7_fails) := goodIn_app (goodIn_of _ (by decide +kernel)) ggX7_addMany_X7_fails
theorem dX7_addMany_0 : decode cX7_addMany 0 = .ok (.aload_n 0, 1) := by decide +kernel
theorem dX7_addMany_1 : decode cX7_addMany 1 = .ok (.iconst 0, 1) := by decide +kernel
theorem dX7_addMany_2 : decode cX7_addMany 2 = .ok (.putfield 57, 3) := by decide +kernel
theorem dX7_addMany_5 : decode cX7_addMany 5 = .ok (.iload_n 1, 1) := by decide +kernel
theorem dX7_addMany_6 : decode cX7_addMany 6 = .ok (.invokestatic 104, 3) := by decide +kernel
theorem dX7_addMany_9 : decode cX7_addMany 9 = .ok (.ifCond .eq 13, 3) := by decide +kernel
theorem dX7_addMany_12 : decode cX7_addMany 12 = .ok (.iload_n 2, 1) := by decide +kernel
theorem dX7_addMany_13 : decode cX7_addMany 13 = .ok (.iconst 1, 1) := by decide +kernel
theorem dX7_addMany_14 : decode cX7_addMany 14 = .ok (.bipush 60, 2) := by decide +kernel
theorem dX7_addMany_16 : decode cX7_addMany 16 = .ok (.invokestatic 63, 3) := by decide +kernel
theorem dX7_addMany_19 : decode cX7_addMany 19 = .ok (.ifCond .ne 9, 3) := by decide +kernel
theorem dX7_addMany_22 : decode cX7_addMany 22 = .ok (.aload_n 0, 1) := by decide +kernel
theorem dX7_addMany_23 : decode cX7_addMany 23 = .ok (.iconst 1, 1) := by decide +kernel
theorem dX7_addMany_24 : decode cX7_addMany 24 = .ok (.invokevirtual 108, 3) := by decide +kernel
theorem dX7_addMany_27 : decode cX7_addMany 27 = .ok (.ireturn, 1) := by decide +kernel
theorem dX7_addMany_28 : decode cX7_addMany 28 = .ok (.aload_n 0, 1) := by decide +kernel
theorem dX7_addMany_29 : decode cX7_addMany 29 = .ok (.getfield 60, 3) := by decide +kernel
theorem dX7_addMany_32 : decode cX7_addMany 32 = .ok (.iload_n 2, 1) := by decide +kernel
theorem dX7_addMany_33 : decode cX7_addMany 33 = .ok (.iadd, 1) := by decide +kernel
theorem dX7_addMany_34 : decode cX7_addMany 34 = .ok (.bipush 60, 2) := by decide +kernel
theorem dX7_addMany_36 : decode cX7_addMany 36 = .ok (.if_icmp .le 9, 3) := by decide +kernel
theorem dX7_addMany_39 : decode cX7_addMany 39 = .ok (.aload_n 0, 1) := by decide +kernel
theorem dX7_addMany_40 : decode cX7_addMany 40 = .ok (.iconst 2, 1) := by decide +kernel
theorem dX7_addMany_41 : decode cX7_addMany 41 = .ok (.invokevirtual 108, 3) := by decide +kernel
theorem dX7_addMany_44 : decode cX7_addMany 44 = .ok (.ireturn, 1) := by decide +kernel
theorem dX7_addMany_45 : decode cX7_addMany 45 = .ok (.iconst 0, 1) := by decide +kernel
theorem dX7_addMany_46 : decode cX7_addMany 46 = .ok (.istore_n 3, 1) := by decide +kernel
theorem dX7_addMany_47 : decode cX7_addMany 47 = .ok (.iload_n 3, 1) := by decide +kernel
theorem dX7_addMany_48 : decode cX7_addMany 48 = .ok (.iload_n 2, 1) := by decide +kernel
theorem dX7_addMany_49 : decode cX7_addMany 49 = .ok (.if_icmp .ge 39, 3) := by decide +kernel
theorem dX7_addMany_52 : decode cX7_addMany 52 = .ok (.aload_n 0, 1) := by decide +kernel
theorem dX7_addMany_53 : decode cX7_addMany 53 = .ok (.getfield 7, 3) := by decide +kernel
theorem dX7_addMany_56 : decode cX7_addMany 56 = .ok (.aload_n 0, 1) := by decide +kernel
theorem dX7_addMany_57 : decode cX7_addMany 57 = .ok (.getfield 60, 3) := by decide +kernel
theorem dX7_addMany_60 : decode cX7_addMany 60 = .ok (.iload_n 1, 1) := by decide +kernel
theorem dX7_addMany_61 : decode cX7_addMany 61 = .ok (.iastore, 1) := by decide +kernel
theorem dX7_addMany_62 : decode cX7_addMany 62 = .ok (.aload_n 0, 1) := by decide +kernel
theorem dX7_addMany_63 : decode cX7_addMany 63 = .ok (.getfield 13, 3) := by decide +kernel
theorem dX7_addMany_66 : decode cX7_addMany 66 = .ok (.aload_n 0, 1) := by decide +kernel
theorem dX7_addMany_67 : decode cX7_addMany 67 = .ok (.getfield 60, 3) := by decide +kernel
theorem dX7_addMany_70 : decode cX7_addMany 70 = .ok (.iconst 0, 1) := by decide +kernel
theorem dX7_addMany_71 : decode cX7_addMany 71 = .ok (.bastore, 1) := by decide +kernel
theorem dX7_addMany_72 : decode cX7_addMany 72 = .ok (.aload_n 0, 1) := by decide +kernel
theorem dX7_addMany_73 : decode cX7_addMany 73 = .ok (.dup, 1) := by decide +kernel
theorem dX7_addMany_74 : decode cX7_addMany 74 = .ok (.getfield 60, 3) := by decide +kernel
theorem dX7_addMany_77 : decode cX7_addMany 77 = .ok (.iconst 1, 1) := by decide +kernel
theorem dX7_addMany_78 : decode cX7_addMany 78 = .ok (.iadd, 1) := by decide +kernel
theorem dX7_addMany_79 : decode cX7_addMany 79 = .ok (.putfield 60, 3) := by decide +kernel
theorem dX7_addMany_82 : decode cX7_addMany 82 = .ok (.iinc 3 1, 3) := by decide +kernel
theorem dX7_addMany_85 : decode cX7_addMany 85 = .ok (.goto (-38), 3) := by decide +kernel
theorem dX7_addMany_88 : decode cX7_addMany 88 = .ok (.aload_n 0, 1) := by decide +kernel
theorem dX7_addMany_89 : decode cX7_addMany 89 = .ok (.getfield 60, 3) := by decide +kernel
theorem dX7_addMany_92 : decode cX7_addMany 92 = .ok (.ireturn, 1) := by decide +kernel
set_option maxRecDepth 20000 in
theorem ggX7_correct_X7_isValue : GoodIn wsX7_correct wsX7_isValue := goodIn_r _ [7, 8, 9, 10, 6, 11, 19, 20, 21, 22, 23, 24, 25, 26, 27, 28, 29, 30, 31, 32, 33, 34, 35, 36, 37, 38] (by decide +kernel) (by decide +kernel)
set_option maxRecDepth 20000 in
theorem gX7_correct_X7_isValue : GoodIn wsX7_correct (wsV RX7 111 RX7 yX7_isValue wsX7_isValue) := goodIn_app (goodIn_of _ (by decide +kernel)) ggX7_correct_X7_isValue
set_option maxRecDepth 20000 in
theorem ggX7_correct_X7_fails : GoodIn wsX7_correct wsX7_fails := goodIn_r _ [15, 1, 19, 20, 21, 22, 23, 24, 25, 26, 27, 28, 29, 30, 31, 32, 33, 34, 35, 36, 37, 38] (by decide +kernel) (by decide +kernel)
set_option maxRecDepth 20000 in
theorem gX7_correct_X7_fails : GoodIn wsX7_correct (wsV RX7 108 RX7 yX7_fails wsX7_fails) := goodIn_app (goodIn_of _ (by decide +kernel)) ggX7_correct_X7_fails
set_option maxRecDepth 20000 in
theorem ggX7_correct_X7_isGiven : GoodIn wsX7_correct wsX7_isGiven := goodIn_r _ [18, 9, 10, 6, 11] (by decide +kernel) (by decide +kernel)
set_option maxRecDepth 20000 in
theorem gX7_correct_X7_isGiven : GoodIn wsX7_correct (va_wsS RX7 104 yX7_isGiven wsX7_isGiven) := goodIn_app (goodIn_of _ (by decide +kernel)) ggX7_correct_X7_isGiven
theorem dX7_correct_0 : decode cX7_correct 0 = .ok (.aload_n 0, 1) := by decide +kernel
theorem dX7_correct_1 : decode cX7_correct 1 = .ok (.iconst 0, 1) := by decide +kernel
theorem dX7_correct_2 : decode cX7_correct 2 = .ok (.putfield 57, 3) := by decide +kernel
theorem dX7_correct_5 : decode cX7_correct 5 = .ok (.aload_n 0, 1) := by decide +kernel
theorem dX7_correct_6 : decode cX7_correct 6 = .ok (.iload_n 1, 1) := by decide +kernel
theorem dX7_correct_7 : decode cX7_correct 7 = .ok (.invokevirtual 111, 3) := by decide +kernel
theorem dX7_correct_10 : decode cX7_correct 10 = .ok (.ifCond .ne 9, 3) := by decide +kernel
theorem dX7_correct_13 : decode cX7_correct 13 = .ok (.aload_n 0, 1) := by decide +kernel
theorem dX7_correct_14 : decode cX7_correct 14 = .ok (.iconst 1, 1) := by decide +kernel
theorem dX7_correct_15 : decode cX7_correct 15 = .ok (.invokevirtual 108, 3) := by decide +kernel
theorem dX7_correct_18 : decode cX7_correct 18 = .ok (.ireturn, 1) := by decide +kernel
theorem dX7_correct_19 : decode cX7_correct 19 = .ok (.iload_n 2, 1) := by decide +kernel
theorem dX7_correct_20 : decode cX7_correct 20 = .ok (.invokestatic 104, 3) := by decide +kernel
theorem dX7_correct_23 : decode cX7_correct 23 = .ok (.ifCond .ne 9, 3) := by decide +kernel
theorem dX7_correct_26 : decode cX7_correct 26 = .ok (.aload_n 0, 1) := by decide +kernel
theorem dX7_correct_27 : decode cX7_correct 27 = .ok (.iconst 2, 1) := by decide +kernel
theorem dX7_correct_28 : decode cX7_correct 28 = .ok (.invokevirtual 108, 3) := by decide +kernel
theorem dX7_correct_31 : decode cX7_correct 31 = .ok (.ireturn, 1) := by decide +kernel
theorem dX7_correct_32 : decode cX7_correct 32 = .ok (.aload_n 0, 1) := by decide +kernel
theorem dX7_correct_33 : decode cX7_correct 33 = .ok (.getfield 7, 3) := by decide +kernel
theorem dX7_correct_36 : decode cX7_correct 36 = .ok (.iload_n 1, 1) := by decide +kernel
theorem dX7_correct_37 : decode cX7_correct 37 = .ok (.iaload, 1) := by decide +kernel
theorem dX7_correct_38 : decode cX7_correct 38 = .ok (.istore_n 3, 1) := by decide +kernel
theorem dX7_correct_39 : decode cX7_correct 39 = .ok (.aload_n 0, 1) := by decide +kernel
theorem dX7_correct_40 : decode cX7_correct 40 = .ok (.getfield 7, 3) := by decide +kernel
theorem dX7_correct_43 : decode cX7_correct 43 = .ok (.iload_n 1, 1) := by decide +kernel
theorem dX7_correct_44 : decode cX7_correct 44 = .ok (.iload_n 2, 1) := by decide +kernel
theorem dX7_correct_45 : decode cX7_correct 45 = .ok (.iastore, 1) := by decide +kernel
theorem dX7_correct_46 : decode cX7_correct 46 = .ok (.iload_n 3, 1) := by decide +kernel
theorem dX7_correct_47 : decode cX7_correct 47 = .ok (.ireturn, 1) := by decide +kernel
set_option maxRecDepth 20000 in
theorem ggX7_setHoliday_X7_isValue : GoodIn wsX7_setHoliday wsX7_isValue := goodIn_r _ [7, 8, 9, 10, 6, 11, 12, 13, 14, 15, 16, 17, 18, 19, 20, 21, 22, 23, 24, 25, 26, 27, 28, 29, 30, 31] (by decide +kernel) (by decide +kernel)
set_option maxRecDepth 20000 in
theorem gX7_setHoliday_X7_isValue : GoodIn wsX7_setHoliday (wsV RX7 111 RX7 yX7_isValue wsX7_isValue) := goodIn_app (goodIn_of _ (by decide +kernel)) ggX7_setHoliday_X7_isValue
theorem dX7_setHoliday_0 : decode cX7_setHoliday 0 = .ok (.aload_n 0, 1) := by decide +kernel
theorem dX7_setHoliday_1 : decode cX7_setHoliday 1 = .ok (.aload_n 0, 1) := by decide +kernel
theorem dX7_setHoliday_2 : decode cX7_setHoliday 2 = .ok (.iload_n 1, 1) := by decide +kernel
theorem dX7_setHoliday_3 : decode cX7_setHoliday 3 = .ok (.invokevirtual 111, 3) := by decide +kernel
theorem dX7_setHoliday_6 : decode cX7_setHoliday 6 = .ok (.ifCond .eq 7, 3) := by decide +kernel
theorem dX7_setHoliday_9 : decode cX7_setHoliday 9 = .ok (.iconst 0, 1) := by decide +kernel
theorem dX7_setHoliday_10 : decode cX7_setHoliday 10 = .ok (.goto 4, 3) := by decide +kernel
theorem dX7_setHoliday_13 : decode cX7_setHoliday 13 = .ok (.iconst 1, 1) := by decide +kernel
theorem dX7_setHoliday_14 : decode cX7_setHoliday 14 = .ok (.putfield 57, 3) := by decide +kernel
theorem dX7_setHoliday_17 : decode cX7_setHoliday 17 = .ok (.aload_n 0, 1) := by decide +kernel
theorem dX7_setHoliday_18 : decode cX7_setHoliday 18 = .ok (.getfield 57, 3) := by decide +kernel
theorem dX7_setHoliday_21 : decode cX7_setHoliday 21 = .ok (.ifCond .ne 16, 3) := by decide +kernel
theorem dX7_setHoliday_24 : decode cX7_setHoliday 24 = .ok (.aload_n 0, 1) := by decide +kernel
theorem dX7_setHoliday_25 : decode cX7_setHoliday 25 = .ok (.getfield 13, 3) := by decide +kernel
theorem dX7_setHoliday_28 : decode cX7_setHoliday 28 = .ok (.iload_n 1, 1) := by decide +kernel
theorem dX7_setHoliday_29 : decode cX7_setHoliday 29 = .ok (.baload, 1) := by decide +kernel
theorem dX7_setHoliday_30 : decode cX7_setHoliday 30 = .ok (.ifCond .eq 7, 3) := by decide +kernel
theorem dX7_setHoliday_33 : decode cX7_setHoliday 33 = .ok (.iconst 1, 1) := by decide +kernel
theorem dX7_setHoliday_34 : decode cX7_setHoliday 34 = .ok (.goto 4, 3) := by decide +kernel
theorem dX7_setHoliday_37 : decode cX7_setHoliday 37 = .ok (.iconst 0, 1) := by decide +kernel
theorem dX7_setHoliday_38 : decode cX7_setHoliday 38 = .ok (.istore_n 3, 1) := by decide +kernel
theorem dX7_setHoliday_39 : decode cX7_setHoliday 39 = .ok (.aload_n 0, 1) := by decide +kernel
theorem dX7_setHoliday_40 : decode cX7_setHoliday 40 = .ok (.getfield 57, 3) := by decide +kernel
theorem dX7_setHoliday_43 : decode cX7_setHoliday 43 = .ok (.ifCond .ne 10, 3) := by decide +kernel
theorem dX7_setHoliday_46 : decode cX7_setHoliday 46 = .ok (.aload_n 0, 1) := by decide +kernel
theorem dX7_setHoliday_47 : decode cX7_setHoliday 47 = .ok (.getfield 13, 3) := by decide +kernel
theorem dX7_setHoliday_50 : decode cX7_setHoliday 50 = .ok (.iload_n 1, 1) := by decide +kernel
theorem dX7_setHoliday_51 : decode cX7_setHoliday 51 = .ok (.iload_n 2, 1) := by decide +kernel
theorem dX7_setHoliday_52 : decode cX7_setHoliday 52 = .ok (.bastore, 1) := by decide +kernel
theorem dX7_setHoliday_53 : decode cX7_setHoliday 53 = .ok (.iload_n 3, 1) := by decide +kernel
theorem dX7_setHoliday_54 : decode cX7_setHoliday 54 = .ok (.ireturn, 1) := by decide +kernel
set_option maxRecDepth 20000 in
theorem ggX7_drop_X7_in : GoodIn wsX7_drop wsX7_in := goodIn_r _ [8] (by decide +kernel) (by decide +kernel)
set_option maxRecDepth 20000 in
theorem gX7_drop_X7_in : GoodIn wsX7_drop (va_wsS RX7 63 yX7_in wsX7_in) := goodIn_app (goodIn_of _ (by decide +kernel)) ggX7_drop_X7_in
set_option maxRecDepth 20000 in
theorem ggX7_drop_X7_fails : GoodIn wsX7_drop wsX7_fails := goodIn_r _ [12, 1, 13, 14, 15, 16, 17, 18, 19, 20, 21, 22, 23, 24, 25, 26, 27, 28, 29, 30, 31, 32] (by decide +kernel) (by decide +kernel)
set_option maxRecDepth 20000 in
theorem gX7_drop_X7_fails : GoodIn wsX7_drop (wsV RX7 108 RX7 yX7_fails wsX7_fails) := goodIn_app (goodIn_of _ (by decide +kernel)) ggX7_drop_X7_fails
theorem dX7_drop_0 : decode cX7_drop 0 = .ok (.aload_n 0, 1) := by decide +kernel
theorem dX7_drop_1 : decode cX7_drop 1 = .ok (.iconst 0, 1) := by decide +kernel
theorem dX7_drop_2 : decode cX7_drop 2 = .ok (.putfield 57, 3) := by decide +kernel
theorem dX7_drop_5 : decode cX7_drop 5 = .ok (.iload_n 1, 1) := by decide +kernel
theorem dX7_drop_6 : decode cX7_drop 6 = .ok (.iconst 0, 1) := by decide +kernel
theorem dX7_drop_7 : decode cX7_drop 7 = .ok (.aload_n 0, 1) := by decide +kernel
theorem dX7_drop_8 : decode cX7_drop 8 = .ok (.getfield 60, 3) := by decide +kernel
theorem dX7_drop_11 : decode cX7_drop 11 = .ok (.invokestatic 63, 3) := by decide +kernel
theorem dX7_drop_14 : decode cX7_drop 14 = .ok (.ifCond .ne 9, 3) := by decide +kernel
theorem dX7_drop_17 : decode cX7_drop 17 = .ok (.aload_n 0, 1) := by decide +kernel
theorem dX7_drop_18 : decode cX7_drop 18 = .ok (.iconst 1, 1) := by decide +kernel
theorem dX7_drop_19 : decode cX7_drop 19 = .ok (.invokevirtual 108, 3) := by decide +kernel
theorem dX7_drop_22 : decode cX7_drop 22 = .ok (.ireturn, 1) := by decide +kernel
theorem dX7_drop_23 : decode cX7_drop 23 = .ok (.aload_n 0, 1) := by decide +kernel
theorem dX7_drop_24 : decode cX7_drop 24 = .ok (.dup, 1) := by decide +kernel
theorem dX7_drop_25 : decode cX7_drop 25 = .ok (.getfield 60, 3) := by decide +kernel
theorem dX7_drop_28 : decode cX7_drop 28 = .ok (.iload_n 1, 1) := by decide +kernel
theorem dX7_drop_29 : decode cX7_drop 29 = .ok (.isub, 1) := by decide +kernel
theorem dX7_drop_30 : decode cX7_drop 30 = .ok (.putfield 60, 3) := by decide +kernel
theorem dX7_drop_33 : decode cX7_drop 33 = .ok (.iconst 0, 1) := by decide +kernel
theorem dX7_drop_34 : decode cX7_drop 34 = .ok (.istore_n 2, 1) := by decide +kernel
theorem dX7_drop_35 : decode cX7_drop 35 = .ok (.iload_n 2, 1) := by decide +kernel
theorem dX7_drop_36 : decode cX7_drop 36 = .ok (.aload_n 0, 1) := by decide +kernel
theorem dX7_drop_37 : decode cX7_drop 37 = .ok (.getfield 60, 3) := by decide +kernel
theorem dX7_drop_40 : decode cX7_drop 40 = .ok (.if_icmp .ge 37, 3) := by decide +kernel
theorem dX7_drop_43 : decode cX7_drop 43 = .ok (.aload_n 0, 1) := by decide +kernel
theorem dX7_drop_44 : decode cX7_drop 44 = .ok (.getfield 7, 3) := by decide +kernel
theorem dX7_drop_47 : decode cX7_drop 47 = .ok (.iload_n 2, 1) := by decide +kernel
theorem dX7_drop_48 : decode cX7_drop 48 = .ok (.aload_n 0, 1) := by decide +kernel
theorem dX7_drop_49 : decode cX7_drop 49 = .ok (.getfield 7, 3) := by decide +kernel
theorem dX7_drop_52 : decode cX7_drop 52 = .ok (.iload_n 2, 1) := by decide +kernel
theorem dX7_drop_53 : decode cX7_drop 53 = .ok (.iload_n 1, 1) := by decide +kernel
theorem dX7_drop_54 : decode cX7_drop 54 = .ok (.iadd, 1) := by decide +kernel
theorem dX7_drop_55 : decode cX7_drop 55 = .ok (.iaload, 1) := by decide +kernel
theorem dX7_drop_56 : decode cX7_drop 56 = .ok (.iastore, 1) := by decide +kernel
theorem dX7_drop_57 : decode cX7_drop 57 = .ok (.aload_n 0, 1) := by decide +kernel
theorem dX7_drop_58 : decode cX7_drop 58 = .ok (.getfield 13, 3) := by decide +kernel
theorem dX7_drop_61 : decode cX7_drop 61 = .ok (.iload_n 2, 1) := by decide +kernel
theorem dX7_drop_62 : decode cX7_drop 62 = .ok (.aload_n 0, 1) := by decide +kernel
theorem dX7_drop_63 : decode cX7_drop 63 = .ok (.getfield 13, 3) := by decide +kernel
theorem dX7_drop_66 : decode cX7_drop 66 = .ok (.iload_n 2, 1) := by decide +kernel
theorem dX7_drop_67 : decode cX7_drop 67 = .ok (.iload_n 1, 1) := by decide +kernel
theorem dX7_drop_68 : decode cX7_drop 68 = .ok (.iadd, 1) := by decide +kernel
theorem dX7_drop_69 : decode cX7_drop 69 = .ok (.baload, 1) := by decide +kernel
theorem dX7_drop_70 : decode cX7_drop 70 = .ok (.bastore, 1) := by decide +kernel
theorem dX7_drop_71 : decode cX7_drop 71 = .ok (.iinc 2 1, 3) := by decide +kernel
theorem dX7_drop_74 : decode cX7_drop 74 = .ok (.goto (-39), 3) := by decide +kernel
theorem dX7_drop_77 : decode cX7_drop 77 = .ok (.aload_n 0, 1) := by decide +kernel
theorem dX7_drop_78 : decode cX7_drop 78 = .ok (.getfield 60, 3) := by decide +kernel
theorem dX7_drop_81 : decode cX7_drop 81 = .ok (.ireturn, 1) := by decide +kernel
set_option maxRecDepth 20000 in
theorem ggX7_setSeason_X7_in : GoodIn wsX7_setSeason wsX7_in := goodIn_r _ [6] (by decide +kernel) (by decide +kernel)
set_option maxRecDepth 20000 in
theorem gX7_setSeason_X7_in : GoodIn wsX7_setSeason (va_wsS RX7 63 yX7_in wsX7_in) := goodIn_app (goodIn_of _ (by decide +kernel)) ggX7_setSeason_X7_in
set_option maxRecDepth 20000 in
theorem ggX7_setSeason_X7_fails : GoodIn wsX7_setSeason wsX7_fails := goodIn_r _ [10, 1, 11, 12, 13, 14, 15, 16, 17, 18, 19, 20, 21, 22, 23, 24, 25, 26, 27, 28, 29, 30] (by decide +kernel) (by decide +kernel)
set_option maxRecDepth 20000 in
theorem gX7_setSeason_X7_fails : GoodIn wsX7_setSeason (wsV RX7 108 RX7 yX7_fails wsX7_fails) := goodIn_app (goodIn_of _ (by decide +kernel)) ggX7_setSeason_X7_fails
theorem dX7_setSeason_0 : decode cX7_setSeason 0 = .ok (.aload_n 0, 1) := by decide +kernel
theorem dX7_setSeason_1 : decode cX7_setSeason 1 = .ok (.iconst 0, 1) := by decide +kernel
theorem dX7_setSeason_2 : decode cX7_setSeason 2 = .ok (.putfield 57, 3) := by decide +kernel
theorem dX7_setSeason_5 : decode cX7_setSeason 5 = .ok (.iload_n 1, 1) := by decide +kernel
theorem dX7_setSeason_6 : decode cX7_setSeason 6 = .ok (.iconst 1, 1) := by decide +kernel
theorem dX7_setSeason_7 : decode cX7_setSeason 7 = .ok (.bipush 12, 2) := by decide +kernel
theorem dX7_setSeason_9 : decode cX7_setSeason 9 = .ok (.invokestatic 63, 3) := by decide +kernel
theorem dX7_setSeason_12 : decode cX7_setSeason 12 = .ok (.ifCond .ne 9, 3) := by decide +kernel
theorem dX7_setSeason_15 : decode cX7_setSeason 15 = .ok (.aload_n 0, 1) := by decide +kernel
theorem dX7_setSeason_16 : decode cX7_setSeason 16 = .ok (.iconst 1, 1) := by decide +kernel
theorem dX7_setSeason_17 : decode cX7_setSeason 17 = .ok (.invokevirtual 108, 3) := by decide +kernel
theorem dX7_setSeason_20 : decode cX7_setSeason 20 = .ok (.ireturn, 1) := by decide +kernel
theorem dX7_setSeason_21 : decode cX7_setSeason 21 = .ok (.aload_n 0, 1) := by decide +kernel
theorem dX7_setSeason_22 : decode cX7_setSeason 22 = .ok (.getfield 17, 3) := by decide +kernel
theorem dX7_setSeason_25 : decode cX7_setSeason 25 = .ok (.istore_n 2, 1) := by decide +kernel
theorem dX7_setSeason_26 : decode cX7_setSeason 26 = .ok (.aload_n 0, 1) := by decide +kernel
theorem dX7_setSeason_27 : decode cX7_setSeason 27 = .ok (.iload_n 1, 1) := by decide +kernel
theorem dX7_setSeason_28 : decode cX7_setSeason 28 = .ok (.putfield 17, 3) := by decide +kernel
theorem dX7_setSeason_31 : decode cX7_setSeason 31 = .ok (.iload_n 2, 1) := by decide +kernel
theorem dX7_setSeason_32 : decode cX7_setSeason 32 = .ok (.ireturn, 1) := by decide +kernel
set_option maxRecDepth 20000 in
theorem ggX7_setCuts_X7_in : GoodIn wsX7_setCuts wsX7_in := goodIn_r _ [8] (by decide +kernel) (by decide +kernel)
set_option maxRecDepth 20000 in
theorem gX7_setCuts_X7_in : GoodIn wsX7_setCuts (va_wsS RX7 63 yX7_in wsX7_in) := goodIn_app (goodIn_of _ (by decide +kernel)) ggX7_setCuts_X7_in
theorem dX7_setCuts_0 : decode cX7_setCuts 0 = .ok (.aload_n 0, 1) := by decide +kernel
theorem dX7_setCuts_1 : decode cX7_setCuts 1 = .ok (.iload_n 1, 1) := by decide +kernel
theorem dX7_setCuts_2 : decode cX7_setCuts 2 = .ok (.iconst 1, 1) := by decide +kernel
theorem dX7_setCuts_3 : decode cX7_setCuts 3 = .ok (.bipush 10, 2) := by decide +kernel
theorem dX7_setCuts_5 : decode cX7_setCuts 5 = .ok (.invokestatic 63, 3) := by decide +kernel
theorem dX7_setCuts_8 : decode cX7_setCuts 8 = .ok (.ifCond .eq 17, 3) := by decide +kernel
theorem dX7_setCuts_11 : decode cX7_setCuts 11 = .ok (.iload_n 2, 1) := by decide +kernel
theorem dX7_setCuts_12 : decode cX7_setCuts 12 = .ok (.iconst 0, 1) := by decide +kernel
theorem dX7_setCuts_13 : decode cX7_setCuts 13 = .ok (.ldc 114, 2) := by decide +kernel
theorem dX7_setCuts_15 : decode cX7_setCuts 15 = .ok (.invokestatic 63, 3) := by decide +kernel
theorem dX7_setCuts_18 : decode cX7_setCuts 18 = .ok (.ifCond .eq 7, 3) := by decide +kernel
theorem dX7_setCuts_21 : decode cX7_setCuts 21 = .ok (.iconst 0, 1) := by decide +kernel
theorem dX7_setCuts_22 : decode cX7_setCuts 22 = .ok (.goto 4, 3) := by decide +kernel
theorem dX7_setCuts_25 : decode cX7_setCuts 25 = .ok (.iconst 1, 1) := by decide +kernel
theorem dX7_setCuts_26 : decode cX7_setCuts 26 = .ok (.putfield 57, 3) := by decide +kernel
theorem dX7_setCuts_29 : decode cX7_setCuts 29 = .ok (.aload_n 0, 1) := by decide +kernel
theorem dX7_setCuts_30 : decode cX7_setCuts 30 = .ok (.getfield 57, 3) := by decide +kernel
theorem dX7_setCuts_33 : decode cX7_setCuts 33 = .ok (.ifCond .ne 13, 3) := by decide +kernel
theorem dX7_setCuts_36 : decode cX7_setCuts 36 = .ok (.aload_n 0, 1) := by decide +kernel
theorem dX7_setCuts_37 : decode cX7_setCuts 37 = .ok (.iload_n 1, 1) := by decide +kernel
theorem dX7_setCuts_38 : decode cX7_setCuts 38 = .ok (.putfield 21, 3) := by decide +kernel
theorem dX7_setCuts_41 : decode cX7_setCuts 41 = .ok (.aload_n 0, 1) := by decide +kernel
theorem dX7_setCuts_42 : decode cX7_setCuts 42 = .ok (.iload_n 2, 1) := by decide +kernel
theorem dX7_setCuts_43 : decode cX7_setCuts 43 = .ok (.putfield 24, 3) := by decide +kernel
theorem dX7_setCuts_46 : decode cX7_setCuts 46 = .ok (.return_, 1) := by decide +kernel
set_option maxRecDepth 20000 in
theorem ggX7_setBound_X7_in : GoodIn wsX7_setBound wsX7_in := goodIn_r _ [7] (by decide +kernel) (by decide +kernel)
set_option maxRecDepth 20000 in
theorem gX7_setBound_X7_in : GoodIn wsX7_setBound (va_wsS RX7 63 yX7_in wsX7_in) := goodIn_app (goodIn_of _ (by decide +kernel)) ggX7_setBound_X7_in
theorem dX7_setBound_0 : decode cX7_setBound 0 = .ok (.aload_n 0, 1) := by decide +kernel
theorem dX7_setBound_1 : decode cX7_setBound 1 = .ok (.iload_n 1, 1) := by decide +kernel
theorem dX7_setBound_2 : decode cX7_setBound 2 = .ok (.bipush 100, 2) := by decide +kernel
theorem dX7_setBound_4 : decode cX7_setBound 4 = .ok (.sipush 2000, 3) := by decide +kernel
theorem dX7_setBound_7 : decode cX7_setBound 7 = .ok (.invokestatic 63, 3) := by decide +kernel
theorem dX7_setBound_10 : decode cX7_setBound 10 = .ok (.ifCond .eq 18, 3) := by decide +kernel
theorem dX7_setBound_13 : decode cX7_setBound 13 = .ok (.iload_n 2, 1) := by decide +kernel
theorem dX7_setBound_14 : decode cX7_setBound 14 = .ok (.iconst 0, 1) := by decide +kernel
theorem dX7_setBound_15 : decode cX7_setBound 15 = .ok (.sipush 1000, 3) := by decide +kernel
theorem dX7_setBound_18 : decode cX7_setBound 18 = .ok (.invokestatic 63, 3) := by decide +kernel
theorem dX7_setBound_21 : decode cX7_setBound 21 = .ok (.ifCond .eq 7, 3) := by decide +kernel
theorem dX7_setBound_24 : decode cX7_setBound 24 = .ok (.iconst 0, 1) := by decide +kernel
theorem dX7_setBound_25 : decode cX7_setBound 25 = .ok (.goto 4, 3) := by decide +kernel
theorem dX7_setBound_28 : decode cX7_setBound 28 = .ok (.iconst 1, 1) := by decide +kernel
theorem dX7_setBound_29 : decode cX7_setBound 29 = .ok (.putfield 57, 3) := by decide +kernel
theorem dX7_setBound_32 : decode cX7_setBound 32 = .ok (.aload_n 0, 1) := by decide +kernel
theorem dX7_setBound_33 : decode cX7_setBound 33 = .ok (.getfield 57, 3) := by decide +kernel
theorem dX7_setBound_36 : decode cX7_setBound 36 = .ok (.ifCond .ne 13, 3) := by decide +kernel
theorem dX7_setBound_39 : decode cX7_setBound 39 = .ok (.aload_n 0, 1) := by decide +kernel
theorem dX7_setBound_40 : decode cX7_setBound 40 = .ok (.iload_n 1, 1) := by decide +kernel
theorem dX7_setBound_41 : decode cX7_setBound 41 = .ok (.putfield 27, 3) := by decide +kernel
theorem dX7_setBound_44 : decode cX7_setBound 44 = .ok (.aload_n 0, 1) := by decide +kernel
theorem dX7_setBound_45 : decode cX7_setBound 45 = .ok (.iload_n 2, 1) := by decide +kernel
theorem dX7_setBound_46 : decode cX7_setBound 46 = .ok (.putfield 30, 3) := by decide +kernel
theorem dX7_setBound_49 : decode cX7_setBound 49 = .ok (.return_, 1) := by decide +kernel
theorem dX7_size_0 : decode cX7_size 0 = .ok (.aload_n 0, 1) := by decide +kernel
theorem dX7_size_1 : decode cX7_size 1 = .ok (.iconst 0, 1) := by decide +kernel
theorem dX7_size_2 : decode cX7_size 2 = .ok (.putfield 57, 3) := by decide +kernel
theorem dX7_size_5 : decode cX7_size 5 = .ok (.aload_n 0, 1) := by decide +kernel
theorem dX7_size_6 : decode cX7_size 6 = .ok (.getfield 60, 3) := by decide +kernel
theorem dX7_size_9 : decode cX7_size 9 = .ok (.ireturn, 1) := by decide +kernel
set_option maxRecDepth 20000 in
theorem ggX7_value_X7_isValue : GoodIn wsX7_value wsX7_isValue := goodIn_r _ [7, 8, 9, 10, 6, 11, 16, 17, 18, 19, 20, 21, 22, 23, 24, 25, 26, 27, 28, 29, 30, 31, 32, 33, 34, 35] (by decide +kernel) (by decide +kernel)
set_option maxRecDepth 20000 in
theorem gX7_value_X7_isValue : GoodIn wsX7_value (wsV RX7 111 RX7 yX7_isValue wsX7_isValue) := goodIn_app (goodIn_of _ (by decide +kernel)) ggX7_value_X7_isValue
set_option maxRecDepth 20000 in
theorem ggX7_value_X7_fails : GoodIn wsX7_value wsX7_fails := goodIn_r _ [15, 1, 16, 17, 18, 19, 20, 21, 22, 23, 24, 25, 26, 27, 28, 29, 30, 31, 32, 33, 34, 35] (by decide +kernel) (by decide +kernel)
set_option maxRecDepth 20000 in
theorem gX7_value_X7_fails : GoodIn wsX7_value (wsV RX7 108 RX7 yX7_fails wsX7_fails) := goodIn_app (goodIn_of _ (by decide +kernel)) ggX7_value_X7_fails
theorem dX7_value_0 : decode cX7_value 0 = .ok (.aload_n 0, 1) := by decide +kernel
theorem dX7_value_1 : decode cX7_value 1 = .ok (.iconst 0, 1) := by decide +kernel
theorem dX7_value_2 : decode cX7_value 2 = .ok (.putfield 57, 3) := by decide +kernel
theorem dX7_value_5 : decode cX7_value 5 = .ok (.aload_n 0, 1) := by decide +kernel
theorem dX7_value_6 : decode cX7_value 6 = .ok (.iload_n 1, 1) := by decide +kernel
theorem dX7_value_7 : decode cX7_value 7 = .ok (.invokevirtual 111, 3) := by decide +kernel
theorem dX7_value_10 : decode cX7_value 10 = .ok (.ifCond .eq 12, 3) := by decide +kernel
theorem dX7_value_13 : decode cX7_value 13 = .ok (.aload_n 0, 1) := by decide +kernel
theorem dX7_value_14 : decode cX7_value 14 = .ok (.getfield 7, 3) := by decide +kernel
theorem dX7_value_17 : decode cX7_value 17 = .ok (.iload_n 1, 1) := by decide +kernel
theorem dX7_value_18 : decode cX7_value 18 = .ok (.iaload, 1) := by decide +kernel
theorem dX7_value_19 : decode cX7_value 19 = .ok (.goto 8, 3) := by decide +kernel
theorem dX7_value_22 : decode cX7_value 22 = .ok (.aload_n 0, 1) := by decide +kernel
theorem dX7_value_23 : decode cX7_value 23 = .ok (.iconst 1, 1) := by decide +kernel
theorem dX7_value_24 : decode cX7_value 24 = .ok (.invokevirtual 108, 3) := by decide +kernel
theorem dX7_value_27 : decode cX7_value 27 = .ok (.ireturn, 1) := by decide +kernel
set_option maxRecDepth 20000 in
theorem ggX7_base_X7_laySeasons : GoodIn wsX7_base wsX7_laySeasons := goodIn_r _ [7, 8, 9, 10, 11, 2, 12, 13, 14, 15, 16, 17, 6, 18, 19, 20, 21, 22, 23, 24, 25, 26, 27, 28, 29, 30, 31, 32, 33, 34, 35, 36, 37, 38, 39, 40, 41, 42, 43] (by decide +kernel) (by decide +kernel)
set_option maxRecDepth 20000 in
theorem gX7_base_X7_laySeasons : GoodIn wsX7_base (wsV RX7 88 RX7 yX7_laySeasons wsX7_laySeasons) := goodIn_app (goodIn_of _ (by decide +kernel)) ggX7_base_X7_laySeasons
theorem dX7_base_0 : decode cX7_base 0 = .ok (.aload_n 0, 1) := by decide +kernel
theorem dX7_base_1 : decode cX7_base 1 = .ok (.iconst 0, 1) := by decide +kernel
theorem dX7_base_2 : decode cX7_base 2 = .ok (.putfield 57, 3) := by decide +kernel
theorem dX7_base_5 : decode cX7_base 5 = .ok (.aload_n 0, 1) := by decide +kernel
theorem dX7_base_6 : decode cX7_base 6 = .ok (.invokevirtual 88, 3) := by decide +kernel
theorem dX7_base_9 : decode cX7_base 9 = .ok (.aload_n 0, 1) := by decide +kernel
theorem dX7_base_10 : decode cX7_base 10 = .ok (.getfield 78, 3) := by decide +kernel
theorem dX7_base_13 : decode cX7_base 13 = .ok (.ireturn, 1) := by decide +kernel
set_option maxRecDepth 20000 in
theorem ggX7_season_X7_in : GoodIn wsX7_season wsX7_in := goodIn_r _ [7] (by decide +kernel) (by decide +kernel)
set_option maxRecDepth 20000 in
theorem gX7_season_X7_in : GoodIn wsX7_season (va_wsS RX7 63 yX7_in wsX7_in) := goodIn_app (goodIn_of _ (by decide +kernel)) ggX7_season_X7_in
set_option maxRecDepth 20000 in
theorem ggX7_season_X7_fails : GoodIn wsX7_season wsX7_fails := goodIn_r _ [11, 1, 31, 32, 33, 34, 35, 36, 37, 38, 39, 40, 41, 42, 43, 44, 45, 46, 47, 48, 49, 50] (by decide +kernel) (by decide +kernel)
set_option maxRecDepth 20000 in
theorem gX7_season_X7_fails : GoodIn wsX7_season (wsV RX7 108 RX7 yX7_fails wsX7_fails) := goodIn_app (goodIn_of _ (by decide +kernel)) ggX7_season_X7_fails
set_option maxRecDepth 20000 in
theorem ggX7_season_X7_laySeasons : GoodIn wsX7_season wsX7_laySeasons := goodIn_r _ [15, 16, 17, 18, 19, 20, 2, 3, 21, 22, 23, 24, 6, 25, 26, 27, 28, 29, 30, 31, 32, 33, 34, 35, 36, 37, 38, 39, 40, 41, 42, 43, 44, 45, 46, 47, 48, 49, 50] (by decide +kernel) (by decide +kernel)
set_option maxRecDepth 20000 in
theorem gX7_season_X7_laySeasons : GoodIn wsX7_season (wsV RX7 88 RX7 yX7_laySeasons wsX7_laySeasons) := goodIn_app (goodIn_of _ (by decide +kernel)) ggX7_season_X7_laySeasons
theorem dX7_season_0 : decode cX7_season 0 = .ok (.aload_n 0, 1) := by decide +kernel
theorem dX7_season_1 : decode cX7_season 1 = .ok (.iconst 0, 1) := by decide +kernel
theorem dX7_season_2 : decode cX7_season 2 = .ok (.putfield 57, 3) := by decide +kernel
theorem dX7_season_5 : decode cX7_season 5 = .ok (.iload_n 1, 1) := by decide +kernel
theorem dX7_season_6 : decode cX7_season 6 = .ok (.iconst 0, 1) := by decide +kernel
theorem dX7_season_7 : decode cX7_season 7 = .ok (.aload_n 0, 1) := by decide +kernel
theorem dX7_season_8 : decode cX7_season 8 = .ok (.getfield 17, 3) := by decide +kernel
theorem dX7_season_11 : decode cX7_season 11 = .ok (.iconst 1, 1) := by decide +kernel
theorem dX7_season_12 : decode cX7_season 12 = .ok (.isub, 1) := by decide +kernel
theorem dX7_season_13 : decode cX7_season 13 = .ok (.invokestatic 63, 3) := by decide +kernel
theorem dX7_season_16 : decode cX7_season 16 = .ok (.ifCond .ne 9, 3) := by decide +kernel
theorem dX7_season_19 : decode cX7_season 19 = .ok (.aload_n 0, 1) := by decide +kernel
theorem dX7_season_20 : decode cX7_season 20 = .ok (.iconst 1, 1) := by decide +kernel
theorem dX7_season_21 : decode cX7_season 21 = .ok (.invokevirtual 108, 3) := by decide +kernel
theorem dX7_season_24 : decode cX7_season 24 = .ok (.ireturn, 1) := by decide +kernel
theorem dX7_season_25 : decode cX7_season 25 = .ok (.aload_n 0, 1) := by decide +kernel
theorem dX7_season_26 : decode cX7_season 26 = .ok (.invokevirtual 88, 3) := by decide +kernel
theorem dX7_season_29 : decode cX7_season 29 = .ok (.aload_n 0, 1) := by decide +kernel
theorem dX7_season_30 : decode cX7_season 30 = .ok (.getfield 36, 3) := by decide +kernel
theorem dX7_season_33 : decode cX7_season 33 = .ok (.iload_n 1, 1) := by decide +kernel
theorem dX7_season_34 : decode cX7_season 34 = .ok (.iaload, 1) := by decide +kernel
theorem dX7_season_35 : decode cX7_season 35 = .ok (.ireturn, 1) := by decide +kernel
set_option maxRecDepth 20000 in
theorem ggX7_adjusted_X7_isValue : GoodIn wsX7_adjusted wsX7_isValue := goodIn_r _ [7, 8, 9, 10, 6, 11, 35, 36, 37, 38, 39, 40, 41, 42, 43, 44, 45, 46, 47, 48, 49, 50, 51, 52, 53, 54] (by decide +kernel) (by decide +kernel)
set_option maxRecDepth 20000 in
theorem gX7_adjusted_X7_isValue : GoodIn wsX7_adjusted (wsV RX7 111 RX7 yX7_isValue wsX7_isValue) := goodIn_app (goodIn_of _ (by decide +kernel)) ggX7_adjusted_X7_isValue
set_option maxRecDepth 20000 in
theorem ggX7_adjusted_X7_fails : GoodIn wsX7_adjusted wsX7_fails := goodIn_r _ [15, 1, 35, 36, 37, 38, 39, 40, 41, 42, 43, 44, 45, 46, 47, 48, 49, 50, 51, 52, 53, 54] (by decide +kernel) (by decide +kernel)
set_option maxRecDepth 20000 in
theorem gX7_adjusted_X7_fails : GoodIn wsX7_adjusted (wsV RX7 108 RX7 yX7_fails wsX7_fails) := goodIn_app (goodIn_of _ (by decide +kernel)) ggX7_adjusted_X7_fails
set_option maxRecDepth 20000 in
theorem ggX7_adjusted_X7_laySeasons : GoodIn wsX7_adjusted wsX7_laySeasons := goodIn_r _ [19, 20, 8, 21, 22, 23, 24, 25, 2, 26, 27, 28, 6, 29, 30, 31, 32, 33, 34, 35, 36, 37, 38, 39, 40, 41, 42, 43, 44, 45, 46, 47, 48, 49, 50, 51, 52, 53, 54] (by decide +kernel) (by decide +kernel)
set_option maxRecDepth 20000 in
theorem gX7_adjusted_X7_laySeasons : GoodIn wsX7_adjusted (wsV RX7 88 RX7 yX7_laySeasons wsX7_laySeasons) := goodIn_app (goodIn_of _ (by decide +kernel)) ggX7_adjusted_X7_laySeasons
theorem dX7_adjusted_0 : decode cX7_adjusted 0 = .ok (.aload_n 0, 1) := by decide +kernel
theorem dX7_adjusted_1 : decode cX7_adjusted 1 = .ok (.iconst 0, 1) := by decide +kernel
theorem dX7_adjusted_2 : decode cX7_adjusted 2 = .ok (.putfield 57, 3) := by decide +kernel
theorem dX7_adjusted_5 : decode cX7_adjusted 5 = .ok (.aload_n 0, 1) := by decide +kernel
theorem dX7_adjusted_6 : decode cX7_adjusted 6 = .ok (.iload_n 1, 1) := by decide +kernel
theorem dX7_adjusted_7 : decode cX7_adjusted 7 = .ok (.invokevirtual 111, 3) := by decide +kernel
theorem dX7_adjusted_10 : decode cX7_adjusted 10 = .ok (.ifCond .ne 9, 3) := by decide +kernel
theorem dX7_adjusted_13 : decode cX7_adjusted 13 = .ok (.aload_n 0, 1) := by decide +kernel
theorem dX7_adjusted_14 : decode cX7_adjusted 14 = .ok (.iconst 1, 1) := by decide +kernel
theorem dX7_adjusted_15 : decode cX7_adjusted 15 = .ok (.invokevirtual 108, 3) := by decide +kernel
theorem dX7_adjusted_18 : decode cX7_adjusted 18 = .ok (.ireturn, 1) := by decide +kernel
theorem dX7_adjusted_19 : decode cX7_adjusted 19 = .ok (.aload_n 0, 1) := by decide +kernel
theorem dX7_adjusted_20 : decode cX7_adjusted 20 = .ok (.invokevirtual 88, 3) := by decide +kernel
theorem dX7_adjusted_23 : decode cX7_adjusted 23 = .ok (.aload_n 0, 1) := by decide +kernel
theorem dX7_adjusted_24 : decode cX7_adjusted 24 = .ok (.getfield 39, 3) := by decide +kernel
theorem dX7_adjusted_27 : decode cX7_adjusted 27 = .ok (.iload_n 1, 1) := by decide +kernel
theorem dX7_adjusted_28 : decode cX7_adjusted 28 = .ok (.iaload, 1) := by decide +kernel
theorem dX7_adjusted_29 : decode cX7_adjusted 29 = .ok (.ireturn, 1) := by decide +kernel
set_option maxRecDepth 20000 in
theorem ggX7_countSegments_X7_layDivision : GoodIn wsX7_countSegments wsX7_layDivision := goodIn_r _ [7, 8, 1, 9, 2, 10, 11, 12, 13, 14, 15, 6, 16, 17, 18, 19, 20, 21, 22, 23, 24, 25, 26, 27, 28, 29, 30, 31, 32, 33, 34, 35, 36, 37, 38, 39, 40, 41, 42, 43, 44, 45, 46, 47, 48, 49, 50, 51, 52, 53, 54, 55, 56, 57, 58, 59, 60, 61, 62, 63, 64] (by decide +kernel) (by decide +kernel)
set_option maxRecDepth 20000 in
theorem gX7_countSegments_X7_layDivision : GoodIn wsX7_countSegments (wsV RX7 95 RX7 yX7_layDivision wsX7_layDivision) := goodIn_app (goodIn_of _ (by decide +kernel)) ggX7_countSegments_X7_layDivision
theorem dX7_countSegments_0 : decode cX7_countSegments 0 = .ok (.aload_n 0, 1) := by decide +kernel
theorem dX7_countSegments_1 : decode cX7_countSegments 1 = .ok (.invokevirtual 95, 3) := by decide +kernel
theorem dX7_countSegments_4 : decode cX7_countSegments 4 = .ok (.iconst 0, 1) := by decide +kernel
theorem dX7_countSegments_5 : decode cX7_countSegments 5 = .ok (.istore_n 1, 1) := by decide +kernel
theorem dX7_countSegments_6 : decode cX7_countSegments 6 = .ok (.iconst 0, 1) := by decide +kernel
theorem dX7_countSegments_7 : decode cX7_countSegments 7 = .ok (.istore_n 2, 1) := by decide +kernel
theorem dX7_countSegments_8 : decode cX7_countSegments 8 = .ok (.iload_n 2, 1) := by decide +kernel
theorem dX7_countSegments_9 : decode cX7_countSegments 9 = .ok (.aload_n 0, 1) := by decide +kernel
theorem dX7_countSegments_10 : decode cX7_countSegments 10 = .ok (.getfield 60, 3) := by decide +kernel
theorem dX7_countSegments_13 : decode cX7_countSegments 13 = .ok (.if_icmp .ge 16, 3) := by decide +kernel
theorem dX7_countSegments_16 : decode cX7_countSegments 16 = .ok (.iinc 1 1, 3) := by decide +kernel
theorem dX7_countSegments_19 : decode cX7_countSegments 19 = .ok (.aload_n 0, 1) := by decide +kernel
theorem dX7_countSegments_20 : decode cX7_countSegments 20 = .ok (.getfield 51, 3) := by decide +kernel
theorem dX7_countSegments_23 : decode cX7_countSegments 23 = .ok (.iload_n 2, 1) := by decide +kernel
theorem dX7_countSegments_24 : decode cX7_countSegments 24 = .ok (.iaload, 1) := by decide +kernel
theorem dX7_countSegments_25 : decode cX7_countSegments 25 = .ok (.istore_n 2, 1) := by decide +kernel
theorem dX7_countSegments_26 : decode cX7_countSegments 26 = .ok (.goto (-18), 3) := by decide +kernel
theorem dX7_countSegments_29 : decode cX7_countSegments 29 = .ok (.iload_n 1, 1) := by decide +kernel
theorem dX7_countSegments_30 : decode cX7_countSegments 30 = .ok (.ireturn, 1) := by decide +kernel
theorem dX7_startBy_0 : decode cX7_startBy 0 = .ok (.iconst 0, 1) := by decide +kernel
theorem dX7_startBy_1 : decode cX7_startBy 1 = .ok (.istore_n 2, 1) := by decide +kernel
theorem dX7_startBy_2 : decode cX7_startBy 2 = .ok (.iconst 0, 1) := by decide +kernel
theorem dX7_startBy_3 : decode cX7_startBy 3 = .ok (.istore_n 3, 1) := by decide +kernel
theorem dX7_startBy_4 : decode cX7_startBy 4 = .ok (.iload_n 3, 1) := by decide +kernel
theorem dX7_startBy_5 : decode cX7_startBy 5 = .ok (.iload_n 1, 1) := by decide +kernel
theorem dX7_startBy_6 : decode cX7_startBy 6 = .ok (.if_icmp .ge 16, 3) := by decide +kernel
theorem dX7_startBy_9 : decode cX7_startBy 9 = .ok (.aload_n 0, 1) := by decide +kernel
theorem dX7_startBy_10 : decode cX7_startBy 10 = .ok (.getfield 51, 3) := by decide +kernel
theorem dX7_startBy_13 : decode cX7_startBy 13 = .ok (.iload_n 2, 1) := by decide +kernel
theorem dX7_startBy_14 : decode cX7_startBy 14 = .ok (.iaload, 1) := by decide +kernel
theorem dX7_startBy_15 : decode cX7_startBy 15 = .ok (.istore_n 2, 1) := by decide +kernel
theorem dX7_startBy_16 : decode cX7_startBy 16 = .ok (.iinc 3 1, 3) := by decide +kernel
theorem dX7_startBy_19 : decode cX7_startBy 19 = .ok (.goto (-15), 3) := by decide +kernel
theorem dX7_startBy_22 : decode cX7_startBy 22 = .ok (.iload_n 2, 1) := by decide +kernel
theorem dX7_startBy_23 : decode cX7_startBy 23 = .ok (.ireturn, 1) := by decide +kernel
set_option maxRecDepth 20000 in
theorem ggX7_segments_X7_countSegments : GoodIn wsX7_segments wsX7_countSegments := goodIn_r _ [6, 7, 8, 9, 10, 11, 5, 12, 13, 14, 15, 16, 17, 18, 19, 20, 21, 22, 23, 24, 25, 26, 27, 28, 29, 30, 31, 32, 33, 34, 35, 36, 37, 38, 39, 40, 41, 42, 43, 44, 45, 46, 47, 48, 49, 50, 51, 52, 53, 54, 55, 56, 57, 58, 59, 60, 61, 62, 63, 64, 65, 66, 67, 68, 69] (by decide +kernel) (by decide +kernel)
set_option maxRecDepth 20000 in
theorem gX7_segments_X7_countSegments : GoodIn wsX7_segments (wsV RX7 115 RX7 yX7_countSegments wsX7_countSegments) := goodIn_app (goodIn_of _ (by decide +kernel)) ggX7_segments_X7_countSegments
theorem dX7_segments_0 : decode cX7_segments 0 = .ok (.aload_n 0, 1) := by decide +kernel
theorem dX7_segments_1 : decode cX7_segments 1 = .ok (.iconst 0, 1) := by decide +kernel
theorem dX7_segments_2 : decode cX7_segments 2 = .ok (.putfield 57, 3) := by decide +kernel
theorem dX7_segments_5 : decode cX7_segments 5 = .ok (.aload_n 0, 1) := by decide +kernel
theorem dX7_segments_6 : decode cX7_segments 6 = .ok (.invokevirtual 115, 3) := by decide +kernel
theorem dX7_segments_9 : decode cX7_segments 9 = .ok (.ireturn, 1) := by decide +kernel
set_option maxRecDepth 20000 in
theorem ggX7_startOf_X7_countSegments : GoodIn wsX7_startOf wsX7_countSegments := goodIn_r _ [6, 7, 8, 9, 10, 11, 5, 12, 13, 14, 15, 16, 17, 18, 19, 20, 21, 22, 23, 24, 25, 26, 27, 28, 29, 30, 31, 32, 33, 34, 35, 36, 37, 38, 39, 40, 41, 42, 43, 44, 45, 46, 47, 48, 49, 61, 62, 63, 64, 65, 66, 67, 68, 69, 70, 71, 72, 73, 74, 75, 76, 77, 78, 79, 80] (by decide +kernel) (by decide +kernel)
set_option maxRecDepth 20000 in
theorem gX7_startOf_X7_countSegments : GoodIn wsX7_startOf (wsV RX7 115 RX7 yX7_countSegments wsX7_countSegments) := goodIn_app (goodIn_of _ (by decide +kernel)) ggX7_startOf_X7_countSegments
set_option maxRecDepth 20000 in
theorem ggX7_startOf_X7_in : GoodIn wsX7_startOf wsX7_in := goodIn_r _ [52] (by decide +kernel) (by decide +kernel)
set_option maxRecDepth 20000 in
theorem gX7_startOf_X7_in : GoodIn wsX7_startOf (va_wsS RX7 63 yX7_in wsX7_in) := goodIn_app (goodIn_of _ (by decide +kernel)) ggX7_startOf_X7_in
set_option maxRecDepth 20000 in
theorem ggX7_startOf_X7_startBy : GoodIn wsX7_startOf wsX7_startBy := goodIn_r _ [56, 8, 61, 62, 63, 64, 65, 66, 67, 68, 69, 70, 71, 72, 73, 74, 75, 76, 77, 78, 79, 80] (by decide +kernel) (by decide +kernel)
set_option maxRecDepth 20000 in
theorem gX7_startOf_X7_startBy : GoodIn wsX7_startOf (wsV RX7 118 RX7 yX7_startBy wsX7_startBy) := goodIn_app (goodIn_of _ (by decide +kernel)) ggX7_startOf_X7_startBy
set_option maxRecDepth 20000 in
theorem ggX7_startOf_X7_fails : GoodIn wsX7_startOf wsX7_fails := goodIn_r _ [60, 1, 61, 62, 63, 64, 65, 66, 67, 68, 69, 70, 71, 72, 73, 74, 75, 76, 77, 78, 79, 80] (by decide +kernel) (by decide +kernel)
set_option maxRecDepth 20000 in
theorem gX7_startOf_X7_fails : GoodIn wsX7_startOf (wsV RX7 108 RX7 yX7_fails wsX7_fails) := goodIn_app (goodIn_of _ (by decide +kernel)) ggX7_startOf_X7_fails
theorem dX7_startOf_0 : decode cX7_startOf 0 = .ok (.aload_n 0, 1) := by decide +kernel
theorem dX7_startOf_1 : decode cX7_startOf 1 = .ok (.iconst 0, 1) := by decide +kernel
theorem dX7_startOf_2 : decode cX7_startOf 2 = .ok (.putfield 57, 3) := by decide +kernel
theorem dX7_startOf_5 : decode cX7_startOf 5 = .ok (.iload_n 1, 1) := by decide +kernel
theorem dX7_startOf_6 : decode cX7_startOf 6 = .ok (.iconst 0, 1) := by decide +kernel
theorem dX7_startOf_7 : decode cX7_startOf 7 = .ok (.aload_n 0, 1) := by decide +kernel
theorem dX7_startOf_8 : decode cX7_startOf 8 = .ok (.invokevirtual 115, 3) := by decide +kernel
theorem dX7_startOf_11 : decode cX7_startOf 11 = .ok (.iconst 1, 1) := by decide +kernel
theorem dX7_startOf_12 : decode cX7_startOf 12 = .ok (.isub, 1) := by decide +kernel
theorem dX7_startOf_13 : decode cX7_startOf 13 = .ok (.invokestatic 63, 3) := by decide +kernel
theorem dX7_startOf_16 : decode cX7_startOf 16 = .ok (.ifCond .eq 11, 3) := by decide +kernel
theorem dX7_startOf_19 : decode cX7_startOf 19 = .ok (.aload_n 0, 1) := by decide +kernel
theorem dX7_startOf_20 : decode cX7_startOf 20 = .ok (.iload_n 1, 1) := by decide +kernel
theorem dX7_startOf_21 : decode cX7_startOf 21 = .ok (.invokevirtual 118, 3) := by decide +kernel
theorem dX7_startOf_24 : decode cX7_startOf 24 = .ok (.goto 8, 3) := by decide +kernel
theorem dX7_startOf_27 : decode cX7_startOf 27 = .ok (.aload_n 0, 1) := by decide +kernel
theorem dX7_startOf_28 : decode cX7_startOf 28 = .ok (.iconst 1, 1) := by decide +kernel
theorem dX7_startOf_29 : decode cX7_startOf 29 = .ok (.invokevirtual 108, 3) := by decide +kernel
theorem dX7_startOf_32 : decode cX7_startOf 32 = .ok (.ireturn, 1) := by decide +kernel
set_option maxRecDepth 20000 in
theorem ggX7_levelOf_X7_countSegments : GoodIn wsX7_levelOf wsX7_countSegments := goodIn_r _ [8, 9, 3, 10, 11, 12, 7, 13, 14, 15, 16, 17, 18, 19, 20, 21, 22, 23, 24, 25, 26, 27, 28, 29, 30, 31, 32, 33, 34, 35, 36, 37, 38, 39, 40, 41, 42, 2, 43, 44, 45, 46, 47, 48, 49, 61, 62, 63, 64, 65, 66, 67, 68, 69, 70, 71, 72, 73, 74, 75, 76, 77, 78, 79, 80] (by decide +kernel) (by decide +kernel)
set_option maxRecDepth 20000 in
theorem gX7_levelOf_X7_countSegments : GoodIn wsX7_levelOf (wsV RX7 115 RX7 yX7_countSegments wsX7_countSegments) := goodIn_app (goodIn_of _ (by decide +kernel)) ggX7_levelOf_X7_countSegments
set_option maxRecDepth 20000 in
theorem ggX7_levelOf_X7_in : GoodIn wsX7_levelOf wsX7_in := goodIn_r _ [52] (by decide +kernel) (by decide +kernel)
set_option maxRecDepth 20000 in
theorem gX7_levelOf_X7_in : GoodIn wsX7_levelOf (va_wsS RX7 63 yX7_in wsX7_in) := goodIn_app (goodIn_of _ (by decide +kernel)) ggX7_levelOf_X7_in
set_option maxRecDepth 20000 in
theorem ggX7_levelOf_X7_fails : GoodIn wsX7_levelOf wsX7_fails := goodIn_r _ [56, 1, 61, 62, 63, 64, 65, 66, 67, 68, 69, 70, 71, 72, 73, 74, 75, 76, 77, 78, 79, 80] (by decide +kernel) (by decide +kernel)
set_option maxRecDepth 20000 in
theorem gX7_levelOf_X7_fails : GoodIn wsX7_levelOf (wsV RX7 108 RX7 yX7_fails wsX7_fails) := goodIn_app (goodIn_of _ (by decide +kernel)) ggX7_levelOf_X7_fails
set_option maxRecDepth 20000 in
theorem ggX7_levelOf_X7_startBy : GoodIn wsX7_levelOf wsX7_startBy := goodIn_r _ [60, 3, 61, 62, 63, 64, 65, 66, 67, 68, 69, 70, 71, 72, 73, 74, 75, 76, 77, 78, 79, 80] (by decide +kernel) (by decide +kernel)
set_option maxRecDepth 20000 in
theorem gX7_levelOf_X7_startBy : GoodIn wsX7_levelOf (wsV RX7 118 RX7 yX7_startBy wsX7_startBy) := goodIn_app (goodIn_of _ (by decide +kernel)) ggX7_levelOf_X7_startBy
theorem dX7_levelOf_0 : decode cX7_levelOf 0 = .ok (.aload_n 0, 1) := by decide +kernel
theorem dX7_levelOf_1 : decode cX7_levelOf 1 = .ok (.iconst 0, 1) := by decide +kernel
theorem dX7_levelOf_2 : decode cX7_levelOf 2 = .ok (.putfield 57, 3) := by decide +kernel
theorem dX7_levelOf_5 : decode cX7_levelOf 5 = .ok (.iload_n 1, 1) := by decide +kernel
theorem dX7_levelOf_6 : decode cX7_levelOf 6 = .ok (.iconst 0, 1) := by decide +kernel
theorem dX7_levelOf_7 : decode cX7_levelOf 7 = .ok (.aload_n 0, 1) := by decide +kernel
theorem dX7_levelOf_8 : decode cX7_levelOf 8 = .ok (.invokevirtual 115, 3) := by decide +kernel
theorem dX7_levelOf_11 : decode cX7_levelOf 11 = .ok (.iconst 1, 1) := by decide +kernel
theorem dX7_levelOf_12 : decode cX7_levelOf 12 = .ok (.isub, 1) := by decide +kernel
theorem dX7_levelOf_13 : decode cX7_levelOf 13 = .ok (.invokestatic 63, 3) := by decide +kernel
theorem dX7_levelOf_16 : decode cX7_levelOf 16 = .ok (.ifCond .ne 9, 3) := by decide +kernel
theorem dX7_levelOf_19 : decode cX7_levelOf 19 = .ok (.aload_n 0, 1) := by decide +kernel
theorem dX7_levelOf_20 : decode cX7_levelOf 20 = .ok (.iconst 1, 1) := by decide +kernel
theorem dX7_levelOf_21 : decode cX7_levelOf 21 = .ok (.invokevirtual 108, 3) := by decide +kernel
theorem dX7_levelOf_24 : decode cX7_levelOf 24 = .ok (.ireturn, 1) := by decide +kernel
theorem dX7_levelOf_25 : decode cX7_levelOf 25 = .ok (.aload_n 0, 1) := by decide +kernel
theorem dX7_levelOf_26 : decode cX7_levelOf 26 = .ok (.iload_n 1, 1) := by decide +kernel
theorem dX7_levelOf_27 : decode cX7_levelOf 27 = .ok (.invokevirtual 118, 3) := by decide +kernel
theorem dX7_levelOf_30 : decode cX7_levelOf 30 = .ok (.istore_n 2, 1) := by decide +kernel
theorem dX7_levelOf_31 : decode cX7_levelOf 31 = .ok (.aload_n 0, 1) := by decide +kernel
theorem dX7_levelOf_32 : decode cX7_levelOf 32 = .ok (.getfield 45, 3) := by decide +kernel
theorem dX7_levelOf_35 : decode cX7_levelOf 35 = .ok (.bipush 61, 2) := by decide +kernel
theorem dX7_levelOf_37 : decode cX7_levelOf 37 = .ok (.iload_n 2, 1) := by decide +kernel
theorem dX7_levelOf_38 : decode cX7_levelOf 38 = .ok (.imul, 1) := by decide +kernel
theorem dX7_levelOf_39 : decode cX7_levelOf 39 = .ok (.aload_n 0, 1) := by decide +kernel
theorem dX7_levelOf_40 : decode cX7_levelOf 40 = .ok (.getfield 51, 3) := by decide +kernel
theorem dX7_levelOf_43 : decode cX7_levelOf 43 = .ok (.iload_n 2, 1) := by decide +kernel
theorem dX7_levelOf_44 : decode cX7_levelOf 44 = .ok (.iaload, 1) := by decide +kernel
theorem dX7_levelOf_45 : decode cX7_levelOf 45 = .ok (.iadd, 1) := by decide +kernel
theorem dX7_levelOf_46 : decode cX7_levelOf 46 = .ok (.iaload, 1) := by decide +kernel
theorem dX7_levelOf_47 : decode cX7_levelOf 47 = .ok (.ireturn, 1) := by decide +kernel
set_option maxRecDepth 20000 in
theorem ggX7_cost_X7_layDivision : GoodIn wsX7_cost wsX7_layDivision := goodIn_r _ [7, 2, 8, 9, 10, 11, 12, 13, 14, 15, 16, 6, 17, 18, 19, 20, 21, 22, 23, 24, 25, 26, 27, 28, 29, 30, 31, 32, 33, 34, 35, 36, 37, 38, 39, 40, 41, 42, 43, 44, 45, 46, 47, 48, 49, 50, 51, 52, 53, 54, 55, 56, 57, 58, 59, 60, 61, 62, 63, 64, 65] (by decide +kernel) (by decide +kernel)
set_option maxRecDepth 20000 in
theorem gX7_cost_X7_layDivision : GoodIn wsX7_cost (wsV RX7 95 RX7 yX7_layDivision wsX7_layDivision) := goodIn_app (goodIn_of _ (by decide +kernel)) ggX7_cost_X7_layDivision
theorem dX7_cost_0 : decode cX7_cost 0 = .ok (.aload_n 0, 1) := by decide +kernel
theorem dX7_cost_1 : decode cX7_cost 1 = .ok (.iconst 0, 1) := by decide +kernel
theorem dX7_cost_2 : decode cX7_cost 2 = .ok (.putfield 57, 3) := by decide +kernel
theorem dX7_cost_5 : decode cX7_cost 5 = .ok (.aload_n 0, 1) := by decide +kernel
theorem dX7_cost_6 : decode cX7_cost 6 = .ok (.invokevirtual 95, 3) := by decide +kernel
theorem dX7_cost_9 : decode cX7_cost 9 = .ok (.aload_n 0, 1) := by decide +kernel
theorem dX7_cost_10 : decode cX7_cost 10 = .ok (.getfield 48, 3) := by decide +kernel
theorem dX7_cost_13 : decode cX7_cost 13 = .ok (.iconst 0, 1) := by decide +kernel
theorem dX7_cost_14 : decode cX7_cost 14 = .ok (.iaload, 1) := by decide +kernel
theorem dX7_cost_15 : decode cX7_cost 15 = .ok (.bipush 64, 2) := by decide +kernel
theorem dX7_cost_17 : decode cX7_cost 17 = .ok (.idiv, 1) := by decide +kernel
theorem dX7_cost_18 : decode cX7_cost 18 = .ok (.ireturn, 1) := by decide +kernel
set_option maxRecDepth 20000 in
theorem ggX7_costUncut_X7_layDivision : GoodIn wsX7_costUncut wsX7_layDivision := goodIn_r _ [8, 9, 2, 10, 11, 12, 3, 13, 14, 15, 16, 7, 17, 18, 19, 20, 21, 22, 23, 24, 25, 26, 27, 28, 29, 30, 31, 32, 33, 34, 35, 36, 37, 38, 39, 40, 41, 42, 43, 44, 45, 46, 47, 48, 49, 50, 51, 52, 53, 54, 55, 56, 57, 58, 59, 60, 61, 62, 63, 64, 65] (by decide +kernel) (by decide +kernel)
set_option maxRecDepth 20000 in
theorem gX7_costUncut_X7_layDivision : GoodIn wsX7_costUncut (wsV RX7 95 RX7 yX7_layDivision wsX7_layDivision) := goodIn_app (goodIn_of _ (by decide +kernel)) ggX7_costUncut_X7_layDivision
theorem dX7_costUncut_0 : decode cX7_costUncut 0 = .ok (.aload_n 0, 1) := by decide +kernel
theorem dX7_costUncut_1 : decode cX7_costUncut 1 = .ok (.iconst 0, 1) := by decide +kernel
theorem dX7_costUncut_2 : decode cX7_costUncut 2 = .ok (.putfield 57, 3) := by decide +kernel
theorem dX7_costUncut_5 : decode cX7_costUncut 5 = .ok (.aload_n 0, 1) := by decide +kernel
theorem dX7_costUncut_6 : decode cX7_costUncut 6 = .ok (.invokevirtual 95, 3) := by decide +kernel
theorem dX7_costUncut_9 : decode cX7_costUncut 9 = .ok (.aload_n 0, 1) := by decide +kernel
theorem dX7_costUncut_10 : decode cX7_costUncut 10 = .ok (.getfield 60, 3) := by decide +kernel
theorem dX7_costUncut_13 : decode cX7_costUncut 13 = .ok (.ifCond .ne 7, 3) := by decide +kernel
theorem dX7_costUncut_16 : decode cX7_costUncut 16 = .ok (.iconst 0, 1) := by decide +kernel
theorem dX7_costUncut_17 : decode cX7_costUncut 17 = .ok (.goto 12, 3) := by decide +kernel
theorem dX7_costUncut_20 : decode cX7_costUncut 20 = .ok (.aload_n 0, 1) := by decide +kernel
theorem dX7_costUncut_21 : decode cX7_costUncut 21 = .ok (.getfield 42, 3) := by decide +kernel
