/-! the instructions of the reference -/
theorem dX11_init_0 : decode m_X11_init.2.1 0 = .ok (.aload_n 0, 1) := by decide +kernel
theorem dX11_init_1 : decode m_X11_init.2.1 1 = .ok (.invokespecial 1, 3) := by decide +kernel
theorem dX11_init_4 : decode m_X11_init.2.1 4 = .ok (.aload_n 0, 1) := by decide +kernel
theorem dX11_init_5 : decode m_X11_init.2.1 5 = .ok (.sipush 2950, 3) := by decide +kernel
theorem dX11_init_8 : decode m_X11_init.2.1 8 = .ok (.newarray .int, 2) := by decide +kernel
theorem dX11_init_10 : decode m_X11_init.2.1 10 = .ok (.putfield 7, 3) := by decide +kernel
theorem dX11_init_13 : decode m_X11_init.2.1 13 = .ok (.aload_n 0, 1) := by decide +kernel
theorem dX11_init_14 : decode m_X11_init.2.1 14 = .ok (.sipush 2950, 3) := by decide +kernel
theorem dX11_init_17 : decode m_X11_init.2.1 17 = .ok (.newarray .int, 2) := by decide +kernel
theorem dX11_init_19 : decode m_X11_init.2.1 19 = .ok (.putfield 13, 3) := by decide +kernel
theorem dX11_init_22 : decode m_X11_init.2.1 22 = .ok (.aload_n 0, 1) := by decide +kernel
theorem dX11_init_23 : decode m_X11_init.2.1 23 = .ok (.sipush 2950, 3) := by decide +kernel
theorem dX11_init_26 : decode m_X11_init.2.1 26 = .ok (.newarray .int, 2) := by decide +kernel
theorem dX11_init_28 : decode m_X11_init.2.1 28 = .ok (.putfield 16, 3) := by decide +kernel
theorem dX11_init_31 : decode m_X11_init.2.1 31 = .ok (.aload_n 0, 1) := by decide +kernel
theorem dX11_init_32 : decode m_X11_init.2.1 32 = .ok (.iconst 4, 1) := by decide +kernel
theorem dX11_init_33 : decode m_X11_init.2.1 33 = .ok (.newarray .int, 2) := by decide +kernel
theorem dX11_init_35 : decode m_X11_init.2.1 35 = .ok (.putfield 19, 3) := by decide +kernel
theorem dX11_init_38 : decode m_X11_init.2.1 38 = .ok (.aload_n 0, 1) := by decide +kernel
theorem dX11_init_39 : decode m_X11_init.2.1 39 = .ok (.iconst 4, 1) := by decide +kernel
theorem dX11_init_40 : decode m_X11_init.2.1 40 = .ok (.newarray .int, 2) := by decide +kernel
theorem dX11_init_42 : decode m_X11_init.2.1 42 = .ok (.putfield 22, 3) := by decide +kernel
theorem dX11_init_45 : decode m_X11_init.2.1 45 = .ok (.aload_n 0, 1) := by decide +kernel
theorem dX11_init_46 : decode m_X11_init.2.1 46 = .ok (.bipush 96, 2) := by decide +kernel
theorem dX11_init_48 : decode m_X11_init.2.1 48 = .ok (.newarray .int, 2) := by decide +kernel
theorem dX11_init_50 : decode m_X11_init.2.1 50 = .ok (.putfield 25, 3) := by decide +kernel
theorem dX11_init_53 : decode m_X11_init.2.1 53 = .ok (.aload_n 0, 1) := by decide +kernel
theorem dX11_init_54 : decode m_X11_init.2.1 54 = .ok (.iconst 5, 1) := by decide +kernel
theorem dX11_init_55 : decode m_X11_init.2.1 55 = .ok (.newarray .int, 2) := by decide +kernel
theorem dX11_init_57 : decode m_X11_init.2.1 57 = .ok (.putfield 28, 3) := by decide +kernel
theorem dX11_init_60 : decode m_X11_init.2.1 60 = .ok (.aload_n 0, 1) := by decide +kernel
theorem dX11_init_61 : decode m_X11_init.2.1 61 = .ok (.iconst 5, 1) := by decide +kernel
theorem dX11_init_62 : decode m_X11_init.2.1 62 = .ok (.newarray .int, 2) := by decide +kernel
theorem dX11_init_64 : decode m_X11_init.2.1 64 = .ok (.putfield 31, 3) := by decide +kernel
theorem dX11_init_67 : decode m_X11_init.2.1 67 = .ok (.aload_n 0, 1) := by decide +kernel
theorem dX11_init_68 : decode m_X11_init.2.1 68 = .ok (.iconst 5, 1) := by decide +kernel
theorem dX11_init_69 : decode m_X11_init.2.1 69 = .ok (.newarray .int, 2) := by decide +kernel
theorem dX11_init_71 : decode m_X11_init.2.1 71 = .ok (.putfield 34, 3) := by decide +kernel
theorem dX11_init_74 : decode m_X11_init.2.1 74 = .ok (.aload_n 0, 1) := by decide +kernel
theorem dX11_init_75 : decode m_X11_init.2.1 75 = .ok (.iconst 5, 1) := by decide +kernel
theorem dX11_init_76 : decode m_X11_init.2.1 76 = .ok (.newarray .int, 2) := by decide +kernel
theorem dX11_init_78 : decode m_X11_init.2.1 78 = .ok (.putfield 37, 3) := by decide +kernel
theorem dX11_init_81 : decode m_X11_init.2.1 81 = .ok (.aload_n 0, 1) := by decide +kernel
theorem dX11_init_82 : decode m_X11_init.2.1 82 = .ok (.bipush 120, 2) := by decide +kernel
theorem dX11_init_84 : decode m_X11_init.2.1 84 = .ok (.newarray .int, 2) := by decide +kernel
theorem dX11_init_86 : decode m_X11_init.2.1 86 = .ok (.putfield 40, 3) := by decide +kernel
theorem dX11_init_89 : decode m_X11_init.2.1 89 = .ok (.aload_n 0, 1) := by decide +kernel
theorem dX11_init_90 : decode m_X11_init.2.1 90 = .ok (.iconst 5, 1) := by decide +kernel
theorem dX11_init_91 : decode m_X11_init.2.1 91 = .ok (.newarray .long, 2) := by decide +kernel
theorem dX11_init_93 : decode m_X11_init.2.1 93 = .ok (.putfield 43, 3) := by decide +kernel
theorem dX11_init_96 : decode m_X11_init.2.1 96 = .ok (.aload_n 0, 1) := by decide +kernel
theorem dX11_init_97 : decode m_X11_init.2.1 97 = .ok (.iconst 5, 1) := by decide +kernel
theorem dX11_init_98 : decode m_X11_init.2.1 98 = .ok (.newarray .int, 2) := by decide +kernel
theorem dX11_init_100 : decode m_X11_init.2.1 100 = .ok (.putfield 47, 3) := by decide +kernel
theorem dX11_init_103 : decode m_X11_init.2.1 103 = .ok (.aload_n 0, 1) := by decide +kernel
theorem dX11_init_104 : decode m_X11_init.2.1 104 = .ok (.iconst 5, 1) := by decide +kernel
theorem dX11_init_105 : decode m_X11_init.2.1 105 = .ok (.newarray .long, 2) := by decide +kernel
theorem dX11_init_107 : decode m_X11_init.2.1 107 = .ok (.putfield 50, 3) := by decide +kernel
theorem dX11_init_110 : decode m_X11_init.2.1 110 = .ok (.aload_n 0, 1) := by decide +kernel
theorem dX11_init_111 : decode m_X11_init.2.1 111 = .ok (.iconst 5, 1) := by decide +kernel
theorem dX11_init_112 : decode m_X11_init.2.1 112 = .ok (.newarray .int, 2) := by decide +kernel
theorem dX11_init_114 : decode m_X11_init.2.1 114 = .ok (.putfield 53, 3) := by decide +kernel
theorem dX11_init_117 : decode m_X11_init.2.1 117 = .ok (.aload_n 0, 1) := by decide +kernel
theorem dX11_init_118 : decode m_X11_init.2.1 118 = .ok (.iconst 5, 1) := by decide +kernel
theorem dX11_init_119 : decode m_X11_init.2.1 119 = .ok (.newarray .int, 2) := by decide +kernel
theorem dX11_init_121 : decode m_X11_init.2.1 121 = .ok (.putfield 56, 3) := by decide +kernel
theorem dX11_init_124 : decode m_X11_init.2.1 124 = .ok (.aload_n 0, 1) := by decide +kernel
theorem dX11_init_125 : decode m_X11_init.2.1 125 = .ok (.bipush 96, 2) := by decide +kernel
theorem dX11_init_127 : decode m_X11_init.2.1 127 = .ok (.newarray .int, 2) := by decide +kernel
theorem dX11_init_129 : decode m_X11_init.2.1 129 = .ok (.putfield 59, 3) := by decide +kernel
theorem dX11_init_132 : decode m_X11_init.2.1 132 = .ok (.aload_n 0, 1) := by decide +kernel
theorem dX11_init_133 : decode m_X11_init.2.1 133 = .ok (.sipush 128, 3) := by decide +kernel
theorem dX11_init_136 : decode m_X11_init.2.1 136 = .ok (.newarray .int, 2) := by decide +kernel
theorem dX11_init_138 : decode m_X11_init.2.1 138 = .ok (.putfield 62, 3) := by decide +kernel
theorem dX11_init_141 : decode m_X11_init.2.1 141 = .ok (.aload_n 0, 1) := by decide +kernel
theorem dX11_init_142 : decode m_X11_init.2.1 142 = .ok (.bipush 100, 2) := by decide +kernel
theorem dX11_init_144 : decode m_X11_init.2.1 144 = .ok (.newarray .int, 2) := by decide +kernel
theorem dX11_init_146 : decode m_X11_init.2.1 146 = .ok (.putfield 65, 3) := by decide +kernel
theorem dX11_init_149 : decode m_X11_init.2.1 149 = .ok (.aload_n 0, 1) := by decide +kernel
theorem dX11_init_150 : decode m_X11_init.2.1 150 = .ok (.bipush 24, 2) := by decide +kernel
theorem dX11_init_152 : decode m_X11_init.2.1 152 = .ok (.newarray .int, 2) := by decide +kernel
theorem dX11_init_154 : decode m_X11_init.2.1 154 = .ok (.putfield 68, 3) := by decide +kernel
theorem dX11_init_157 : decode m_X11_init.2.1 157 = .ok (.aload_n 0, 1) := by decide +kernel
theorem dX11_init_158 : decode m_X11_init.2.1 158 = .ok (.bipush 60, 2) := by decide +kernel
theorem dX11_init_160 : decode m_X11_init.2.1 160 = .ok (.newarray .int, 2) := by decide +kernel
theorem dX11_init_162 : decode m_X11_init.2.1 162 = .ok (.putfield 71, 3) := by decide +kernel
theorem dX11_init_165 : decode m_X11_init.2.1 165 = .ok (.aload_n 0, 1) := by decide +kernel
theorem dX11_init_166 : decode m_X11_init.2.1 166 = .ok (.bipush 60, 2) := by decide +kernel
theorem dX11_init_168 : decode m_X11_init.2.1 168 = .ok (.newarray .int, 2) := by decide +kernel
theorem dX11_init_170 : decode m_X11_init.2.1 170 = .ok (.putfield 74, 3) := by decide +kernel
theorem dX11_init_173 : decode m_X11_init.2.1 173 = .ok (.aload_n 0, 1) := by decide +kernel
theorem dX11_init_174 : decode m_X11_init.2.1 174 = .ok (.getfield 7, 3) := by decide +kernel
theorem dX11_init_177 : decode m_X11_init.2.1 177 = .ok (.bipush 6, 2) := by decide +kernel
theorem dX11_init_179 : decode m_X11_init.2.1 179 = .ok (.bipush 60, 2) := by decide +kernel
theorem dX11_init_181 : decode m_X11_init.2.1 181 = .ok (.iastore, 1) := by decide +kernel
theorem dX11_init_182 : decode m_X11_init.2.1 182 = .ok (.aload_n 0, 1) := by decide +kernel
theorem dX11_init_183 : decode m_X11_init.2.1 183 = .ok (.getfield 7, 3) := by decide +kernel
theorem dX11_init_186 : decode m_X11_init.2.1 186 = .ok (.bipush 7, 2) := by decide +kernel
theorem dX11_init_188 : decode m_X11_init.2.1 188 = .ok (.bipush 100, 2) := by decide +kernel
theorem dX11_init_190 : decode m_X11_init.2.1 190 = .ok (.iastore, 1) := by decide +kernel
theorem dX11_init_191 : decode m_X11_init.2.1 191 = .ok (.aload_n 0, 1) := by decide +kernel
theorem dX11_init_192 : decode m_X11_init.2.1 192 = .ok (.getfield 7, 3) := by decide +kernel
theorem dX11_init_195 : decode m_X11_init.2.1 195 = .ok (.bipush 8, 2) := by decide +kernel
theorem dX11_init_197 : decode m_X11_init.2.1 197 = .ok (.bipush 60, 2) := by decide +kernel
theorem dX11_init_199 : decode m_X11_init.2.1 199 = .ok (.iastore, 1) := by decide +kernel
theorem dX11_init_200 : decode m_X11_init.2.1 200 = .ok (.iconst 0, 1) := by decide +kernel
theorem dX11_init_201 : decode m_X11_init.2.1 201 = .ok (.istore_n 1, 1) := by decide +kernel
theorem dX11_init_202 : decode m_X11_init.2.1 202 = .ok (.iload_n 1, 1) := by decide +kernel
theorem dX11_init_203 : decode m_X11_init.2.1 203 = .ok (.iconst 4, 1) := by decide +kernel
theorem dX11_init_204 : decode m_X11_init.2.1 204 = .ok (.if_icmp .ge 16, 3) := by decide +kernel
theorem dX11_init_207 : decode m_X11_init.2.1 207 = .ok (.aload_n 0, 1) := by decide +kernel
theorem dX11_init_208 : decode m_X11_init.2.1 208 = .ok (.getfield 19, 3) := by decide +kernel
theorem dX11_init_211 : decode m_X11_init.2.1 211 = .ok (.iload_n 1, 1) := by decide +kernel
theorem dX11_init_212 : decode m_X11_init.2.1 212 = .ok (.iconst (-1), 1) := by decide +kernel
theorem dX11_init_213 : decode m_X11_init.2.1 213 = .ok (.iastore, 1) := by decide +kernel
theorem dX11_init_214 : decode m_X11_init.2.1 214 = .ok (.iinc 1 1, 3) := by decide +kernel
theorem dX11_init_217 : decode m_X11_init.2.1 217 = .ok (.goto (-15), 3) := by decide +kernel
theorem dX11_init_220 : decode m_X11_init.2.1 220 = .ok (.return_, 1) := by decide +kernel
theorem dX11_isIn_0 : decode m_X11_isIn.2.1 0 = .ok (.lload_n 0, 1) := by decide +kernel
theorem dX11_isIn_1 : decode m_X11_isIn.2.1 1 = .ok (.lload_n 2, 1) := by decide +kernel
theorem dX11_isIn_2 : decode m_X11_isIn.2.1 2 = .ok (.lcmp, 1) := by decide +kernel
theorem dX11_isIn_3 : decode m_X11_isIn.2.1 3 = .ok (.ifCond .lt 14, 3) := by decide +kernel
theorem dX11_isIn_6 : decode m_X11_isIn.2.1 6 = .ok (.lload_n 0, 1) := by decide +kernel
theorem dX11_isIn_7 : decode m_X11_isIn.2.1 7 = .ok (.lload 4, 2) := by decide +kernel
theorem dX11_isIn_9 : decode m_X11_isIn.2.1 9 = .ok (.lcmp, 1) := by decide +kernel
theorem dX11_isIn_10 : decode m_X11_isIn.2.1 10 = .ok (.ifCond .gt 7, 3) := by decide +kernel
theorem dX11_isIn_13 : decode m_X11_isIn.2.1 13 = .ok (.iconst 1, 1) := by decide +kernel
theorem dX11_isIn_14 : decode m_X11_isIn.2.1 14 = .ok (.goto 4, 3) := by decide +kernel
theorem dX11_isIn_17 : decode m_X11_isIn.2.1 17 = .ok (.iconst 0, 1) := by decide +kernel
theorem dX11_isIn_18 : decode m_X11_isIn.2.1 18 = .ok (.ireturn, 1) := by decide +kernel
theorem dX11_orNone_0 : decode m_X11_orNone.2.1 0 = .ok (.iload_n 0, 1) := by decide +kernel
theorem dX11_orNone_1 : decode m_X11_orNone.2.1 1 = .ok (.ifCond .ge 8, 3) := by decide +kernel
theorem dX11_orNone_4 : decode m_X11_orNone.2.1 4 = .ok (.ldc 77, 2) := by decide +kernel
theorem dX11_orNone_6 : decode m_X11_orNone.2.1 6 = .ok (.goto 4, 3) := by decide +kernel
theorem dX11_orNone_9 : decode m_X11_orNone.2.1 9 = .ok (.iload_n 0, 1) := by decide +kernel
theorem dX11_orNone_10 : decode m_X11_orNone.2.1 10 = .ok (.ireturn, 1) := by decide +kernel
theorem dX11_least_0 : decode m_X11_least.2.1 0 = .ok (.iload_n 0, 1) := by decide +kernel
theorem dX11_least_1 : decode m_X11_least.2.1 1 = .ok (.iload_n 1, 1) := by decide +kernel
theorem dX11_least_2 : decode m_X11_least.2.1 2 = .ok (.if_icmp .ge 7, 3) := by decide +kernel
theorem dX11_least_5 : decode m_X11_least.2.1 5 = .ok (.iload_n 0, 1) := by decide +kernel
theorem dX11_least_6 : decode m_X11_least.2.1 6 = .ok (.goto 4, 3) := by decide +kernel
theorem dX11_least_9 : decode m_X11_least.2.1 9 = .ok (.iload_n 1, 1) := by decide +kernel
theorem dX11_least_10 : decode m_X11_least.2.1 10 = .ok (.ireturn, 1) := by decide +kernel
theorem dX11_heldIn_0 : decode m_X11_heldIn.2.1 0 = .ok (.iload_n 0, 1) := by decide +kernel
theorem dX11_heldIn_1 : decode m_X11_heldIn.2.1 1 = .ok (.ifCond .ge 7, 3) := by decide +kernel
theorem dX11_heldIn_4 : decode m_X11_heldIn.2.1 4 = .ok (.iconst 0, 1) := by decide +kernel
theorem dX11_heldIn_5 : decode m_X11_heldIn.2.1 5 = .ok (.goto 13, 3) := by decide +kernel
theorem dX11_heldIn_8 : decode m_X11_heldIn.2.1 8 = .ok (.iload_n 0, 1) := by decide +kernel
theorem dX11_heldIn_9 : decode m_X11_heldIn.2.1 9 = .ok (.iload_n 1, 1) := by decide +kernel
theorem dX11_heldIn_10 : decode m_X11_heldIn.2.1 10 = .ok (.if_icmp .le 7, 3) := by decide +kernel
theorem dX11_heldIn_13 : decode m_X11_heldIn.2.1 13 = .ok (.iload_n 1, 1) := by decide +kernel
theorem dX11_heldIn_14 : decode m_X11_heldIn.2.1 14 = .ok (.goto 4, 3) := by decide +kernel
theorem dX11_heldIn_17 : decode m_X11_heldIn.2.1 17 = .ok (.iload_n 0, 1) := by decide +kernel
theorem dX11_heldIn_18 : decode m_X11_heldIn.2.1 18 = .ok (.ireturn, 1) := by decide +kernel
theorem dX11_becomes_0 : decode m_X11_becomes.2.1 0 = .ok (.aload_n 0, 1) := by decide +kernel
theorem dX11_becomes_1 : decode m_X11_becomes.2.1 1 = .ok (.getfield 7, 3) := by decide +kernel
theorem dX11_becomes_4 : decode m_X11_becomes.2.1 4 = .ok (.iload_n 1, 1) := by decide +kernel
theorem dX11_becomes_5 : decode m_X11_becomes.2.1 5 = .ok (.iaload, 1) := by decide +kernel
theorem dX11_becomes_6 : decode m_X11_becomes.2.1 6 = .ok (.istore_n 3, 1) := by decide +kernel
theorem dX11_becomes_7 : decode m_X11_becomes.2.1 7 = .ok (.aload_n 0, 1) := by decide +kernel
theorem dX11_becomes_8 : decode m_X11_becomes.2.1 8 = .ok (.getfield 7, 3) := by decide +kernel
theorem dX11_becomes_11 : decode m_X11_becomes.2.1 11 = .ok (.iload_n 1, 1) := by decide +kernel
theorem dX11_becomes_12 : decode m_X11_becomes.2.1 12 = .ok (.iload_n 2, 1) := by decide +kernel
theorem dX11_becomes_13 : decode m_X11_becomes.2.1 13 = .ok (.iastore, 1) := by decide +kernel
theorem dX11_becomes_14 : decode m_X11_becomes.2.1 14 = .ok (.iload_n 3, 1) := by decide +kernel
theorem dX11_becomes_15 : decode m_X11_becomes.2.1 15 = .ok (.ireturn, 1) := by decide +kernel
theorem dX11_binAt_0 : decode m_X11_binAt.2.1 0 = .ok (.bipush 20, 2) := by decide +kernel
theorem dX11_binAt_2 : decode m_X11_binAt.2.1 2 = .ok (.iconst 5, 1) := by decide +kernel
theorem dX11_binAt_3 : decode m_X11_binAt.2.1 3 = .ok (.iload_n 1, 1) := by decide +kernel
theorem dX11_binAt_4 : decode m_X11_binAt.2.1 4 = .ok (.imul, 1) := by decide +kernel
theorem dX11_binAt_5 : decode m_X11_binAt.2.1 5 = .ok (.iadd, 1) := by decide +kernel
theorem dX11_binAt_6 : decode m_X11_binAt.2.1 6 = .ok (.ireturn, 1) := by decide +kernel
theorem dX11_layerAt_0 : decode m_X11_layerAt.2.1 0 = .ok (.bipush 60, 2) := by decide +kernel
theorem dX11_layerAt_2 : decode m_X11_layerAt.2.1 2 = .ok (.bipush 10, 2) := by decide +kernel
theorem dX11_layerAt_4 : decode m_X11_layerAt.2.1 4 = .ok (.iload_n 1, 1) := by decide +kernel
theorem dX11_layerAt_5 : decode m_X11_layerAt.2.1 5 = .ok (.imul, 1) := by decide +kernel
theorem dX11_layerAt_6 : decode m_X11_layerAt.2.1 6 = .ok (.iadd, 1) := by decide +kernel
theorem dX11_layerAt_7 : decode m_X11_layerAt.2.1 7 = .ok (.ireturn, 1) := by decide +kernel
theorem dX11_ladleAt_0 : decode m_X11_ladleAt.2.1 0 = .ok (.sipush 320, 3) := by decide +kernel
theorem dX11_ladleAt_3 : decode m_X11_ladleAt.2.1 3 = .ok (.iconst 2, 1) := by decide +kernel
theorem dX11_ladleAt_4 : decode m_X11_ladleAt.2.1 4 = .ok (.iload_n 1, 1) := by decide +kernel
theorem dX11_ladleAt_5 : decode m_X11_ladleAt.2.1 5 = .ok (.imul, 1) := by decide +kernel
theorem dX11_ladleAt_6 : decode m_X11_ladleAt.2.1 6 = .ok (.iadd, 1) := by decide +kernel
theorem dX11_ladleAt_7 : decode m_X11_ladleAt.2.1 7 = .ok (.ireturn, 1) := by decide +kernel
theorem dX11_textAt_0 : decode m_X11_textAt.2.1 0 = .ok (.sipush 340, 3) := by decide +kernel
theorem dX11_textAt_3 : decode m_X11_textAt.2.1 3 = .ok (.sipush 200, 3) := by decide +kernel
theorem dX11_textAt_6 : decode m_X11_textAt.2.1 6 = .ok (.iload_n 1, 1) := by decide +kernel
theorem dX11_textAt_7 : decode m_X11_textAt.2.1 7 = .ok (.imul, 1) := by decide +kernel
theorem dX11_textAt_8 : decode m_X11_textAt.2.1 8 = .ok (.iadd, 1) := by decide +kernel
theorem dX11_textAt_9 : decode m_X11_textAt.2.1 9 = .ok (.ireturn, 1) := by decide +kernel
theorem dX11_isBin_0 : decode m_X11_isBin.2.1 0 = .ok (.iload_n 1, 1) := by decide +kernel
theorem dX11_isBin_1 : decode m_X11_isBin.2.1 1 = .ok (.i2l, 1) := by decide +kernel
theorem dX11_isBin_2 : decode m_X11_isBin.2.1 2 = .ok (.lconst 0, 1) := by decide +kernel
theorem dX11_isBin_3 : decode m_X11_isBin.2.1 3 = .ok (.aload_n 0, 1) := by decide +kernel
theorem dX11_isBin_4 : decode m_X11_isBin.2.1 4 = .ok (.getfield 7, 3) := by decide +kernel
theorem dX11_isBin_7 : decode m_X11_isBin.2.1 7 = .ok (.iconst 0, 1) := by decide +kernel
theorem dX11_isBin_8 : decode m_X11_isBin.2.1 8 = .ok (.iaload, 1) := by decide +kernel
theorem dX11_isBin_9 : decode m_X11_isBin.2.1 9 = .ok (.iconst 1, 1) := by decide +kernel
theorem dX11_isBin_10 : decode m_X11_isBin.2.1 10 = .ok (.isub, 1) := by decide +kernel
theorem dX11_isBin_11 : decode m_X11_isBin.2.1 11 = .ok (.i2l, 1) := by decide +kernel
theorem dX11_isBin_12 : decode m_X11_isBin.2.1 12 = .ok (.invokestatic 78, 3) := by decide +kernel
theorem dX11_isBin_15 : decode m_X11_isBin.2.1 15 = .ok (.ireturn, 1) := by decide +kernel
theorem dX11_isText_0 : decode m_X11_isText.2.1 0 = .ok (.iload_n 1, 1) := by decide +kernel
theorem dX11_isText_1 : decode m_X11_isText.2.1 1 = .ok (.i2l, 1) := by decide +kernel
theorem dX11_isText_2 : decode m_X11_isText.2.1 2 = .ok (.lconst 0, 1) := by decide +kernel
theorem dX11_isText_3 : decode m_X11_isText.2.1 3 = .ok (.aload_n 0, 1) := by decide +kernel
theorem dX11_isText_4 : decode m_X11_isText.2.1 4 = .ok (.getfield 7, 3) := by decide +kernel
theorem dX11_isText_7 : decode m_X11_isText.2.1 7 = .ok (.iconst 2, 1) := by decide +kernel
theorem dX11_isText_8 : decode m_X11_isText.2.1 8 = .ok (.iaload, 1) := by decide +kernel
theorem dX11_isText_9 : decode m_X11_isText.2.1 9 = .ok (.iconst 1, 1) := by decide +kernel
theorem dX11_isText_10 : decode m_X11_isText.2.1 10 = .ok (.isub, 1) := by decide +kernel
theorem dX11_isText_11 : decode m_X11_isText.2.1 11 = .ok (.i2l, 1) := by decide +kernel
theorem dX11_isText_12 : decode m_X11_isText.2.1 12 = .ok (.invokestatic 78, 3) := by decide +kernel
theorem dX11_isText_15 : decode m_X11_isText.2.1 15 = .ok (.ireturn, 1) := by decide +kernel
theorem dX11_bulkOf_0 : decode m_X11_bulkOf.2.1 0 = .ok (.iload_n 0, 1) := by decide +kernel
theorem dX11_bulkOf_1 : decode m_X11_bulkOf.2.1 1 = .ok (.iconst 1, 1) := by decide +kernel
theorem dX11_bulkOf_2 : decode m_X11_bulkOf.2.1 2 = .ok (.if_icmp .eq 8, 3) := by decide +kernel
theorem dX11_bulkOf_5 : decode m_X11_bulkOf.2.1 5 = .ok (.iload_n 0, 1) := by decide +kernel
theorem dX11_bulkOf_6 : decode m_X11_bulkOf.2.1 6 = .ok (.iconst 3, 1) := by decide +kernel
theorem dX11_bulkOf_7 : decode m_X11_bulkOf.2.1 7 = .ok (.if_icmp .ne 11, 3) := by decide +kernel
theorem dX11_bulkOf_10 : decode m_X11_bulkOf.2.1 10 = .ok (.iload_n 1, 1) := by decide +kernel
theorem dX11_bulkOf_11 : decode m_X11_bulkOf.2.1 11 = .ok (.iload_n 1, 1) := by decide +kernel
theorem dX11_bulkOf_12 : decode m_X11_bulkOf.2.1 12 = .ok (.iconst 4, 1) := by decide +kernel
theorem dX11_bulkOf_13 : decode m_X11_bulkOf.2.1 13 = .ok (.idiv, 1) := by decide +kernel
theorem dX11_bulkOf_14 : decode m_X11_bulkOf.2.1 14 = .ok (.isub, 1) := by decide +kernel
theorem dX11_bulkOf_15 : decode m_X11_bulkOf.2.1 15 = .ok (.goto 15, 3) := by decide +kernel
theorem dX11_bulkOf_18 : decode m_X11_bulkOf.2.1 18 = .ok (.iload_n 0, 1) := by decide +kernel
theorem dX11_bulkOf_19 : decode m_X11_bulkOf.2.1 19 = .ok (.iconst 2, 1) := by decide +kernel
theorem dX11_bulkOf_20 : decode m_X11_bulkOf.2.1 20 = .ok (.if_icmp .ne 9, 3) := by decide +kernel
theorem dX11_bulkOf_23 : decode m_X11_bulkOf.2.1 23 = .ok (.iconst 2, 1) := by decide +kernel
theorem dX11_bulkOf_24 : decode m_X11_bulkOf.2.1 24 = .ok (.iload_n 1, 1) := by decide +kernel
theorem dX11_bulkOf_25 : decode m_X11_bulkOf.2.1 25 = .ok (.imul, 1) := by decide +kernel
theorem dX11_bulkOf_26 : decode m_X11_bulkOf.2.1 26 = .ok (.goto 4, 3) := by decide +kernel
theorem dX11_bulkOf_29 : decode m_X11_bulkOf.2.1 29 = .ok (.iload_n 1, 1) := by decide +kernel
theorem dX11_bulkOf_30 : decode m_X11_bulkOf.2.1 30 = .ok (.ireturn, 1) := by decide +kernel
theorem dX11_ironOf_0 : decode m_X11_ironOf.2.1 0 = .ok (.iload_n 2, 1) := by decide +kernel
theorem dX11_ironOf_1 : decode m_X11_ironOf.2.1 1 = .ok (.iload_n 1, 1) := by decide +kernel
theorem dX11_ironOf_2 : decode m_X11_ironOf.2.1 2 = .ok (.imul, 1) := by decide +kernel
theorem dX11_ironOf_3 : decode m_X11_ironOf.2.1 3 = .ok (.bipush 100, 2) := by decide +kernel
theorem dX11_ironOf_5 : decode m_X11_ironOf.2.1 5 = .ok (.idiv, 1) := by decide +kernel
theorem dX11_ironOf_6 : decode m_X11_ironOf.2.1 6 = .ok (.iload_n 0, 1) := by decide +kernel
theorem dX11_ironOf_7 : decode m_X11_ironOf.2.1 7 = .ok (.iconst 3, 1) := by decide +kernel
theorem dX11_ironOf_8 : decode m_X11_ironOf.2.1 8 = .ok (.if_icmp .ne 10, 3) := by decide +kernel
theorem dX11_ironOf_11 : decode m_X11_ironOf.2.1 11 = .ok (.iload_n 2, 1) := by decide +kernel
theorem dX11_ironOf_12 : decode m_X11_ironOf.2.1 12 = .ok (.bipush 20, 2) := by decide +kernel
theorem dX11_ironOf_14 : decode m_X11_ironOf.2.1 14 = .ok (.idiv, 1) := by decide +kernel
theorem dX11_ironOf_15 : decode m_X11_ironOf.2.1 15 = .ok (.goto 4, 3) := by decide +kernel
theorem dX11_ironOf_18 : decode m_X11_ironOf.2.1 18 = .ok (.iconst 0, 1) := by decide +kernel
theorem dX11_ironOf_19 : decode m_X11_ironOf.2.1 19 = .ok (.isub, 1) := by decide +kernel
theorem dX11_ironOf_20 : decode m_X11_ironOf.2.1 20 = .ok (.istore_n 3, 1) := by decide +kernel
theorem dX11_ironOf_21 : decode m_X11_ironOf.2.1 21 = .ok (.iload_n 0, 1) := by decide +kernel
theorem dX11_ironOf_22 : decode m_X11_ironOf.2.1 22 = .ok (.iconst 1, 1) := by decide +kernel
theorem dX11_ironOf_23 : decode m_X11_ironOf.2.1 23 = .ok (.if_icmp .eq 8, 3) := by decide +kernel
theorem dX11_ironOf_26 : decode m_X11_ironOf.2.1 26 = .ok (.iload_n 0, 1) := by decide +kernel
theorem dX11_ironOf_27 : decode m_X11_ironOf.2.1 27 = .ok (.iconst 3, 1) := by decide +kernel
theorem dX11_ironOf_28 : decode m_X11_ironOf.2.1 28 = .ok (.if_icmp .ne 7, 3) := by decide +kernel
theorem dX11_ironOf_31 : decode m_X11_ironOf.2.1 31 = .ok (.iload_n 3, 1) := by decide +kernel
theorem dX11_ironOf_32 : decode m_X11_ironOf.2.1 32 = .ok (.ifCond .ge 7, 3) := by decide +kernel
theorem dX11_ironOf_35 : decode m_X11_ironOf.2.1 35 = .ok (.iconst 0, 1) := by decide +kernel
theorem dX11_ironOf_36 : decode m_X11_ironOf.2.1 36 = .ok (.goto 4, 3) := by decide +kernel
theorem dX11_ironOf_39 : decode m_X11_ironOf.2.1 39 = .ok (.iload_n 3, 1) := by decide +kernel
theorem dX11_ironOf_40 : decode m_X11_ironOf.2.1 40 = .ok (.ireturn, 1) := by decide +kernel
theorem dX11_acidOf_0 : decode m_X11_acidOf.2.1 0 = .ok (.iload_n 0, 1) := by decide +kernel
theorem dX11_acidOf_1 : decode m_X11_acidOf.2.1 1 = .ok (.iconst 5, 1) := by decide +kernel
theorem dX11_acidOf_2 : decode m_X11_acidOf.2.1 2 = .ok (.if_icmp .ne 5, 3) := by decide +kernel
theorem dX11_acidOf_5 : decode m_X11_acidOf.2.1 5 = .ok (.iconst 0, 1) := by decide +kernel
theorem dX11_acidOf_6 : decode m_X11_acidOf.2.1 6 = .ok (.ireturn, 1) := by decide +kernel
theorem dX11_acidOf_7 : decode m_X11_acidOf.2.1 7 = .ok (.iload_n 2, 1) := by decide +kernel
theorem dX11_acidOf_8 : decode m_X11_acidOf.2.1 8 = .ok (.bipush 10, 2) := by decide +kernel
theorem dX11_acidOf_10 : decode m_X11_acidOf.2.1 10 = .ok (.idiv, 1) := by decide +kernel
theorem dX11_acidOf_11 : decode m_X11_acidOf.2.1 11 = .ok (.iload_n 0, 1) := by decide +kernel
theorem dX11_acidOf_12 : decode m_X11_acidOf.2.1 12 = .ok (.iconst 1, 1) := by decide +kernel
theorem dX11_acidOf_13 : decode m_X11_acidOf.2.1 13 = .ok (.if_icmp .eq 8, 3) := by decide +kernel
theorem dX11_acidOf_16 : decode m_X11_acidOf.2.1 16 = .ok (.iload_n 0, 1) := by decide +kernel
theorem dX11_acidOf_17 : decode m_X11_acidOf.2.1 17 = .ok (.iconst 3, 1) := by decide +kernel
theorem dX11_acidOf_18 : decode m_X11_acidOf.2.1 18 = .ok (.if_icmp .ne 16, 3) := by decide +kernel
theorem dX11_acidOf_21 : decode m_X11_acidOf.2.1 21 = .ok (.iload_n 2, 1) := by decide +kernel
theorem dX11_acidOf_22 : decode m_X11_acidOf.2.1 22 = .ok (.iload_n 0, 1) := by decide +kernel
theorem dX11_acidOf_23 : decode m_X11_acidOf.2.1 23 = .ok (.iload_n 1, 1) := by decide +kernel
theorem dX11_acidOf_24 : decode m_X11_acidOf.2.1 24 = .ok (.iload_n 2, 1) := by decide +kernel
theorem dX11_acidOf_25 : decode m_X11_acidOf.2.1 25 = .ok (.invokestatic 82, 3) := by decide +kernel
theorem dX11_acidOf_28 : decode m_X11_acidOf.2.1 28 = .ok (.isub, 1) := by decide +kernel
theorem dX11_acidOf_29 : decode m_X11_acidOf.2.1 29 = .ok (.iconst 4, 1) := by decide +kernel
theorem dX11_acidOf_30 : decode m_X11_acidOf.2.1 30 = .ok (.idiv, 1) := by decide +kernel
theorem dX11_acidOf_31 : decode m_X11_acidOf.2.1 31 = .ok (.goto 4, 3) := by decide +kernel
theorem dX11_acidOf_34 : decode m_X11_acidOf.2.1 34 = .ok (.iconst 0, 1) := by decide +kernel
theorem dX11_acidOf_35 : decode m_X11_acidOf.2.1 35 = .ok (.iadd, 1) := by decide +kernel
theorem dX11_acidOf_36 : decode m_X11_acidOf.2.1 36 = .ok (.ireturn, 1) := by decide +kernel
theorem dX11_limeOf_0 : decode m_X11_limeOf.2.1 0 = .ok (.iload_n 0, 1) := by decide +kernel
theorem dX11_limeOf_1 : decode m_X11_limeOf.2.1 1 = .ok (.iconst 3, 1) := by decide +kernel
theorem dX11_limeOf_2 : decode m_X11_limeOf.2.1 2 = .ok (.if_icmp .ne 10, 3) := by decide +kernel
theorem dX11_limeOf_5 : decode m_X11_limeOf.2.1 5 = .ok (.iload_n 2, 1) := by decide +kernel
theorem dX11_limeOf_6 : decode m_X11_limeOf.2.1 6 = .ok (.bipush 8, 2) := by decide +kernel
theorem dX11_limeOf_8 : decode m_X11_limeOf.2.1 8 = .ok (.idiv, 1) := by decide +kernel
theorem dX11_limeOf_9 : decode m_X11_limeOf.2.1 9 = .ok (.goto 18, 3) := by decide +kernel
theorem dX11_limeOf_12 : decode m_X11_limeOf.2.1 12 = .ok (.iload_n 0, 1) := by decide +kernel
theorem dX11_limeOf_13 : decode m_X11_limeOf.2.1 13 = .ok (.iconst 5, 1) := by decide +kernel
theorem dX11_limeOf_14 : decode m_X11_limeOf.2.1 14 = .ok (.if_icmp .ne 12, 3) := by decide +kernel
theorem dX11_limeOf_17 : decode m_X11_limeOf.2.1 17 = .ok (.iload_n 2, 1) := by decide +kernel
theorem dX11_limeOf_18 : decode m_X11_limeOf.2.1 18 = .ok (.iload_n 1, 1) := by decide +kernel
theorem dX11_limeOf_19 : decode m_X11_limeOf.2.1 19 = .ok (.imul, 1) := by decide +kernel
theorem dX11_limeOf_20 : decode m_X11_limeOf.2.1 20 = .ok (.bipush 100, 2) := by decide +kernel
theorem dX11_limeOf_22 : decode m_X11_limeOf.2.1 22 = .ok (.idiv, 1) := by decide +kernel
theorem dX11_limeOf_23 : decode m_X11_limeOf.2.1 23 = .ok (.goto 4, 3) := by decide +kernel
theorem dX11_limeOf_26 : decode m_X11_limeOf.2.1 26 = .ok (.iconst 0, 1) := by decide +kernel
theorem dX11_limeOf_27 : decode m_X11_limeOf.2.1 27 = .ok (.ireturn, 1) := by decide +kernel
theorem dX11_holdsOf_0 : decode m_X11_holdsOf.2.1 0 = .ok (.iload_n 0, 1) := by decide +kernel
theorem dX11_holdsOf_1 : decode m_X11_holdsOf.2.1 1 = .ok (.tableswitch 37 1 4 #[31, 33, 33, 35], 31) := by decide +kernel
theorem dX11_holdsOf_32 : decode m_X11_holdsOf.2.1 32 = .ok (.iconst 3, 1) := by decide +kernel
theorem dX11_holdsOf_33 : decode m_X11_holdsOf.2.1 33 = .ok (.ireturn, 1) := by decide +kernel
theorem dX11_holdsOf_34 : decode m_X11_holdsOf.2.1 34 = .ok (.iconst 1, 1) := by decide +kernel
theorem dX11_holdsOf_35 : decode m_X11_holdsOf.2.1 35 = .ok (.ireturn, 1) := by decide +kernel
theorem dX11_holdsOf_36 : decode m_X11_holdsOf.2.1 36 = .ok (.iconst 5, 1) := by decide +kernel
theorem dX11_holdsOf_37 : decode m_X11_holdsOf.2.1 37 = .ok (.ireturn, 1) := by decide +kernel
theorem dX11_holdsOf_38 : decode m_X11_holdsOf.2.1 38 = .ok (.iconst 2, 1) := by decide +kernel
theorem dX11_holdsOf_39 : decode m_X11_holdsOf.2.1 39 = .ok (.ireturn, 1) := by decide +kernel
theorem dX11_brings_0 : decode m_X11_brings.2.1 0 = .ok (.aload_n 0, 1) := by decide +kernel
theorem dX11_brings_1 : decode m_X11_brings.2.1 1 = .ok (.getfield 7, 3) := by decide +kernel
theorem dX11_brings_4 : decode m_X11_brings.2.1 4 = .ok (.aload_n 0, 1) := by decide +kernel
theorem dX11_brings_5 : decode m_X11_brings.2.1 5 = .ok (.iload_n 1, 1) := by decide +kernel
theorem dX11_brings_6 : decode m_X11_brings.2.1 6 = .ok (.invokevirtual 86, 3) := by decide +kernel
theorem dX11_brings_9 : decode m_X11_brings.2.1 9 = .ok (.iaload, 1) := by decide +kernel
theorem dX11_brings_10 : decode m_X11_brings.2.1 10 = .ok (.istore 4, 2) := by decide +kernel
theorem dX11_brings_12 : decode m_X11_brings.2.1 12 = .ok (.aload_n 0, 1) := by decide +kernel
theorem dX11_brings_13 : decode m_X11_brings.2.1 13 = .ok (.getfield 7, 3) := by decide +kernel
theorem dX11_brings_16 : decode m_X11_brings.2.1 16 = .ok (.aload_n 0, 1) := by decide +kernel
theorem dX11_brings_17 : decode m_X11_brings.2.1 17 = .ok (.iload_n 1, 1) := by decide +kernel
theorem dX11_brings_18 : decode m_X11_brings.2.1 18 = .ok (.invokevirtual 86, 3) := by decide +kernel
theorem dX11_brings_21 : decode m_X11_brings.2.1 21 = .ok (.iconst 1, 1) := by decide +kernel
theorem dX11_brings_22 : decode m_X11_brings.2.1 22 = .ok (.iadd, 1) := by decide +kernel
theorem dX11_brings_23 : decode m_X11_brings.2.1 23 = .ok (.iaload, 1) := by decide +kernel
theorem dX11_brings_24 : decode m_X11_brings.2.1 24 = .ok (.istore 5, 2) := by decide +kernel
theorem dX11_brings_26 : decode m_X11_brings.2.1 26 = .ok (.iload_n 3, 1) := by decide +kernel
theorem dX11_brings_27 : decode m_X11_brings.2.1 27 = .ok (.iconst 1, 1) := by decide +kernel
theorem dX11_brings_28 : decode m_X11_brings.2.1 28 = .ok (.if_icmp .ne 14, 3) := by decide +kernel
theorem dX11_brings_31 : decode m_X11_brings.2.1 31 = .ok (.iload 4, 2) := by decide +kernel
theorem dX11_brings_33 : decode m_X11_brings.2.1 33 = .ok (.iload 5, 2) := by decide +kernel
theorem dX11_brings_35 : decode m_X11_brings.2.1 35 = .ok (.iload_n 2, 1) := by decide +kernel
theorem dX11_brings_36 : decode m_X11_brings.2.1 36 = .ok (.invokestatic 82, 3) := by decide +kernel
theorem dX11_brings_39 : decode m_X11_brings.2.1 39 = .ok (.goto 27, 3) := by decide +kernel
theorem dX11_brings_42 : decode m_X11_brings.2.1 42 = .ok (.iload_n 3, 1) := by decide +kernel
theorem dX11_brings_43 : decode m_X11_brings.2.1 43 = .ok (.iconst 2, 1) := by decide +kernel
theorem dX11_brings_44 : decode m_X11_brings.2.1 44 = .ok (.if_icmp .ne 14, 3) := by decide +kernel
theorem dX11_brings_47 : decode m_X11_brings.2.1 47 = .ok (.iload 4, 2) := by decide +kernel
theorem dX11_brings_49 : decode m_X11_brings.2.1 49 = .ok (.iload 5, 2) := by decide +kernel
theorem dX11_brings_51 : decode m_X11_brings.2.1 51 = .ok (.iload_n 2, 1) := by decide +kernel
theorem dX11_brings_52 : decode m_X11_brings.2.1 52 = .ok (.invokestatic 90, 3) := by decide +kernel
theorem dX11_brings_55 : decode m_X11_brings.2.1 55 = .ok (.goto 11, 3) := by decide +kernel
theorem dX11_brings_58 : decode m_X11_brings.2.1 58 = .ok (.iload 4, 2) := by decide +kernel
theorem dX11_brings_60 : decode m_X11_brings.2.1 60 = .ok (.iload 5, 2) := by decide +kernel
theorem dX11_brings_62 : decode m_X11_brings.2.1 62 = .ok (.iload_n 2, 1) := by decide +kernel
theorem dX11_brings_63 : decode m_X11_brings.2.1 63 = .ok (.invokestatic 93, 3) := by decide +kernel
theorem dX11_brings_66 : decode m_X11_brings.2.1 66 = .ok (.ireturn, 1) := by decide +kernel
theorem dX11_bin_0 : decode m_X11_bin.2.1 0 = .ok (.iload_n 1, 1) := by decide +kernel
theorem dX11_bin_1 : decode m_X11_bin.2.1 1 = .ok (.i2l, 1) := by decide +kernel
theorem dX11_bin_2 : decode m_X11_bin.2.1 2 = .ok (.lconst 0, 1) := by decide +kernel
theorem dX11_bin_3 : decode m_X11_bin.2.1 3 = .ok (.ldc2_w 96, 3) := by decide +kernel
theorem dX11_bin_6 : decode m_X11_bin.2.1 6 = .ok (.invokestatic 78, 3) := by decide +kernel
theorem dX11_bin_9 : decode m_X11_bin.2.1 9 = .ok (.ifCond .eq 27, 3) := by decide +kernel
theorem dX11_bin_12 : decode m_X11_bin.2.1 12 = .ok (.iload_n 2, 1) := by decide +kernel
theorem dX11_bin_13 : decode m_X11_bin.2.1 13 = .ok (.i2l, 1) := by decide +kernel
theorem dX11_bin_14 : decode m_X11_bin.2.1 14 = .ok (.lconst 0, 1) := by decide +kernel
theorem dX11_bin_15 : decode m_X11_bin.2.1 15 = .ok (.ldc2_w 98, 3) := by decide +kernel
theorem dX11_bin_18 : decode m_X11_bin.2.1 18 = .ok (.invokestatic 78, 3) := by decide +kernel
theorem dX11_bin_21 : decode m_X11_bin.2.1 21 = .ok (.ifCond .eq 15, 3) := by decide +kernel
theorem dX11_bin_24 : decode m_X11_bin.2.1 24 = .ok (.iload_n 3, 1) := by decide +kernel
theorem dX11_bin_25 : decode m_X11_bin.2.1 25 = .ok (.i2l, 1) := by decide +kernel
theorem dX11_bin_26 : decode m_X11_bin.2.1 26 = .ok (.lconst 0, 1) := by decide +kernel
theorem dX11_bin_27 : decode m_X11_bin.2.1 27 = .ok (.ldc2_w 98, 3) := by decide +kernel
theorem dX11_bin_30 : decode m_X11_bin.2.1 30 = .ok (.invokestatic 78, 3) := by decide +kernel
theorem dX11_bin_33 : decode m_X11_bin.2.1 33 = .ok (.ifCond .ne 6, 3) := by decide +kernel
theorem dX11_bin_36 : decode m_X11_bin.2.1 36 = .ok (.ldc 100, 2) := by decide +kernel
theorem dX11_bin_38 : decode m_X11_bin.2.1 38 = .ok (.ireturn, 1) := by decide +kernel
theorem dX11_bin_39 : decode m_X11_bin.2.1 39 = .ok (.aload_n 0, 1) := by decide +kernel
theorem dX11_bin_40 : decode m_X11_bin.2.1 40 = .ok (.getfield 7, 3) := by decide +kernel
theorem dX11_bin_43 : decode m_X11_bin.2.1 43 = .ok (.iconst 0, 1) := by decide +kernel
theorem dX11_bin_44 : decode m_X11_bin.2.1 44 = .ok (.iaload, 1) := by decide +kernel
theorem dX11_bin_45 : decode m_X11_bin.2.1 45 = .ok (.bipush 6, 2) := by decide +kernel
theorem dX11_bin_47 : decode m_X11_bin.2.1 47 = .ok (.if_icmp .ne 6, 3) := by decide +kernel
theorem dX11_bin_50 : decode m_X11_bin.2.1 50 = .ok (.ldc 101, 2) := by decide +kernel
theorem dX11_bin_52 : decode m_X11_bin.2.1 52 = .ok (.ireturn, 1) := by decide +kernel
theorem dX11_bin_53 : decode m_X11_bin.2.1 53 = .ok (.aload_n 0, 1) := by decide +kernel
theorem dX11_bin_54 : decode m_X11_bin.2.1 54 = .ok (.aload_n 0, 1) := by decide +kernel
theorem dX11_bin_55 : decode m_X11_bin.2.1 55 = .ok (.getfield 7, 3) := by decide +kernel
theorem dX11_bin_58 : decode m_X11_bin.2.1 58 = .ok (.iconst 0, 1) := by decide +kernel
theorem dX11_bin_59 : decode m_X11_bin.2.1 59 = .ok (.iaload, 1) := by decide +kernel
theorem dX11_bin_60 : decode m_X11_bin.2.1 60 = .ok (.invokevirtual 86, 3) := by decide +kernel
theorem dX11_bin_63 : decode m_X11_bin.2.1 63 = .ok (.istore 4, 2) := by decide +kernel
theorem dX11_bin_65 : decode m_X11_bin.2.1 65 = .ok (.aload_n 0, 1) := by decide +kernel
theorem dX11_bin_66 : decode m_X11_bin.2.1 66 = .ok (.getfield 7, 3) := by decide +kernel
theorem dX11_bin_69 : decode m_X11_bin.2.1 69 = .ok (.iload 4, 2) := by decide +kernel
theorem dX11_bin_71 : decode m_X11_bin.2.1 71 = .ok (.iload_n 1, 1) := by decide +kernel
theorem dX11_bin_72 : decode m_X11_bin.2.1 72 = .ok (.iastore, 1) := by decide +kernel
theorem dX11_bin_73 : decode m_X11_bin.2.1 73 = .ok (.aload_n 0, 1) := by decide +kernel
theorem dX11_bin_74 : decode m_X11_bin.2.1 74 = .ok (.getfield 7, 3) := by decide +kernel
theorem dX11_bin_77 : decode m_X11_bin.2.1 77 = .ok (.iload 4, 2) := by decide +kernel
theorem dX11_bin_79 : decode m_X11_bin.2.1 79 = .ok (.iconst 1, 1) := by decide +kernel
theorem dX11_bin_80 : decode m_X11_bin.2.1 80 = .ok (.iadd, 1) := by decide +kernel
theorem dX11_bin_81 : decode m_X11_bin.2.1 81 = .ok (.iload_n 2, 1) := by decide +kernel
theorem dX11_bin_82 : decode m_X11_bin.2.1 82 = .ok (.bipush 100, 2) := by decide +kernel
theorem dX11_bin_84 : decode m_X11_bin.2.1 84 = .ok (.idiv, 1) := by decide +kernel
theorem dX11_bin_85 : decode m_X11_bin.2.1 85 = .ok (.iastore, 1) := by decide +kernel
theorem dX11_bin_86 : decode m_X11_bin.2.1 86 = .ok (.aload_n 0, 1) := by decide +kernel
theorem dX11_bin_87 : decode m_X11_bin.2.1 87 = .ok (.getfield 7, 3) := by decide +kernel
theorem dX11_bin_90 : decode m_X11_bin.2.1 90 = .ok (.iload 4, 2) := by decide +kernel
theorem dX11_bin_92 : decode m_X11_bin.2.1 92 = .ok (.iconst 2, 1) := by decide +kernel
theorem dX11_bin_93 : decode m_X11_bin.2.1 93 = .ok (.iadd, 1) := by decide +kernel
theorem dX11_bin_94 : decode m_X11_bin.2.1 94 = .ok (.iload_n 2, 1) := by decide +kernel
theorem dX11_bin_95 : decode m_X11_bin.2.1 95 = .ok (.bipush 100, 2) := by decide +kernel
theorem dX11_bin_97 : decode m_X11_bin.2.1 97 = .ok (.irem, 1) := by decide +kernel
theorem dX11_bin_98 : decode m_X11_bin.2.1 98 = .ok (.iastore, 1) := by decide +kernel
theorem dX11_bin_99 : decode m_X11_bin.2.1 99 = .ok (.aload_n 0, 1) := by decide +kernel
theorem dX11_bin_100 : decode m_X11_bin.2.1 100 = .ok (.getfield 7, 3) := by decide +kernel
theorem dX11_bin_103 : decode m_X11_bin.2.1 103 = .ok (.iload 4, 2) := by decide +kernel
theorem dX11_bin_105 : decode m_X11_bin.2.1 105 = .ok (.iconst 3, 1) := by decide +kernel
theorem dX11_bin_106 : decode m_X11_bin.2.1 106 = .ok (.iadd, 1) := by decide +kernel
theorem dX11_bin_107 : decode m_X11_bin.2.1 107 = .ok (.iload_n 3, 1) := by decide +kernel
theorem dX11_bin_108 : decode m_X11_bin.2.1 108 = .ok (.iastore, 1) := by decide +kernel
theorem dX11_bin_109 : decode m_X11_bin.2.1 109 = .ok (.aload_n 0, 1) := by decide +kernel
theorem dX11_bin_110 : decode m_X11_bin.2.1 110 = .ok (.getfield 7, 3) := by decide +kernel
theorem dX11_bin_113 : decode m_X11_bin.2.1 113 = .ok (.iload 4, 2) := by decide +kernel
theorem dX11_bin_115 : decode m_X11_bin.2.1 115 = .ok (.iconst 4, 1) := by decide +kernel
theorem dX11_bin_116 : decode m_X11_bin.2.1 116 = .ok (.iadd, 1) := by decide +kernel
theorem dX11_bin_117 : decode m_X11_bin.2.1 117 = .ok (.sipush 22222, 3) := by decide +kernel
theorem dX11_bin_120 : decode m_X11_bin.2.1 120 = .ok (.iastore, 1) := by decide +kernel
theorem dX11_bin_121 : decode m_X11_bin.2.1 121 = .ok (.aload_n 0, 1) := by decide +kernel
theorem dX11_bin_122 : decode m_X11_bin.2.1 122 = .ok (.getfield 7, 3) := by decide +kernel
theorem dX11_bin_125 : decode m_X11_bin.2.1 125 = .ok (.iconst 0, 1) := by decide +kernel
theorem dX11_bin_126 : decode m_X11_bin.2.1 126 = .ok (.dup2, 1) := by decide +kernel
theorem dX11_bin_127 : decode m_X11_bin.2.1 127 = .ok (.iaload, 1) := by decide +kernel
theorem dX11_bin_128 : decode m_X11_bin.2.1 128 = .ok (.iconst 1, 1) := by decide +kernel
theorem dX11_bin_129 : decode m_X11_bin.2.1 129 = .ok (.iadd, 1) := by decide +kernel
theorem dX11_bin_130 : decode m_X11_bin.2.1 130 = .ok (.iastore, 1) := by decide +kernel
theorem dX11_bin_131 : decode m_X11_bin.2.1 131 = .ok (.aload_n 0, 1) := by decide +kernel
theorem dX11_bin_132 : decode m_X11_bin.2.1 132 = .ok (.getfield 7, 3) := by decide +kernel
theorem dX11_bin_135 : decode m_X11_bin.2.1 135 = .ok (.iconst 0, 1) := by decide +kernel
theorem dX11_bin_136 : decode m_X11_bin.2.1 136 = .ok (.iaload, 1) := by decide +kernel
theorem dX11_bin_137 : decode m_X11_bin.2.1 137 = .ok (.iconst 1, 1) := by decide +kernel
theorem dX11_bin_138 : decode m_X11_bin.2.1 138 = .ok (.isub, 1) := by decide +kernel
theorem dX11_bin_139 : decode m_X11_bin.2.1 139 = .ok (.ireturn, 1) := by decide +kernel
theorem dX11_told_0 : decode m_X11_told.2.1 0 = .ok (.aload_n 0, 1) := by decide +kernel
theorem dX11_told_1 : decode m_X11_told.2.1 1 = .ok (.iload_n 1, 1) := by decide +kernel
theorem dX11_told_2 : decode m_X11_told.2.1 2 = .ok (.invokevirtual 102, 3) := by decide +kernel
theorem dX11_told_5 : decode m_X11_told.2.1 5 = .ok (.ifCond .eq 15, 3) := by decide +kernel
theorem dX11_told_8 : decode m_X11_told.2.1 8 = .ok (.iload_n 2, 1) := by decide +kernel
theorem dX11_told_9 : decode m_X11_told.2.1 9 = .ok (.i2l, 1) := by decide +kernel
theorem dX11_told_10 : decode m_X11_told.2.1 10 = .ok (.lconst 0, 1) := by decide +kernel
theorem dX11_told_11 : decode m_X11_told.2.1 11 = .ok (.ldc2_w 96, 3) := by decide +kernel
theorem dX11_told_14 : decode m_X11_told.2.1 14 = .ok (.invokestatic 78, 3) := by decide +kernel
theorem dX11_told_17 : decode m_X11_told.2.1 17 = .ok (.ifCond .ne 6, 3) := by decide +kernel
theorem dX11_told_20 : decode m_X11_told.2.1 20 = .ok (.ldc 100, 2) := by decide +kernel
theorem dX11_told_22 : decode m_X11_told.2.1 22 = .ok (.ireturn, 1) := by decide +kernel
theorem dX11_told_23 : decode m_X11_told.2.1 23 = .ok (.iload_n 2, 1) := by decide +kernel
theorem dX11_told_24 : decode m_X11_told.2.1 24 = .ok (.iconst 5, 1) := by decide +kernel
theorem dX11_told_25 : decode m_X11_told.2.1 25 = .ok (.if_icmp .ge 18, 3) := by decide +kernel
theorem dX11_told_28 : decode m_X11_told.2.1 28 = .ok (.aload_n 0, 1) := by decide +kernel
theorem dX11_told_29 : decode m_X11_told.2.1 29 = .ok (.getfield 7, 3) := by decide +kernel
theorem dX11_told_32 : decode m_X11_told.2.1 32 = .ok (.aload_n 0, 1) := by decide +kernel
theorem dX11_told_33 : decode m_X11_told.2.1 33 = .ok (.iload_n 1, 1) := by decide +kernel
theorem dX11_told_34 : decode m_X11_told.2.1 34 = .ok (.invokevirtual 86, 3) := by decide +kernel
theorem dX11_told_37 : decode m_X11_told.2.1 37 = .ok (.iload_n 2, 1) := by decide +kernel
theorem dX11_told_38 : decode m_X11_told.2.1 38 = .ok (.iadd, 1) := by decide +kernel
theorem dX11_told_39 : decode m_X11_told.2.1 39 = .ok (.iaload, 1) := by decide +kernel
theorem dX11_told_40 : decode m_X11_told.2.1 40 = .ok (.goto 16, 3) := by decide +kernel
theorem dX11_told_43 : decode m_X11_told.2.1 43 = .ok (.aload_n 0, 1) := by decide +kernel
theorem dX11_told_44 : decode m_X11_told.2.1 44 = .ok (.getfield 7, 3) := by decide +kernel
theorem dX11_told_47 : decode m_X11_told.2.1 47 = .ok (.aload_n 0, 1) := by decide +kernel
theorem dX11_told_48 : decode m_X11_told.2.1 48 = .ok (.iload_n 1, 1) := by decide +kernel
theorem dX11_told_49 : decode m_X11_told.2.1 49 = .ok (.invokevirtual 86, 3) := by decide +kernel
theorem dX11_told_52 : decode m_X11_told.2.1 52 = .ok (.iaload, 1) := by decide +kernel
theorem dX11_told_53 : decode m_X11_told.2.1 53 = .ok (.invokestatic 106, 3) := by decide +kernel
theorem dX11_told_56 : decode m_X11_told.2.1 56 = .ok (.ireturn, 1) := by decide +kernel
theorem dX11_of_0 : decode m_X11_of.2.1 0 = .ok (.aload_n 0, 1) := by decide +kernel
theorem dX11_of_1 : decode m_X11_of.2.1 1 = .ok (.iload_n 1, 1) := by decide +kernel
theorem dX11_of_2 : decode m_X11_of.2.1 2 = .ok (.invokevirtual 102, 3) := by decide +kernel
theorem dX11_of_5 : decode m_X11_of.2.1 5 = .ok (.ifCond .eq 27, 3) := by decide +kernel
theorem dX11_of_8 : decode m_X11_of.2.1 8 = .ok (.iload_n 2, 1) := by decide +kernel
theorem dX11_of_9 : decode m_X11_of.2.1 9 = .ok (.i2l, 1) := by decide +kernel
theorem dX11_of_10 : decode m_X11_of.2.1 10 = .ok (.lconst 0, 1) := by decide +kernel
theorem dX11_of_11 : decode m_X11_of.2.1 11 = .ok (.ldc2_w 109, 3) := by decide +kernel
theorem dX11_of_14 : decode m_X11_of.2.1 14 = .ok (.invokestatic 78, 3) := by decide +kernel
theorem dX11_of_17 : decode m_X11_of.2.1 17 = .ok (.ifCond .eq 15, 3) := by decide +kernel
theorem dX11_of_20 : decode m_X11_of.2.1 20 = .ok (.iload_n 3, 1) := by decide +kernel
theorem dX11_of_21 : decode m_X11_of.2.1 21 = .ok (.i2l, 1) := by decide +kernel
theorem dX11_of_22 : decode m_X11_of.2.1 22 = .ok (.lconst 0, 1) := by decide +kernel
theorem dX11_of_23 : decode m_X11_of.2.1 23 = .ok (.ldc2_w 111, 3) := by decide +kernel
theorem dX11_of_26 : decode m_X11_of.2.1 26 = .ok (.invokestatic 78, 3) := by decide +kernel
theorem dX11_of_29 : decode m_X11_of.2.1 29 = .ok (.ifCond .ne 6, 3) := by decide +kernel
theorem dX11_of_32 : decode m_X11_of.2.1 32 = .ok (.ldc 100, 2) := by decide +kernel
theorem dX11_of_34 : decode m_X11_of.2.1 34 = .ok (.ireturn, 1) := by decide +kernel
theorem dX11_of_35 : decode m_X11_of.2.1 35 = .ok (.iload_n 3, 1) := by decide +kernel
theorem dX11_of_36 : decode m_X11_of.2.1 36 = .ok (.ifCond .ne 20, 3) := by decide +kernel
theorem dX11_of_39 : decode m_X11_of.2.1 39 = .ok (.aload_n 0, 1) := by decide +kernel
theorem dX11_of_40 : decode m_X11_of.2.1 40 = .ok (.getfield 7, 3) := by decide +kernel
theorem dX11_of_43 : decode m_X11_of.2.1 43 = .ok (.aload_n 0, 1) := by decide +kernel
theorem dX11_of_44 : decode m_X11_of.2.1 44 = .ok (.iload_n 1, 1) := by decide +kernel
theorem dX11_of_45 : decode m_X11_of.2.1 45 = .ok (.invokevirtual 86, 3) := by decide +kernel
theorem dX11_of_48 : decode m_X11_of.2.1 48 = .ok (.iaload, 1) := by decide +kernel
theorem dX11_of_49 : decode m_X11_of.2.1 49 = .ok (.iload_n 2, 1) := by decide +kernel
theorem dX11_of_50 : decode m_X11_of.2.1 50 = .ok (.invokestatic 113, 3) := by decide +kernel
theorem dX11_of_53 : decode m_X11_of.2.1 53 = .ok (.goto 10, 3) := by decide +kernel
theorem dX11_of_56 : decode m_X11_of.2.1 56 = .ok (.aload_n 0, 1) := by decide +kernel
theorem dX11_of_57 : decode m_X11_of.2.1 57 = .ok (.iload_n 1, 1) := by decide +kernel
theorem dX11_of_58 : decode m_X11_of.2.1 58 = .ok (.iload_n 2, 1) := by decide +kernel
theorem dX11_of_59 : decode m_X11_of.2.1 59 = .ok (.iload_n 3, 1) := by decide +kernel
theorem dX11_of_60 : decode m_X11_of.2.1 60 = .ok (.invokevirtual 117, 3) := by decide +kernel
theorem dX11_of_63 : decode m_X11_of.2.1 63 = .ok (.ireturn, 1) := by decide +kernel
theorem dX11_isOf_0 : decode m_X11_isOf.2.1 0 = .ok (.iload_n 1, 1) := by decide +kernel
theorem dX11_isOf_1 : decode m_X11_isOf.2.1 1 = .ok (.ifCond .eq 28, 3) := by decide +kernel
theorem dX11_isOf_4 : decode m_X11_isOf.2.1 4 = .ok (.iload_n 0, 1) := by decide +kernel
theorem dX11_isOf_5 : decode m_X11_isOf.2.1 5 = .ok (.iload_n 1, 1) := by decide +kernel
theorem dX11_isOf_6 : decode m_X11_isOf.2.1 6 = .ok (.if_icmp .eq 23, 3) := by decide +kernel
theorem dX11_isOf_9 : decode m_X11_isOf.2.1 9 = .ok (.iload_n 1, 1) := by decide +kernel
theorem dX11_isOf_10 : decode m_X11_isOf.2.1 10 = .ok (.iconst 1, 1) := by decide +kernel
theorem dX11_isOf_11 : decode m_X11_isOf.2.1 11 = .ok (.if_icmp .ne 8, 3) := by decide +kernel
theorem dX11_isOf_14 : decode m_X11_isOf.2.1 14 = .ok (.iload_n 0, 1) := by decide +kernel
theorem dX11_isOf_15 : decode m_X11_isOf.2.1 15 = .ok (.iconst 3, 1) := by decide +kernel
theorem dX11_isOf_16 : decode m_X11_isOf.2.1 16 = .ok (.if_icmp .eq 13, 3) := by decide +kernel
theorem dX11_isOf_19 : decode m_X11_isOf.2.1 19 = .ok (.iload_n 1, 1) := by decide +kernel
theorem dX11_isOf_20 : decode m_X11_isOf.2.1 20 = .ok (.iconst 2, 1) := by decide +kernel
theorem dX11_isOf_21 : decode m_X11_isOf.2.1 21 = .ok (.if_icmp .ne 12, 3) := by decide +kernel
theorem dX11_isOf_24 : decode m_X11_isOf.2.1 24 = .ok (.iload_n 0, 1) := by decide +kernel
theorem dX11_isOf_25 : decode m_X11_isOf.2.1 25 = .ok (.iconst 4, 1) := by decide +kernel
theorem dX11_isOf_26 : decode m_X11_isOf.2.1 26 = .ok (.if_icmp .ne 7, 3) := by decide +kernel
theorem dX11_isOf_29 : decode m_X11_isOf.2.1 29 = .ok (.iconst 1, 1) := by decide +kernel
theorem dX11_isOf_30 : decode m_X11_isOf.2.1 30 = .ok (.goto 4, 3) := by decide +kernel
theorem dX11_isOf_33 : decode m_X11_isOf.2.1 33 = .ok (.iconst 0, 1) := by decide +kernel
theorem dX11_isOf_34 : decode m_X11_isOf.2.1 34 = .ok (.ireturn, 1) := by decide +kernel
theorem dX11_as_0 : decode m_X11_as.2.1 0 = .ok (.aload_n 0, 1) := by decide +kernel
theorem dX11_as_1 : decode m_X11_as.2.1 1 = .ok (.iload_n 1, 1) := by decide +kernel
theorem dX11_as_2 : decode m_X11_as.2.1 2 = .ok (.invokevirtual 102, 3) := by decide +kernel
theorem dX11_as_5 : decode m_X11_as.2.1 5 = .ok (.ifCond .eq 15, 3) := by decide +kernel
theorem dX11_as_8 : decode m_X11_as.2.1 8 = .ok (.iload_n 2, 1) := by decide +kernel
theorem dX11_as_9 : decode m_X11_as.2.1 9 = .ok (.i2l, 1) := by decide +kernel
theorem dX11_as_10 : decode m_X11_as.2.1 10 = .ok (.lconst 0, 1) := by decide +kernel
theorem dX11_as_11 : decode m_X11_as.2.1 11 = .ok (.ldc2_w 96, 3) := by decide +kernel
theorem dX11_as_14 : decode m_X11_as.2.1 14 = .ok (.invokestatic 78, 3) := by decide +kernel
theorem dX11_as_17 : decode m_X11_as.2.1 17 = .ok (.ifCond .ne 6, 3) := by decide +kernel
theorem dX11_as_20 : decode m_X11_as.2.1 20 = .ok (.ldc 100, 2) := by decide +kernel
theorem dX11_as_22 : decode m_X11_as.2.1 22 = .ok (.ireturn, 1) := by decide +kernel
theorem dX11_as_23 : decode m_X11_as.2.1 23 = .ok (.aload_n 0, 1) := by decide +kernel
theorem dX11_as_24 : decode m_X11_as.2.1 24 = .ok (.getfield 7, 3) := by decide +kernel
theorem dX11_as_27 : decode m_X11_as.2.1 27 = .ok (.aload_n 0, 1) := by decide +kernel
theorem dX11_as_28 : decode m_X11_as.2.1 28 = .ok (.iload_n 1, 1) := by decide +kernel
theorem dX11_as_29 : decode m_X11_as.2.1 29 = .ok (.invokevirtual 86, 3) := by decide +kernel
theorem dX11_as_32 : decode m_X11_as.2.1 32 = .ok (.iaload, 1) := by decide +kernel
theorem dX11_as_33 : decode m_X11_as.2.1 33 = .ok (.iload_n 2, 1) := by decide +kernel
theorem dX11_as_34 : decode m_X11_as.2.1 34 = .ok (.invokestatic 120, 3) := by decide +kernel
theorem dX11_as_37 : decode m_X11_as.2.1 37 = .ok (.ifCond .eq 18, 3) := by decide +kernel
theorem dX11_as_40 : decode m_X11_as.2.1 40 = .ok (.aload_n 0, 1) := by decide +kernel
theorem dX11_as_41 : decode m_X11_as.2.1 41 = .ok (.getfield 7, 3) := by decide +kernel
theorem dX11_as_44 : decode m_X11_as.2.1 44 = .ok (.aload_n 0, 1) := by decide +kernel
theorem dX11_as_45 : decode m_X11_as.2.1 45 = .ok (.iload_n 1, 1) := by decide +kernel
theorem dX11_as_46 : decode m_X11_as.2.1 46 = .ok (.invokevirtual 86, 3) := by decide +kernel
theorem dX11_as_49 : decode m_X11_as.2.1 49 = .ok (.iconst 3, 1) := by decide +kernel
theorem dX11_as_50 : decode m_X11_as.2.1 50 = .ok (.iadd, 1) := by decide +kernel
theorem dX11_as_51 : decode m_X11_as.2.1 51 = .ok (.iaload, 1) := by decide +kernel
theorem dX11_as_52 : decode m_X11_as.2.1 52 = .ok (.goto 5, 3) := by decide +kernel
theorem dX11_as_55 : decode m_X11_as.2.1 55 = .ok (.ldc 124, 2) := by decide +kernel
theorem dX11_as_57 : decode m_X11_as.2.1 57 = .ok (.ireturn, 1) := by decide +kernel
theorem dX11_fill_0 : decode m_X11_fill.2.1 0 = .ok (.aload_n 0, 1) := by decide +kernel
theorem dX11_fill_1 : decode m_X11_fill.2.1 1 = .ok (.iload_n 1, 1) := by decide +kernel
theorem dX11_fill_2 : decode m_X11_fill.2.1 2 = .ok (.invokevirtual 102, 3) := by decide +kernel
theorem dX11_fill_5 : decode m_X11_fill.2.1 5 = .ok (.ifCond .eq 15, 3) := by decide +kernel
theorem dX11_fill_8 : decode m_X11_fill.2.1 8 = .ok (.iload_n 2, 1) := by decide +kernel
theorem dX11_fill_9 : decode m_X11_fill.2.1 9 = .ok (.i2l, 1) := by decide +kernel
theorem dX11_fill_10 : decode m_X11_fill.2.1 10 = .ok (.lconst 1, 1) := by decide +kernel
theorem dX11_fill_11 : decode m_X11_fill.2.1 11 = .ok (.ldc2_w 98, 3) := by decide +kernel
theorem dX11_fill_14 : decode m_X11_fill.2.1 14 = .ok (.invokestatic 78, 3) := by decide +kernel
theorem dX11_fill_17 : decode m_X11_fill.2.1 17 = .ok (.ifCond .ne 6, 3) := by decide +kernel
theorem dX11_fill_20 : decode m_X11_fill.2.1 20 = .ok (.ldc 100, 2) := by decide +kernel
theorem dX11_fill_22 : decode m_X11_fill.2.1 22 = .ok (.ireturn, 1) := by decide +kernel
theorem dX11_fill_23 : decode m_X11_fill.2.1 23 = .ok (.aload_n 0, 1) := by decide +kernel
theorem dX11_fill_24 : decode m_X11_fill.2.1 24 = .ok (.iload_n 1, 1) := by decide +kernel
theorem dX11_fill_25 : decode m_X11_fill.2.1 25 = .ok (.invokevirtual 86, 3) := by decide +kernel
theorem dX11_fill_28 : decode m_X11_fill.2.1 28 = .ok (.iconst 3, 1) := by decide +kernel
theorem dX11_fill_29 : decode m_X11_fill.2.1 29 = .ok (.iadd, 1) := by decide +kernel
theorem dX11_fill_30 : decode m_X11_fill.2.1 30 = .ok (.istore_n 3, 1) := by decide +kernel
theorem dX11_fill_31 : decode m_X11_fill.2.1 31 = .ok (.aload_n 0, 1) := by decide +kernel
theorem dX11_fill_32 : decode m_X11_fill.2.1 32 = .ok (.getfield 7, 3) := by decide +kernel
theorem dX11_fill_35 : decode m_X11_fill.2.1 35 = .ok (.iload_n 3, 1) := by decide +kernel
theorem dX11_fill_36 : decode m_X11_fill.2.1 36 = .ok (.iaload, 1) := by decide +kernel
theorem dX11_fill_37 : decode m_X11_fill.2.1 37 = .ok (.iload_n 2, 1) := by decide +kernel
theorem dX11_fill_38 : decode m_X11_fill.2.1 38 = .ok (.iadd, 1) := by decide +kernel
theorem dX11_fill_39 : decode m_X11_fill.2.1 39 = .ok (.sipush 9999, 3) := by decide +kernel
theorem dX11_fill_42 : decode m_X11_fill.2.1 42 = .ok (.if_icmp .le 6, 3) := by decide +kernel
theorem dX11_fill_45 : decode m_X11_fill.2.1 45 = .ok (.ldc 101, 2) := by decide +kernel
theorem dX11_fill_47 : decode m_X11_fill.2.1 47 = .ok (.ireturn, 1) := by decide +kernel
theorem dX11_fill_48 : decode m_X11_fill.2.1 48 = .ok (.aload_n 0, 1) := by decide +kernel
theorem dX11_fill_49 : decode m_X11_fill.2.1 49 = .ok (.getfield 7, 3) := by decide +kernel
theorem dX11_fill_52 : decode m_X11_fill.2.1 52 = .ok (.iload_n 3, 1) := by decide +kernel
theorem dX11_fill_53 : decode m_X11_fill.2.1 53 = .ok (.dup2, 1) := by decide +kernel
theorem dX11_fill_54 : decode m_X11_fill.2.1 54 = .ok (.iaload, 1) := by decide +kernel
theorem dX11_fill_55 : decode m_X11_fill.2.1 55 = .ok (.iload_n 2, 1) := by decide +kernel
theorem dX11_fill_56 : decode m_X11_fill.2.1 56 = .ok (.iadd, 1) := by decide +kernel
theorem dX11_fill_57 : decode m_X11_fill.2.1 57 = .ok (.iastore, 1) := by decide +kernel
theorem dX11_fill_58 : decode m_X11_fill.2.1 58 = .ok (.aload_n 0, 1) := by decide +kernel
theorem dX11_fill_59 : decode m_X11_fill.2.1 59 = .ok (.getfield 7, 3) := by decide +kernel
theorem dX11_fill_62 : decode m_X11_fill.2.1 62 = .ok (.iload_n 3, 1) := by decide +kernel
theorem dX11_fill_63 : decode m_X11_fill.2.1 63 = .ok (.iaload, 1) := by decide +kernel
theorem dX11_fill_64 : decode m_X11_fill.2.1 64 = .ok (.ireturn, 1) := by decide +kernel
theorem dX11_turns_0 : decode m_X11_turns.2.1 0 = .ok (.aload_n 0, 1) := by decide +kernel
theorem dX11_turns_1 : decode m_X11_turns.2.1 1 = .ok (.iload_n 1, 1) := by decide +kernel
theorem dX11_turns_2 : decode m_X11_turns.2.1 2 = .ok (.invokevirtual 102, 3) := by decide +kernel
theorem dX11_turns_5 : decode m_X11_turns.2.1 5 = .ok (.ifCond .eq 30, 3) := by decide +kernel
theorem dX11_turns_8 : decode m_X11_turns.2.1 8 = .ok (.iload_n 2, 1) := by decide +kernel
theorem dX11_turns_9 : decode m_X11_turns.2.1 9 = .ok (.i2l, 1) := by decide +kernel
theorem dX11_turns_10 : decode m_X11_turns.2.1 10 = .ok (.lconst 1, 1) := by decide +kernel
theorem dX11_turns_11 : decode m_X11_turns.2.1 11 = .ok (.ldc2_w 125, 3) := by decide +kernel
theorem dX11_turns_14 : decode m_X11_turns.2.1 14 = .ok (.invokestatic 78, 3) := by decide +kernel
theorem dX11_turns_17 : decode m_X11_turns.2.1 17 = .ok (.ifCond .eq 18, 3) := by decide +kernel
theorem dX11_turns_20 : decode m_X11_turns.2.1 20 = .ok (.aload_n 0, 1) := by decide +kernel
theorem dX11_turns_21 : decode m_X11_turns.2.1 21 = .ok (.aload_n 0, 1) := by decide +kernel
theorem dX11_turns_22 : decode m_X11_turns.2.1 22 = .ok (.iload_n 1, 1) := by decide +kernel
theorem dX11_turns_23 : decode m_X11_turns.2.1 23 = .ok (.invokevirtual 86, 3) := by decide +kernel
theorem dX11_turns_26 : decode m_X11_turns.2.1 26 = .ok (.iconst 4, 1) := by decide +kernel
theorem dX11_turns_27 : decode m_X11_turns.2.1 27 = .ok (.iadd, 1) := by decide +kernel
theorem dX11_turns_28 : decode m_X11_turns.2.1 28 = .ok (.iload_n 2, 1) := by decide +kernel
theorem dX11_turns_29 : decode m_X11_turns.2.1 29 = .ok (.invokevirtual 127, 3) := by decide +kernel
theorem dX11_turns_32 : decode m_X11_turns.2.1 32 = .ok (.goto 5, 3) := by decide +kernel
theorem dX11_turns_35 : decode m_X11_turns.2.1 35 = .ok (.ldc 100, 2) := by decide +kernel
theorem dX11_turns_37 : decode m_X11_turns.2.1 37 = .ok (.ireturn, 1) := by decide +kernel
theorem dX11_rule_0 : decode m_X11_rule.2.1 0 = .ok (.iload_n 1, 1) := by decide +kernel
theorem dX11_rule_1 : decode m_X11_rule.2.1 1 = .ok (.i2l, 1) := by decide +kernel
theorem dX11_rule_2 : decode m_X11_rule.2.1 2 = .ok (.lconst 0, 1) := by decide +kernel
theorem dX11_rule_3 : decode m_X11_rule.2.1 3 = .ok (.ldc2_w 130, 3) := by decide +kernel
theorem dX11_rule_6 : decode m_X11_rule.2.1 6 = .ok (.invokestatic 78, 3) := by decide +kernel
theorem dX11_rule_9 : decode m_X11_rule.2.1 9 = .ok (.ifCond .eq 36, 3) := by decide +kernel
theorem dX11_rule_12 : decode m_X11_rule.2.1 12 = .ok (.iload_n 2, 1) := by decide +kernel
theorem dX11_rule_13 : decode m_X11_rule.2.1 13 = .ok (.i2l, 1) := by decide +kernel
theorem dX11_rule_14 : decode m_X11_rule.2.1 14 = .ok (.iload_n 1, 1) := by decide +kernel
theorem dX11_rule_15 : decode m_X11_rule.2.1 15 = .ok (.iconst 1, 1) := by decide +kernel
theorem dX11_rule_16 : decode m_X11_rule.2.1 16 = .ok (.if_icmp .ne 7, 3) := by decide +kernel
theorem dX11_rule_19 : decode m_X11_rule.2.1 19 = .ok (.lconst 0, 1) := by decide +kernel
theorem dX11_rule_20 : decode m_X11_rule.2.1 20 = .ok (.goto 4, 3) := by decide +kernel
theorem dX11_rule_23 : decode m_X11_rule.2.1 23 = .ok (.lconst 1, 1) := by decide +kernel
theorem dX11_rule_24 : decode m_X11_rule.2.1 24 = .ok (.ldc2_w 109, 3) := by decide +kernel
theorem dX11_rule_27 : decode m_X11_rule.2.1 27 = .ok (.invokestatic 78, 3) := by decide +kernel
theorem dX11_rule_30 : decode m_X11_rule.2.1 30 = .ok (.ifCond .eq 15, 3) := by decide +kernel
theorem dX11_rule_33 : decode m_X11_rule.2.1 33 = .ok (.aload_n 0, 1) := by decide +kernel
theorem dX11_rule_34 : decode m_X11_rule.2.1 34 = .ok (.bipush 6, 2) := by decide +kernel
theorem dX11_rule_36 : decode m_X11_rule.2.1 36 = .ok (.iload_n 1, 1) := by decide +kernel
theorem dX11_rule_37 : decode m_X11_rule.2.1 37 = .ok (.iadd, 1) := by decide +kernel
theorem dX11_rule_38 : decode m_X11_rule.2.1 38 = .ok (.iload_n 2, 1) := by decide +kernel
theorem dX11_rule_39 : decode m_X11_rule.2.1 39 = .ok (.invokevirtual 127, 3) := by decide +kernel
theorem dX11_rule_42 : decode m_X11_rule.2.1 42 = .ok (.goto 5, 3) := by decide +kernel
theorem dX11_rule_45 : decode m_X11_rule.2.1 45 = .ok (.ldc 100, 2) := by decide +kernel
theorem dX11_rule_47 : decode m_X11_rule.2.1 47 = .ok (.ireturn, 1) := by decide +kernel
theorem dX11_empty_0 : decode m_X11_empty.2.1 0 = .ok (.aload_n 0, 1) := by decide +kernel
theorem dX11_empty_1 : decode m_X11_empty.2.1 1 = .ok (.iload_n 1, 1) := by decide +kernel
theorem dX11_empty_2 : decode m_X11_empty.2.1 2 = .ok (.invokevirtual 102, 3) := by decide +kernel
theorem dX11_empty_5 : decode m_X11_empty.2.1 5 = .ok (.ifCond .eq 32, 3) := by decide +kernel
theorem dX11_empty_8 : decode m_X11_empty.2.1 8 = .ok (.iload_n 2, 1) := by decide +kernel
theorem dX11_empty_9 : decode m_X11_empty.2.1 9 = .ok (.i2l, 1) := by decide +kernel
theorem dX11_empty_10 : decode m_X11_empty.2.1 10 = .ok (.lconst 1, 1) := by decide +kernel
theorem dX11_empty_11 : decode m_X11_empty.2.1 11 = .ok (.ldc2_w 109, 3) := by decide +kernel
theorem dX11_empty_14 : decode m_X11_empty.2.1 14 = .ok (.invokestatic 78, 3) := by decide +kernel
theorem dX11_empty_17 : decode m_X11_empty.2.1 17 = .ok (.ifCond .eq 20, 3) := by decide +kernel
theorem dX11_empty_20 : decode m_X11_empty.2.1 20 = .ok (.aload_n 0, 1) := by decide +kernel
theorem dX11_empty_21 : decode m_X11_empty.2.1 21 = .ok (.getfield 7, 3) := by decide +kernel
theorem dX11_empty_24 : decode m_X11_empty.2.1 24 = .ok (.aload_n 0, 1) := by decide +kernel
theorem dX11_empty_25 : decode m_X11_empty.2.1 25 = .ok (.iload_n 1, 1) := by decide +kernel
theorem dX11_empty_26 : decode m_X11_empty.2.1 26 = .ok (.invokevirtual 86, 3) := by decide +kernel
theorem dX11_empty_29 : decode m_X11_empty.2.1 29 = .ok (.iconst 3, 1) := by decide +kernel
theorem dX11_empty_30 : decode m_X11_empty.2.1 30 = .ok (.iadd, 1) := by decide +kernel
theorem dX11_empty_31 : decode m_X11_empty.2.1 31 = .ok (.iaload, 1) := by decide +kernel
theorem dX11_empty_32 : decode m_X11_empty.2.1 32 = .ok (.iload_n 2, 1) := by decide +kernel
theorem dX11_empty_33 : decode m_X11_empty.2.1 33 = .ok (.idiv, 1) := by decide +kernel
theorem dX11_empty_34 : decode m_X11_empty.2.1 34 = .ok (.goto 5, 3) := by decide +kernel
theorem dX11_empty_37 : decode m_X11_empty.2.1 37 = .ok (.ldc 100, 2) := by decide +kernel
theorem dX11_empty_39 : decode m_X11_empty.2.1 39 = .ok (.ireturn, 1) := by decide +kernel
theorem dX11_part_0 : decode m_X11_part.2.1 0 = .ok (.lconst 0, 1) := by decide +kernel
theorem dX11_part_1 : decode m_X11_part.2.1 1 = .ok (.lstore_n 2, 1) := by decide +kernel
theorem dX11_part_2 : decode m_X11_part.2.1 2 = .ok (.iload_n 1, 1) := by decide +kernel
theorem dX11_part_3 : decode m_X11_part.2.1 3 = .ok (.istore 4, 2) := by decide +kernel
theorem dX11_part_5 : decode m_X11_part.2.1 5 = .ok (.iconst 0, 1) := by decide +kernel
theorem dX11_part_6 : decode m_X11_part.2.1 6 = .ok (.istore 5, 2) := by decide +kernel
theorem dX11_part_8 : decode m_X11_part.2.1 8 = .ok (.iload 5, 2) := by decide +kernel
theorem dX11_part_10 : decode m_X11_part.2.1 10 = .ok (.iconst 5, 1) := by decide +kernel
theorem dX11_part_11 : decode m_X11_part.2.1 11 = .ok (.if_icmp .ge 27, 3) := by decide +kernel
theorem dX11_part_14 : decode m_X11_part.2.1 14 = .ok (.lload_n 2, 1) := by decide +kernel
theorem dX11_part_15 : decode m_X11_part.2.1 15 = .ok (.aload_n 0, 1) := by decide +kernel
theorem dX11_part_16 : decode m_X11_part.2.1 16 = .ok (.getfield 43, 3) := by decide +kernel
theorem dX11_part_19 : decode m_X11_part.2.1 19 = .ok (.iload 5, 2) := by decide +kernel
theorem dX11_part_21 : decode m_X11_part.2.1 21 = .ok (.laload, 1) := by decide +kernel
theorem dX11_part_22 : decode m_X11_part.2.1 22 = .ok (.ladd, 1) := by decide +kernel
theorem dX11_part_23 : decode m_X11_part.2.1 23 = .ok (.lstore_n 2, 1) := by decide +kernel
theorem dX11_part_24 : decode m_X11_part.2.1 24 = .ok (.aload_n 0, 1) := by decide +kernel
theorem dX11_part_25 : decode m_X11_part.2.1 25 = .ok (.getfield 47, 3) := by decide +kernel
theorem dX11_part_28 : decode m_X11_part.2.1 28 = .ok (.iload 5, 2) := by decide +kernel
theorem dX11_part_30 : decode m_X11_part.2.1 30 = .ok (.iconst 0, 1) := by decide +kernel
theorem dX11_part_31 : decode m_X11_part.2.1 31 = .ok (.iastore, 1) := by decide +kernel
theorem dX11_part_32 : decode m_X11_part.2.1 32 = .ok (.iinc 5 1, 3) := by decide +kernel
theorem dX11_part_35 : decode m_X11_part.2.1 35 = .ok (.goto (-27), 3) := by decide +kernel
theorem dX11_part_38 : decode m_X11_part.2.1 38 = .ok (.lload_n 2, 1) := by decide +kernel
theorem dX11_part_39 : decode m_X11_part.2.1 39 = .ok (.lconst 0, 1) := by decide +kernel
theorem dX11_part_40 : decode m_X11_part.2.1 40 = .ok (.lcmp, 1) := by decide +kernel
theorem dX11_part_41 : decode m_X11_part.2.1 41 = .ok (.ifCond .ne 4, 3) := by decide +kernel
theorem dX11_part_44 : decode m_X11_part.2.1 44 = .ok (.return_, 1) := by decide +kernel
theorem dX11_part_45 : decode m_X11_part.2.1 45 = .ok (.iconst 0, 1) := by decide +kernel
theorem dX11_part_46 : decode m_X11_part.2.1 46 = .ok (.istore 5, 2) := by decide +kernel
theorem dX11_part_48 : decode m_X11_part.2.1 48 = .ok (.iload 5, 2) := by decide +kernel
theorem dX11_part_50 : decode m_X11_part.2.1 50 = .ok (.iconst 5, 1) := by decide +kernel
theorem dX11_part_51 : decode m_X11_part.2.1 51 = .ok (.if_icmp .ge 60, 3) := by decide +kernel
theorem dX11_part_54 : decode m_X11_part.2.1 54 = .ok (.aload_n 0, 1) := by decide +kernel
theorem dX11_part_55 : decode m_X11_part.2.1 55 = .ok (.getfield 47, 3) := by decide +kernel
theorem dX11_part_58 : decode m_X11_part.2.1 58 = .ok (.iload 5, 2) := by decide +kernel
theorem dX11_part_60 : decode m_X11_part.2.1 60 = .ok (.iload_n 1, 1) := by decide +kernel
theorem dX11_part_61 : decode m_X11_part.2.1 61 = .ok (.i2l, 1) := by decide +kernel
theorem dX11_part_62 : decode m_X11_part.2.1 62 = .ok (.aload_n 0, 1) := by decide +kernel
theorem dX11_part_63 : decode m_X11_part.2.1 63 = .ok (.getfield 43, 3) := by decide +kernel
theorem dX11_part_66 : decode m_X11_part.2.1 66 = .ok (.iload 5, 2) := by decide +kernel
theorem dX11_part_68 : decode m_X11_part.2.1 68 = .ok (.laload, 1) := by decide +kernel
theorem dX11_part_69 : decode m_X11_part.2.1 69 = .ok (.lmul, 1) := by decide +kernel
theorem dX11_part_70 : decode m_X11_part.2.1 70 = .ok (.lload_n 2, 1) := by decide +kernel
theorem dX11_part_71 : decode m_X11_part.2.1 71 = .ok (.ldiv, 1) := by decide +kernel
theorem dX11_part_72 : decode m_X11_part.2.1 72 = .ok (.l2i, 1) := by decide +kernel
theorem dX11_part_73 : decode m_X11_part.2.1 73 = .ok (.iastore, 1) := by decide +kernel
theorem dX11_part_74 : decode m_X11_part.2.1 74 = .ok (.aload_n 0, 1) := by decide +kernel
theorem dX11_part_75 : decode m_X11_part.2.1 75 = .ok (.getfield 50, 3) := by decide +kernel
theorem dX11_part_78 : decode m_X11_part.2.1 78 = .ok (.iload 5, 2) := by decide +kernel
theorem dX11_part_80 : decode m_X11_part.2.1 80 = .ok (.iload_n 1, 1) := by decide +kernel
theorem dX11_part_81 : decode m_X11_part.2.1 81 = .ok (.i2l, 1) := by decide +kernel
theorem dX11_part_82 : decode m_X11_part.2.1 82 = .ok (.aload_n 0, 1) := by decide +kernel
theorem dX11_part_83 : decode m_X11_part.2.1 83 = .ok (.getfield 43, 3) := by decide +kernel
theorem dX11_part_86 : decode m_X11_part.2.1 86 = .ok (.iload 5, 2) := by decide +kernel
theorem dX11_part_88 : decode m_X11_part.2.1 88 = .ok (.laload, 1) := by decide +kernel
theorem dX11_part_89 : decode m_X11_part.2.1 89 = .ok (.lmul, 1) := by decide +kernel
theorem dX11_part_90 : decode m_X11_part.2.1 90 = .ok (.lload_n 2, 1) := by decide +kernel
theorem dX11_part_91 : decode m_X11_part.2.1 91 = .ok (.lrem, 1) := by decide +kernel
theorem dX11_part_92 : decode m_X11_part.2.1 92 = .ok (.lastore, 1) := by decide +kernel
theorem dX11_part_93 : decode m_X11_part.2.1 93 = .ok (.iload 4, 2) := by decide +kernel
theorem dX11_part_95 : decode m_X11_part.2.1 95 = .ok (.aload_n 0, 1) := by decide +kernel
theorem dX11_part_96 : decode m_X11_part.2.1 96 = .ok (.getfield 47, 3) := by decide +kernel
theorem dX11_part_99 : decode m_X11_part.2.1 99 = .ok (.iload 5, 2) := by decide +kernel
theorem dX11_part_101 : decode m_X11_part.2.1 101 = .ok (.iaload, 1) := by decide +kernel
theorem dX11_part_102 : decode m_X11_part.2.1 102 = .ok (.isub, 1) := by decide +kernel
theorem dX11_part_103 : decode m_X11_part.2.1 103 = .ok (.istore 4, 2) := by decide +kernel
theorem dX11_part_105 : decode m_X11_part.2.1 105 = .ok (.iinc 5 1, 3) := by decide +kernel
theorem dX11_part_108 : decode m_X11_part.2.1 108 = .ok (.goto (-60), 3) := by decide +kernel
theorem dX11_part_111 : decode m_X11_part.2.1 111 = .ok (.iload 4, 2) := by decide +kernel
theorem dX11_part_113 : decode m_X11_part.2.1 113 = .ok (.ifCond .le 75, 3) := by decide +kernel
theorem dX11_part_116 : decode m_X11_part.2.1 116 = .ok (.iconst 0, 1) := by decide +kernel
theorem dX11_part_117 : decode m_X11_part.2.1 117 = .ok (.istore 5, 2) := by decide +kernel
theorem dX11_part_119 : decode m_X11_part.2.1 119 = .ok (.iconst 1, 1) := by decide +kernel
theorem dX11_part_120 : decode m_X11_part.2.1 120 = .ok (.istore 6, 2) := by decide +kernel
theorem dX11_part_122 : decode m_X11_part.2.1 122 = .ok (.iload 6, 2) := by decide +kernel
theorem dX11_part_124 : decode m_X11_part.2.1 124 = .ok (.iconst 5, 1) := by decide +kernel
theorem dX11_part_125 : decode m_X11_part.2.1 125 = .ok (.if_icmp .ge 36, 3) := by decide +kernel
theorem dX11_part_128 : decode m_X11_part.2.1 128 = .ok (.aload_n 0, 1) := by decide +kernel
theorem dX11_part_129 : decode m_X11_part.2.1 129 = .ok (.getfield 50, 3) := by decide +kernel
theorem dX11_part_132 : decode m_X11_part.2.1 132 = .ok (.iload 6, 2) := by decide +kernel
theorem dX11_part_134 : decode m_X11_part.2.1 134 = .ok (.laload, 1) := by decide +kernel
theorem dX11_part_135 : decode m_X11_part.2.1 135 = .ok (.aload_n 0, 1) := by decide +kernel
theorem dX11_part_136 : decode m_X11_part.2.1 136 = .ok (.getfield 50, 3) := by decide +kernel
theorem dX11_part_139 : decode m_X11_part.2.1 139 = .ok (.iload 5, 2) := by decide +kernel
theorem dX11_part_141 : decode m_X11_part.2.1 141 = .ok (.laload, 1) := by decide +kernel
theorem dX11_part_142 : decode m_X11_part.2.1 142 = .ok (.lcmp, 1) := by decide +kernel
theorem dX11_part_143 : decode m_X11_part.2.1 143 = .ok (.ifCond .le 8, 3) := by decide +kernel
theorem dX11_part_146 : decode m_X11_part.2.1 146 = .ok (.iload 6, 2) := by decide +kernel
theorem dX11_part_148 : decode m_X11_part.2.1 148 = .ok (.goto 5, 3) := by decide +kernel
theorem dX11_part_151 : decode m_X11_part.2.1 151 = .ok (.iload 5, 2) := by decide +kernel
theorem dX11_part_153 : decode m_X11_part.2.1 153 = .ok (.istore 5, 2) := by decide +kernel
theorem dX11_part_155 : decode m_X11_part.2.1 155 = .ok (.iinc 6 1, 3) := by decide +kernel
theorem dX11_part_158 : decode m_X11_part.2.1 158 = .ok (.goto (-36), 3) := by decide +kernel
theorem dX11_part_161 : decode m_X11_part.2.1 161 = .ok (.aload_n 0, 1) := by decide +kernel
theorem dX11_part_162 : decode m_X11_part.2.1 162 = .ok (.getfield 47, 3) := by decide +kernel
theorem dX11_part_165 : decode m_X11_part.2.1 165 = .ok (.iload 5, 2) := by decide +kernel
theorem dX11_part_167 : decode m_X11_part.2.1 167 = .ok (.dup2, 1) := by decide +kernel
theorem dX11_part_168 : decode m_X11_part.2.1 168 = .ok (.iaload, 1) := by decide +kernel
theorem dX11_part_169 : decode m_X11_part.2.1 169 = .ok (.iconst 1, 1) := by decide +kernel
theorem dX11_part_170 : decode m_X11_part.2.1 170 = .ok (.iadd, 1) := by decide +kernel
theorem dX11_part_171 : decode m_X11_part.2.1 171 = .ok (.iastore, 1) := by decide +kernel
theorem dX11_part_172 : decode m_X11_part.2.1 172 = .ok (.aload_n 0, 1) := by decide +kernel
theorem dX11_part_173 : decode m_X11_part.2.1 173 = .ok (.getfield 50, 3) := by decide +kernel
theorem dX11_part_176 : decode m_X11_part.2.1 176 = .ok (.iload 5, 2) := by decide +kernel
theorem dX11_part_178 : decode m_X11_part.2.1 178 = .ok (.ldc2_w 132, 3) := by decide +kernel
theorem dX11_part_181 : decode m_X11_part.2.1 181 = .ok (.lastore, 1) := by decide +kernel
theorem dX11_part_182 : decode m_X11_part.2.1 182 = .ok (.iinc 4 (-1), 3) := by decide +kernel
theorem dX11_part_185 : decode m_X11_part.2.1 185 = .ok (.goto (-74), 3) := by decide +kernel
theorem dX11_part_188 : decode m_X11_part.2.1 188 = .ok (.return_, 1) := by decide +kernel
theorem dX11_areaOf_0 : decode m_X11_areaOf.2.1 0 = .ok (.iconst 2, 1) := by decide +kernel
theorem dX11_areaOf_1 : decode m_X11_areaOf.2.1 1 = .ok (.iload_n 0, 1) := by decide +kernel
theorem dX11_areaOf_2 : decode m_X11_areaOf.2.1 2 = .ok (.imul, 1) := by decide +kernel
theorem dX11_areaOf_3 : decode m_X11_areaOf.2.1 3 = .ok (.iconst 1, 1) := by decide +kernel
theorem dX11_areaOf_4 : decode m_X11_areaOf.2.1 4 = .ok (.iadd, 1) := by decide +kernel
theorem dX11_areaOf_5 : decode m_X11_areaOf.2.1 5 = .ok (.ireturn, 1) := by decide +kernel
theorem dX11_bulkIn_0 : decode m_X11_bulkIn.2.1 0 = .ok (.iconst 0, 1) := by decide +kernel
theorem dX11_bulkIn_1 : decode m_X11_bulkIn.2.1 1 = .ok (.istore_n 2, 1) := by decide +kernel
theorem dX11_bulkIn_2 : decode m_X11_bulkIn.2.1 2 = .ok (.iconst 0, 1) := by decide +kernel
theorem dX11_bulkIn_3 : decode m_X11_bulkIn.2.1 3 = .ok (.istore_n 3, 1) := by decide +kernel
theorem dX11_bulkIn_4 : decode m_X11_bulkIn.2.1 4 = .ok (.iload_n 3, 1) := by decide +kernel
theorem dX11_bulkIn_5 : decode m_X11_bulkIn.2.1 5 = .ok (.aload_n 0, 1) := by decide +kernel
theorem dX11_bulkIn_6 : decode m_X11_bulkIn.2.1 6 = .ok (.getfield 7, 3) := by decide +kernel
theorem dX11_bulkIn_9 : decode m_X11_bulkIn.2.1 9 = .ok (.iconst 1, 1) := by decide +kernel
theorem dX11_bulkIn_10 : decode m_X11_bulkIn.2.1 10 = .ok (.iaload, 1) := by decide +kernel
theorem dX11_bulkIn_11 : decode m_X11_bulkIn.2.1 11 = .ok (.if_icmp .ge 26, 3) := by decide +kernel
theorem dX11_bulkIn_14 : decode m_X11_bulkIn.2.1 14 = .ok (.iload_n 2, 1) := by decide +kernel
theorem dX11_bulkIn_15 : decode m_X11_bulkIn.2.1 15 = .ok (.aload_n 0, 1) := by decide +kernel
theorem dX11_bulkIn_16 : decode m_X11_bulkIn.2.1 16 = .ok (.getfield 7, 3) := by decide +kernel
theorem dX11_bulkIn_19 : decode m_X11_bulkIn.2.1 19 = .ok (.aload_n 0, 1) := by decide +kernel
theorem dX11_bulkIn_20 : decode m_X11_bulkIn.2.1 20 = .ok (.iload_n 3, 1) := by decide +kernel
theorem dX11_bulkIn_21 : decode m_X11_bulkIn.2.1 21 = .ok (.invokevirtual 134, 3) := by decide +kernel
theorem dX11_bulkIn_24 : decode m_X11_bulkIn.2.1 24 = .ok (.iconst 5, 1) := by decide +kernel
theorem dX11_bulkIn_25 : decode m_X11_bulkIn.2.1 25 = .ok (.iadd, 1) := by decide +kernel
theorem dX11_bulkIn_26 : decode m_X11_bulkIn.2.1 26 = .ok (.iload_n 1, 1) := by decide +kernel
theorem dX11_bulkIn_27 : decode m_X11_bulkIn.2.1 27 = .ok (.iadd, 1) := by decide +kernel
theorem dX11_bulkIn_28 : decode m_X11_bulkIn.2.1 28 = .ok (.iaload, 1) := by decide +kernel
theorem dX11_bulkIn_29 : decode m_X11_bulkIn.2.1 29 = .ok (.iadd, 1) := by decide +kernel
theorem dX11_bulkIn_30 : decode m_X11_bulkIn.2.1 30 = .ok (.istore_n 2, 1) := by decide +kernel
theorem dX11_bulkIn_31 : decode m_X11_bulkIn.2.1 31 = .ok (.iinc 3 1, 3) := by decide +kernel
theorem dX11_bulkIn_34 : decode m_X11_bulkIn.2.1 34 = .ok (.goto (-30), 3) := by decide +kernel
theorem dX11_bulkIn_37 : decode m_X11_bulkIn.2.1 37 = .ok (.iload_n 2, 1) := by decide +kernel
theorem dX11_bulkIn_38 : decode m_X11_bulkIn.2.1 38 = .ok (.ireturn, 1) := by decide +kernel
theorem dX11_topOf_0 : decode m_X11_topOf.2.1 0 = .ok (.aload_n 0, 1) := by decide +kernel
theorem dX11_topOf_1 : decode m_X11_topOf.2.1 1 = .ok (.iload_n 1, 1) := by decide +kernel
theorem dX11_topOf_2 : decode m_X11_topOf.2.1 2 = .ok (.invokevirtual 137, 3) := by decide +kernel
theorem dX11_topOf_5 : decode m_X11_topOf.2.1 5 = .ok (.bipush 100, 2) := by decide +kernel
theorem dX11_topOf_7 : decode m_X11_topOf.2.1 7 = .ok (.imul, 1) := by decide +kernel
theorem dX11_topOf_8 : decode m_X11_topOf.2.1 8 = .ok (.iload_n 1, 1) := by decide +kernel
theorem dX11_topOf_9 : decode m_X11_topOf.2.1 9 = .ok (.invokestatic 140, 3) := by decide +kernel
theorem dX11_topOf_12 : decode m_X11_topOf.2.1 12 = .ok (.idiv, 1) := by decide +kernel
theorem dX11_topOf_13 : decode m_X11_topOf.2.1 13 = .ok (.ireturn, 1) := by decide +kernel
theorem dX11_greatestTop_0 : decode m_X11_greatestTop.2.1 0 = .ok (.iconst 0, 1) := by decide +kernel
theorem dX11_greatestTop_1 : decode m_X11_greatestTop.2.1 1 = .ok (.istore_n 1, 1) := by decide +kernel
theorem dX11_greatestTop_2 : decode m_X11_greatestTop.2.1 2 = .ok (.iconst 0, 1) := by decide +kernel
theorem dX11_greatestTop_3 : decode m_X11_greatestTop.2.1 3 = .ok (.istore_n 2, 1) := by decide +kernel
theorem dX11_greatestTop_4 : decode m_X11_greatestTop.2.1 4 = .ok (.iload_n 2, 1) := by decide +kernel
theorem dX11_greatestTop_5 : decode m_X11_greatestTop.2.1 5 = .ok (.iconst 5, 1) := by decide +kernel
theorem dX11_greatestTop_6 : decode m_X11_greatestTop.2.1 6 = .ok (.if_icmp .ge 28, 3) := by decide +kernel
theorem dX11_greatestTop_9 : decode m_X11_greatestTop.2.1 9 = .ok (.aload_n 0, 1) := by decide +kernel
theorem dX11_greatestTop_10 : decode m_X11_greatestTop.2.1 10 = .ok (.iload_n 2, 1) := by decide +kernel
theorem dX11_greatestTop_11 : decode m_X11_greatestTop.2.1 11 = .ok (.invokevirtual 143, 3) := by decide +kernel
theorem dX11_greatestTop_14 : decode m_X11_greatestTop.2.1 14 = .ok (.iload_n 1, 1) := by decide +kernel
theorem dX11_greatestTop_15 : decode m_X11_greatestTop.2.1 15 = .ok (.if_icmp .le 11, 3) := by decide +kernel
theorem dX11_greatestTop_18 : decode m_X11_greatestTop.2.1 18 = .ok (.aload_n 0, 1) := by decide +kernel
theorem dX11_greatestTop_19 : decode m_X11_greatestTop.2.1 19 = .ok (.iload_n 2, 1) := by decide +kernel
theorem dX11_greatestTop_20 : decode m_X11_greatestTop.2.1 20 = .ok (.invokevirtual 143, 3) := by decide +kernel
theorem dX11_greatestTop_23 : decode m_X11_greatestTop.2.1 23 = .ok (.goto 4, 3) := by decide +kernel
theorem dX11_greatestTop_26 : decode m_X11_greatestTop.2.1 26 = .ok (.iload_n 1, 1) := by decide +kernel
theorem dX11_greatestTop_27 : decode m_X11_greatestTop.2.1 27 = .ok (.istore_n 1, 1) := by decide +kernel
theorem dX11_greatestTop_28 : decode m_X11_greatestTop.2.1 28 = .ok (.iinc 2 1, 3) := by decide +kernel
theorem dX11_greatestTop_31 : decode m_X11_greatestTop.2.1 31 = .ok (.goto (-27), 3) := by decide +kernel
theorem dX11_greatestTop_34 : decode m_X11_greatestTop.2.1 34 = .ok (.iload_n 1, 1) := by decide +kernel
theorem dX11_greatestTop_35 : decode m_X11_greatestTop.2.1 35 = .ok (.ireturn, 1) := by decide +kernel
theorem dX11_allBulk_0 : decode m_X11_allBulk.2.1 0 = .ok (.iconst 0, 1) := by decide +kernel
theorem dX11_allBulk_1 : decode m_X11_allBulk.2.1 1 = .ok (.istore_n 1, 1) := by decide +kernel
theorem dX11_allBulk_2 : decode m_X11_allBulk.2.1 2 = .ok (.iconst 0, 1) := by decide +kernel
theorem dX11_allBulk_3 : decode m_X11_allBulk.2.1 3 = .ok (.istore_n 2, 1) := by decide +kernel
theorem dX11_allBulk_4 : decode m_X11_allBulk.2.1 4 = .ok (.iload_n 2, 1) := by decide +kernel
theorem dX11_allBulk_5 : decode m_X11_allBulk.2.1 5 = .ok (.iconst 5, 1) := by decide +kernel
theorem dX11_allBulk_6 : decode m_X11_allBulk.2.1 6 = .ok (.if_icmp .ge 17, 3) := by decide +kernel
theorem dX11_allBulk_9 : decode m_X11_allBulk.2.1 9 = .ok (.iload_n 1, 1) := by decide +kernel
theorem dX11_allBulk_10 : decode m_X11_allBulk.2.1 10 = .ok (.aload_n 0, 1) := by decide +kernel
theorem dX11_allBulk_11 : decode m_X11_allBulk.2.1 11 = .ok (.iload_n 2, 1) := by decide +kernel
theorem dX11_allBulk_12 : decode m_X11_allBulk.2.1 12 = .ok (.invokevirtual 137, 3) := by decide +kernel
theorem dX11_allBulk_15 : decode m_X11_allBulk.2.1 15 = .ok (.iadd, 1) := by decide +kernel
theorem dX11_allBulk_16 : decode m_X11_allBulk.2.1 16 = .ok (.istore_n 1, 1) := by decide +kernel
theorem dX11_allBulk_17 : decode m_X11_allBulk.2.1 17 = .ok (.iinc 2 1, 3) := by decide +kernel
theorem dX11_allBulk_20 : decode m_X11_allBulk.2.1 20 = .ok (.goto (-16), 3) := by decide +kernel
theorem dX11_allBulk_23 : decode m_X11_allBulk.2.1 23 = .ok (.iload_n 1, 1) := by decide +kernel
theorem dX11_allBulk_24 : decode m_X11_allBulk.2.1 24 = .ok (.ireturn, 1) := by decide +kernel
theorem dX11_resistance_0 : decode m_X11_resistance.2.1 0 = .ok (.iconst 1, 1) := by decide +kernel
theorem dX11_resistance_1 : decode m_X11_resistance.2.1 1 = .ok (.istore_n 2, 1) := by decide +kernel
theorem dX11_resistance_2 : decode m_X11_resistance.2.1 2 = .ok (.iconst 0, 1) := by decide +kernel
theorem dX11_resistance_3 : decode m_X11_resistance.2.1 3 = .ok (.istore_n 3, 1) := by decide +kernel
theorem dX11_resistance_4 : decode m_X11_resistance.2.1 4 = .ok (.iload_n 3, 1) := by decide +kernel
theorem dX11_resistance_5 : decode m_X11_resistance.2.1 5 = .ok (.aload_n 0, 1) := by decide +kernel
theorem dX11_resistance_6 : decode m_X11_resistance.2.1 6 = .ok (.getfield 7, 3) := by decide +kernel
theorem dX11_resistance_9 : decode m_X11_resistance.2.1 9 = .ok (.iconst 1, 1) := by decide +kernel
theorem dX11_resistance_10 : decode m_X11_resistance.2.1 10 = .ok (.iaload, 1) := by decide +kernel
theorem dX11_resistance_11 : decode m_X11_resistance.2.1 11 = .ok (.if_icmp .ge 49, 3) := by decide +kernel
theorem dX11_resistance_14 : decode m_X11_resistance.2.1 14 = .ok (.iload_n 2, 1) := by decide +kernel
theorem dX11_resistance_15 : decode m_X11_resistance.2.1 15 = .ok (.aload_n 0, 1) := by decide +kernel
theorem dX11_resistance_16 : decode m_X11_resistance.2.1 16 = .ok (.getfield 7, 3) := by decide +kernel
theorem dX11_resistance_19 : decode m_X11_resistance.2.1 19 = .ok (.aload_n 0, 1) := by decide +kernel
theorem dX11_resistance_20 : decode m_X11_resistance.2.1 20 = .ok (.iload_n 3, 1) := by decide +kernel
theorem dX11_resistance_21 : decode m_X11_resistance.2.1 21 = .ok (.invokevirtual 134, 3) := by decide +kernel
theorem dX11_resistance_24 : decode m_X11_resistance.2.1 24 = .ok (.iconst 5, 1) := by decide +kernel
theorem dX11_resistance_25 : decode m_X11_resistance.2.1 25 = .ok (.iadd, 1) := by decide +kernel
theorem dX11_resistance_26 : decode m_X11_resistance.2.1 26 = .ok (.iload_n 1, 1) := by decide +kernel
theorem dX11_resistance_27 : decode m_X11_resistance.2.1 27 = .ok (.iadd, 1) := by decide +kernel
theorem dX11_resistance_28 : decode m_X11_resistance.2.1 28 = .ok (.iaload, 1) := by decide +kernel
theorem dX11_resistance_29 : decode m_X11_resistance.2.1 29 = .ok (.aload_n 0, 1) := by decide +kernel
theorem dX11_resistance_30 : decode m_X11_resistance.2.1 30 = .ok (.getfield 7, 3) := by decide +kernel
theorem dX11_resistance_33 : decode m_X11_resistance.2.1 33 = .ok (.aload_n 0, 1) := by decide +kernel
theorem dX11_resistance_34 : decode m_X11_resistance.2.1 34 = .ok (.aload_n 0, 1) := by decide +kernel
theorem dX11_resistance_35 : decode m_X11_resistance.2.1 35 = .ok (.getfield 7, 3) := by decide +kernel
theorem dX11_resistance_38 : decode m_X11_resistance.2.1 38 = .ok (.aload_n 0, 1) := by decide +kernel
theorem dX11_resistance_39 : decode m_X11_resistance.2.1 39 = .ok (.iload_n 3, 1) := by decide +kernel
theorem dX11_resistance_40 : decode m_X11_resistance.2.1 40 = .ok (.invokevirtual 134, 3) := by decide +kernel
theorem dX11_resistance_43 : decode m_X11_resistance.2.1 43 = .ok (.iaload, 1) := by decide +kernel
theorem dX11_resistance_44 : decode m_X11_resistance.2.1 44 = .ok (.invokevirtual 86, 3) := by decide +kernel
theorem dX11_resistance_47 : decode m_X11_resistance.2.1 47 = .ok (.iaload, 1) := by decide +kernel
theorem dX11_resistance_48 : decode m_X11_resistance.2.1 48 = .ok (.invokestatic 106, 3) := by decide +kernel
theorem dX11_resistance_51 : decode m_X11_resistance.2.1 51 = .ok (.imul, 1) := by decide +kernel
theorem dX11_resistance_52 : decode m_X11_resistance.2.1 52 = .ok (.iadd, 1) := by decide +kernel
theorem dX11_resistance_53 : decode m_X11_resistance.2.1 53 = .ok (.istore_n 2, 1) := by decide +kernel
theorem dX11_resistance_54 : decode m_X11_resistance.2.1 54 = .ok (.iinc 3 1, 3) := by decide +kernel
theorem dX11_resistance_57 : decode m_X11_resistance.2.1 57 = .ok (.goto (-53), 3) := by decide +kernel
theorem dX11_resistance_60 : decode m_X11_resistance.2.1 60 = .ok (.iload_n 2, 1) := by decide +kernel
theorem dX11_resistance_61 : decode m_X11_resistance.2.1 61 = .ok (.ireturn, 1) := by decide +kernel
theorem dX11_slide_0 : decode m_X11_slide.2.1 0 = .ok (.aload_n 0, 1) := by decide +kernel
theorem dX11_slide_1 : decode m_X11_slide.2.1 1 = .ok (.iload_n 1, 1) := by decide +kernel
theorem dX11_slide_2 : decode m_X11_slide.2.1 2 = .ok (.invokevirtual 134, 3) := by decide +kernel
theorem dX11_slide_5 : decode m_X11_slide.2.1 5 = .ok (.iconst 5, 1) := by decide +kernel
theorem dX11_slide_6 : decode m_X11_slide.2.1 6 = .ok (.iadd, 1) := by decide +kernel
theorem dX11_slide_7 : decode m_X11_slide.2.1 7 = .ok (.istore_n 2, 1) := by decide +kernel
theorem dX11_slide_8 : decode m_X11_slide.2.1 8 = .ok (.iconst 0, 1) := by decide +kernel
theorem dX11_slide_9 : decode m_X11_slide.2.1 9 = .ok (.istore_n 3, 1) := by decide +kernel
theorem dX11_slide_10 : decode m_X11_slide.2.1 10 = .ok (.iload_n 3, 1) := by decide +kernel
theorem dX11_slide_11 : decode m_X11_slide.2.1 11 = .ok (.iconst 5, 1) := by decide +kernel
theorem dX11_slide_12 : decode m_X11_slide.2.1 12 = .ok (.if_icmp .ge 20, 3) := by decide +kernel
theorem dX11_slide_15 : decode m_X11_slide.2.1 15 = .ok (.aload_n 0, 1) := by decide +kernel
theorem dX11_slide_16 : decode m_X11_slide.2.1 16 = .ok (.getfield 56, 3) := by decide +kernel
theorem dX11_slide_19 : decode m_X11_slide.2.1 19 = .ok (.iload_n 3, 1) := by decide +kernel
theorem dX11_slide_20 : decode m_X11_slide.2.1 20 = .ok (.aload_n 0, 1) := by decide +kernel
theorem dX11_slide_21 : decode m_X11_slide.2.1 21 = .ok (.iload_n 3, 1) := by decide +kernel
theorem dX11_slide_22 : decode m_X11_slide.2.1 22 = .ok (.invokevirtual 137, 3) := by decide +kernel
theorem dX11_slide_25 : decode m_X11_slide.2.1 25 = .ok (.iastore, 1) := by decide +kernel
theorem dX11_slide_26 : decode m_X11_slide.2.1 26 = .ok (.iinc 3 1, 3) := by decide +kernel
theorem dX11_slide_29 : decode m_X11_slide.2.1 29 = .ok (.goto (-19), 3) := by decide +kernel
theorem dX11_slide_32 : decode m_X11_slide.2.1 32 = .ok (.iconst 1, 1) := by decide +kernel
theorem dX11_slide_33 : decode m_X11_slide.2.1 33 = .ok (.istore_n 3, 1) := by decide +kernel
theorem dX11_slide_34 : decode m_X11_slide.2.1 34 = .ok (.iconst 0, 1) := by decide +kernel
theorem dX11_slide_35 : decode m_X11_slide.2.1 35 = .ok (.istore 4, 2) := by decide +kernel
theorem dX11_slide_37 : decode m_X11_slide.2.1 37 = .ok (.iload 4, 2) := by decide +kernel
theorem dX11_slide_39 : decode m_X11_slide.2.1 39 = .ok (.sipush 400, 3) := by decide +kernel
theorem dX11_slide_42 : decode m_X11_slide.2.1 42 = .ok (.if_icmp .ge 212, 3) := by decide +kernel
theorem dX11_slide_45 : decode m_X11_slide.2.1 45 = .ok (.iload_n 3, 1) := by decide +kernel
theorem dX11_slide_46 : decode m_X11_slide.2.1 46 = .ok (.ifCond .eq 208, 3) := by decide +kernel
theorem dX11_slide_49 : decode m_X11_slide.2.1 49 = .ok (.iconst 0, 1) := by decide +kernel
theorem dX11_slide_50 : decode m_X11_slide.2.1 50 = .ok (.istore_n 3, 1) := by decide +kernel
theorem dX11_slide_51 : decode m_X11_slide.2.1 51 = .ok (.iconst 0, 1) := by decide +kernel
theorem dX11_slide_52 : decode m_X11_slide.2.1 52 = .ok (.istore 5, 2) := by decide +kernel
theorem dX11_slide_54 : decode m_X11_slide.2.1 54 = .ok (.iload 5, 2) := by decide +kernel
theorem dX11_slide_56 : decode m_X11_slide.2.1 56 = .ok (.iconst 5, 1) := by decide +kernel
theorem dX11_slide_57 : decode m_X11_slide.2.1 57 = .ok (.if_icmp .ge 32, 3) := by decide +kernel
theorem dX11_slide_60 : decode m_X11_slide.2.1 60 = .ok (.aload_n 0, 1) := by decide +kernel
theorem dX11_slide_61 : decode m_X11_slide.2.1 61 = .ok (.getfield 53, 3) := by decide +kernel
theorem dX11_slide_64 : decode m_X11_slide.2.1 64 = .ok (.iload 5, 2) := by decide +kernel
theorem dX11_slide_66 : decode m_X11_slide.2.1 66 = .ok (.aload_n 0, 1) := by decide +kernel
theorem dX11_slide_67 : decode m_X11_slide.2.1 67 = .ok (.getfield 56, 3) := by decide +kernel
theorem dX11_slide_70 : decode m_X11_slide.2.1 70 = .ok (.iload 5, 2) := by decide +kernel
theorem dX11_slide_72 : decode m_X11_slide.2.1 72 = .ok (.iaload, 1) := by decide +kernel
theorem dX11_slide_73 : decode m_X11_slide.2.1 73 = .ok (.bipush 100, 2) := by decide +kernel
theorem dX11_slide_75 : decode m_X11_slide.2.1 75 = .ok (.imul, 1) := by decide +kernel
theorem dX11_slide_76 : decode m_X11_slide.2.1 76 = .ok (.iload 5, 2) := by decide +kernel
theorem dX11_slide_78 : decode m_X11_slide.2.1 78 = .ok (.invokestatic 140, 3) := by decide +kernel
theorem dX11_slide_81 : decode m_X11_slide.2.1 81 = .ok (.idiv, 1) := by decide +kernel
theorem dX11_slide_82 : decode m_X11_slide.2.1 82 = .ok (.iastore, 1) := by decide +kernel
theorem dX11_slide_83 : decode m_X11_slide.2.1 83 = .ok (.iinc 5 1, 3) := by decide +kernel
theorem dX11_slide_86 : decode m_X11_slide.2.1 86 = .ok (.goto (-32), 3) := by decide +kernel
theorem dX11_slide_89 : decode m_X11_slide.2.1 89 = .ok (.iconst 0, 1) := by decide +kernel
theorem dX11_slide_90 : decode m_X11_slide.2.1 90 = .ok (.istore 5, 2) := by decide +kernel
theorem dX11_slide_92 : decode m_X11_slide.2.1 92 = .ok (.iload 5, 2) := by decide +kernel
theorem dX11_slide_94 : decode m_X11_slide.2.1 94 = .ok (.iconst 1, 1) := by decide +kernel
theorem dX11_slide_95 : decode m_X11_slide.2.1 95 = .ok (.iadd, 1) := by decide +kernel
theorem dX11_slide_96 : decode m_X11_slide.2.1 96 = .ok (.iconst 5, 1) := by decide +kernel
theorem dX11_slide_97 : decode m_X11_slide.2.1 97 = .ok (.if_icmp .ge 151, 3) := by decide +kernel
theorem dX11_slide_100 : decode m_X11_slide.2.1 100 = .ok (.iload_n 3, 1) := by decide +kernel
theorem dX11_slide_101 : decode m_X11_slide.2.1 101 = .ok (.ifCond .ne 147, 3) := by decide +kernel
theorem dX11_slide_104 : decode m_X11_slide.2.1 104 = .ok (.aload_n 0, 1) := by decide +kernel
theorem dX11_slide_105 : decode m_X11_slide.2.1 105 = .ok (.getfield 53, 3) := by decide +kernel
theorem dX11_slide_108 : decode m_X11_slide.2.1 108 = .ok (.iload 5, 2) := by decide +kernel
theorem dX11_slide_110 : decode m_X11_slide.2.1 110 = .ok (.iaload, 1) := by decide +kernel
theorem dX11_slide_111 : decode m_X11_slide.2.1 111 = .ok (.aload_n 0, 1) := by decide +kernel
theorem dX11_slide_112 : decode m_X11_slide.2.1 112 = .ok (.getfield 53, 3) := by decide +kernel
theorem dX11_slide_115 : decode m_X11_slide.2.1 115 = .ok (.iload 5, 2) := by decide +kernel
theorem dX11_slide_117 : decode m_X11_slide.2.1 117 = .ok (.iconst 1, 1) := by decide +kernel
theorem dX11_slide_118 : decode m_X11_slide.2.1 118 = .ok (.iadd, 1) := by decide +kernel
theorem dX11_slide_119 : decode m_X11_slide.2.1 119 = .ok (.iaload, 1) := by decide +kernel
theorem dX11_slide_120 : decode m_X11_slide.2.1 120 = .ok (.isub, 1) := by decide +kernel
theorem dX11_slide_121 : decode m_X11_slide.2.1 121 = .ok (.istore 6, 2) := by decide +kernel
theorem dX11_slide_123 : decode m_X11_slide.2.1 123 = .ok (.iload 6, 2) := by decide +kernel
theorem dX11_slide_125 : decode m_X11_slide.2.1 125 = .ok (.ifCond .le 8, 3) := by decide +kernel
theorem dX11_slide_128 : decode m_X11_slide.2.1 128 = .ok (.iload 5, 2) := by decide +kernel
theorem dX11_slide_130 : decode m_X11_slide.2.1 130 = .ok (.goto 7, 3) := by decide +kernel
theorem dX11_slide_133 : decode m_X11_slide.2.1 133 = .ok (.iload 5, 2) := by decide +kernel
theorem dX11_slide_135 : decode m_X11_slide.2.1 135 = .ok (.iconst 1, 1) := by decide +kernel
theorem dX11_slide_136 : decode m_X11_slide.2.1 136 = .ok (.iadd, 1) := by decide +kernel
theorem dX11_slide_137 : decode m_X11_slide.2.1 137 = .ok (.istore 7, 2) := by decide +kernel
theorem dX11_slide_139 : decode m_X11_slide.2.1 139 = .ok (.iload 6, 2) := by decide +kernel
theorem dX11_slide_141 : decode m_X11_slide.2.1 141 = .ok (.ifCond .le 10, 3) := by decide +kernel
theorem dX11_slide_144 : decode m_X11_slide.2.1 144 = .ok (.iload 5, 2) := by decide +kernel
theorem dX11_slide_146 : decode m_X11_slide.2.1 146 = .ok (.iconst 1, 1) := by decide +kernel
theorem dX11_slide_147 : decode m_X11_slide.2.1 147 = .ok (.iadd, 1) := by decide +kernel
theorem dX11_slide_148 : decode m_X11_slide.2.1 148 = .ok (.goto 5, 3) := by decide +kernel
theorem dX11_slide_151 : decode m_X11_slide.2.1 151 = .ok (.iload 5, 2) := by decide +kernel
theorem dX11_slide_153 : decode m_X11_slide.2.1 153 = .ok (.istore 8, 2) := by decide +kernel
theorem dX11_slide_155 : decode m_X11_slide.2.1 155 = .ok (.iload 6, 2) := by decide +kernel
theorem dX11_slide_157 : decode m_X11_slide.2.1 157 = .ok (.aload_n 0, 1) := by decide +kernel
theorem dX11_slide_158 : decode m_X11_slide.2.1 158 = .ok (.getfield 7, 3) := by decide +kernel
theorem dX11_slide_161 : decode m_X11_slide.2.1 161 = .ok (.bipush 6, 2) := by decide +kernel
theorem dX11_slide_163 : decode m_X11_slide.2.1 163 = .ok (.iaload, 1) := by decide +kernel
theorem dX11_slide_164 : decode m_X11_slide.2.1 164 = .ok (.if_icmp .gt 16, 3) := by decide +kernel
theorem dX11_slide_167 : decode m_X11_slide.2.1 167 = .ok (.iload 6, 2) := by decide +kernel
theorem dX11_slide_169 : decode m_X11_slide.2.1 169 = .ok (.ineg, 1) := by decide +kernel
theorem dX11_slide_170 : decode m_X11_slide.2.1 170 = .ok (.aload_n 0, 1) := by decide +kernel
theorem dX11_slide_171 : decode m_X11_slide.2.1 171 = .ok (.getfield 7, 3) := by decide +kernel
theorem dX11_slide_174 : decode m_X11_slide.2.1 174 = .ok (.bipush 6, 2) := by decide +kernel
theorem dX11_slide_176 : decode m_X11_slide.2.1 176 = .ok (.iaload, 1) := by decide +kernel
theorem dX11_slide_177 : decode m_X11_slide.2.1 177 = .ok (.if_icmp .le 65, 3) := by decide +kernel
theorem dX11_slide_180 : decode m_X11_slide.2.1 180 = .ok (.aload_n 0, 1) := by decide +kernel
theorem dX11_slide_181 : decode m_X11_slide.2.1 181 = .ok (.getfield 7, 3) := by decide +kernel
theorem dX11_slide_184 : decode m_X11_slide.2.1 184 = .ok (.iload_n 2, 1) := by decide +kernel
theorem dX11_slide_185 : decode m_X11_slide.2.1 185 = .ok (.iload 7, 2) := by decide +kernel
theorem dX11_slide_187 : decode m_X11_slide.2.1 187 = .ok (.iadd, 1) := by decide +kernel
theorem dX11_slide_188 : decode m_X11_slide.2.1 188 = .ok (.iaload, 1) := by decide +kernel
theorem dX11_slide_189 : decode m_X11_slide.2.1 189 = .ok (.ifCond .le 53, 3) := by decide +kernel
theorem dX11_slide_192 : decode m_X11_slide.2.1 192 = .ok (.aload_n 0, 1) := by decide +kernel
theorem dX11_slide_193 : decode m_X11_slide.2.1 193 = .ok (.getfield 7, 3) := by decide +kernel
theorem dX11_slide_196 : decode m_X11_slide.2.1 196 = .ok (.iload_n 2, 1) := by decide +kernel
theorem dX11_slide_197 : decode m_X11_slide.2.1 197 = .ok (.iload 7, 2) := by decide +kernel
theorem dX11_slide_199 : decode m_X11_slide.2.1 199 = .ok (.iadd, 1) := by decide +kernel
theorem dX11_slide_200 : decode m_X11_slide.2.1 200 = .ok (.dup2, 1) := by decide +kernel
theorem dX11_slide_201 : decode m_X11_slide.2.1 201 = .ok (.iaload, 1) := by decide +kernel
theorem dX11_slide_202 : decode m_X11_slide.2.1 202 = .ok (.iconst 1, 1) := by decide +kernel
theorem dX11_slide_203 : decode m_X11_slide.2.1 203 = .ok (.isub, 1) := by decide +kernel
theorem dX11_slide_204 : decode m_X11_slide.2.1 204 = .ok (.iastore, 1) := by decide +kernel
theorem dX11_slide_205 : decode m_X11_slide.2.1 205 = .ok (.aload_n 0, 1) := by decide +kernel
theorem dX11_slide_206 : decode m_X11_slide.2.1 206 = .ok (.getfield 7, 3) := by decide +kernel
theorem dX11_slide_209 : decode m_X11_slide.2.1 209 = .ok (.iload_n 2, 1) := by decide +kernel
theorem dX11_slide_210 : decode m_X11_slide.2.1 210 = .ok (.iload 8, 2) := by decide +kernel
theorem dX11_slide_212 : decode m_X11_slide.2.1 212 = .ok (.iadd, 1) := by decide +kernel
theorem dX11_slide_213 : decode m_X11_slide.2.1 213 = .ok (.dup2, 1) := by decide +kernel
theorem dX11_slide_214 : decode m_X11_slide.2.1 214 = .ok (.iaload, 1) := by decide +kernel
theorem dX11_slide_215 : decode m_X11_slide.2.1 215 = .ok (.iconst 1, 1) := by decide +kernel
theorem dX11_slide_216 : decode m_X11_slide.2.1 216 = .ok (.iadd, 1) := by decide +kernel
theorem dX11_slide_217 : decode m_X11_slide.2.1 217 = .ok (.iastore, 1) := by decide +kernel
theorem dX11_slide_218 : decode m_X11_slide.2.1 218 = .ok (.aload_n 0, 1) := by decide +kernel
theorem dX11_slide_219 : decode m_X11_slide.2.1 219 = .ok (.getfield 56, 3) := by decide +kernel
theorem dX11_slide_222 : decode m_X11_slide.2.1 222 = .ok (.iload 7, 2) := by decide +kernel
theorem dX11_slide_224 : decode m_X11_slide.2.1 224 = .ok (.dup2, 1) := by decide +kernel
theorem dX11_slide_225 : decode m_X11_slide.2.1 225 = .ok (.iaload, 1) := by decide +kernel
theorem dX11_slide_226 : decode m_X11_slide.2.1 226 = .ok (.iconst 1, 1) := by decide +kernel
theorem dX11_slide_227 : decode m_X11_slide.2.1 227 = .ok (.isub, 1) := by decide +kernel
theorem dX11_slide_228 : decode m_X11_slide.2.1 228 = .ok (.iastore, 1) := by decide +kernel
theorem dX11_slide_229 : decode m_X11_slide.2.1 229 = .ok (.aload_n 0, 1) := by decide +kernel
theorem dX11_slide_230 : decode m_X11_slide.2.1 230 = .ok (.getfield 56, 3) := by decide +kernel
theorem dX11_slide_233 : decode m_X11_slide.2.1 233 = .ok (.iload 8, 2) := by decide +kernel
theorem dX11_slide_235 : decode m_X11_slide.2.1 235 = .ok (.dup2, 1) := by decide +kernel
theorem dX11_slide_236 : decode m_X11_slide.2.1 236 = .ok (.iaload, 1) := by decide +kernel
theorem dX11_slide_237 : decode m_X11_slide.2.1 237 = .ok (.iconst 1, 1) := by decide +kernel
theorem dX11_slide_238 : decode m_X11_slide.2.1 238 = .ok (.iadd, 1) := by decide +kernel
theorem dX11_slide_239 : decode m_X11_slide.2.1 239 = .ok (.iastore, 1) := by decide +kernel
theorem dX11_slide_240 : decode m_X11_slide.2.1 240 = .ok (.iconst 1, 1) := by decide +kernel
theorem dX11_slide_241 : decode m_X11_slide.2.1 241 = .ok (.istore_n 3, 1) := by decide +kernel
theorem dX11_slide_242 : decode m_X11_slide.2.1 242 = .ok (.iinc 5 1, 3) := by decide +kernel
theorem dX11_slide_245 : decode m_X11_slide.2.1 245 = .ok (.goto (-153), 3) := by decide +kernel
theorem dX11_slide_248 : decode m_X11_slide.2.1 248 = .ok (.iinc 4 1, 3) := by decide +kernel
theorem dX11_slide_251 : decode m_X11_slide.2.1 251 = .ok (.goto (-214), 3) := by decide +kernel
theorem dX11_slide_254 : decode m_X11_slide.2.1 254 = .ok (.return_, 1) := by decide +kernel
theorem dX11_comes_0 : decode m_X11_comes.2.1 0 = .ok (.aload_n 0, 1) := by decide +kernel
theorem dX11_comes_1 : decode m_X11_comes.2.1 1 = .ok (.iload_n 1, 1) := by decide +kernel
theorem dX11_comes_2 : decode m_X11_comes.2.1 2 = .ok (.invokevirtual 86, 3) := by decide +kernel
theorem dX11_comes_5 : decode m_X11_comes.2.1 5 = .ok (.istore_n 3, 1) := by decide +kernel
theorem dX11_comes_6 : decode m_X11_comes.2.1 6 = .ok (.aload_n 0, 1) := by decide +kernel
theorem dX11_comes_7 : decode m_X11_comes.2.1 7 = .ok (.getfield 7, 3) := by decide +kernel
theorem dX11_comes_10 : decode m_X11_comes.2.1 10 = .ok (.iconst 1, 1) := by decide +kernel
theorem dX11_comes_11 : decode m_X11_comes.2.1 11 = .ok (.iaload, 1) := by decide +kernel
theorem dX11_comes_12 : decode m_X11_comes.2.1 12 = .ok (.istore 4, 2) := by decide +kernel
theorem dX11_comes_14 : decode m_X11_comes.2.1 14 = .ok (.aload_n 0, 1) := by decide +kernel
theorem dX11_comes_15 : decode m_X11_comes.2.1 15 = .ok (.iload 4, 2) := by decide +kernel
theorem dX11_comes_17 : decode m_X11_comes.2.1 17 = .ok (.invokevirtual 134, 3) := by decide +kernel
theorem dX11_comes_20 : decode m_X11_comes.2.1 20 = .ok (.istore 5, 2) := by decide +kernel
theorem dX11_comes_22 : decode m_X11_comes.2.1 22 = .ok (.aload_n 0, 1) := by decide +kernel
theorem dX11_comes_23 : decode m_X11_comes.2.1 23 = .ok (.getfield 7, 3) := by decide +kernel
theorem dX11_comes_26 : decode m_X11_comes.2.1 26 = .ok (.iload_n 3, 1) := by decide +kernel
theorem dX11_comes_27 : decode m_X11_comes.2.1 27 = .ok (.iaload, 1) := by decide +kernel
theorem dX11_comes_28 : decode m_X11_comes.2.1 28 = .ok (.iload_n 2, 1) := by decide +kernel
theorem dX11_comes_29 : decode m_X11_comes.2.1 29 = .ok (.invokestatic 113, 3) := by decide +kernel
theorem dX11_comes_32 : decode m_X11_comes.2.1 32 = .ok (.istore 6, 2) := by decide +kernel
theorem dX11_comes_34 : decode m_X11_comes.2.1 34 = .ok (.aload_n 0, 1) := by decide +kernel
theorem dX11_comes_35 : decode m_X11_comes.2.1 35 = .ok (.getfield 7, 3) := by decide +kernel
theorem dX11_comes_38 : decode m_X11_comes.2.1 38 = .ok (.iload_n 3, 1) := by decide +kernel
theorem dX11_comes_39 : decode m_X11_comes.2.1 39 = .ok (.iconst 4, 1) := by decide +kernel
theorem dX11_comes_40 : decode m_X11_comes.2.1 40 = .ok (.iadd, 1) := by decide +kernel
theorem dX11_comes_41 : decode m_X11_comes.2.1 41 = .ok (.iaload, 1) := by decide +kernel
theorem dX11_comes_42 : decode m_X11_comes.2.1 42 = .ok (.istore 7, 2) := by decide +kernel
theorem dX11_comes_44 : decode m_X11_comes.2.1 44 = .ok (.iconst 4, 1) := by decide +kernel
theorem dX11_comes_45 : decode m_X11_comes.2.1 45 = .ok (.istore 8, 2) := by decide +kernel
theorem dX11_comes_47 : decode m_X11_comes.2.1 47 = .ok (.iload 8, 2) := by decide +kernel
theorem dX11_comes_49 : decode m_X11_comes.2.1 49 = .ok (.ifCond .lt 29, 3) := by decide +kernel
theorem dX11_comes_52 : decode m_X11_comes.2.1 52 = .ok (.aload_n 0, 1) := by decide +kernel
theorem dX11_comes_53 : decode m_X11_comes.2.1 53 = .ok (.getfield 43, 3) := by decide +kernel
theorem dX11_comes_56 : decode m_X11_comes.2.1 56 = .ok (.iload 8, 2) := by decide +kernel
theorem dX11_comes_58 : decode m_X11_comes.2.1 58 = .ok (.iload 7, 2) := by decide +kernel
theorem dX11_comes_60 : decode m_X11_comes.2.1 60 = .ok (.bipush 10, 2) := by decide +kernel
theorem dX11_comes_62 : decode m_X11_comes.2.1 62 = .ok (.irem, 1) := by decide +kernel
theorem dX11_comes_63 : decode m_X11_comes.2.1 63 = .ok (.i2l, 1) := by decide +kernel
theorem dX11_comes_64 : decode m_X11_comes.2.1 64 = .ok (.lastore, 1) := by decide +kernel
theorem dX11_comes_65 : decode m_X11_comes.2.1 65 = .ok (.iload 7, 2) := by decide +kernel
theorem dX11_comes_67 : decode m_X11_comes.2.1 67 = .ok (.bipush 10, 2) := by decide +kernel
theorem dX11_comes_69 : decode m_X11_comes.2.1 69 = .ok (.idiv, 1) := by decide +kernel
theorem dX11_comes_70 : decode m_X11_comes.2.1 70 = .ok (.istore 7, 2) := by decide +kernel
theorem dX11_comes_72 : decode m_X11_comes.2.1 72 = .ok (.iinc 8 (-1), 3) := by decide +kernel
theorem dX11_comes_75 : decode m_X11_comes.2.1 75 = .ok (.goto (-28), 3) := by decide +kernel
theorem dX11_comes_78 : decode m_X11_comes.2.1 78 = .ok (.aload_n 0, 1) := by decide +kernel
theorem dX11_comes_79 : decode m_X11_comes.2.1 79 = .ok (.iload 6, 2) := by decide +kernel
theorem dX11_comes_81 : decode m_X11_comes.2.1 81 = .ok (.invokevirtual 146, 3) := by decide +kernel
theorem dX11_comes_84 : decode m_X11_comes.2.1 84 = .ok (.aload_n 0, 1) := by decide +kernel
theorem dX11_comes_85 : decode m_X11_comes.2.1 85 = .ok (.getfield 7, 3) := by decide +kernel
theorem dX11_comes_88 : decode m_X11_comes.2.1 88 = .ok (.iload 5, 2) := by decide +kernel
theorem dX11_comes_90 : decode m_X11_comes.2.1 90 = .ok (.iconst 0, 1) := by decide +kernel
theorem dX11_comes_91 : decode m_X11_comes.2.1 91 = .ok (.iadd, 1) := by decide +kernel
theorem dX11_comes_92 : decode m_X11_comes.2.1 92 = .ok (.iload_n 1, 1) := by decide +kernel
theorem dX11_comes_93 : decode m_X11_comes.2.1 93 = .ok (.iastore, 1) := by decide +kernel
theorem dX11_comes_94 : decode m_X11_comes.2.1 94 = .ok (.aload_n 0, 1) := by decide +kernel
theorem dX11_comes_95 : decode m_X11_comes.2.1 95 = .ok (.getfield 7, 3) := by decide +kernel
theorem dX11_comes_98 : decode m_X11_comes.2.1 98 = .ok (.iload 5, 2) := by decide +kernel
theorem dX11_comes_100 : decode m_X11_comes.2.1 100 = .ok (.iconst 1, 1) := by decide +kernel
theorem dX11_comes_101 : decode m_X11_comes.2.1 101 = .ok (.iadd, 1) := by decide +kernel
theorem dX11_comes_102 : decode m_X11_comes.2.1 102 = .ok (.aload_n 0, 1) := by decide +kernel
theorem dX11_comes_103 : decode m_X11_comes.2.1 103 = .ok (.getfield 7, 3) := by decide +kernel
theorem dX11_comes_106 : decode m_X11_comes.2.1 106 = .ok (.iconst 5, 1) := by decide +kernel
theorem dX11_comes_107 : decode m_X11_comes.2.1 107 = .ok (.iaload, 1) := by decide +kernel
theorem dX11_comes_108 : decode m_X11_comes.2.1 108 = .ok (.iastore, 1) := by decide +kernel
theorem dX11_comes_109 : decode m_X11_comes.2.1 109 = .ok (.aload_n 0, 1) := by decide +kernel
theorem dX11_comes_110 : decode m_X11_comes.2.1 110 = .ok (.getfield 7, 3) := by decide +kernel
theorem dX11_comes_113 : decode m_X11_comes.2.1 113 = .ok (.iload 5, 2) := by decide +kernel
theorem dX11_comes_115 : decode m_X11_comes.2.1 115 = .ok (.iconst 2, 1) := by decide +kernel
theorem dX11_comes_116 : decode m_X11_comes.2.1 116 = .ok (.iadd, 1) := by decide +kernel
theorem dX11_comes_117 : decode m_X11_comes.2.1 117 = .ok (.iload_n 2, 1) := by decide +kernel
theorem dX11_comes_118 : decode m_X11_comes.2.1 118 = .ok (.iastore, 1) := by decide +kernel
theorem dX11_comes_119 : decode m_X11_comes.2.1 119 = .ok (.aload_n 0, 1) := by decide +kernel
theorem dX11_comes_120 : decode m_X11_comes.2.1 120 = .ok (.getfield 7, 3) := by decide +kernel
theorem dX11_comes_123 : decode m_X11_comes.2.1 123 = .ok (.iload 5, 2) := by decide +kernel
theorem dX11_comes_125 : decode m_X11_comes.2.1 125 = .ok (.iconst 3, 1) := by decide +kernel
theorem dX11_comes_126 : decode m_X11_comes.2.1 126 = .ok (.iadd, 1) := by decide +kernel
theorem dX11_comes_127 : decode m_X11_comes.2.1 127 = .ok (.iload 6, 2) := by decide +kernel
theorem dX11_comes_129 : decode m_X11_comes.2.1 129 = .ok (.iastore, 1) := by decide +kernel
theorem dX11_comes_130 : decode m_X11_comes.2.1 130 = .ok (.aload_n 0, 1) := by decide +kernel
theorem dX11_comes_131 : decode m_X11_comes.2.1 131 = .ok (.getfield 7, 3) := by decide +kernel
theorem dX11_comes_134 : decode m_X11_comes.2.1 134 = .ok (.iload 5, 2) := by decide +kernel
theorem dX11_comes_136 : decode m_X11_comes.2.1 136 = .ok (.iconst 4, 1) := by decide +kernel
theorem dX11_comes_137 : decode m_X11_comes.2.1 137 = .ok (.iadd, 1) := by decide +kernel
theorem dX11_comes_138 : decode m_X11_comes.2.1 138 = .ok (.iconst 0, 1) := by decide +kernel
theorem dX11_comes_139 : decode m_X11_comes.2.1 139 = .ok (.iastore, 1) := by decide +kernel
theorem dX11_comes_140 : decode m_X11_comes.2.1 140 = .ok (.iconst 0, 1) := by decide +kernel
theorem dX11_comes_141 : decode m_X11_comes.2.1 141 = .ok (.istore 8, 2) := by decide +kernel
theorem dX11_comes_143 : decode m_X11_comes.2.1 143 = .ok (.iload 8, 2) := by decide +kernel
theorem dX11_comes_145 : decode m_X11_comes.2.1 145 = .ok (.iconst 5, 1) := by decide +kernel
theorem dX11_comes_146 : decode m_X11_comes.2.1 146 = .ok (.if_icmp .ge 28, 3) := by decide +kernel
theorem dX11_comes_149 : decode m_X11_comes.2.1 149 = .ok (.aload_n 0, 1) := by decide +kernel
theorem dX11_comes_150 : decode m_X11_comes.2.1 150 = .ok (.getfield 7, 3) := by decide +kernel
theorem dX11_comes_153 : decode m_X11_comes.2.1 153 = .ok (.iload 5, 2) := by decide +kernel
theorem dX11_comes_155 : decode m_X11_comes.2.1 155 = .ok (.iconst 5, 1) := by decide +kernel
theorem dX11_comes_156 : decode m_X11_comes.2.1 156 = .ok (.iadd, 1) := by decide +kernel
theorem dX11_comes_157 : decode m_X11_comes.2.1 157 = .ok (.iload 8, 2) := by decide +kernel
theorem dX11_comes_159 : decode m_X11_comes.2.1 159 = .ok (.iadd, 1) := by decide +kernel
theorem dX11_comes_160 : decode m_X11_comes.2.1 160 = .ok (.aload_n 0, 1) := by decide +kernel
theorem dX11_comes_161 : decode m_X11_comes.2.1 161 = .ok (.getfield 47, 3) := by decide +kernel
theorem dX11_comes_164 : decode m_X11_comes.2.1 164 = .ok (.iload 8, 2) := by decide +kernel
theorem dX11_comes_166 : decode m_X11_comes.2.1 166 = .ok (.iaload, 1) := by decide +kernel
theorem dX11_comes_167 : decode m_X11_comes.2.1 167 = .ok (.iastore, 1) := by decide +kernel
theorem dX11_comes_168 : decode m_X11_comes.2.1 168 = .ok (.iinc 8 1, 3) := by decide +kernel
theorem dX11_comes_171 : decode m_X11_comes.2.1 171 = .ok (.goto (-28), 3) := by decide +kernel
theorem dX11_comes_174 : decode m_X11_comes.2.1 174 = .ok (.aload_n 0, 1) := by decide +kernel
theorem dX11_comes_175 : decode m_X11_comes.2.1 175 = .ok (.getfield 7, 3) := by decide +kernel
theorem dX11_comes_178 : decode m_X11_comes.2.1 178 = .ok (.iload_n 3, 1) := by decide +kernel
theorem dX11_comes_179 : decode m_X11_comes.2.1 179 = .ok (.iconst 3, 1) := by decide +kernel
theorem dX11_comes_180 : decode m_X11_comes.2.1 180 = .ok (.iadd, 1) := by decide +kernel
theorem dX11_comes_181 : decode m_X11_comes.2.1 181 = .ok (.dup2, 1) := by decide +kernel
theorem dX11_comes_182 : decode m_X11_comes.2.1 182 = .ok (.iaload, 1) := by decide +kernel
theorem dX11_comes_183 : decode m_X11_comes.2.1 183 = .ok (.iload_n 2, 1) := by decide +kernel
theorem dX11_comes_184 : decode m_X11_comes.2.1 184 = .ok (.isub, 1) := by decide +kernel
theorem dX11_comes_185 : decode m_X11_comes.2.1 185 = .ok (.iastore, 1) := by decide +kernel
theorem dX11_comes_186 : decode m_X11_comes.2.1 186 = .ok (.aload_n 0, 1) := by decide +kernel
theorem dX11_comes_187 : decode m_X11_comes.2.1 187 = .ok (.getfield 7, 3) := by decide +kernel
theorem dX11_comes_190 : decode m_X11_comes.2.1 190 = .ok (.iconst 1, 1) := by decide +kernel
theorem dX11_comes_191 : decode m_X11_comes.2.1 191 = .ok (.dup2, 1) := by decide +kernel
theorem dX11_comes_192 : decode m_X11_comes.2.1 192 = .ok (.iaload, 1) := by decide +kernel
theorem dX11_comes_193 : decode m_X11_comes.2.1 193 = .ok (.iconst 1, 1) := by decide +kernel
theorem dX11_comes_194 : decode m_X11_comes.2.1 194 = .ok (.iadd, 1) := by decide +kernel
theorem dX11_comes_195 : decode m_X11_comes.2.1 195 = .ok (.iastore, 1) := by decide +kernel
theorem dX11_comes_196 : decode m_X11_comes.2.1 196 = .ok (.aload_n 0, 1) := by decide +kernel
theorem dX11_comes_197 : decode m_X11_comes.2.1 197 = .ok (.iload 4, 2) := by decide +kernel
theorem dX11_comes_199 : decode m_X11_comes.2.1 199 = .ok (.invokevirtual 150, 3) := by decide +kernel
theorem dX11_comes_202 : decode m_X11_comes.2.1 202 = .ok (.return_, 1) := by decide +kernel
theorem dX11_charge_0 : decode m_X11_charge.2.1 0 = .ok (.aload_n 0, 1) := by decide +kernel
theorem dX11_charge_1 : decode m_X11_charge.2.1 1 = .ok (.iload_n 1, 1) := by decide +kernel
theorem dX11_charge_2 : decode m_X11_charge.2.1 2 = .ok (.invokevirtual 102, 3) := by decide +kernel
theorem dX11_charge_5 : decode m_X11_charge.2.1 5 = .ok (.ifCond .eq 15, 3) := by decide +kernel
theorem dX11_charge_8 : decode m_X11_charge.2.1 8 = .ok (.iload_n 2, 1) := by decide +kernel
theorem dX11_charge_9 : decode m_X11_charge.2.1 9 = .ok (.i2l, 1) := by decide +kernel
theorem dX11_charge_10 : decode m_X11_charge.2.1 10 = .ok (.lconst 1, 1) := by decide +kernel
theorem dX11_charge_11 : decode m_X11_charge.2.1 11 = .ok (.ldc2_w 109, 3) := by decide +kernel
theorem dX11_charge_14 : decode m_X11_charge.2.1 14 = .ok (.invokestatic 78, 3) := by decide +kernel
theorem dX11_charge_17 : decode m_X11_charge.2.1 17 = .ok (.ifCond .ne 6, 3) := by decide +kernel
theorem dX11_charge_20 : decode m_X11_charge.2.1 20 = .ok (.ldc 100, 2) := by decide +kernel
theorem dX11_charge_22 : decode m_X11_charge.2.1 22 = .ok (.ireturn, 1) := by decide +kernel
theorem dX11_charge_23 : decode m_X11_charge.2.1 23 = .ok (.aload_n 0, 1) := by decide +kernel
theorem dX11_charge_24 : decode m_X11_charge.2.1 24 = .ok (.getfield 7, 3) := by decide +kernel
theorem dX11_charge_27 : decode m_X11_charge.2.1 27 = .ok (.aload_n 0, 1) := by decide +kernel
theorem dX11_charge_28 : decode m_X11_charge.2.1 28 = .ok (.iload_n 1, 1) := by decide +kernel
theorem dX11_charge_29 : decode m_X11_charge.2.1 29 = .ok (.invokevirtual 86, 3) := by decide +kernel
theorem dX11_charge_32 : decode m_X11_charge.2.1 32 = .ok (.iconst 3, 1) := by decide +kernel
theorem dX11_charge_33 : decode m_X11_charge.2.1 33 = .ok (.iadd, 1) := by decide +kernel
theorem dX11_charge_34 : decode m_X11_charge.2.1 34 = .ok (.iaload, 1) := by decide +kernel
theorem dX11_charge_35 : decode m_X11_charge.2.1 35 = .ok (.iload_n 2, 1) := by decide +kernel
theorem dX11_charge_36 : decode m_X11_charge.2.1 36 = .ok (.if_icmp .ge 6, 3) := by decide +kernel
theorem dX11_charge_39 : decode m_X11_charge.2.1 39 = .ok (.ldc 153, 2) := by decide +kernel
theorem dX11_charge_41 : decode m_X11_charge.2.1 41 = .ok (.ireturn, 1) := by decide +kernel
theorem dX11_charge_42 : decode m_X11_charge.2.1 42 = .ok (.aload_n 0, 1) := by decide +kernel
theorem dX11_charge_43 : decode m_X11_charge.2.1 43 = .ok (.getfield 7, 3) := by decide +kernel
theorem dX11_charge_46 : decode m_X11_charge.2.1 46 = .ok (.iconst 1, 1) := by decide +kernel
theorem dX11_charge_47 : decode m_X11_charge.2.1 47 = .ok (.iaload, 1) := by decide +kernel
theorem dX11_charge_48 : decode m_X11_charge.2.1 48 = .ok (.bipush 24, 2) := by decide +kernel
theorem dX11_charge_50 : decode m_X11_charge.2.1 50 = .ok (.if_icmp .ne 6, 3) := by decide +kernel
theorem dX11_charge_53 : decode m_X11_charge.2.1 53 = .ok (.ldc 101, 2) := by decide +kernel
theorem dX11_charge_55 : decode m_X11_charge.2.1 55 = .ok (.ireturn, 1) := by decide +kernel
theorem dX11_charge_56 : decode m_X11_charge.2.1 56 = .ok (.aload_n 0, 1) := by decide +kernel
theorem dX11_charge_57 : decode m_X11_charge.2.1 57 = .ok (.iload_n 1, 1) := by decide +kernel
theorem dX11_charge_58 : decode m_X11_charge.2.1 58 = .ok (.iload_n 2, 1) := by decide +kernel
theorem dX11_charge_59 : decode m_X11_charge.2.1 59 = .ok (.invokevirtual 154, 3) := by decide +kernel
theorem dX11_charge_62 : decode m_X11_charge.2.1 62 = .ok (.aload_n 0, 1) := by decide +kernel
theorem dX11_charge_63 : decode m_X11_charge.2.1 63 = .ok (.getfield 7, 3) := by decide +kernel
theorem dX11_charge_66 : decode m_X11_charge.2.1 66 = .ok (.iconst 1, 1) := by decide +kernel
theorem dX11_charge_67 : decode m_X11_charge.2.1 67 = .ok (.iaload, 1) := by decide +kernel
theorem dX11_charge_68 : decode m_X11_charge.2.1 68 = .ok (.ireturn, 1) := by decide +kernel
theorem dX11_bulkOfLayer_0 : decode m_X11_bulkOfLayer.2.1 0 = .ok (.iconst 0, 1) := by decide +kernel
theorem dX11_bulkOfLayer_1 : decode m_X11_bulkOfLayer.2.1 1 = .ok (.istore_n 2, 1) := by decide +kernel
theorem dX11_bulkOfLayer_2 : decode m_X11_bulkOfLayer.2.1 2 = .ok (.iconst 0, 1) := by decide +kernel
theorem dX11_bulkOfLayer_3 : decode m_X11_bulkOfLayer.2.1 3 = .ok (.istore_n 3, 1) := by decide +kernel
theorem dX11_bulkOfLayer_4 : decode m_X11_bulkOfLayer.2.1 4 = .ok (.iload_n 3, 1) := by decide +kernel
theorem dX11_bulkOfLayer_5 : decode m_X11_bulkOfLayer.2.1 5 = .ok (.iconst 5, 1) := by decide +kernel
theorem dX11_bulkOfLayer_6 : decode m_X11_bulkOfLayer.2.1 6 = .ok (.if_icmp .ge 26, 3) := by decide +kernel
theorem dX11_bulkOfLayer_9 : decode m_X11_bulkOfLayer.2.1 9 = .ok (.iload_n 2, 1) := by decide +kernel
theorem dX11_bulkOfLayer_10 : decode m_X11_bulkOfLayer.2.1 10 = .ok (.aload_n 0, 1) := by decide +kernel
theorem dX11_bulkOfLayer_11 : decode m_X11_bulkOfLayer.2.1 11 = .ok (.getfield 7, 3) := by decide +kernel
theorem dX11_bulkOfLayer_14 : decode m_X11_bulkOfLayer.2.1 14 = .ok (.aload_n 0, 1) := by decide +kernel
theorem dX11_bulkOfLayer_15 : decode m_X11_bulkOfLayer.2.1 15 = .ok (.iload_n 1, 1) := by decide +kernel
theorem dX11_bulkOfLayer_16 : decode m_X11_bulkOfLayer.2.1 16 = .ok (.invokevirtual 134, 3) := by decide +kernel
theorem dX11_bulkOfLayer_19 : decode m_X11_bulkOfLayer.2.1 19 = .ok (.iconst 5, 1) := by decide +kernel
theorem dX11_bulkOfLayer_20 : decode m_X11_bulkOfLayer.2.1 20 = .ok (.iadd, 1) := by decide +kernel
theorem dX11_bulkOfLayer_21 : decode m_X11_bulkOfLayer.2.1 21 = .ok (.iload_n 3, 1) := by decide +kernel
theorem dX11_bulkOfLayer_22 : decode m_X11_bulkOfLayer.2.1 22 = .ok (.iadd, 1) := by decide +kernel
theorem dX11_bulkOfLayer_23 : decode m_X11_bulkOfLayer.2.1 23 = .ok (.iaload, 1) := by decide +kernel
theorem dX11_bulkOfLayer_24 : decode m_X11_bulkOfLayer.2.1 24 = .ok (.iadd, 1) := by decide +kernel
theorem dX11_bulkOfLayer_25 : decode m_X11_bulkOfLayer.2.1 25 = .ok (.istore_n 2, 1) := by decide +kernel
theorem dX11_bulkOfLayer_26 : decode m_X11_bulkOfLayer.2.1 26 = .ok (.iinc 3 1, 3) := by decide +kernel
theorem dX11_bulkOfLayer_29 : decode m_X11_bulkOfLayer.2.1 29 = .ok (.goto (-25), 3) := by decide +kernel
theorem dX11_bulkOfLayer_32 : decode m_X11_bulkOfLayer.2.1 32 = .ok (.iload_n 2, 1) := by decide +kernel
theorem dX11_bulkOfLayer_33 : decode m_X11_bulkOfLayer.2.1 33 = .ok (.ireturn, 1) := by decide +kernel
theorem dX11_layer_0 : decode m_X11_layer.2.1 0 = .ok (.iload_n 1, 1) := by decide +kernel
theorem dX11_layer_1 : decode m_X11_layer.2.1 1 = .ok (.i2l, 1) := by decide +kernel
theorem dX11_layer_2 : decode m_X11_layer.2.1 2 = .ok (.lconst 0, 1) := by decide +kernel
theorem dX11_layer_3 : decode m_X11_layer.2.1 3 = .ok (.aload_n 0, 1) := by decide +kernel
theorem dX11_layer_4 : decode m_X11_layer.2.1 4 = .ok (.getfield 7, 3) := by decide +kernel
theorem dX11_layer_7 : decode m_X11_layer.2.1 7 = .ok (.iconst 1, 1) := by decide +kernel
theorem dX11_layer_8 : decode m_X11_layer.2.1 8 = .ok (.iaload, 1) := by decide +kernel
theorem dX11_layer_9 : decode m_X11_layer.2.1 9 = .ok (.iconst 1, 1) := by decide +kernel
theorem dX11_layer_10 : decode m_X11_layer.2.1 10 = .ok (.isub, 1) := by decide +kernel
theorem dX11_layer_11 : decode m_X11_layer.2.1 11 = .ok (.i2l, 1) := by decide +kernel
theorem dX11_layer_12 : decode m_X11_layer.2.1 12 = .ok (.invokestatic 78, 3) := by decide +kernel
theorem dX11_layer_15 : decode m_X11_layer.2.1 15 = .ok (.ifCond .eq 15, 3) := by decide +kernel
theorem dX11_layer_18 : decode m_X11_layer.2.1 18 = .ok (.iload_n 2, 1) := by decide +kernel
theorem dX11_layer_19 : decode m_X11_layer.2.1 19 = .ok (.i2l, 1) := by decide +kernel
theorem dX11_layer_20 : decode m_X11_layer.2.1 20 = .ok (.lconst 0, 1) := by decide +kernel
theorem dX11_layer_21 : decode m_X11_layer.2.1 21 = .ok (.ldc2_w 158, 3) := by decide +kernel
theorem dX11_layer_24 : decode m_X11_layer.2.1 24 = .ok (.invokestatic 78, 3) := by decide +kernel
theorem dX11_layer_27 : decode m_X11_layer.2.1 27 = .ok (.ifCond .ne 6, 3) := by decide +kernel
theorem dX11_layer_30 : decode m_X11_layer.2.1 30 = .ok (.ldc 100, 2) := by decide +kernel
theorem dX11_layer_32 : decode m_X11_layer.2.1 32 = .ok (.ireturn, 1) := by decide +kernel
theorem dX11_layer_33 : decode m_X11_layer.2.1 33 = .ok (.aload_n 0, 1) := by decide +kernel
theorem dX11_layer_34 : decode m_X11_layer.2.1 34 = .ok (.iload_n 1, 1) := by decide +kernel
theorem dX11_layer_35 : decode m_X11_layer.2.1 35 = .ok (.invokevirtual 134, 3) := by decide +kernel
theorem dX11_layer_38 : decode m_X11_layer.2.1 38 = .ok (.istore_n 3, 1) := by decide +kernel
theorem dX11_layer_39 : decode m_X11_layer.2.1 39 = .ok (.iload_n 2, 1) := by decide +kernel
theorem dX11_layer_40 : decode m_X11_layer.2.1 40 = .ok (.iconst 3, 1) := by decide +kernel
theorem dX11_layer_41 : decode m_X11_layer.2.1 41 = .ok (.if_icmp .ge 14, 3) := by decide +kernel
theorem dX11_layer_44 : decode m_X11_layer.2.1 44 = .ok (.aload_n 0, 1) := by decide +kernel
theorem dX11_layer_45 : decode m_X11_layer.2.1 45 = .ok (.getfield 7, 3) := by decide +kernel
theorem dX11_layer_48 : decode m_X11_layer.2.1 48 = .ok (.iload_n 3, 1) := by decide +kernel
theorem dX11_layer_49 : decode m_X11_layer.2.1 49 = .ok (.iload_n 2, 1) := by decide +kernel
theorem dX11_layer_50 : decode m_X11_layer.2.1 50 = .ok (.iadd, 1) := by decide +kernel
theorem dX11_layer_51 : decode m_X11_layer.2.1 51 = .ok (.iaload, 1) := by decide +kernel
theorem dX11_layer_52 : decode m_X11_layer.2.1 52 = .ok (.goto 28, 3) := by decide +kernel
theorem dX11_layer_55 : decode m_X11_layer.2.1 55 = .ok (.iload_n 2, 1) := by decide +kernel
theorem dX11_layer_56 : decode m_X11_layer.2.1 56 = .ok (.iconst 3, 1) := by decide +kernel
theorem dX11_layer_57 : decode m_X11_layer.2.1 57 = .ok (.if_icmp .ne 11, 3) := by decide +kernel
theorem dX11_layer_60 : decode m_X11_layer.2.1 60 = .ok (.aload_n 0, 1) := by decide +kernel
theorem dX11_layer_61 : decode m_X11_layer.2.1 61 = .ok (.iload_n 1, 1) := by decide +kernel
theorem dX11_layer_62 : decode m_X11_layer.2.1 62 = .ok (.invokevirtual 160, 3) := by decide +kernel
theorem dX11_layer_65 : decode m_X11_layer.2.1 65 = .ok (.goto 15, 3) := by decide +kernel
theorem dX11_layer_68 : decode m_X11_layer.2.1 68 = .ok (.aload_n 0, 1) := by decide +kernel
theorem dX11_layer_69 : decode m_X11_layer.2.1 69 = .ok (.getfield 7, 3) := by decide +kernel
theorem dX11_layer_72 : decode m_X11_layer.2.1 72 = .ok (.iload_n 3, 1) := by decide +kernel
theorem dX11_layer_73 : decode m_X11_layer.2.1 73 = .ok (.iconst 5, 1) := by decide +kernel
theorem dX11_layer_74 : decode m_X11_layer.2.1 74 = .ok (.iadd, 1) := by decide +kernel
theorem dX11_layer_75 : decode m_X11_layer.2.1 75 = .ok (.iload_n 2, 1) := by decide +kernel
theorem dX11_layer_76 : decode m_X11_layer.2.1 76 = .ok (.iadd, 1) := by decide +kernel
theorem dX11_layer_77 : decode m_X11_layer.2.1 77 = .ok (.iconst 4, 1) := by decide +kernel
theorem dX11_layer_78 : decode m_X11_layer.2.1 78 = .ok (.isub, 1) := by decide +kernel
theorem dX11_layer_79 : decode m_X11_layer.2.1 79 = .ok (.iaload, 1) := by decide +kernel
theorem dX11_layer_80 : decode m_X11_layer.2.1 80 = .ok (.ireturn, 1) := by decide +kernel
theorem dX11_basic_0 : decode m_X11_basic.2.1 0 = .ok (.aload_n 0, 1) := by decide +kernel
theorem dX11_basic_1 : decode m_X11_basic.2.1 1 = .ok (.getfield 7, 3) := by decide +kernel
theorem dX11_basic_4 : decode m_X11_basic.2.1 4 = .ok (.bipush 10, 2) := by decide +kernel
theorem dX11_basic_6 : decode m_X11_basic.2.1 6 = .ok (.iaload, 1) := by decide +kernel
theorem dX11_basic_7 : decode m_X11_basic.2.1 7 = .ok (.ifCond .ne 7, 3) := by decide +kernel
theorem dX11_basic_10 : decode m_X11_basic.2.1 10 = .ok (.iconst 0, 1) := by decide +kernel
theorem dX11_basic_11 : decode m_X11_basic.2.1 11 = .ok (.goto 25, 3) := by decide +kernel
theorem dX11_basic_14 : decode m_X11_basic.2.1 14 = .ok (.ldc2_w 163, 3) := by decide +kernel
theorem dX11_basic_17 : decode m_X11_basic.2.1 17 = .ok (.aload_n 0, 1) := by decide +kernel
theorem dX11_basic_18 : decode m_X11_basic.2.1 18 = .ok (.getfield 7, 3) := by decide +kernel
theorem dX11_basic_21 : decode m_X11_basic.2.1 21 = .ok (.bipush 11, 2) := by decide +kernel
theorem dX11_basic_23 : decode m_X11_basic.2.1 23 = .ok (.iaload, 1) := by decide +kernel
theorem dX11_basic_24 : decode m_X11_basic.2.1 24 = .ok (.i2l, 1) := by decide +kernel
theorem dX11_basic_25 : decode m_X11_basic.2.1 25 = .ok (.lmul, 1) := by decide +kernel
theorem dX11_basic_26 : decode m_X11_basic.2.1 26 = .ok (.aload_n 0, 1) := by decide +kernel
theorem dX11_basic_27 : decode m_X11_basic.2.1 27 = .ok (.getfield 7, 3) := by decide +kernel
theorem dX11_basic_30 : decode m_X11_basic.2.1 30 = .ok (.bipush 10, 2) := by decide +kernel
theorem dX11_basic_32 : decode m_X11_basic.2.1 32 = .ok (.iaload, 1) := by decide +kernel
theorem dX11_basic_33 : decode m_X11_basic.2.1 33 = .ok (.i2l, 1) := by decide +kernel
theorem dX11_basic_34 : decode m_X11_basic.2.1 34 = .ok (.ldiv, 1) := by decide +kernel
theorem dX11_basic_35 : decode m_X11_basic.2.1 35 = .ok (.l2i, 1) := by decide +kernel
theorem dX11_basic_36 : decode m_X11_basic.2.1 36 = .ok (.ireturn, 1) := by decide +kernel
theorem dX11_gasNow_0 : decode m_X11_gasNow.2.1 0 = .ok (.aload_n 0, 1) := by decide +kernel
theorem dX11_gasNow_1 : decode m_X11_gasNow.2.1 1 = .ok (.bipush 6, 2) := by decide +kernel
theorem dX11_gasNow_3 : decode m_X11_gasNow.2.1 3 = .ok (.invokevirtual 165, 3) := by decide +kernel
theorem dX11_gasNow_6 : decode m_X11_gasNow.2.1 6 = .ok (.istore_n 1, 1) := by decide +kernel
theorem dX11_gasNow_7 : decode m_X11_gasNow.2.1 7 = .ok (.aload_n 0, 1) := by decide +kernel
theorem dX11_gasNow_8 : decode m_X11_gasNow.2.1 8 = .ok (.getfield 62, 3) := by decide +kernel
theorem dX11_gasNow_11 : decode m_X11_gasNow.2.1 11 = .ok (.bipush 104, 2) := by decide +kernel
theorem dX11_gasNow_13 : decode m_X11_gasNow.2.1 13 = .ok (.aload_n 0, 1) := by decide +kernel
theorem dX11_gasNow_14 : decode m_X11_gasNow.2.1 14 = .ok (.getfield 7, 3) := by decide +kernel
theorem dX11_gasNow_17 : decode m_X11_gasNow.2.1 17 = .ok (.iconst 5, 1) := by decide +kernel
theorem dX11_gasNow_18 : decode m_X11_gasNow.2.1 18 = .ok (.iaload, 1) := by decide +kernel
theorem dX11_gasNow_19 : decode m_X11_gasNow.2.1 19 = .ok (.iastore, 1) := by decide +kernel
theorem dX11_gasNow_20 : decode m_X11_gasNow.2.1 20 = .ok (.aload_n 0, 1) := by decide +kernel
theorem dX11_gasNow_21 : decode m_X11_gasNow.2.1 21 = .ok (.getfield 62, 3) := by decide +kernel
theorem dX11_gasNow_24 : decode m_X11_gasNow.2.1 24 = .ok (.bipush 116, 2) := by decide +kernel
theorem dX11_gasNow_26 : decode m_X11_gasNow.2.1 26 = .ok (.aload_n 0, 1) := by decide +kernel
theorem dX11_gasNow_27 : decode m_X11_gasNow.2.1 27 = .ok (.invokevirtual 168, 3) := by decide +kernel
theorem dX11_gasNow_30 : decode m_X11_gasNow.2.1 30 = .ok (.iastore, 1) := by decide +kernel
theorem dX11_gasNow_31 : decode m_X11_gasNow.2.1 31 = .ok (.aload_n 0, 1) := by decide +kernel
theorem dX11_gasNow_32 : decode m_X11_gasNow.2.1 32 = .ok (.getfield 62, 3) := by decide +kernel
theorem dX11_gasNow_35 : decode m_X11_gasNow.2.1 35 = .ok (.bipush 105, 2) := by decide +kernel
theorem dX11_gasNow_37 : decode m_X11_gasNow.2.1 37 = .ok (.aload_n 0, 1) := by decide +kernel
theorem dX11_gasNow_38 : decode m_X11_gasNow.2.1 38 = .ok (.getfield 7, 3) := by decide +kernel
theorem dX11_gasNow_41 : decode m_X11_gasNow.2.1 41 = .ok (.bipush 9, 2) := by decide +kernel
theorem dX11_gasNow_43 : decode m_X11_gasNow.2.1 43 = .ok (.iaload, 1) := by decide +kernel
theorem dX11_gasNow_44 : decode m_X11_gasNow.2.1 44 = .ok (.iastore, 1) := by decide +kernel
theorem dX11_gasNow_45 : decode m_X11_gasNow.2.1 45 = .ok (.iload_n 1, 1) := by decide +kernel
theorem dX11_gasNow_46 : decode m_X11_gasNow.2.1 46 = .ok (.ifCond .ge 13, 3) := by decide +kernel
theorem dX11_gasNow_49 : decode m_X11_gasNow.2.1 49 = .ok (.aload_n 0, 1) := by decide +kernel
theorem dX11_gasNow_50 : decode m_X11_gasNow.2.1 50 = .ok (.getfield 7, 3) := by decide +kernel
theorem dX11_gasNow_53 : decode m_X11_gasNow.2.1 53 = .ok (.bipush 7, 2) := by decide +kernel
theorem dX11_gasNow_55 : decode m_X11_gasNow.2.1 55 = .ok (.iaload, 1) := by decide +kernel
theorem dX11_gasNow_56 : decode m_X11_gasNow.2.1 56 = .ok (.goto 14, 3) := by decide +kernel
theorem dX11_gasNow_59 : decode m_X11_gasNow.2.1 59 = .ok (.aload_n 0, 1) := by decide +kernel
theorem dX11_gasNow_60 : decode m_X11_gasNow.2.1 60 = .ok (.iload_n 1, 1) := by decide +kernel
theorem dX11_gasNow_61 : decode m_X11_gasNow.2.1 61 = .ok (.invokevirtual 172, 3) := by decide +kernel
theorem dX11_gasNow_64 : decode m_X11_gasNow.2.1 64 = .ok (.sipush 999, 3) := by decide +kernel
theorem dX11_gasNow_67 : decode m_X11_gasNow.2.1 67 = .ok (.invokestatic 175, 3) := by decide +kernel
theorem dX11_gasNow_70 : decode m_X11_gasNow.2.1 70 = .ok (.ireturn, 1) := by decide +kernel
theorem dX11_partGas_0 : decode m_X11_partGas.2.1 0 = .ok (.aload_n 0, 1) := by decide +kernel
theorem dX11_partGas_1 : decode m_X11_partGas.2.1 1 = .ok (.invokevirtual 178, 3) := by decide +kernel
theorem dX11_partGas_4 : decode m_X11_partGas.2.1 4 = .ok (.istore_n 1, 1) := by decide +kernel
theorem dX11_partGas_5 : decode m_X11_partGas.2.1 5 = .ok (.iconst 0, 1) := by decide +kernel
theorem dX11_partGas_6 : decode m_X11_partGas.2.1 6 = .ok (.istore_n 2, 1) := by decide +kernel
theorem dX11_partGas_7 : decode m_X11_partGas.2.1 7 = .ok (.iload_n 2, 1) := by decide +kernel
theorem dX11_partGas_8 : decode m_X11_partGas.2.1 8 = .ok (.iconst 5, 1) := by decide +kernel
theorem dX11_partGas_9 : decode m_X11_partGas.2.1 9 = .ok (.if_icmp .ge 29, 3) := by decide +kernel
theorem dX11_partGas_12 : decode m_X11_partGas.2.1 12 = .ok (.aload_n 0, 1) := by decide +kernel
theorem dX11_partGas_13 : decode m_X11_partGas.2.1 13 = .ok (.getfield 43, 3) := by decide +kernel
theorem dX11_partGas_16 : decode m_X11_partGas.2.1 16 = .ok (.iload_n 2, 1) := by decide +kernel
theorem dX11_partGas_17 : decode m_X11_partGas.2.1 17 = .ok (.iload_n 2, 1) := by decide +kernel
theorem dX11_partGas_18 : decode m_X11_partGas.2.1 18 = .ok (.invokestatic 140, 3) := by decide +kernel
theorem dX11_partGas_21 : decode m_X11_partGas.2.1 21 = .ok (.ldc 181, 2) := by decide +kernel
theorem dX11_partGas_23 : decode m_X11_partGas.2.1 23 = .ok (.imul, 1) := by decide +kernel
theorem dX11_partGas_24 : decode m_X11_partGas.2.1 24 = .ok (.aload_n 0, 1) := by decide +kernel
theorem dX11_partGas_25 : decode m_X11_partGas.2.1 25 = .ok (.iload_n 2, 1) := by decide +kernel
theorem dX11_partGas_26 : decode m_X11_partGas.2.1 26 = .ok (.invokevirtual 182, 3) := by decide +kernel
theorem dX11_partGas_29 : decode m_X11_partGas.2.1 29 = .ok (.idiv, 1) := by decide +kernel
theorem dX11_partGas_30 : decode m_X11_partGas.2.1 30 = .ok (.i2l, 1) := by decide +kernel
theorem dX11_partGas_31 : decode m_X11_partGas.2.1 31 = .ok (.lastore, 1) := by decide +kernel
theorem dX11_partGas_32 : decode m_X11_partGas.2.1 32 = .ok (.iinc 2 1, 3) := by decide +kernel
theorem dX11_partGas_35 : decode m_X11_partGas.2.1 35 = .ok (.goto (-28), 3) := by decide +kernel
theorem dX11_partGas_38 : decode m_X11_partGas.2.1 38 = .ok (.aload_n 0, 1) := by decide +kernel
theorem dX11_partGas_39 : decode m_X11_partGas.2.1 39 = .ok (.iload_n 1, 1) := by decide +kernel
theorem dX11_partGas_40 : decode m_X11_partGas.2.1 40 = .ok (.invokevirtual 146, 3) := by decide +kernel
theorem dX11_partGas_43 : decode m_X11_partGas.2.1 43 = .ok (.return_, 1) := by decide +kernel
theorem dX11_ring_0 : decode m_X11_ring.2.1 0 = .ok (.iload_n 1, 1) := by decide +kernel
theorem dX11_ring_1 : decode m_X11_ring.2.1 1 = .ok (.i2l, 1) := by decide +kernel
theorem dX11_ring_2 : decode m_X11_ring.2.1 2 = .ok (.lconst 0, 1) := by decide +kernel
theorem dX11_ring_3 : decode m_X11_ring.2.1 3 = .ok (.ldc2_w 185, 3) := by decide +kernel
theorem dX11_ring_6 : decode m_X11_ring.2.1 6 = .ok (.invokestatic 78, 3) := by decide +kernel
theorem dX11_ring_9 : decode m_X11_ring.2.1 9 = .ok (.ifCond .eq 15, 3) := by decide +kernel
theorem dX11_ring_12 : decode m_X11_ring.2.1 12 = .ok (.iload_n 2, 1) := by decide +kernel
theorem dX11_ring_13 : decode m_X11_ring.2.1 13 = .ok (.i2l, 1) := by decide +kernel
theorem dX11_ring_14 : decode m_X11_ring.2.1 14 = .ok (.lconst 0, 1) := by decide +kernel
theorem dX11_ring_15 : decode m_X11_ring.2.1 15 = .ok (.ldc2_w 111, 3) := by decide +kernel
theorem dX11_ring_18 : decode m_X11_ring.2.1 18 = .ok (.invokestatic 78, 3) := by decide +kernel
theorem dX11_ring_21 : decode m_X11_ring.2.1 21 = .ok (.ifCond .ne 6, 3) := by decide +kernel
theorem dX11_ring_24 : decode m_X11_ring.2.1 24 = .ok (.ldc 100, 2) := by decide +kernel
theorem dX11_ring_26 : decode m_X11_ring.2.1 26 = .ok (.ireturn, 1) := by decide +kernel
theorem dX11_ring_27 : decode m_X11_ring.2.1 27 = .ok (.iload_n 2, 1) := by decide +kernel
theorem dX11_ring_28 : decode m_X11_ring.2.1 28 = .ok (.iconst 2, 1) := by decide +kernel
theorem dX11_ring_29 : decode m_X11_ring.2.1 29 = .ok (.if_icmp .ge 21, 3) := by decide +kernel
theorem dX11_ring_32 : decode m_X11_ring.2.1 32 = .ok (.iload_n 2, 1) := by decide +kernel
theorem dX11_ring_33 : decode m_X11_ring.2.1 33 = .ok (.ifCond .ne 11, 3) := by decide +kernel
theorem dX11_ring_36 : decode m_X11_ring.2.1 36 = .ok (.aload_n 0, 1) := by decide +kernel
theorem dX11_ring_37 : decode m_X11_ring.2.1 37 = .ok (.iload_n 1, 1) := by decide +kernel
theorem dX11_ring_38 : decode m_X11_ring.2.1 38 = .ok (.invokevirtual 143, 3) := by decide +kernel
theorem dX11_ring_41 : decode m_X11_ring.2.1 41 = .ok (.goto 8, 3) := by decide +kernel
theorem dX11_ring_44 : decode m_X11_ring.2.1 44 = .ok (.aload_n 0, 1) := by decide +kernel
theorem dX11_ring_45 : decode m_X11_ring.2.1 45 = .ok (.iload_n 1, 1) := by decide +kernel
theorem dX11_ring_46 : decode m_X11_ring.2.1 46 = .ok (.invokevirtual 182, 3) := by decide +kernel
theorem dX11_ring_49 : decode m_X11_ring.2.1 49 = .ok (.ireturn, 1) := by decide +kernel
theorem dX11_ring_50 : decode m_X11_ring.2.1 50 = .ok (.aload_n 0, 1) := by decide +kernel
theorem dX11_ring_51 : decode m_X11_ring.2.1 51 = .ok (.invokevirtual 187, 3) := by decide +kernel
theorem dX11_ring_54 : decode m_X11_ring.2.1 54 = .ok (.iload_n 2, 1) := by decide +kernel
theorem dX11_ring_55 : decode m_X11_ring.2.1 55 = .ok (.iconst 2, 1) := by decide +kernel
theorem dX11_ring_56 : decode m_X11_ring.2.1 56 = .ok (.if_icmp .ne 12, 3) := by decide +kernel
theorem dX11_ring_59 : decode m_X11_ring.2.1 59 = .ok (.aload_n 0, 1) := by decide +kernel
theorem dX11_ring_60 : decode m_X11_ring.2.1 60 = .ok (.getfield 47, 3) := by decide +kernel
theorem dX11_ring_63 : decode m_X11_ring.2.1 63 = .ok (.iload_n 1, 1) := by decide +kernel
theorem dX11_ring_64 : decode m_X11_ring.2.1 64 = .ok (.iaload, 1) := by decide +kernel
theorem dX11_ring_65 : decode m_X11_ring.2.1 65 = .ok (.goto 13, 3) := by decide +kernel
theorem dX11_ring_68 : decode m_X11_ring.2.1 68 = .ok (.aload_n 0, 1) := by decide +kernel
theorem dX11_ring_69 : decode m_X11_ring.2.1 69 = .ok (.getfield 47, 3) := by decide +kernel
theorem dX11_ring_72 : decode m_X11_ring.2.1 72 = .ok (.iload_n 1, 1) := by decide +kernel
theorem dX11_ring_73 : decode m_X11_ring.2.1 73 = .ok (.iaload, 1) := by decide +kernel
theorem dX11_ring_74 : decode m_X11_ring.2.1 74 = .ok (.iconst 4, 1) := by decide +kernel
theorem dX11_ring_75 : decode m_X11_ring.2.1 75 = .ok (.idiv, 1) := by decide +kernel
theorem dX11_ring_76 : decode m_X11_ring.2.1 76 = .ok (.iconst 1, 1) := by decide +kernel
theorem dX11_ring_77 : decode m_X11_ring.2.1 77 = .ok (.iadd, 1) := by decide +kernel
theorem dX11_ring_78 : decode m_X11_ring.2.1 78 = .ok (.ireturn, 1) := by decide +kernel
theorem dX11_goes_0 : decode m_X11_goes.2.1 0 = .ok (.aload_n 0, 1) := by decide +kernel
theorem dX11_goes_1 : decode m_X11_goes.2.1 1 = .ok (.iload_n 1, 1) := by decide +kernel
theorem dX11_goes_2 : decode m_X11_goes.2.1 2 = .ok (.invokevirtual 134, 3) := by decide +kernel
theorem dX11_goes_5 : decode m_X11_goes.2.1 5 = .ok (.istore 4, 2) := by decide +kernel
theorem dX11_goes_7 : decode m_X11_goes.2.1 7 = .ok (.iconst 1, 1) := by decide +kernel
theorem dX11_goes_8 : decode m_X11_goes.2.1 8 = .ok (.istore 5, 2) := by decide +kernel
theorem dX11_goes_10 : decode m_X11_goes.2.1 10 = .ok (.iload 5, 2) := by decide +kernel
theorem dX11_goes_12 : decode m_X11_goes.2.1 12 = .ok (.iconst 4, 1) := by decide +kernel
theorem dX11_goes_13 : decode m_X11_goes.2.1 13 = .ok (.if_icmp .ge 105, 3) := by decide +kernel
theorem dX11_goes_16 : decode m_X11_goes.2.1 16 = .ok (.aload_n 0, 1) := by decide +kernel
theorem dX11_goes_17 : decode m_X11_goes.2.1 17 = .ok (.aload_n 0, 1) := by decide +kernel
theorem dX11_goes_18 : decode m_X11_goes.2.1 18 = .ok (.getfield 7, 3) := by decide +kernel
theorem dX11_goes_21 : decode m_X11_goes.2.1 21 = .ok (.iload 4, 2) := by decide +kernel
theorem dX11_goes_23 : decode m_X11_goes.2.1 23 = .ok (.iaload, 1) := by decide +kernel
theorem dX11_goes_24 : decode m_X11_goes.2.1 24 = .ok (.aload_n 0, 1) := by decide +kernel
theorem dX11_goes_25 : decode m_X11_goes.2.1 25 = .ok (.getfield 7, 3) := by decide +kernel
theorem dX11_goes_28 : decode m_X11_goes.2.1 28 = .ok (.iload 4, 2) := by decide +kernel
theorem dX11_goes_30 : decode m_X11_goes.2.1 30 = .ok (.iconst 2, 1) := by decide +kernel
theorem dX11_goes_31 : decode m_X11_goes.2.1 31 = .ok (.iadd, 1) := by decide +kernel
theorem dX11_goes_32 : decode m_X11_goes.2.1 32 = .ok (.iaload, 1) := by decide +kernel
theorem dX11_goes_33 : decode m_X11_goes.2.1 33 = .ok (.iload 5, 2) := by decide +kernel
theorem dX11_goes_35 : decode m_X11_goes.2.1 35 = .ok (.invokevirtual 117, 3) := by decide +kernel
theorem dX11_goes_38 : decode m_X11_goes.2.1 38 = .ok (.i2l, 1) := by decide +kernel
theorem dX11_goes_39 : decode m_X11_goes.2.1 39 = .ok (.lstore 6, 2) := by decide +kernel
theorem dX11_goes_41 : decode m_X11_goes.2.1 41 = .ok (.lload 6, 2) := by decide +kernel
theorem dX11_goes_43 : decode m_X11_goes.2.1 43 = .ok (.aload_n 0, 1) := by decide +kernel
theorem dX11_goes_44 : decode m_X11_goes.2.1 44 = .ok (.getfield 7, 3) := by decide +kernel
theorem dX11_goes_47 : decode m_X11_goes.2.1 47 = .ok (.iload 4, 2) := by decide +kernel
theorem dX11_goes_49 : decode m_X11_goes.2.1 49 = .ok (.iconst 4, 1) := by decide +kernel
theorem dX11_goes_50 : decode m_X11_goes.2.1 50 = .ok (.iadd, 1) := by decide +kernel
theorem dX11_goes_51 : decode m_X11_goes.2.1 51 = .ok (.iaload, 1) := by decide +kernel
theorem dX11_goes_52 : decode m_X11_goes.2.1 52 = .ok (.i2l, 1) := by decide +kernel
theorem dX11_goes_53 : decode m_X11_goes.2.1 53 = .ok (.lmul, 1) := by decide +kernel
theorem dX11_goes_54 : decode m_X11_goes.2.1 54 = .ok (.aload_n 0, 1) := by decide +kernel
theorem dX11_goes_55 : decode m_X11_goes.2.1 55 = .ok (.getfield 7, 3) := by decide +kernel
theorem dX11_goes_58 : decode m_X11_goes.2.1 58 = .ok (.iload 4, 2) := by decide +kernel
theorem dX11_goes_60 : decode m_X11_goes.2.1 60 = .ok (.iconst 3, 1) := by decide +kernel
theorem dX11_goes_61 : decode m_X11_goes.2.1 61 = .ok (.iadd, 1) := by decide +kernel
theorem dX11_goes_62 : decode m_X11_goes.2.1 62 = .ok (.iaload, 1) := by decide +kernel
theorem dX11_goes_63 : decode m_X11_goes.2.1 63 = .ok (.i2l, 1) := by decide +kernel
theorem dX11_goes_64 : decode m_X11_goes.2.1 64 = .ok (.ldiv, 1) := by decide +kernel
theorem dX11_goes_65 : decode m_X11_goes.2.1 65 = .ok (.lstore 8, 2) := by decide +kernel
theorem dX11_goes_67 : decode m_X11_goes.2.1 67 = .ok (.aload_n 0, 1) := by decide +kernel
theorem dX11_goes_68 : decode m_X11_goes.2.1 68 = .ok (.getfield 7, 3) := by decide +kernel
theorem dX11_goes_71 : decode m_X11_goes.2.1 71 = .ok (.bipush 9, 2) := by decide +kernel
theorem dX11_goes_73 : decode m_X11_goes.2.1 73 = .ok (.iload 5, 2) := by decide +kernel
theorem dX11_goes_75 : decode m_X11_goes.2.1 75 = .ok (.iadd, 1) := by decide +kernel
theorem dX11_goes_76 : decode m_X11_goes.2.1 76 = .ok (.iconst 1, 1) := by decide +kernel
theorem dX11_goes_77 : decode m_X11_goes.2.1 77 = .ok (.isub, 1) := by decide +kernel
theorem dX11_goes_78 : decode m_X11_goes.2.1 78 = .ok (.dup2, 1) := by decide +kernel
theorem dX11_goes_79 : decode m_X11_goes.2.1 79 = .ok (.iaload, 1) := by decide +kernel
theorem dX11_goes_80 : decode m_X11_goes.2.1 80 = .ok (.lload 6, 2) := by decide +kernel
theorem dX11_goes_82 : decode m_X11_goes.2.1 82 = .ok (.aload_n 0, 1) := by decide +kernel
theorem dX11_goes_83 : decode m_X11_goes.2.1 83 = .ok (.getfield 7, 3) := by decide +kernel
theorem dX11_goes_86 : decode m_X11_goes.2.1 86 = .ok (.iload 4, 2) := by decide +kernel
theorem dX11_goes_88 : decode m_X11_goes.2.1 88 = .ok (.iconst 4, 1) := by decide +kernel
theorem dX11_goes_89 : decode m_X11_goes.2.1 89 = .ok (.iadd, 1) := by decide +kernel
theorem dX11_goes_90 : decode m_X11_goes.2.1 90 = .ok (.iaload, 1) := by decide +kernel
theorem dX11_goes_91 : decode m_X11_goes.2.1 91 = .ok (.iload_n 3, 1) := by decide +kernel
theorem dX11_goes_92 : decode m_X11_goes.2.1 92 = .ok (.iadd, 1) := by decide +kernel
theorem dX11_goes_93 : decode m_X11_goes.2.1 93 = .ok (.i2l, 1) := by decide +kernel
theorem dX11_goes_94 : decode m_X11_goes.2.1 94 = .ok (.lmul, 1) := by decide +kernel
theorem dX11_goes_95 : decode m_X11_goes.2.1 95 = .ok (.aload_n 0, 1) := by decide +kernel
theorem dX11_goes_96 : decode m_X11_goes.2.1 96 = .ok (.getfield 7, 3) := by decide +kernel
theorem dX11_goes_99 : decode m_X11_goes.2.1 99 = .ok (.iload 4, 2) := by decide +kernel
theorem dX11_goes_101 : decode m_X11_goes.2.1 101 = .ok (.iconst 3, 1) := by decide +kernel
theorem dX11_goes_102 : decode m_X11_goes.2.1 102 = .ok (.iadd, 1) := by decide +kernel
theorem dX11_goes_103 : decode m_X11_goes.2.1 103 = .ok (.iaload, 1) := by decide +kernel
theorem dX11_goes_104 : decode m_X11_goes.2.1 104 = .ok (.i2l, 1) := by decide +kernel
theorem dX11_goes_105 : decode m_X11_goes.2.1 105 = .ok (.ldiv, 1) := by decide +kernel
theorem dX11_goes_106 : decode m_X11_goes.2.1 106 = .ok (.lload 8, 2) := by decide +kernel
theorem dX11_goes_108 : decode m_X11_goes.2.1 108 = .ok (.lsub, 1) := by decide +kernel
theorem dX11_goes_109 : decode m_X11_goes.2.1 109 = .ok (.l2i, 1) := by decide +kernel
theorem dX11_goes_110 : decode m_X11_goes.2.1 110 = .ok (.iadd, 1) := by decide +kernel
theorem dX11_goes_111 : decode m_X11_goes.2.1 111 = .ok (.iastore, 1) := by decide +kernel
theorem dX11_goes_112 : decode m_X11_goes.2.1 112 = .ok (.iinc 5 1, 3) := by decide +kernel
theorem dX11_goes_115 : decode m_X11_goes.2.1 115 = .ok (.goto (-105), 3) := by decide +kernel
theorem dX11_goes_118 : decode m_X11_goes.2.1 118 = .ok (.aload_n 0, 1) := by decide +kernel
theorem dX11_goes_119 : decode m_X11_goes.2.1 119 = .ok (.getfield 7, 3) := by decide +kernel
theorem dX11_goes_122 : decode m_X11_goes.2.1 122 = .ok (.iload 4, 2) := by decide +kernel
theorem dX11_goes_124 : decode m_X11_goes.2.1 124 = .ok (.iconst 4, 1) := by decide +kernel
theorem dX11_goes_125 : decode m_X11_goes.2.1 125 = .ok (.iadd, 1) := by decide +kernel
theorem dX11_goes_126 : decode m_X11_goes.2.1 126 = .ok (.dup2, 1) := by decide +kernel
theorem dX11_goes_127 : decode m_X11_goes.2.1 127 = .ok (.iaload, 1) := by decide +kernel
theorem dX11_goes_128 : decode m_X11_goes.2.1 128 = .ok (.iload_n 3, 1) := by decide +kernel
theorem dX11_goes_129 : decode m_X11_goes.2.1 129 = .ok (.iadd, 1) := by decide +kernel
theorem dX11_goes_130 : decode m_X11_goes.2.1 130 = .ok (.iastore, 1) := by decide +kernel
theorem dX11_goes_131 : decode m_X11_goes.2.1 131 = .ok (.aload_n 0, 1) := by decide +kernel
theorem dX11_goes_132 : decode m_X11_goes.2.1 132 = .ok (.getfield 7, 3) := by decide +kernel
theorem dX11_goes_135 : decode m_X11_goes.2.1 135 = .ok (.iload 4, 2) := by decide +kernel
theorem dX11_goes_137 : decode m_X11_goes.2.1 137 = .ok (.iconst 5, 1) := by decide +kernel
theorem dX11_goes_138 : decode m_X11_goes.2.1 138 = .ok (.iadd, 1) := by decide +kernel
theorem dX11_goes_139 : decode m_X11_goes.2.1 139 = .ok (.iload_n 2, 1) := by decide +kernel
theorem dX11_goes_140 : decode m_X11_goes.2.1 140 = .ok (.iadd, 1) := by decide +kernel
theorem dX11_goes_141 : decode m_X11_goes.2.1 141 = .ok (.dup2, 1) := by decide +kernel
theorem dX11_goes_142 : decode m_X11_goes.2.1 142 = .ok (.iaload, 1) := by decide +kernel
theorem dX11_goes_143 : decode m_X11_goes.2.1 143 = .ok (.iload_n 3, 1) := by decide +kernel
theorem dX11_goes_144 : decode m_X11_goes.2.1 144 = .ok (.isub, 1) := by decide +kernel
theorem dX11_goes_145 : decode m_X11_goes.2.1 145 = .ok (.iastore, 1) := by decide +kernel
theorem dX11_goes_146 : decode m_X11_goes.2.1 146 = .ok (.return_, 1) := by decide +kernel
theorem dX11_oneHour_0 : decode m_X11_oneHour.2.1 0 = .ok (.aload_n 0, 1) := by decide +kernel
theorem dX11_oneHour_1 : decode m_X11_oneHour.2.1 1 = .ok (.invokevirtual 187, 3) := by decide +kernel
theorem dX11_oneHour_4 : decode m_X11_oneHour.2.1 4 = .ok (.iconst 0, 1) := by decide +kernel
theorem dX11_oneHour_5 : decode m_X11_oneHour.2.1 5 = .ok (.istore_n 1, 1) := by decide +kernel
theorem dX11_oneHour_6 : decode m_X11_oneHour.2.1 6 = .ok (.iload_n 1, 1) := by decide +kernel
theorem dX11_oneHour_7 : decode m_X11_oneHour.2.1 7 = .ok (.iconst 5, 1) := by decide +kernel
theorem dX11_oneHour_8 : decode m_X11_oneHour.2.1 8 = .ok (.if_icmp .ge 75, 3) := by decide +kernel
theorem dX11_oneHour_11 : decode m_X11_oneHour.2.1 11 = .ok (.aload_n 0, 1) := by decide +kernel
theorem dX11_oneHour_12 : decode m_X11_oneHour.2.1 12 = .ok (.getfield 47, 3) := by decide +kernel
theorem dX11_oneHour_15 : decode m_X11_oneHour.2.1 15 = .ok (.iload_n 1, 1) := by decide +kernel
theorem dX11_oneHour_16 : decode m_X11_oneHour.2.1 16 = .ok (.iaload, 1) := by decide +kernel
theorem dX11_oneHour_17 : decode m_X11_oneHour.2.1 17 = .ok (.iconst 4, 1) := by decide +kernel
theorem dX11_oneHour_18 : decode m_X11_oneHour.2.1 18 = .ok (.idiv, 1) := by decide +kernel
theorem dX11_oneHour_19 : decode m_X11_oneHour.2.1 19 = .ok (.iconst 1, 1) := by decide +kernel
theorem dX11_oneHour_20 : decode m_X11_oneHour.2.1 20 = .ok (.iadd, 1) := by decide +kernel
theorem dX11_oneHour_21 : decode m_X11_oneHour.2.1 21 = .ok (.istore_n 2, 1) := by decide +kernel
theorem dX11_oneHour_22 : decode m_X11_oneHour.2.1 22 = .ok (.iconst 0, 1) := by decide +kernel
theorem dX11_oneHour_23 : decode m_X11_oneHour.2.1 23 = .ok (.istore_n 3, 1) := by decide +kernel
theorem dX11_oneHour_24 : decode m_X11_oneHour.2.1 24 = .ok (.iload_n 3, 1) := by decide +kernel
theorem dX11_oneHour_25 : decode m_X11_oneHour.2.1 25 = .ok (.aload_n 0, 1) := by decide +kernel
theorem dX11_oneHour_26 : decode m_X11_oneHour.2.1 26 = .ok (.getfield 7, 3) := by decide +kernel
theorem dX11_oneHour_29 : decode m_X11_oneHour.2.1 29 = .ok (.iconst 1, 1) := by decide +kernel
theorem dX11_oneHour_30 : decode m_X11_oneHour.2.1 30 = .ok (.iaload, 1) := by decide +kernel
theorem dX11_oneHour_31 : decode m_X11_oneHour.2.1 31 = .ok (.if_icmp .ge 46, 3) := by decide +kernel
theorem dX11_oneHour_34 : decode m_X11_oneHour.2.1 34 = .ok (.iload_n 2, 1) := by decide +kernel
theorem dX11_oneHour_35 : decode m_X11_oneHour.2.1 35 = .ok (.ifCond .le 42, 3) := by decide +kernel
theorem dX11_oneHour_38 : decode m_X11_oneHour.2.1 38 = .ok (.iload_n 2, 1) := by decide +kernel
theorem dX11_oneHour_39 : decode m_X11_oneHour.2.1 39 = .ok (.aload_n 0, 1) := by decide +kernel
theorem dX11_oneHour_40 : decode m_X11_oneHour.2.1 40 = .ok (.getfield 7, 3) := by decide +kernel
theorem dX11_oneHour_43 : decode m_X11_oneHour.2.1 43 = .ok (.aload_n 0, 1) := by decide +kernel
theorem dX11_oneHour_44 : decode m_X11_oneHour.2.1 44 = .ok (.iload_n 3, 1) := by decide +kernel
theorem dX11_oneHour_45 : decode m_X11_oneHour.2.1 45 = .ok (.invokevirtual 134, 3) := by decide +kernel
theorem dX11_oneHour_48 : decode m_X11_oneHour.2.1 48 = .ok (.iconst 5, 1) := by decide +kernel
theorem dX11_oneHour_49 : decode m_X11_oneHour.2.1 49 = .ok (.iadd, 1) := by decide +kernel
theorem dX11_oneHour_50 : decode m_X11_oneHour.2.1 50 = .ok (.iload_n 1, 1) := by decide +kernel
theorem dX11_oneHour_51 : decode m_X11_oneHour.2.1 51 = .ok (.iadd, 1) := by decide +kernel
theorem dX11_oneHour_52 : decode m_X11_oneHour.2.1 52 = .ok (.iaload, 1) := by decide +kernel
theorem dX11_oneHour_53 : decode m_X11_oneHour.2.1 53 = .ok (.invokestatic 190, 3) := by decide +kernel
theorem dX11_oneHour_56 : decode m_X11_oneHour.2.1 56 = .ok (.istore 4, 2) := by decide +kernel
theorem dX11_oneHour_58 : decode m_X11_oneHour.2.1 58 = .ok (.aload_n 0, 1) := by decide +kernel
theorem dX11_oneHour_59 : decode m_X11_oneHour.2.1 59 = .ok (.iload_n 3, 1) := by decide +kernel
theorem dX11_oneHour_60 : decode m_X11_oneHour.2.1 60 = .ok (.iload_n 1, 1) := by decide +kernel
theorem dX11_oneHour_61 : decode m_X11_oneHour.2.1 61 = .ok (.iload 4, 2) := by decide +kernel
theorem dX11_oneHour_63 : decode m_X11_oneHour.2.1 63 = .ok (.invokevirtual 193, 3) := by decide +kernel
theorem dX11_oneHour_66 : decode m_X11_oneHour.2.1 66 = .ok (.iload_n 2, 1) := by decide +kernel
theorem dX11_oneHour_67 : decode m_X11_oneHour.2.1 67 = .ok (.iload 4, 2) := by decide +kernel
theorem dX11_oneHour_69 : decode m_X11_oneHour.2.1 69 = .ok (.isub, 1) := by decide +kernel
theorem dX11_oneHour_70 : decode m_X11_oneHour.2.1 70 = .ok (.istore_n 2, 1) := by decide +kernel
theorem dX11_oneHour_71 : decode m_X11_oneHour.2.1 71 = .ok (.iinc 3 1, 3) := by decide +kernel
theorem dX11_oneHour_74 : decode m_X11_oneHour.2.1 74 = .ok (.goto (-50), 3) := by decide +kernel
theorem dX11_oneHour_77 : decode m_X11_oneHour.2.1 77 = .ok (.iinc 1 1, 3) := by decide +kernel
theorem dX11_oneHour_80 : decode m_X11_oneHour.2.1 80 = .ok (.goto (-74), 3) := by decide +kernel
theorem dX11_oneHour_83 : decode m_X11_oneHour.2.1 83 = .ok (.iconst 0, 1) := by decide +kernel
theorem dX11_oneHour_84 : decode m_X11_oneHour.2.1 84 = .ok (.istore_n 1, 1) := by decide +kernel
theorem dX11_oneHour_85 : decode m_X11_oneHour.2.1 85 = .ok (.iconst (-1), 1) := by decide +kernel
theorem dX11_oneHour_86 : decode m_X11_oneHour.2.1 86 = .ok (.istore_n 2, 1) := by decide +kernel
theorem dX11_oneHour_87 : decode m_X11_oneHour.2.1 87 = .ok (.iconst 0, 1) := by decide +kernel
theorem dX11_oneHour_88 : decode m_X11_oneHour.2.1 88 = .ok (.istore_n 3, 1) := by decide +kernel
theorem dX11_oneHour_89 : decode m_X11_oneHour.2.1 89 = .ok (.iload_n 3, 1) := by decide +kernel
theorem dX11_oneHour_90 : decode m_X11_oneHour.2.1 90 = .ok (.aload_n 0, 1) := by decide +kernel
theorem dX11_oneHour_91 : decode m_X11_oneHour.2.1 91 = .ok (.getfield 7, 3) := by decide +kernel
theorem dX11_oneHour_94 : decode m_X11_oneHour.2.1 94 = .ok (.iconst 1, 1) := by decide +kernel
theorem dX11_oneHour_95 : decode m_X11_oneHour.2.1 95 = .ok (.iaload, 1) := by decide +kernel
theorem dX11_oneHour_96 : decode m_X11_oneHour.2.1 96 = .ok (.if_icmp .ge 76, 3) := by decide +kernel
theorem dX11_oneHour_99 : decode m_X11_oneHour.2.1 99 = .ok (.aload_n 0, 1) := by decide +kernel
theorem dX11_oneHour_100 : decode m_X11_oneHour.2.1 100 = .ok (.iload_n 3, 1) := by decide +kernel
theorem dX11_oneHour_101 : decode m_X11_oneHour.2.1 101 = .ok (.invokevirtual 160, 3) := by decide +kernel
theorem dX11_oneHour_104 : decode m_X11_oneHour.2.1 104 = .ok (.ifCond .le 62, 3) := by decide +kernel
theorem dX11_oneHour_107 : decode m_X11_oneHour.2.1 107 = .ok (.iload_n 3, 1) := by decide +kernel
theorem dX11_oneHour_108 : decode m_X11_oneHour.2.1 108 = .ok (.aload_n 0, 1) := by decide +kernel
theorem dX11_oneHour_109 : decode m_X11_oneHour.2.1 109 = .ok (.getfield 197, 3) := by decide +kernel
theorem dX11_oneHour_112 : decode m_X11_oneHour.2.1 112 = .ok (.if_icmp .ne 7, 3) := by decide +kernel
theorem dX11_oneHour_115 : decode m_X11_oneHour.2.1 115 = .ok (.iload_n 1, 1) := by decide +kernel
theorem dX11_oneHour_116 : decode m_X11_oneHour.2.1 116 = .ok (.goto 4, 3) := by decide +kernel
theorem dX11_oneHour_119 : decode m_X11_oneHour.2.1 119 = .ok (.iload_n 2, 1) := by decide +kernel
theorem dX11_oneHour_120 : decode m_X11_oneHour.2.1 120 = .ok (.istore_n 2, 1) := by decide +kernel
theorem dX11_oneHour_121 : decode m_X11_oneHour.2.1 121 = .ok (.iconst 0, 1) := by decide +kernel
theorem dX11_oneHour_122 : decode m_X11_oneHour.2.1 122 = .ok (.istore 4, 2) := by decide +kernel
theorem dX11_oneHour_124 : decode m_X11_oneHour.2.1 124 = .ok (.iload 4, 2) := by decide +kernel
theorem dX11_oneHour_126 : decode m_X11_oneHour.2.1 126 = .ok (.bipush 10, 2) := by decide +kernel
theorem dX11_oneHour_128 : decode m_X11_oneHour.2.1 128 = .ok (.if_icmp .ge 35, 3) := by decide +kernel
theorem dX11_oneHour_131 : decode m_X11_oneHour.2.1 131 = .ok (.aload_n 0, 1) := by decide +kernel
theorem dX11_oneHour_132 : decode m_X11_oneHour.2.1 132 = .ok (.getfield 7, 3) := by decide +kernel
theorem dX11_oneHour_135 : decode m_X11_oneHour.2.1 135 = .ok (.aload_n 0, 1) := by decide +kernel
theorem dX11_oneHour_136 : decode m_X11_oneHour.2.1 136 = .ok (.iload_n 1, 1) := by decide +kernel
theorem dX11_oneHour_137 : decode m_X11_oneHour.2.1 137 = .ok (.invokevirtual 134, 3) := by decide +kernel
theorem dX11_oneHour_140 : decode m_X11_oneHour.2.1 140 = .ok (.iload 4, 2) := by decide +kernel
theorem dX11_oneHour_142 : decode m_X11_oneHour.2.1 142 = .ok (.iadd, 1) := by decide +kernel
theorem dX11_oneHour_143 : decode m_X11_oneHour.2.1 143 = .ok (.aload_n 0, 1) := by decide +kernel
theorem dX11_oneHour_144 : decode m_X11_oneHour.2.1 144 = .ok (.getfield 7, 3) := by decide +kernel
theorem dX11_oneHour_147 : decode m_X11_oneHour.2.1 147 = .ok (.aload_n 0, 1) := by decide +kernel
theorem dX11_oneHour_148 : decode m_X11_oneHour.2.1 148 = .ok (.iload_n 3, 1) := by decide +kernel
theorem dX11_oneHour_149 : decode m_X11_oneHour.2.1 149 = .ok (.invokevirtual 134, 3) := by decide +kernel
theorem dX11_oneHour_152 : decode m_X11_oneHour.2.1 152 = .ok (.iload 4, 2) := by decide +kernel
theorem dX11_oneHour_154 : decode m_X11_oneHour.2.1 154 = .ok (.iadd, 1) := by decide +kernel
theorem dX11_oneHour_155 : decode m_X11_oneHour.2.1 155 = .ok (.iaload, 1) := by decide +kernel
theorem dX11_oneHour_156 : decode m_X11_oneHour.2.1 156 = .ok (.iastore, 1) := by decide +kernel
theorem dX11_oneHour_157 : decode m_X11_oneHour.2.1 157 = .ok (.iinc 4 1, 3) := by decide +kernel
theorem dX11_oneHour_160 : decode m_X11_oneHour.2.1 160 = .ok (.goto (-36), 3) := by decide +kernel
theorem dX11_oneHour_163 : decode m_X11_oneHour.2.1 163 = .ok (.iinc 1 1, 3) := by decide +kernel
theorem dX11_oneHour_166 : decode m_X11_oneHour.2.1 166 = .ok (.iinc 3 1, 3) := by decide +kernel
theorem dX11_oneHour_169 : decode m_X11_oneHour.2.1 169 = .ok (.goto (-80), 3) := by decide +kernel
theorem dX11_oneHour_172 : decode m_X11_oneHour.2.1 172 = .ok (.aload_n 0, 1) := by decide +kernel
theorem dX11_oneHour_173 : decode m_X11_oneHour.2.1 173 = .ok (.iload_n 2, 1) := by decide +kernel
theorem dX11_oneHour_174 : decode m_X11_oneHour.2.1 174 = .ok (.putfield 197, 3) := by decide +kernel
theorem dX11_oneHour_177 : decode m_X11_oneHour.2.1 177 = .ok (.aload_n 0, 1) := by decide +kernel
theorem dX11_oneHour_178 : decode m_X11_oneHour.2.1 178 = .ok (.getfield 7, 3) := by decide +kernel
theorem dX11_oneHour_181 : decode m_X11_oneHour.2.1 181 = .ok (.iconst 1, 1) := by decide +kernel
theorem dX11_oneHour_182 : decode m_X11_oneHour.2.1 182 = .ok (.iload_n 1, 1) := by decide +kernel
theorem dX11_oneHour_183 : decode m_X11_oneHour.2.1 183 = .ok (.iastore, 1) := by decide +kernel
theorem dX11_oneHour_184 : decode m_X11_oneHour.2.1 184 = .ok (.aload_n 0, 1) := by decide +kernel
theorem dX11_oneHour_185 : decode m_X11_oneHour.2.1 185 = .ok (.getfield 7, 3) := by decide +kernel
theorem dX11_oneHour_188 : decode m_X11_oneHour.2.1 188 = .ok (.iconst 5, 1) := by decide +kernel
theorem dX11_oneHour_189 : decode m_X11_oneHour.2.1 189 = .ok (.dup2, 1) := by decide +kernel
theorem dX11_oneHour_190 : decode m_X11_oneHour.2.1 190 = .ok (.iaload, 1) := by decide +kernel
theorem dX11_oneHour_191 : decode m_X11_oneHour.2.1 191 = .ok (.iconst 1, 1) := by decide +kernel
theorem dX11_oneHour_192 : decode m_X11_oneHour.2.1 192 = .ok (.iadd, 1) := by decide +kernel
theorem dX11_oneHour_193 : decode m_X11_oneHour.2.1 193 = .ok (.iastore, 1) := by decide +kernel
theorem dX11_oneHour_194 : decode m_X11_oneHour.2.1 194 = .ok (.return_, 1) := by decide +kernel
theorem dX11_run_0 : decode m_X11_run.2.1 0 = .ok (.iload_n 1, 1) := by decide +kernel
theorem dX11_run_1 : decode m_X11_run.2.1 1 = .ok (.i2l, 1) := by decide +kernel
theorem dX11_run_2 : decode m_X11_run.2.1 2 = .ok (.lconst 1, 1) := by decide +kernel
theorem dX11_run_3 : decode m_X11_run.2.1 3 = .ok (.ldc2_w 201, 3) := by decide +kernel
theorem dX11_run_6 : decode m_X11_run.2.1 6 = .ok (.invokestatic 78, 3) := by decide +kernel
theorem dX11_run_9 : decode m_X11_run.2.1 9 = .ok (.ifCond .ne 6, 3) := by decide +kernel
theorem dX11_run_12 : decode m_X11_run.2.1 12 = .ok (.ldc 100, 2) := by decide +kernel
theorem dX11_run_14 : decode m_X11_run.2.1 14 = .ok (.ireturn, 1) := by decide +kernel
theorem dX11_run_15 : decode m_X11_run.2.1 15 = .ok (.aload_n 0, 1) := by decide +kernel
theorem dX11_run_16 : decode m_X11_run.2.1 16 = .ok (.getfield 7, 3) := by decide +kernel
theorem dX11_run_19 : decode m_X11_run.2.1 19 = .ok (.iconst 5, 1) := by decide +kernel
theorem dX11_run_20 : decode m_X11_run.2.1 20 = .ok (.iaload, 1) := by decide +kernel
theorem dX11_run_21 : decode m_X11_run.2.1 21 = .ok (.iload_n 1, 1) := by decide +kernel
theorem dX11_run_22 : decode m_X11_run.2.1 22 = .ok (.iadd, 1) := by decide +kernel
theorem dX11_run_23 : decode m_X11_run.2.1 23 = .ok (.sipush 999, 3) := by decide +kernel
theorem dX11_run_26 : decode m_X11_run.2.1 26 = .ok (.if_icmp .le 6, 3) := by decide +kernel
theorem dX11_run_29 : decode m_X11_run.2.1 29 = .ok (.ldc 101, 2) := by decide +kernel
theorem dX11_run_31 : decode m_X11_run.2.1 31 = .ok (.ireturn, 1) := by decide +kernel
theorem dX11_run_32 : decode m_X11_run.2.1 32 = .ok (.iconst 0, 1) := by decide +kernel
theorem dX11_run_33 : decode m_X11_run.2.1 33 = .ok (.istore_n 2, 1) := by decide +kernel
theorem dX11_run_34 : decode m_X11_run.2.1 34 = .ok (.iload_n 2, 1) := by decide +kernel
theorem dX11_run_35 : decode m_X11_run.2.1 35 = .ok (.iload_n 1, 1) := by decide +kernel
theorem dX11_run_36 : decode m_X11_run.2.1 36 = .ok (.if_icmp .ge 13, 3) := by decide +kernel
theorem dX11_run_39 : decode m_X11_run.2.1 39 = .ok (.aload_n 0, 1) := by decide +kernel
theorem dX11_run_40 : decode m_X11_run.2.1 40 = .ok (.invokevirtual 203, 3) := by decide +kernel
theorem dX11_run_43 : decode m_X11_run.2.1 43 = .ok (.iinc 2 1, 3) := by decide +kernel
theorem dX11_run_46 : decode m_X11_run.2.1 46 = .ok (.goto (-12), 3) := by decide +kernel
theorem dX11_run_49 : decode m_X11_run.2.1 49 = .ok (.aload_n 0, 1) := by decide +kernel
theorem dX11_run_50 : decode m_X11_run.2.1 50 = .ok (.getfield 7, 3) := by decide +kernel
theorem dX11_run_53 : decode m_X11_run.2.1 53 = .ok (.iconst 5, 1) := by decide +kernel
theorem dX11_run_54 : decode m_X11_run.2.1 54 = .ok (.iaload, 1) := by decide +kernel
theorem dX11_run_55 : decode m_X11_run.2.1 55 = .ok (.ireturn, 1) := by decide +kernel
theorem dX11_round_0 : decode m_X11_round.2.1 0 = .ok (.iconst 0, 1) := by decide +kernel
theorem dX11_round_1 : decode m_X11_round.2.1 1 = .ok (.istore_n 1, 1) := by decide +kernel
theorem dX11_round_2 : decode m_X11_round.2.1 2 = .ok (.iconst 0, 1) := by decide +kernel
theorem dX11_round_3 : decode m_X11_round.2.1 3 = .ok (.istore_n 2, 1) := by decide +kernel
theorem dX11_round_4 : decode m_X11_round.2.1 4 = .ok (.iload_n 2, 1) := by decide +kernel
theorem dX11_round_5 : decode m_X11_round.2.1 5 = .ok (.aload_n 0, 1) := by decide +kernel
theorem dX11_round_6 : decode m_X11_round.2.1 6 = .ok (.getfield 7, 3) := by decide +kernel
theorem dX11_round_9 : decode m_X11_round.2.1 9 = .ok (.iconst 0, 1) := by decide +kernel
theorem dX11_round_10 : decode m_X11_round.2.1 10 = .ok (.iaload, 1) := by decide +kernel
theorem dX11_round_11 : decode m_X11_round.2.1 11 = .ok (.if_icmp .ge 131, 3) := by decide +kernel
theorem dX11_round_14 : decode m_X11_round.2.1 14 = .ok (.aload_n 0, 1) := by decide +kernel
theorem dX11_round_15 : decode m_X11_round.2.1 15 = .ok (.iload_n 2, 1) := by decide +kernel
theorem dX11_round_16 : decode m_X11_round.2.1 16 = .ok (.invokevirtual 165, 3) := by decide +kernel
theorem dX11_round_19 : decode m_X11_round.2.1 19 = .ok (.istore_n 3, 1) := by decide +kernel
theorem dX11_round_20 : decode m_X11_round.2.1 20 = .ok (.aload_n 0, 1) := by decide +kernel
theorem dX11_round_21 : decode m_X11_round.2.1 21 = .ok (.getfield 62, 3) := by decide +kernel
theorem dX11_round_24 : decode m_X11_round.2.1 24 = .ok (.bipush 104, 2) := by decide +kernel
theorem dX11_round_26 : decode m_X11_round.2.1 26 = .ok (.aload_n 0, 1) := by decide +kernel
theorem dX11_round_27 : decode m_X11_round.2.1 27 = .ok (.getfield 7, 3) := by decide +kernel
theorem dX11_round_30 : decode m_X11_round.2.1 30 = .ok (.iconst 5, 1) := by decide +kernel
theorem dX11_round_31 : decode m_X11_round.2.1 31 = .ok (.iaload, 1) := by decide +kernel
theorem dX11_round_32 : decode m_X11_round.2.1 32 = .ok (.iastore, 1) := by decide +kernel
theorem dX11_round_33 : decode m_X11_round.2.1 33 = .ok (.aload_n 0, 1) := by decide +kernel
theorem dX11_round_34 : decode m_X11_round.2.1 34 = .ok (.getfield 62, 3) := by decide +kernel
theorem dX11_round_37 : decode m_X11_round.2.1 37 = .ok (.bipush 116, 2) := by decide +kernel
theorem dX11_round_39 : decode m_X11_round.2.1 39 = .ok (.aload_n 0, 1) := by decide +kernel
theorem dX11_round_40 : decode m_X11_round.2.1 40 = .ok (.invokevirtual 168, 3) := by decide +kernel
theorem dX11_round_43 : decode m_X11_round.2.1 43 = .ok (.iastore, 1) := by decide +kernel
theorem dX11_round_44 : decode m_X11_round.2.1 44 = .ok (.aload_n 0, 1) := by decide +kernel
theorem dX11_round_45 : decode m_X11_round.2.1 45 = .ok (.getfield 62, 3) := by decide +kernel
theorem dX11_round_48 : decode m_X11_round.2.1 48 = .ok (.bipush 98, 2) := by decide +kernel
theorem dX11_round_50 : decode m_X11_round.2.1 50 = .ok (.aload_n 0, 1) := by decide +kernel
theorem dX11_round_51 : decode m_X11_round.2.1 51 = .ok (.invokevirtual 206, 3) := by decide +kernel
theorem dX11_round_54 : decode m_X11_round.2.1 54 = .ok (.iastore, 1) := by decide +kernel
theorem dX11_round_55 : decode m_X11_round.2.1 55 = .ok (.aload_n 0, 1) := by decide +kernel
theorem dX11_round_56 : decode m_X11_round.2.1 56 = .ok (.getfield 62, 3) := by decide +kernel
theorem dX11_round_59 : decode m_X11_round.2.1 59 = .ok (.bipush 115, 2) := by decide +kernel
theorem dX11_round_61 : decode m_X11_round.2.1 61 = .ok (.aload_n 0, 1) := by decide +kernel
theorem dX11_round_62 : decode m_X11_round.2.1 62 = .ok (.getfield 7, 3) := by decide +kernel
theorem dX11_round_65 : decode m_X11_round.2.1 65 = .ok (.aload_n 0, 1) := by decide +kernel
theorem dX11_round_66 : decode m_X11_round.2.1 66 = .ok (.iload_n 2, 1) := by decide +kernel
theorem dX11_round_67 : decode m_X11_round.2.1 67 = .ok (.invokevirtual 86, 3) := by decide +kernel
theorem dX11_round_70 : decode m_X11_round.2.1 70 = .ok (.iconst 3, 1) := by decide +kernel
theorem dX11_round_71 : decode m_X11_round.2.1 71 = .ok (.iadd, 1) := by decide +kernel
theorem dX11_round_72 : decode m_X11_round.2.1 72 = .ok (.iaload, 1) := by decide +kernel
theorem dX11_round_73 : decode m_X11_round.2.1 73 = .ok (.iastore, 1) := by decide +kernel
theorem dX11_round_74 : decode m_X11_round.2.1 74 = .ok (.iload_n 3, 1) := by decide +kernel
theorem dX11_round_75 : decode m_X11_round.2.1 75 = .ok (.ifCond .ge 7, 3) := by decide +kernel
theorem dX11_round_78 : decode m_X11_round.2.1 78 = .ok (.iconst 0, 1) := by decide +kernel
theorem dX11_round_79 : decode m_X11_round.2.1 79 = .ok (.goto 29, 3) := by decide +kernel
theorem dX11_round_82 : decode m_X11_round.2.1 82 = .ok (.aload_n 0, 1) := by decide +kernel
theorem dX11_round_83 : decode m_X11_round.2.1 83 = .ok (.iload_n 3, 1) := by decide +kernel
theorem dX11_round_84 : decode m_X11_round.2.1 84 = .ok (.invokevirtual 172, 3) := by decide +kernel
theorem dX11_round_87 : decode m_X11_round.2.1 87 = .ok (.sipush 999, 3) := by decide +kernel
theorem dX11_round_90 : decode m_X11_round.2.1 90 = .ok (.invokestatic 175, 3) := by decide +kernel
theorem dX11_round_93 : decode m_X11_round.2.1 93 = .ok (.aload_n 0, 1) := by decide +kernel
theorem dX11_round_94 : decode m_X11_round.2.1 94 = .ok (.getfield 7, 3) := by decide +kernel
theorem dX11_round_97 : decode m_X11_round.2.1 97 = .ok (.aload_n 0, 1) := by decide +kernel
theorem dX11_round_98 : decode m_X11_round.2.1 98 = .ok (.iload_n 2, 1) := by decide +kernel
theorem dX11_round_99 : decode m_X11_round.2.1 99 = .ok (.invokevirtual 86, 3) := by decide +kernel
theorem dX11_round_102 : decode m_X11_round.2.1 102 = .ok (.iconst 3, 1) := by decide +kernel
theorem dX11_round_103 : decode m_X11_round.2.1 103 = .ok (.iadd, 1) := by decide +kernel
theorem dX11_round_104 : decode m_X11_round.2.1 104 = .ok (.iaload, 1) := by decide +kernel
theorem dX11_round_105 : decode m_X11_round.2.1 105 = .ok (.invokestatic 190, 3) := by decide +kernel
theorem dX11_round_108 : decode m_X11_round.2.1 108 = .ok (.istore 4, 2) := by decide +kernel
theorem dX11_round_110 : decode m_X11_round.2.1 110 = .ok (.iload 4, 2) := by decide +kernel
theorem dX11_round_112 : decode m_X11_round.2.1 112 = .ok (.ifCond .le 24, 3) := by decide +kernel
theorem dX11_round_115 : decode m_X11_round.2.1 115 = .ok (.aload_n 0, 1) := by decide +kernel
theorem dX11_round_116 : decode m_X11_round.2.1 116 = .ok (.getfield 7, 3) := by decide +kernel
theorem dX11_round_119 : decode m_X11_round.2.1 119 = .ok (.iconst 1, 1) := by decide +kernel
theorem dX11_round_120 : decode m_X11_round.2.1 120 = .ok (.iaload, 1) := by decide +kernel
theorem dX11_round_121 : decode m_X11_round.2.1 121 = .ok (.bipush 24, 2) := by decide +kernel
theorem dX11_round_123 : decode m_X11_round.2.1 123 = .ok (.if_icmp .ge 13, 3) := by decide +kernel
theorem dX11_round_126 : decode m_X11_round.2.1 126 = .ok (.aload_n 0, 1) := by decide +kernel
theorem dX11_round_127 : decode m_X11_round.2.1 127 = .ok (.iload_n 2, 1) := by decide +kernel
theorem dX11_round_128 : decode m_X11_round.2.1 128 = .ok (.iload 4, 2) := by decide +kernel
theorem dX11_round_130 : decode m_X11_round.2.1 130 = .ok (.invokevirtual 154, 3) := by decide +kernel
theorem dX11_round_133 : decode m_X11_round.2.1 133 = .ok (.iinc 1 1, 3) := by decide +kernel
theorem dX11_round_136 : decode m_X11_round.2.1 136 = .ok (.iinc 2 1, 3) := by decide +kernel
theorem dX11_round_139 : decode m_X11_round.2.1 139 = .ok (.goto (-135), 3) := by decide +kernel
theorem dX11_round_142 : decode m_X11_round.2.1 142 = .ok (.iload_n 1, 1) := by decide +kernel
theorem dX11_round_143 : decode m_X11_round.2.1 143 = .ok (.ireturn, 1) := by decide +kernel
theorem dX11_hearth_0 : decode m_X11_hearth.2.1 0 = .ok (.iload_n 1, 1) := by decide +kernel
theorem dX11_hearth_1 : decode m_X11_hearth.2.1 1 = .ok (.i2l, 1) := by decide +kernel
theorem dX11_hearth_2 : decode m_X11_hearth.2.1 2 = .ok (.lconst 0, 1) := by decide +kernel
theorem dX11_hearth_3 : decode m_X11_hearth.2.1 3 = .ok (.ldc2_w 111, 3) := by decide +kernel
theorem dX11_hearth_6 : decode m_X11_hearth.2.1 6 = .ok (.invokestatic 78, 3) := by decide +kernel
theorem dX11_hearth_9 : decode m_X11_hearth.2.1 9 = .ok (.ifCond .ne 8, 3) := by decide +kernel
theorem dX11_hearth_12 : decode m_X11_hearth.2.1 12 = .ok (.ldc 100, 2) := by decide +kernel
theorem dX11_hearth_14 : decode m_X11_hearth.2.1 14 = .ok (.goto 24, 3) := by decide +kernel
theorem dX11_hearth_17 : decode m_X11_hearth.2.1 17 = .ok (.iload_n 1, 1) := by decide +kernel
theorem dX11_hearth_18 : decode m_X11_hearth.2.1 18 = .ok (.iconst 3, 1) := by decide +kernel
theorem dX11_hearth_19 : decode m_X11_hearth.2.1 19 = .ok (.if_icmp .ge 15, 3) := by decide +kernel
theorem dX11_hearth_22 : decode m_X11_hearth.2.1 22 = .ok (.aload_n 0, 1) := by decide +kernel
theorem dX11_hearth_23 : decode m_X11_hearth.2.1 23 = .ok (.getfield 7, 3) := by decide +kernel
theorem dX11_hearth_26 : decode m_X11_hearth.2.1 26 = .ok (.bipush 9, 2) := by decide +kernel
theorem dX11_hearth_28 : decode m_X11_hearth.2.1 28 = .ok (.iload_n 1, 1) := by decide +kernel
theorem dX11_hearth_29 : decode m_X11_hearth.2.1 29 = .ok (.iadd, 1) := by decide +kernel
theorem dX11_hearth_30 : decode m_X11_hearth.2.1 30 = .ok (.iaload, 1) := by decide +kernel
theorem dX11_hearth_31 : decode m_X11_hearth.2.1 31 = .ok (.goto 7, 3) := by decide +kernel
theorem dX11_hearth_34 : decode m_X11_hearth.2.1 34 = .ok (.aload_n 0, 1) := by decide +kernel
theorem dX11_hearth_35 : decode m_X11_hearth.2.1 35 = .ok (.invokevirtual 206, 3) := by decide +kernel
theorem dX11_hearth_38 : decode m_X11_hearth.2.1 38 = .ok (.ireturn, 1) := by decide +kernel
theorem dX11_castOut_0 : decode m_X11_castOut.2.1 0 = .ok (.iconst 1, 1) := by decide +kernel
theorem dX11_castOut_1 : decode m_X11_castOut.2.1 1 = .ok (.istore_n 2, 1) := by decide +kernel
theorem dX11_castOut_2 : decode m_X11_castOut.2.1 2 = .ok (.iload_n 2, 1) := by decide +kernel
theorem dX11_castOut_3 : decode m_X11_castOut.2.1 3 = .ok (.iconst 3, 1) := by decide +kernel
theorem dX11_castOut_4 : decode m_X11_castOut.2.1 4 = .ok (.if_icmp .ge 44, 3) := by decide +kernel
theorem dX11_castOut_7 : decode m_X11_castOut.2.1 7 = .ok (.aload_n 0, 1) := by decide +kernel
theorem dX11_castOut_8 : decode m_X11_castOut.2.1 8 = .ok (.getfield 7, 3) := by decide +kernel
theorem dX11_castOut_11 : decode m_X11_castOut.2.1 11 = .ok (.bipush 9, 2) := by decide +kernel
theorem dX11_castOut_13 : decode m_X11_castOut.2.1 13 = .ok (.iload_n 2, 1) := by decide +kernel
theorem dX11_castOut_14 : decode m_X11_castOut.2.1 14 = .ok (.iadd, 1) := by decide +kernel
theorem dX11_castOut_15 : decode m_X11_castOut.2.1 15 = .ok (.dup2, 1) := by decide +kernel
theorem dX11_castOut_16 : decode m_X11_castOut.2.1 16 = .ok (.iaload, 1) := by decide +kernel
theorem dX11_castOut_17 : decode m_X11_castOut.2.1 17 = .ok (.aload_n 0, 1) := by decide +kernel
theorem dX11_castOut_18 : decode m_X11_castOut.2.1 18 = .ok (.getfield 7, 3) := by decide +kernel
theorem dX11_castOut_21 : decode m_X11_castOut.2.1 21 = .ok (.bipush 9, 2) := by decide +kernel
theorem dX11_castOut_23 : decode m_X11_castOut.2.1 23 = .ok (.iload_n 2, 1) := by decide +kernel
theorem dX11_castOut_24 : decode m_X11_castOut.2.1 24 = .ok (.iadd, 1) := by decide +kernel
theorem dX11_castOut_25 : decode m_X11_castOut.2.1 25 = .ok (.iaload, 1) := by decide +kernel
theorem dX11_castOut_26 : decode m_X11_castOut.2.1 26 = .ok (.i2l, 1) := by decide +kernel
theorem dX11_castOut_27 : decode m_X11_castOut.2.1 27 = .ok (.iload_n 1, 1) := by decide +kernel
theorem dX11_castOut_28 : decode m_X11_castOut.2.1 28 = .ok (.i2l, 1) := by decide +kernel
theorem dX11_castOut_29 : decode m_X11_castOut.2.1 29 = .ok (.lmul, 1) := by decide +kernel
theorem dX11_castOut_30 : decode m_X11_castOut.2.1 30 = .ok (.aload_n 0, 1) := by decide +kernel
theorem dX11_castOut_31 : decode m_X11_castOut.2.1 31 = .ok (.getfield 7, 3) := by decide +kernel
theorem dX11_castOut_34 : decode m_X11_castOut.2.1 34 = .ok (.bipush 9, 2) := by decide +kernel
theorem dX11_castOut_36 : decode m_X11_castOut.2.1 36 = .ok (.iaload, 1) := by decide +kernel
theorem dX11_castOut_37 : decode m_X11_castOut.2.1 37 = .ok (.i2l, 1) := by decide +kernel
theorem dX11_castOut_38 : decode m_X11_castOut.2.1 38 = .ok (.ldiv, 1) := by decide +kernel
theorem dX11_castOut_39 : decode m_X11_castOut.2.1 39 = .ok (.l2i, 1) := by decide +kernel
theorem dX11_castOut_40 : decode m_X11_castOut.2.1 40 = .ok (.isub, 1) := by decide +kernel
theorem dX11_castOut_41 : decode m_X11_castOut.2.1 41 = .ok (.iastore, 1) := by decide +kernel
theorem dX11_castOut_42 : decode m_X11_castOut.2.1 42 = .ok (.iinc 2 1, 3) := by decide +kernel
theorem dX11_castOut_45 : decode m_X11_castOut.2.1 45 = .ok (.goto (-43), 3) := by decide +kernel
theorem dX11_castOut_48 : decode m_X11_castOut.2.1 48 = .ok (.aload_n 0, 1) := by decide +kernel
theorem dX11_castOut_49 : decode m_X11_castOut.2.1 49 = .ok (.getfield 7, 3) := by decide +kernel
theorem dX11_castOut_52 : decode m_X11_castOut.2.1 52 = .ok (.bipush 9, 2) := by decide +kernel
theorem dX11_castOut_54 : decode m_X11_castOut.2.1 54 = .ok (.dup2, 1) := by decide +kernel
theorem dX11_castOut_55 : decode m_X11_castOut.2.1 55 = .ok (.iaload, 1) := by decide +kernel
theorem dX11_castOut_56 : decode m_X11_castOut.2.1 56 = .ok (.iload_n 1, 1) := by decide +kernel
theorem dX11_castOut_57 : decode m_X11_castOut.2.1 57 = .ok (.isub, 1) := by decide +kernel
theorem dX11_castOut_58 : decode m_X11_castOut.2.1 58 = .ok (.iastore, 1) := by decide +kernel
theorem dX11_castOut_59 : decode m_X11_castOut.2.1 59 = .ok (.return_, 1) := by decide +kernel
theorem dX11_cast_0 : decode m_X11_cast.2.1 0 = .ok (.iload_n 1, 1) := by decide +kernel
theorem dX11_cast_1 : decode m_X11_cast.2.1 1 = .ok (.i2l, 1) := by decide +kernel
theorem dX11_cast_2 : decode m_X11_cast.2.1 2 = .ok (.lconst 1, 1) := by decide +kernel
theorem dX11_cast_3 : decode m_X11_cast.2.1 3 = .ok (.ldc2_w 98, 3) := by decide +kernel
theorem dX11_cast_6 : decode m_X11_cast.2.1 6 = .ok (.invokestatic 78, 3) := by decide +kernel
theorem dX11_cast_9 : decode m_X11_cast.2.1 9 = .ok (.ifCond .ne 6, 3) := by decide +kernel
theorem dX11_cast_12 : decode m_X11_cast.2.1 12 = .ok (.ldc 100, 2) := by decide +kernel
theorem dX11_cast_14 : decode m_X11_cast.2.1 14 = .ok (.ireturn, 1) := by decide +kernel
theorem dX11_cast_15 : decode m_X11_cast.2.1 15 = .ok (.aload_n 0, 1) := by decide +kernel
theorem dX11_cast_16 : decode m_X11_cast.2.1 16 = .ok (.getfield 7, 3) := by decide +kernel
theorem dX11_cast_19 : decode m_X11_cast.2.1 19 = .ok (.bipush 9, 2) := by decide +kernel
theorem dX11_cast_21 : decode m_X11_cast.2.1 21 = .ok (.iaload, 1) := by decide +kernel
theorem dX11_cast_22 : decode m_X11_cast.2.1 22 = .ok (.iload_n 1, 1) := by decide +kernel
theorem dX11_cast_23 : decode m_X11_cast.2.1 23 = .ok (.if_icmp .ge 6, 3) := by decide +kernel
theorem dX11_cast_26 : decode m_X11_cast.2.1 26 = .ok (.ldc 153, 2) := by decide +kernel
theorem dX11_cast_28 : decode m_X11_cast.2.1 28 = .ok (.ireturn, 1) := by decide +kernel
theorem dX11_cast_29 : decode m_X11_cast.2.1 29 = .ok (.aload_n 0, 1) := by decide +kernel
theorem dX11_cast_30 : decode m_X11_cast.2.1 30 = .ok (.iload_n 1, 1) := by decide +kernel
theorem dX11_cast_31 : decode m_X11_cast.2.1 31 = .ok (.invokevirtual 209, 3) := by decide +kernel
theorem dX11_cast_34 : decode m_X11_cast.2.1 34 = .ok (.aload_n 0, 1) := by decide +kernel
theorem dX11_cast_35 : decode m_X11_cast.2.1 35 = .ok (.getfield 7, 3) := by decide +kernel
theorem dX11_cast_38 : decode m_X11_cast.2.1 38 = .ok (.bipush 9, 2) := by decide +kernel
theorem dX11_cast_40 : decode m_X11_cast.2.1 40 = .ok (.iaload, 1) := by decide +kernel
theorem dX11_cast_41 : decode m_X11_cast.2.1 41 = .ok (.ireturn, 1) := by decide +kernel
theorem dX11_setAside_0 : decode m_X11_setAside.2.1 0 = .ok (.iconst 0, 1) := by decide +kernel
theorem dX11_setAside_1 : decode m_X11_setAside.2.1 1 = .ok (.istore_n 3, 1) := by decide +kernel
theorem dX11_setAside_2 : decode m_X11_setAside.2.1 2 = .ok (.iload_n 3, 1) := by decide +kernel
theorem dX11_setAside_3 : decode m_X11_setAside.2.1 3 = .ok (.sipush 2950, 3) := by decide +kernel
theorem dX11_setAside_6 : decode m_X11_setAside.2.1 6 = .ok (.if_icmp .ge 15, 3) := by decide +kernel
theorem dX11_setAside_9 : decode m_X11_setAside.2.1 9 = .ok (.aload_n 2, 1) := by decide +kernel
theorem dX11_setAside_10 : decode m_X11_setAside.2.1 10 = .ok (.iload_n 3, 1) := by decide +kernel
theorem dX11_setAside_11 : decode m_X11_setAside.2.1 11 = .ok (.aload_n 1, 1) := by decide +kernel
theorem dX11_setAside_12 : decode m_X11_setAside.2.1 12 = .ok (.iload_n 3, 1) := by decide +kernel
theorem dX11_setAside_13 : decode m_X11_setAside.2.1 13 = .ok (.iaload, 1) := by decide +kernel
theorem dX11_setAside_14 : decode m_X11_setAside.2.1 14 = .ok (.iastore, 1) := by decide +kernel
theorem dX11_setAside_15 : decode m_X11_setAside.2.1 15 = .ok (.iinc 3 1, 3) := by decide +kernel
theorem dX11_setAside_18 : decode m_X11_setAside.2.1 18 = .ok (.goto (-16), 3) := by decide +kernel
theorem dX11_setAside_21 : decode m_X11_setAside.2.1 21 = .ok (.return_, 1) := by decide +kernel
theorem dX11_down_0 : decode m_X11_down.2.1 0 = .ok (.iload_n 1, 1) := by decide +kernel
theorem dX11_down_1 : decode m_X11_down.2.1 1 = .ok (.i2l, 1) := by decide +kernel
theorem dX11_down_2 : decode m_X11_down.2.1 2 = .ok (.lconst 0, 1) := by decide +kernel
theorem dX11_down_3 : decode m_X11_down.2.1 3 = .ok (.aload_n 0, 1) := by decide +kernel
theorem dX11_down_4 : decode m_X11_down.2.1 4 = .ok (.getfield 7, 3) := by decide +kernel
theorem dX11_down_7 : decode m_X11_down.2.1 7 = .ok (.iconst 1, 1) := by decide +kernel
theorem dX11_down_8 : decode m_X11_down.2.1 8 = .ok (.iaload, 1) := by decide +kernel
theorem dX11_down_9 : decode m_X11_down.2.1 9 = .ok (.iconst 1, 1) := by decide +kernel
theorem dX11_down_10 : decode m_X11_down.2.1 10 = .ok (.isub, 1) := by decide +kernel
theorem dX11_down_11 : decode m_X11_down.2.1 11 = .ok (.i2l, 1) := by decide +kernel
theorem dX11_down_12 : decode m_X11_down.2.1 12 = .ok (.invokestatic 78, 3) := by decide +kernel
theorem dX11_down_15 : decode m_X11_down.2.1 15 = .ok (.ifCond .ne 6, 3) := by decide +kernel
theorem dX11_down_18 : decode m_X11_down.2.1 18 = .ok (.ldc 100, 2) := by decide +kernel
theorem dX11_down_20 : decode m_X11_down.2.1 20 = .ok (.ireturn, 1) := by decide +kernel
theorem dX11_down_21 : decode m_X11_down.2.1 21 = .ok (.aload_n 0, 1) := by decide +kernel
theorem dX11_down_22 : decode m_X11_down.2.1 22 = .ok (.aload_n 0, 1) := by decide +kernel
theorem dX11_down_23 : decode m_X11_down.2.1 23 = .ok (.getfield 7, 3) := by decide +kernel
theorem dX11_down_26 : decode m_X11_down.2.1 26 = .ok (.aload_n 0, 1) := by decide +kernel
theorem dX11_down_27 : decode m_X11_down.2.1 27 = .ok (.getfield 16, 3) := by decide +kernel
theorem dX11_down_30 : decode m_X11_down.2.1 30 = .ok (.invokevirtual 212, 3) := by decide +kernel
theorem dX11_down_33 : decode m_X11_down.2.1 33 = .ok (.aload_n 0, 1) := by decide +kernel
theorem dX11_down_34 : decode m_X11_down.2.1 34 = .ok (.iload_n 1, 1) := by decide +kernel
theorem dX11_down_35 : decode m_X11_down.2.1 35 = .ok (.putfield 197, 3) := by decide +kernel
theorem dX11_down_38 : decode m_X11_down.2.1 38 = .ok (.iconst (-1), 1) := by decide +kernel
theorem dX11_down_39 : decode m_X11_down.2.1 39 = .ok (.istore_n 2, 1) := by decide +kernel
theorem dX11_down_40 : decode m_X11_down.2.1 40 = .ok (.iconst 0, 1) := by decide +kernel
theorem dX11_down_41 : decode m_X11_down.2.1 41 = .ok (.istore_n 3, 1) := by decide +kernel
theorem dX11_down_42 : decode m_X11_down.2.1 42 = .ok (.iload_n 3, 1) := by decide +kernel
theorem dX11_down_43 : decode m_X11_down.2.1 43 = .ok (.bipush 60, 2) := by decide +kernel
theorem dX11_down_45 : decode m_X11_down.2.1 45 = .ok (.if_icmp .ge 39, 3) := by decide +kernel
theorem dX11_down_48 : decode m_X11_down.2.1 48 = .ok (.iload_n 2, 1) := by decide +kernel
theorem dX11_down_49 : decode m_X11_down.2.1 49 = .ok (.ifCond .ge 35, 3) := by decide +kernel
theorem dX11_down_52 : decode m_X11_down.2.1 52 = .ok (.aload_n 0, 1) := by decide +kernel
theorem dX11_down_53 : decode m_X11_down.2.1 53 = .ok (.getfield 7, 3) := by decide +kernel
theorem dX11_down_56 : decode m_X11_down.2.1 56 = .ok (.iconst 5, 1) := by decide +kernel
theorem dX11_down_57 : decode m_X11_down.2.1 57 = .ok (.iaload, 1) := by decide +kernel
theorem dX11_down_58 : decode m_X11_down.2.1 58 = .ok (.istore 4, 2) := by decide +kernel
theorem dX11_down_60 : decode m_X11_down.2.1 60 = .ok (.aload_n 0, 1) := by decide +kernel
theorem dX11_down_61 : decode m_X11_down.2.1 61 = .ok (.invokevirtual 203, 3) := by decide +kernel
theorem dX11_down_64 : decode m_X11_down.2.1 64 = .ok (.aload_n 0, 1) := by decide +kernel
theorem dX11_down_65 : decode m_X11_down.2.1 65 = .ok (.getfield 197, 3) := by decide +kernel
theorem dX11_down_68 : decode m_X11_down.2.1 68 = .ok (.ifCond .ge 8, 3) := by decide +kernel
theorem dX11_down_71 : decode m_X11_down.2.1 71 = .ok (.iload 4, 2) := by decide +kernel
theorem dX11_down_73 : decode m_X11_down.2.1 73 = .ok (.goto 4, 3) := by decide +kernel
theorem dX11_down_76 : decode m_X11_down.2.1 76 = .ok (.iconst (-1), 1) := by decide +kernel
theorem dX11_down_77 : decode m_X11_down.2.1 77 = .ok (.istore_n 2, 1) := by decide +kernel
theorem dX11_down_78 : decode m_X11_down.2.1 78 = .ok (.iinc 3 1, 3) := by decide +kernel
theorem dX11_down_81 : decode m_X11_down.2.1 81 = .ok (.goto (-39), 3) := by decide +kernel
theorem dX11_down_84 : decode m_X11_down.2.1 84 = .ok (.aload_n 0, 1) := by decide +kernel
theorem dX11_down_85 : decode m_X11_down.2.1 85 = .ok (.aload_n 0, 1) := by decide +kernel
theorem dX11_down_86 : decode m_X11_down.2.1 86 = .ok (.getfield 16, 3) := by decide +kernel
theorem dX11_down_89 : decode m_X11_down.2.1 89 = .ok (.aload_n 0, 1) := by decide +kernel
theorem dX11_down_90 : decode m_X11_down.2.1 90 = .ok (.getfield 7, 3) := by decide +kernel
theorem dX11_down_93 : decode m_X11_down.2.1 93 = .ok (.invokevirtual 212, 3) := by decide +kernel
theorem dX11_down_96 : decode m_X11_down.2.1 96 = .ok (.iload_n 2, 1) := by decide +kernel
theorem dX11_down_97 : decode m_X11_down.2.1 97 = .ok (.invokestatic 216, 3) := by decide +kernel
theorem dX11_down_100 : decode m_X11_down.2.1 100 = .ok (.ireturn, 1) := by decide +kernel
theorem dX11_feed_0 : decode m_X11_feed.2.1 0 = .ok (.aload_n 0, 1) := by decide +kernel
theorem dX11_feed_1 : decode m_X11_feed.2.1 1 = .ok (.getfield 219, 3) := by decide +kernel
theorem dX11_feed_4 : decode m_X11_feed.2.1 4 = .ok (.bipush 12, 2) := by decide +kernel
theorem dX11_feed_6 : decode m_X11_feed.2.1 6 = .ok (.iadd, 1) := by decide +kernel
theorem dX11_feed_7 : decode m_X11_feed.2.1 7 = .ok (.bipush 96, 2) := by decide +kernel
theorem dX11_feed_9 : decode m_X11_feed.2.1 9 = .ok (.if_icmp .le 6, 3) := by decide +kernel
theorem dX11_feed_12 : decode m_X11_feed.2.1 12 = .ok (.ldc 101, 2) := by decide +kernel
theorem dX11_feed_14 : decode m_X11_feed.2.1 14 = .ok (.ireturn, 1) := by decide +kernel
theorem dX11_feed_15 : decode m_X11_feed.2.1 15 = .ok (.iconst 0, 1) := by decide +kernel
theorem dX11_feed_16 : decode m_X11_feed.2.1 16 = .ok (.istore 4, 2) := by decide +kernel
theorem dX11_feed_18 : decode m_X11_feed.2.1 18 = .ok (.iload 4, 2) := by decide +kernel
theorem dX11_feed_20 : decode m_X11_feed.2.1 20 = .ok (.bipush 12, 2) := by decide +kernel
theorem dX11_feed_22 : decode m_X11_feed.2.1 22 = .ok (.if_icmp .ge 69, 3) := by decide +kernel
theorem dX11_feed_25 : decode m_X11_feed.2.1 25 = .ok (.iload 4, 2) := by decide +kernel
theorem dX11_feed_27 : decode m_X11_feed.2.1 27 = .ok (.iconst 4, 1) := by decide +kernel
theorem dX11_feed_28 : decode m_X11_feed.2.1 28 = .ok (.if_icmp .ge 7, 3) := by decide +kernel
theorem dX11_feed_31 : decode m_X11_feed.2.1 31 = .ok (.iload_n 1, 1) := by decide +kernel
theorem dX11_feed_32 : decode m_X11_feed.2.1 32 = .ok (.goto 15, 3) := by decide +kernel
theorem dX11_feed_35 : decode m_X11_feed.2.1 35 = .ok (.iload 4, 2) := by decide +kernel
theorem dX11_feed_37 : decode m_X11_feed.2.1 37 = .ok (.bipush 8, 2) := by decide +kernel
theorem dX11_feed_39 : decode m_X11_feed.2.1 39 = .ok (.if_icmp .ge 7, 3) := by decide +kernel
theorem dX11_feed_42 : decode m_X11_feed.2.1 42 = .ok (.iload_n 2, 1) := by decide +kernel
theorem dX11_feed_43 : decode m_X11_feed.2.1 43 = .ok (.goto 4, 3) := by decide +kernel
theorem dX11_feed_46 : decode m_X11_feed.2.1 46 = .ok (.iload_n 3, 1) := by decide +kernel
theorem dX11_feed_47 : decode m_X11_feed.2.1 47 = .ok (.istore 5, 2) := by decide +kernel
theorem dX11_feed_49 : decode m_X11_feed.2.1 49 = .ok (.aload_n 0, 1) := by decide +kernel
theorem dX11_feed_50 : decode m_X11_feed.2.1 50 = .ok (.getfield 59, 3) := by decide +kernel
theorem dX11_feed_53 : decode m_X11_feed.2.1 53 = .ok (.aload_n 0, 1) := by decide +kernel
theorem dX11_feed_54 : decode m_X11_feed.2.1 54 = .ok (.getfield 219, 3) := by decide +kernel
theorem dX11_feed_57 : decode m_X11_feed.2.1 57 = .ok (.iload 5, 2) := by decide +kernel
theorem dX11_feed_59 : decode m_X11_feed.2.1 59 = .ok (.bipush 24, 2) := by decide +kernel
theorem dX11_feed_61 : decode m_X11_feed.2.1 61 = .ok (.bipush 8, 2) := by decide +kernel
theorem dX11_feed_63 : decode m_X11_feed.2.1 63 = .ok (.iload 4, 2) := by decide +kernel
theorem dX11_feed_65 : decode m_X11_feed.2.1 65 = .ok (.iconst 4, 1) := by decide +kernel
theorem dX11_feed_66 : decode m_X11_feed.2.1 66 = .ok (.irem, 1) := by decide +kernel
theorem dX11_feed_67 : decode m_X11_feed.2.1 67 = .ok (.imul, 1) := by decide +kernel
theorem dX11_feed_68 : decode m_X11_feed.2.1 68 = .ok (.isub, 1) := by decide +kernel
theorem dX11_feed_69 : decode m_X11_feed.2.1 69 = .ok (.ishr, 1) := by decide +kernel
theorem dX11_feed_70 : decode m_X11_feed.2.1 70 = .ok (.sipush 255, 3) := by decide +kernel
theorem dX11_feed_73 : decode m_X11_feed.2.1 73 = .ok (.iand, 1) := by decide +kernel
theorem dX11_feed_74 : decode m_X11_feed.2.1 74 = .ok (.iastore, 1) := by decide +kernel
theorem dX11_feed_75 : decode m_X11_feed.2.1 75 = .ok (.aload_n 0, 1) := by decide +kernel
theorem dX11_feed_76 : decode m_X11_feed.2.1 76 = .ok (.dup, 1) := by decide +kernel
theorem dX11_feed_77 : decode m_X11_feed.2.1 77 = .ok (.getfield 219, 3) := by decide +kernel
theorem dX11_feed_80 : decode m_X11_feed.2.1 80 = .ok (.iconst 1, 1) := by decide +kernel
theorem dX11_feed_81 : decode m_X11_feed.2.1 81 = .ok (.iadd, 1) := by decide +kernel
theorem dX11_feed_82 : decode m_X11_feed.2.1 82 = .ok (.putfield 219, 3) := by decide +kernel
theorem dX11_feed_85 : decode m_X11_feed.2.1 85 = .ok (.iinc 4 1, 3) := by decide +kernel
theorem dX11_feed_88 : decode m_X11_feed.2.1 88 = .ok (.goto (-70), 3) := by decide +kernel
theorem dX11_feed_91 : decode m_X11_feed.2.1 91 = .ok (.aload_n 0, 1) := by decide +kernel
theorem dX11_feed_92 : decode m_X11_feed.2.1 92 = .ok (.getfield 219, 3) := by decide +kernel
theorem dX11_feed_95 : decode m_X11_feed.2.1 95 = .ok (.ireturn, 1) := by decide +kernel
theorem dX11_trim_0 : decode m_X11_trim.2.1 0 = .ok (.iload_n 1, 1) := by decide +kernel
theorem dX11_trim_1 : decode m_X11_trim.2.1 1 = .ok (.i2l, 1) := by decide +kernel
theorem dX11_trim_2 : decode m_X11_trim.2.1 2 = .ok (.lconst 0, 1) := by decide +kernel
theorem dX11_trim_3 : decode m_X11_trim.2.1 3 = .ok (.aload_n 0, 1) := by decide +kernel
theorem dX11_trim_4 : decode m_X11_trim.2.1 4 = .ok (.getfield 219, 3) := by decide +kernel
theorem dX11_trim_7 : decode m_X11_trim.2.1 7 = .ok (.i2l, 1) := by decide +kernel
theorem dX11_trim_8 : decode m_X11_trim.2.1 8 = .ok (.invokestatic 78, 3) := by decide +kernel
theorem dX11_trim_11 : decode m_X11_trim.2.1 11 = .ok (.ifCond .ne 6, 3) := by decide +kernel
theorem dX11_trim_14 : decode m_X11_trim.2.1 14 = .ok (.ldc 100, 2) := by decide +kernel
theorem dX11_trim_16 : decode m_X11_trim.2.1 16 = .ok (.ireturn, 1) := by decide +kernel
theorem dX11_trim_17 : decode m_X11_trim.2.1 17 = .ok (.aload_n 0, 1) := by decide +kernel
theorem dX11_trim_18 : decode m_X11_trim.2.1 18 = .ok (.iload_n 1, 1) := by decide +kernel
theorem dX11_trim_19 : decode m_X11_trim.2.1 19 = .ok (.putfield 219, 3) := by decide +kernel
theorem dX11_trim_22 : decode m_X11_trim.2.1 22 = .ok (.iload_n 1, 1) := by decide +kernel
theorem dX11_trim_23 : decode m_X11_trim.2.1 23 = .ok (.ireturn, 1) := by decide +kernel
theorem dX11_isLetter_0 : decode m_X11_isLetter.2.1 0 = .ok (.iload_n 1, 1) := by decide +kernel
theorem dX11_isLetter_1 : decode m_X11_isLetter.2.1 1 = .ok (.aload_n 0, 1) := by decide +kernel
theorem dX11_isLetter_2 : decode m_X11_isLetter.2.1 2 = .ok (.getfield 219, 3) := by decide +kernel
theorem dX11_isLetter_5 : decode m_X11_isLetter.2.1 5 = .ok (.if_icmp .ge 26, 3) := by decide +kernel
theorem dX11_isLetter_8 : decode m_X11_isLetter.2.1 8 = .ok (.aload_n 0, 1) := by decide +kernel
theorem dX11_isLetter_9 : decode m_X11_isLetter.2.1 9 = .ok (.getfield 59, 3) := by decide +kernel
theorem dX11_isLetter_12 : decode m_X11_isLetter.2.1 12 = .ok (.iload_n 1, 1) := by decide +kernel
theorem dX11_isLetter_13 : decode m_X11_isLetter.2.1 13 = .ok (.iaload, 1) := by decide +kernel
theorem dX11_isLetter_14 : decode m_X11_isLetter.2.1 14 = .ok (.i2l, 1) := by decide +kernel
theorem dX11_isLetter_15 : decode m_X11_isLetter.2.1 15 = .ok (.ldc2_w 222, 3) := by decide +kernel
theorem dX11_isLetter_18 : decode m_X11_isLetter.2.1 18 = .ok (.ldc2_w 224, 3) := by decide +kernel
theorem dX11_isLetter_21 : decode m_X11_isLetter.2.1 21 = .ok (.invokestatic 78, 3) := by decide +kernel
theorem dX11_isLetter_24 : decode m_X11_isLetter.2.1 24 = .ok (.ifCond .eq 7, 3) := by decide +kernel
theorem dX11_isLetter_27 : decode m_X11_isLetter.2.1 27 = .ok (.iconst 1, 1) := by decide +kernel
theorem dX11_isLetter_28 : decode m_X11_isLetter.2.1 28 = .ok (.goto 4, 3) := by decide +kernel
theorem dX11_isLetter_31 : decode m_X11_isLetter.2.1 31 = .ok (.iconst 0, 1) := by decide +kernel
theorem dX11_isLetter_32 : decode m_X11_isLetter.2.1 32 = .ok (.ireturn, 1) := by decide +kernel
theorem dX11_isDigit_0 : decode m_X11_isDigit.2.1 0 = .ok (.iload_n 1, 1) := by decide +kernel
theorem dX11_isDigit_1 : decode m_X11_isDigit.2.1 1 = .ok (.aload_n 0, 1) := by decide +kernel
theorem dX11_isDigit_2 : decode m_X11_isDigit.2.1 2 = .ok (.getfield 219, 3) := by decide +kernel
theorem dX11_isDigit_5 : decode m_X11_isDigit.2.1 5 = .ok (.if_icmp .ge 26, 3) := by decide +kernel
theorem dX11_isDigit_8 : decode m_X11_isDigit.2.1 8 = .ok (.aload_n 0, 1) := by decide +kernel
theorem dX11_isDigit_9 : decode m_X11_isDigit.2.1 9 = .ok (.getfield 59, 3) := by decide +kernel
theorem dX11_isDigit_12 : decode m_X11_isDigit.2.1 12 = .ok (.iload_n 1, 1) := by decide +kernel
theorem dX11_isDigit_13 : decode m_X11_isDigit.2.1 13 = .ok (.iaload, 1) := by decide +kernel
theorem dX11_isDigit_14 : decode m_X11_isDigit.2.1 14 = .ok (.i2l, 1) := by decide +kernel
theorem dX11_isDigit_15 : decode m_X11_isDigit.2.1 15 = .ok (.ldc2_w 226, 3) := by decide +kernel
theorem dX11_isDigit_18 : decode m_X11_isDigit.2.1 18 = .ok (.ldc2_w 228, 3) := by decide +kernel
theorem dX11_isDigit_21 : decode m_X11_isDigit.2.1 21 = .ok (.invokestatic 78, 3) := by decide +kernel
theorem dX11_isDigit_24 : decode m_X11_isDigit.2.1 24 = .ok (.ifCond .eq 7, 3) := by decide +kernel
theorem dX11_isDigit_27 : decode m_X11_isDigit.2.1 27 = .ok (.iconst 1, 1) := by decide +kernel
theorem dX11_isDigit_28 : decode m_X11_isDigit.2.1 28 = .ok (.goto 4, 3) := by decide +kernel
theorem dX11_isDigit_31 : decode m_X11_isDigit.2.1 31 = .ok (.iconst 0, 1) := by decide +kernel
theorem dX11_isDigit_32 : decode m_X11_isDigit.2.1 32 = .ok (.ireturn, 1) := by decide +kernel
theorem dX11_next_0 : decode m_X11_next.2.1 0 = .ok (.aload_n 0, 1) := by decide +kernel
theorem dX11_next_1 : decode m_X11_next.2.1 1 = .ok (.getfield 230, 3) := by decide +kernel
theorem dX11_next_4 : decode m_X11_next.2.1 4 = .ok (.ifCond .le 23, 3) := by decide +kernel
theorem dX11_next_7 : decode m_X11_next.2.1 7 = .ok (.aload_n 0, 1) := by decide +kernel
theorem dX11_next_8 : decode m_X11_next.2.1 8 = .ok (.getfield 233, 3) := by decide +kernel
theorem dX11_next_11 : decode m_X11_next.2.1 11 = .ok (.iconst 1, 1) := by decide +kernel
theorem dX11_next_12 : decode m_X11_next.2.1 12 = .ok (.if_icmp .eq 11, 3) := by decide +kernel
theorem dX11_next_15 : decode m_X11_next.2.1 15 = .ok (.aload_n 0, 1) := by decide +kernel
theorem dX11_next_16 : decode m_X11_next.2.1 16 = .ok (.getfield 233, 3) := by decide +kernel
theorem dX11_next_19 : decode m_X11_next.2.1 19 = .ok (.iconst 2, 1) := by decide +kernel
theorem dX11_next_20 : decode m_X11_next.2.1 20 = .ok (.if_icmp .ne 7, 3) := by decide +kernel
theorem dX11_next_23 : decode m_X11_next.2.1 23 = .ok (.iconst 1, 1) := by decide +kernel
theorem dX11_next_24 : decode m_X11_next.2.1 24 = .ok (.goto 4, 3) := by decide +kernel
theorem dX11_next_27 : decode m_X11_next.2.1 27 = .ok (.iconst 0, 1) := by decide +kernel
theorem dX11_next_28 : decode m_X11_next.2.1 28 = .ok (.istore_n 1, 1) := by decide +kernel
theorem dX11_next_29 : decode m_X11_next.2.1 29 = .ok (.aload_n 0, 1) := by decide +kernel
theorem dX11_next_30 : decode m_X11_next.2.1 30 = .ok (.getfield 230, 3) := by decide +kernel
theorem dX11_next_33 : decode m_X11_next.2.1 33 = .ok (.istore_n 2, 1) := by decide +kernel
theorem dX11_next_34 : decode m_X11_next.2.1 34 = .ok (.aload_n 0, 1) := by decide +kernel
theorem dX11_next_35 : decode m_X11_next.2.1 35 = .ok (.getfield 230, 3) := by decide +kernel
theorem dX11_next_38 : decode m_X11_next.2.1 38 = .ok (.aload_n 0, 1) := by decide +kernel
theorem dX11_next_39 : decode m_X11_next.2.1 39 = .ok (.getfield 219, 3) := by decide +kernel
theorem dX11_next_42 : decode m_X11_next.2.1 42 = .ok (.if_icmp .ge 30, 3) := by decide +kernel
theorem dX11_next_45 : decode m_X11_next.2.1 45 = .ok (.aload_n 0, 1) := by decide +kernel
theorem dX11_next_46 : decode m_X11_next.2.1 46 = .ok (.getfield 59, 3) := by decide +kernel
theorem dX11_next_49 : decode m_X11_next.2.1 49 = .ok (.aload_n 0, 1) := by decide +kernel
theorem dX11_next_50 : decode m_X11_next.2.1 50 = .ok (.getfield 230, 3) := by decide +kernel
theorem dX11_next_53 : decode m_X11_next.2.1 53 = .ok (.iaload, 1) := by decide +kernel
theorem dX11_next_54 : decode m_X11_next.2.1 54 = .ok (.bipush 32, 2) := by decide +kernel
theorem dX11_next_56 : decode m_X11_next.2.1 56 = .ok (.if_icmp .ne 16, 3) := by decide +kernel
theorem dX11_next_59 : decode m_X11_next.2.1 59 = .ok (.aload_n 0, 1) := by decide +kernel
theorem dX11_next_60 : decode m_X11_next.2.1 60 = .ok (.dup, 1) := by decide +kernel
theorem dX11_next_61 : decode m_X11_next.2.1 61 = .ok (.getfield 230, 3) := by decide +kernel
theorem dX11_next_64 : decode m_X11_next.2.1 64 = .ok (.iconst 1, 1) := by decide +kernel
theorem dX11_next_65 : decode m_X11_next.2.1 65 = .ok (.iadd, 1) := by decide +kernel
theorem dX11_next_66 : decode m_X11_next.2.1 66 = .ok (.putfield 230, 3) := by decide +kernel
theorem dX11_next_69 : decode m_X11_next.2.1 69 = .ok (.goto (-35), 3) := by decide +kernel
theorem dX11_next_72 : decode m_X11_next.2.1 72 = .ok (.iload_n 1, 1) := by decide +kernel
theorem dX11_next_73 : decode m_X11_next.2.1 73 = .ok (.ifCond .eq 15, 3) := by decide +kernel
theorem dX11_next_76 : decode m_X11_next.2.1 76 = .ok (.iload_n 2, 1) := by decide +kernel
theorem dX11_next_77 : decode m_X11_next.2.1 77 = .ok (.aload_n 0, 1) := by decide +kernel
theorem dX11_next_78 : decode m_X11_next.2.1 78 = .ok (.getfield 230, 3) := by decide +kernel
theorem dX11_next_81 : decode m_X11_next.2.1 81 = .ok (.if_icmp .ne 7, 3) := by decide +kernel
theorem dX11_next_84 : decode m_X11_next.2.1 84 = .ok (.iconst 1, 1) := by decide +kernel
theorem dX11_next_85 : decode m_X11_next.2.1 85 = .ok (.goto 4, 3) := by decide +kernel
theorem dX11_next_88 : decode m_X11_next.2.1 88 = .ok (.iconst 0, 1) := by decide +kernel
theorem dX11_next_89 : decode m_X11_next.2.1 89 = .ok (.istore_n 1, 1) := by decide +kernel
theorem dX11_next_90 : decode m_X11_next.2.1 90 = .ok (.aload_n 0, 1) := by decide +kernel
theorem dX11_next_91 : decode m_X11_next.2.1 91 = .ok (.aload_n 0, 1) := by decide +kernel
theorem dX11_next_92 : decode m_X11_next.2.1 92 = .ok (.getfield 230, 3) := by decide +kernel
theorem dX11_next_95 : decode m_X11_next.2.1 95 = .ok (.putfield 236, 3) := by decide +kernel
theorem dX11_next_98 : decode m_X11_next.2.1 98 = .ok (.aload_n 0, 1) := by decide +kernel
theorem dX11_next_99 : decode m_X11_next.2.1 99 = .ok (.getfield 236, 3) := by decide +kernel
theorem dX11_next_102 : decode m_X11_next.2.1 102 = .ok (.aload_n 0, 1) := by decide +kernel
theorem dX11_next_103 : decode m_X11_next.2.1 103 = .ok (.getfield 219, 3) := by decide +kernel
theorem dX11_next_106 : decode m_X11_next.2.1 106 = .ok (.if_icmp .ne 11, 3) := by decide +kernel
theorem dX11_next_109 : decode m_X11_next.2.1 109 = .ok (.aload_n 0, 1) := by decide +kernel
theorem dX11_next_110 : decode m_X11_next.2.1 110 = .ok (.iconst 0, 1) := by decide +kernel
theorem dX11_next_111 : decode m_X11_next.2.1 111 = .ok (.putfield 233, 3) := by decide +kernel
theorem dX11_next_114 : decode m_X11_next.2.1 114 = .ok (.goto 225, 3) := by decide +kernel
theorem dX11_next_117 : decode m_X11_next.2.1 117 = .ok (.aload_n 0, 1) := by decide +kernel
theorem dX11_next_118 : decode m_X11_next.2.1 118 = .ok (.aload_n 0, 1) := by decide +kernel
theorem dX11_next_119 : decode m_X11_next.2.1 119 = .ok (.getfield 236, 3) := by decide +kernel
theorem dX11_next_122 : decode m_X11_next.2.1 122 = .ok (.invokevirtual 239, 3) := by decide +kernel
theorem dX11_next_125 : decode m_X11_next.2.1 125 = .ok (.ifCond .eq 73, 3) := by decide +kernel
theorem dX11_next_128 : decode m_X11_next.2.1 128 = .ok (.aload_n 0, 1) := by decide +kernel
theorem dX11_next_129 : decode m_X11_next.2.1 129 = .ok (.aload_n 0, 1) := by decide +kernel
theorem dX11_next_130 : decode m_X11_next.2.1 130 = .ok (.getfield 230, 3) := by decide +kernel
theorem dX11_next_133 : decode m_X11_next.2.1 133 = .ok (.invokevirtual 239, 3) := by decide +kernel
theorem dX11_next_136 : decode m_X11_next.2.1 136 = .ok (.ifCond .eq 16, 3) := by decide +kernel
theorem dX11_next_139 : decode m_X11_next.2.1 139 = .ok (.aload_n 0, 1) := by decide +kernel
theorem dX11_next_140 : decode m_X11_next.2.1 140 = .ok (.dup, 1) := by decide +kernel
theorem dX11_next_141 : decode m_X11_next.2.1 141 = .ok (.getfield 230, 3) := by decide +kernel
theorem dX11_next_144 : decode m_X11_next.2.1 144 = .ok (.iconst 1, 1) := by decide +kernel
theorem dX11_next_145 : decode m_X11_next.2.1 145 = .ok (.iadd, 1) := by decide +kernel
theorem dX11_next_146 : decode m_X11_next.2.1 146 = .ok (.putfield 230, 3) := by decide +kernel
theorem dX11_next_149 : decode m_X11_next.2.1 149 = .ok (.goto (-21), 3) := by decide +kernel
theorem dX11_next_152 : decode m_X11_next.2.1 152 = .ok (.aload_n 0, 1) := by decide +kernel
theorem dX11_next_153 : decode m_X11_next.2.1 153 = .ok (.iload_n 1, 1) := by decide +kernel
theorem dX11_next_154 : decode m_X11_next.2.1 154 = .ok (.ifCond .eq 7, 3) := by decide +kernel
theorem dX11_next_157 : decode m_X11_next.2.1 157 = .ok (.iconst 4, 1) := by decide +kernel
theorem dX11_next_158 : decode m_X11_next.2.1 158 = .ok (.goto 4, 3) := by decide +kernel
theorem dX11_next_161 : decode m_X11_next.2.1 161 = .ok (.iconst 1, 1) := by decide +kernel
theorem dX11_next_162 : decode m_X11_next.2.1 162 = .ok (.putfield 233, 3) := by decide +kernel
theorem dX11_next_165 : decode m_X11_next.2.1 165 = .ok (.aload_n 0, 1) := by decide +kernel
theorem dX11_next_166 : decode m_X11_next.2.1 166 = .ok (.aload_n 0, 1) := by decide +kernel
theorem dX11_next_167 : decode m_X11_next.2.1 167 = .ok (.getfield 230, 3) := by decide +kernel
theorem dX11_next_170 : decode m_X11_next.2.1 170 = .ok (.aload_n 0, 1) := by decide +kernel
theorem dX11_next_171 : decode m_X11_next.2.1 171 = .ok (.getfield 236, 3) := by decide +kernel
theorem dX11_next_174 : decode m_X11_next.2.1 174 = .ok (.isub, 1) := by decide +kernel
theorem dX11_next_175 : decode m_X11_next.2.1 175 = .ok (.iconst 1, 1) := by decide +kernel
theorem dX11_next_176 : decode m_X11_next.2.1 176 = .ok (.if_icmp .ne 15, 3) := by decide +kernel
theorem dX11_next_179 : decode m_X11_next.2.1 179 = .ok (.aload_n 0, 1) := by decide +kernel
theorem dX11_next_180 : decode m_X11_next.2.1 180 = .ok (.getfield 59, 3) := by decide +kernel
theorem dX11_next_183 : decode m_X11_next.2.1 183 = .ok (.aload_n 0, 1) := by decide +kernel
theorem dX11_next_184 : decode m_X11_next.2.1 184 = .ok (.getfield 236, 3) := by decide +kernel
theorem dX11_next_187 : decode m_X11_next.2.1 187 = .ok (.iaload, 1) := by decide +kernel
theorem dX11_next_188 : decode m_X11_next.2.1 188 = .ok (.goto 4, 3) := by decide +kernel
theorem dX11_next_191 : decode m_X11_next.2.1 191 = .ok (.iconst 0, 1) := by decide +kernel
theorem dX11_next_192 : decode m_X11_next.2.1 192 = .ok (.putfield 242, 3) := by decide +kernel
theorem dX11_next_195 : decode m_X11_next.2.1 195 = .ok (.goto 144, 3) := by decide +kernel
theorem dX11_next_198 : decode m_X11_next.2.1 198 = .ok (.aload_n 0, 1) := by decide +kernel
theorem dX11_next_199 : decode m_X11_next.2.1 199 = .ok (.aload_n 0, 1) := by decide +kernel
theorem dX11_next_200 : decode m_X11_next.2.1 200 = .ok (.getfield 236, 3) := by decide +kernel
theorem dX11_next_203 : decode m_X11_next.2.1 203 = .ok (.invokevirtual 245, 3) := by decide +kernel
theorem dX11_next_206 : decode m_X11_next.2.1 206 = .ok (.ifCond .eq 105, 3) := by decide +kernel
theorem dX11_next_209 : decode m_X11_next.2.1 209 = .ok (.aload_n 0, 1) := by decide +kernel
theorem dX11_next_210 : decode m_X11_next.2.1 210 = .ok (.iconst 0, 1) := by decide +kernel
theorem dX11_next_211 : decode m_X11_next.2.1 211 = .ok (.putfield 248, 3) := by decide +kernel
theorem dX11_next_214 : decode m_X11_next.2.1 214 = .ok (.aload_n 0, 1) := by decide +kernel
theorem dX11_next_215 : decode m_X11_next.2.1 215 = .ok (.aload_n 0, 1) := by decide +kernel
theorem dX11_next_216 : decode m_X11_next.2.1 216 = .ok (.getfield 230, 3) := by decide +kernel
theorem dX11_next_219 : decode m_X11_next.2.1 219 = .ok (.invokevirtual 245, 3) := by decide +kernel
theorem dX11_next_222 : decode m_X11_next.2.1 222 = .ok (.ifCond .eq 60, 3) := by decide +kernel
theorem dX11_next_225 : decode m_X11_next.2.1 225 = .ok (.aload_n 0, 1) := by decide +kernel
theorem dX11_next_226 : decode m_X11_next.2.1 226 = .ok (.aload_n 0, 1) := by decide +kernel
theorem dX11_next_227 : decode m_X11_next.2.1 227 = .ok (.getfield 230, 3) := by decide +kernel
theorem dX11_next_230 : decode m_X11_next.2.1 230 = .ok (.aload_n 0, 1) := by decide +kernel
theorem dX11_next_231 : decode m_X11_next.2.1 231 = .ok (.getfield 236, 3) := by decide +kernel
theorem dX11_next_234 : decode m_X11_next.2.1 234 = .ok (.isub, 1) := by decide +kernel
theorem dX11_next_235 : decode m_X11_next.2.1 235 = .ok (.iconst 4, 1) := by decide +kernel
theorem dX11_next_236 : decode m_X11_next.2.1 236 = .ok (.if_icmp .ge 26, 3) := by decide +kernel
theorem dX11_next_239 : decode m_X11_next.2.1 239 = .ok (.bipush 10, 2) := by decide +kernel
theorem dX11_next_241 : decode m_X11_next.2.1 241 = .ok (.aload_n 0, 1) := by decide +kernel
theorem dX11_next_242 : decode m_X11_next.2.1 242 = .ok (.getfield 248, 3) := by decide +kernel
theorem dX11_next_245 : decode m_X11_next.2.1 245 = .ok (.imul, 1) := by decide +kernel
theorem dX11_next_246 : decode m_X11_next.2.1 246 = .ok (.aload_n 0, 1) := by decide +kernel
theorem dX11_next_247 : decode m_X11_next.2.1 247 = .ok (.getfield 59, 3) := by decide +kernel
theorem dX11_next_250 : decode m_X11_next.2.1 250 = .ok (.aload_n 0, 1) := by decide +kernel
theorem dX11_next_251 : decode m_X11_next.2.1 251 = .ok (.getfield 230, 3) := by decide +kernel
theorem dX11_next_254 : decode m_X11_next.2.1 254 = .ok (.iaload, 1) := by decide +kernel
theorem dX11_next_255 : decode m_X11_next.2.1 255 = .ok (.iadd, 1) := by decide +kernel
theorem dX11_next_256 : decode m_X11_next.2.1 256 = .ok (.bipush 48, 2) := by decide +kernel
theorem dX11_next_258 : decode m_X11_next.2.1 258 = .ok (.isub, 1) := by decide +kernel
theorem dX11_next_259 : decode m_X11_next.2.1 259 = .ok (.goto 7, 3) := by decide +kernel
theorem dX11_next_262 : decode m_X11_next.2.1 262 = .ok (.aload_n 0, 1) := by decide +kernel
theorem dX11_next_263 : decode m_X11_next.2.1 263 = .ok (.getfield 248, 3) := by decide +kernel
theorem dX11_next_266 : decode m_X11_next.2.1 266 = .ok (.putfield 248, 3) := by decide +kernel
theorem dX11_next_269 : decode m_X11_next.2.1 269 = .ok (.aload_n 0, 1) := by decide +kernel
theorem dX11_next_270 : decode m_X11_next.2.1 270 = .ok (.dup, 1) := by decide +kernel
theorem dX11_next_271 : decode m_X11_next.2.1 271 = .ok (.getfield 230, 3) := by decide +kernel
theorem dX11_next_274 : decode m_X11_next.2.1 274 = .ok (.iconst 1, 1) := by decide +kernel
theorem dX11_next_275 : decode m_X11_next.2.1 275 = .ok (.iadd, 1) := by decide +kernel
theorem dX11_next_276 : decode m_X11_next.2.1 276 = .ok (.putfield 230, 3) := by decide +kernel
theorem dX11_next_279 : decode m_X11_next.2.1 279 = .ok (.goto (-65), 3) := by decide +kernel
theorem dX11_next_282 : decode m_X11_next.2.1 282 = .ok (.aload_n 0, 1) := by decide +kernel
theorem dX11_next_283 : decode m_X11_next.2.1 283 = .ok (.iload_n 1, 1) := by decide +kernel
theorem dX11_next_284 : decode m_X11_next.2.1 284 = .ok (.ifCond .ne 16, 3) := by decide +kernel
theorem dX11_next_287 : decode m_X11_next.2.1 287 = .ok (.aload_n 0, 1) := by decide +kernel
theorem dX11_next_288 : decode m_X11_next.2.1 288 = .ok (.getfield 230, 3) := by decide +kernel
theorem dX11_next_291 : decode m_X11_next.2.1 291 = .ok (.aload_n 0, 1) := by decide +kernel
theorem dX11_next_292 : decode m_X11_next.2.1 292 = .ok (.getfield 236, 3) := by decide +kernel
theorem dX11_next_295 : decode m_X11_next.2.1 295 = .ok (.isub, 1) := by decide +kernel
theorem dX11_next_296 : decode m_X11_next.2.1 296 = .ok (.iconst 4, 1) := by decide +kernel
theorem dX11_next_297 : decode m_X11_next.2.1 297 = .ok (.if_icmp .le 7, 3) := by decide +kernel
theorem dX11_next_300 : decode m_X11_next.2.1 300 = .ok (.iconst 4, 1) := by decide +kernel
theorem dX11_next_301 : decode m_X11_next.2.1 301 = .ok (.goto 4, 3) := by decide +kernel
theorem dX11_next_304 : decode m_X11_next.2.1 304 = .ok (.iconst 2, 1) := by decide +kernel
theorem dX11_next_305 : decode m_X11_next.2.1 305 = .ok (.putfield 233, 3) := by decide +kernel
theorem dX11_next_308 : decode m_X11_next.2.1 308 = .ok (.goto 31, 3) := by decide +kernel
theorem dX11_next_311 : decode m_X11_next.2.1 311 = .ok (.aload_n 0, 1) := by decide +kernel
theorem dX11_next_312 : decode m_X11_next.2.1 312 = .ok (.iconst 3, 1) := by decide +kernel
theorem dX11_next_313 : decode m_X11_next.2.1 313 = .ok (.putfield 233, 3) := by decide +kernel
theorem dX11_next_316 : decode m_X11_next.2.1 316 = .ok (.aload_n 0, 1) := by decide +kernel
theorem dX11_next_317 : decode m_X11_next.2.1 317 = .ok (.aload_n 0, 1) := by decide +kernel
theorem dX11_next_318 : decode m_X11_next.2.1 318 = .ok (.getfield 59, 3) := by decide +kernel
theorem dX11_next_321 : decode m_X11_next.2.1 321 = .ok (.aload_n 0, 1) := by decide +kernel
theorem dX11_next_322 : decode m_X11_next.2.1 322 = .ok (.getfield 236, 3) := by decide +kernel
theorem dX11_next_325 : decode m_X11_next.2.1 325 = .ok (.iaload, 1) := by decide +kernel
theorem dX11_next_326 : decode m_X11_next.2.1 326 = .ok (.putfield 242, 3) := by decide +kernel
theorem dX11_next_329 : decode m_X11_next.2.1 329 = .ok (.aload_n 0, 1) := by decide +kernel
theorem dX11_next_330 : decode m_X11_next.2.1 330 = .ok (.dup, 1) := by decide +kernel
theorem dX11_next_331 : decode m_X11_next.2.1 331 = .ok (.getfield 230, 3) := by decide +kernel
theorem dX11_next_334 : decode m_X11_next.2.1 334 = .ok (.iconst 1, 1) := by decide +kernel
theorem dX11_next_335 : decode m_X11_next.2.1 335 = .ok (.iadd, 1) := by decide +kernel
theorem dX11_next_336 : decode m_X11_next.2.1 336 = .ok (.putfield 230, 3) := by decide +kernel
theorem dX11_next_339 : decode m_X11_next.2.1 339 = .ok (.return_, 1) := by decide +kernel
theorem dX11_isSign_0 : decode m_X11_isSign.2.1 0 = .ok (.aload_n 0, 1) := by decide +kernel
theorem dX11_isSign_1 : decode m_X11_isSign.2.1 1 = .ok (.getfield 233, 3) := by decide +kernel
theorem dX11_isSign_4 : decode m_X11_isSign.2.1 4 = .ok (.iconst 3, 1) := by decide +kernel
theorem dX11_isSign_5 : decode m_X11_isSign.2.1 5 = .ok (.if_icmp .ne 15, 3) := by decide +kernel
theorem dX11_isSign_8 : decode m_X11_isSign.2.1 8 = .ok (.aload_n 0, 1) := by decide +kernel
theorem dX11_isSign_9 : decode m_X11_isSign.2.1 9 = .ok (.getfield 242, 3) := by decide +kernel
theorem dX11_isSign_12 : decode m_X11_isSign.2.1 12 = .ok (.iload_n 1, 1) := by decide +kernel
theorem dX11_isSign_13 : decode m_X11_isSign.2.1 13 = .ok (.if_icmp .ne 7, 3) := by decide +kernel
theorem dX11_isSign_16 : decode m_X11_isSign.2.1 16 = .ok (.iconst 1, 1) := by decide +kernel
theorem dX11_isSign_17 : decode m_X11_isSign.2.1 17 = .ok (.goto 4, 3) := by decide +kernel
theorem dX11_isSign_20 : decode m_X11_isSign.2.1 20 = .ok (.iconst 0, 1) := by decide +kernel
theorem dX11_isSign_21 : decode m_X11_isSign.2.1 21 = .ok (.ireturn, 1) := by decide +kernel
theorem dX11_isWordAt_0 : decode m_X11_isWordAt.2.1 0 = .ok (.iload 4, 2) := by decide +kernel
theorem dX11_isWordAt_2 : decode m_X11_isWordAt.2.1 2 = .ok (.ifCond .ne 7, 3) := by decide +kernel
theorem dX11_isWordAt_5 : decode m_X11_isWordAt.2.1 5 = .ok (.iconst 3, 1) := by decide +kernel
theorem dX11_isWordAt_6 : decode m_X11_isWordAt.2.1 6 = .ok (.goto 4, 3) := by decide +kernel
theorem dX11_isWordAt_9 : decode m_X11_isWordAt.2.1 9 = .ok (.iconst 4, 1) := by decide +kernel
theorem dX11_isWordAt_10 : decode m_X11_isWordAt.2.1 10 = .ok (.istore 5, 2) := by decide +kernel
theorem dX11_isWordAt_12 : decode m_X11_isWordAt.2.1 12 = .ok (.aload_n 0, 1) := by decide +kernel
theorem dX11_isWordAt_13 : decode m_X11_isWordAt.2.1 13 = .ok (.getfield 233, 3) := by decide +kernel
theorem dX11_isWordAt_16 : decode m_X11_isWordAt.2.1 16 = .ok (.iconst 1, 1) := by decide +kernel
theorem dX11_isWordAt_17 : decode m_X11_isWordAt.2.1 17 = .ok (.if_icmp .ne 85, 3) := by decide +kernel
theorem dX11_isWordAt_20 : decode m_X11_isWordAt.2.1 20 = .ok (.aload_n 0, 1) := by decide +kernel
theorem dX11_isWordAt_21 : decode m_X11_isWordAt.2.1 21 = .ok (.getfield 230, 3) := by decide +kernel
theorem dX11_isWordAt_24 : decode m_X11_isWordAt.2.1 24 = .ok (.aload_n 0, 1) := by decide +kernel
theorem dX11_isWordAt_25 : decode m_X11_isWordAt.2.1 25 = .ok (.getfield 236, 3) := by decide +kernel
theorem dX11_isWordAt_28 : decode m_X11_isWordAt.2.1 28 = .ok (.isub, 1) := by decide +kernel
theorem dX11_isWordAt_29 : decode m_X11_isWordAt.2.1 29 = .ok (.iload 5, 2) := by decide +kernel
theorem dX11_isWordAt_31 : decode m_X11_isWordAt.2.1 31 = .ok (.if_icmp .ne 71, 3) := by decide +kernel
theorem dX11_isWordAt_34 : decode m_X11_isWordAt.2.1 34 = .ok (.aload_n 0, 1) := by decide +kernel
theorem dX11_isWordAt_35 : decode m_X11_isWordAt.2.1 35 = .ok (.getfield 59, 3) := by decide +kernel
theorem dX11_isWordAt_38 : decode m_X11_isWordAt.2.1 38 = .ok (.aload_n 0, 1) := by decide +kernel
theorem dX11_isWordAt_39 : decode m_X11_isWordAt.2.1 39 = .ok (.getfield 236, 3) := by decide +kernel
theorem dX11_isWordAt_42 : decode m_X11_isWordAt.2.1 42 = .ok (.iaload, 1) := by decide +kernel
theorem dX11_isWordAt_43 : decode m_X11_isWordAt.2.1 43 = .ok (.iload_n 1, 1) := by decide +kernel
theorem dX11_isWordAt_44 : decode m_X11_isWordAt.2.1 44 = .ok (.if_icmp .ne 58, 3) := by decide +kernel
theorem dX11_isWordAt_47 : decode m_X11_isWordAt.2.1 47 = .ok (.aload_n 0, 1) := by decide +kernel
theorem dX11_isWordAt_48 : decode m_X11_isWordAt.2.1 48 = .ok (.getfield 59, 3) := by decide +kernel
theorem dX11_isWordAt_51 : decode m_X11_isWordAt.2.1 51 = .ok (.aload_n 0, 1) := by decide +kernel
theorem dX11_isWordAt_52 : decode m_X11_isWordAt.2.1 52 = .ok (.getfield 236, 3) := by decide +kernel
theorem dX11_isWordAt_55 : decode m_X11_isWordAt.2.1 55 = .ok (.iconst 1, 1) := by decide +kernel
theorem dX11_isWordAt_56 : decode m_X11_isWordAt.2.1 56 = .ok (.iadd, 1) := by decide +kernel
theorem dX11_isWordAt_57 : decode m_X11_isWordAt.2.1 57 = .ok (.iaload, 1) := by decide +kernel
theorem dX11_isWordAt_58 : decode m_X11_isWordAt.2.1 58 = .ok (.iload_n 2, 1) := by decide +kernel
theorem dX11_isWordAt_59 : decode m_X11_isWordAt.2.1 59 = .ok (.if_icmp .ne 43, 3) := by decide +kernel
theorem dX11_isWordAt_62 : decode m_X11_isWordAt.2.1 62 = .ok (.aload_n 0, 1) := by decide +kernel
theorem dX11_isWordAt_63 : decode m_X11_isWordAt.2.1 63 = .ok (.getfield 59, 3) := by decide +kernel
theorem dX11_isWordAt_66 : decode m_X11_isWordAt.2.1 66 = .ok (.aload_n 0, 1) := by decide +kernel
theorem dX11_isWordAt_67 : decode m_X11_isWordAt.2.1 67 = .ok (.getfield 236, 3) := by decide +kernel
theorem dX11_isWordAt_70 : decode m_X11_isWordAt.2.1 70 = .ok (.iconst 2, 1) := by decide +kernel
theorem dX11_isWordAt_71 : decode m_X11_isWordAt.2.1 71 = .ok (.iadd, 1) := by decide +kernel
theorem dX11_isWordAt_72 : decode m_X11_isWordAt.2.1 72 = .ok (.iaload, 1) := by decide +kernel
theorem dX11_isWordAt_73 : decode m_X11_isWordAt.2.1 73 = .ok (.iload_n 3, 1) := by decide +kernel
theorem dX11_isWordAt_74 : decode m_X11_isWordAt.2.1 74 = .ok (.if_icmp .ne 28, 3) := by decide +kernel
theorem dX11_isWordAt_77 : decode m_X11_isWordAt.2.1 77 = .ok (.iload 4, 2) := by decide +kernel
theorem dX11_isWordAt_79 : decode m_X11_isWordAt.2.1 79 = .ok (.ifCond .eq 19, 3) := by decide +kernel
theorem dX11_isWordAt_82 : decode m_X11_isWordAt.2.1 82 = .ok (.aload_n 0, 1) := by decide +kernel
theorem dX11_isWordAt_83 : decode m_X11_isWordAt.2.1 83 = .ok (.getfield 59, 3) := by decide +kernel
theorem dX11_isWordAt_86 : decode m_X11_isWordAt.2.1 86 = .ok (.aload_n 0, 1) := by decide +kernel
theorem dX11_isWordAt_87 : decode m_X11_isWordAt.2.1 87 = .ok (.getfield 236, 3) := by decide +kernel
theorem dX11_isWordAt_90 : decode m_X11_isWordAt.2.1 90 = .ok (.iconst 3, 1) := by decide +kernel
theorem dX11_isWordAt_91 : decode m_X11_isWordAt.2.1 91 = .ok (.iadd, 1) := by decide +kernel
theorem dX11_isWordAt_92 : decode m_X11_isWordAt.2.1 92 = .ok (.iaload, 1) := by decide +kernel
theorem dX11_isWordAt_93 : decode m_X11_isWordAt.2.1 93 = .ok (.iload 4, 2) := by decide +kernel
theorem dX11_isWordAt_95 : decode m_X11_isWordAt.2.1 95 = .ok (.if_icmp .ne 7, 3) := by decide +kernel
theorem dX11_isWordAt_98 : decode m_X11_isWordAt.2.1 98 = .ok (.iconst 1, 1) := by decide +kernel
theorem dX11_isWordAt_99 : decode m_X11_isWordAt.2.1 99 = .ok (.goto 4, 3) := by decide +kernel
theorem dX11_isWordAt_102 : decode m_X11_isWordAt.2.1 102 = .ok (.iconst 0, 1) := by decide +kernel
theorem dX11_isWordAt_103 : decode m_X11_isWordAt.2.1 103 = .ok (.ireturn, 1) := by decide +kernel
theorem dX11_key_0 : decode m_X11_key.2.1 0 = .ok (.aload_n 0, 1) := by decide +kernel
theorem dX11_key_1 : decode m_X11_key.2.1 1 = .ok (.bipush 103, 2) := by decide +kernel
theorem dX11_key_3 : decode m_X11_key.2.1 3 = .ok (.bipush 97, 2) := by decide +kernel
theorem dX11_key_5 : decode m_X11_key.2.1 5 = .ok (.bipush 115, 2) := by decide +kernel
theorem dX11_key_7 : decode m_X11_key.2.1 7 = .ok (.iconst 0, 1) := by decide +kernel
theorem dX11_key_8 : decode m_X11_key.2.1 8 = .ok (.invokevirtual 251, 3) := by decide +kernel
theorem dX11_key_11 : decode m_X11_key.2.1 11 = .ok (.ifCond .eq 6, 3) := by decide +kernel
theorem dX11_key_14 : decode m_X11_key.2.1 14 = .ok (.bipush 6, 2) := by decide +kernel
theorem dX11_key_16 : decode m_X11_key.2.1 16 = .ok (.ireturn, 1) := by decide +kernel
theorem dX11_key_17 : decode m_X11_key.2.1 17 = .ok (.aload_n 0, 1) := by decide +kernel
theorem dX11_key_18 : decode m_X11_key.2.1 18 = .ok (.bipush 108, 2) := by decide +kernel
theorem dX11_key_20 : decode m_X11_key.2.1 20 = .ok (.bipush 97, 2) := by decide +kernel
theorem dX11_key_22 : decode m_X11_key.2.1 22 = .ok (.bipush 116, 2) := by decide +kernel
theorem dX11_key_24 : decode m_X11_key.2.1 24 = .ok (.bipush 101, 2) := by decide +kernel
theorem dX11_key_26 : decode m_X11_key.2.1 26 = .ok (.invokevirtual 251, 3) := by decide +kernel
theorem dX11_key_29 : decode m_X11_key.2.1 29 = .ok (.ifCond .eq 6, 3) := by decide +kernel
theorem dX11_key_32 : decode m_X11_key.2.1 32 = .ok (.bipush 7, 2) := by decide +kernel
theorem dX11_key_34 : decode m_X11_key.2.1 34 = .ok (.ireturn, 1) := by decide +kernel
theorem dX11_key_35 : decode m_X11_key.2.1 35 = .ok (.aload_n 0, 1) := by decide +kernel
theorem dX11_key_36 : decode m_X11_key.2.1 36 = .ok (.bipush 100, 2) := by decide +kernel
theorem dX11_key_38 : decode m_X11_key.2.1 38 = .ok (.bipush 114, 2) := by decide +kernel
theorem dX11_key_40 : decode m_X11_key.2.1 40 = .ok (.bipush 97, 2) := by decide +kernel
theorem dX11_key_42 : decode m_X11_key.2.1 42 = .ok (.bipush 119, 2) := by decide +kernel
theorem dX11_key_44 : decode m_X11_key.2.1 44 = .ok (.invokevirtual 251, 3) := by decide +kernel
theorem dX11_key_47 : decode m_X11_key.2.1 47 = .ok (.ifCond .ne 5, 3) := by decide +kernel
theorem dX11_key_50 : decode m_X11_key.2.1 50 = .ok (.iconst (-1), 1) := by decide +kernel
theorem dX11_key_51 : decode m_X11_key.2.1 51 = .ok (.ireturn, 1) := by decide +kernel
theorem dX11_key_52 : decode m_X11_key.2.1 52 = .ok (.aload_n 0, 1) := by decide +kernel
theorem dX11_key_53 : decode m_X11_key.2.1 53 = .ok (.invokevirtual 255, 3) := by decide +kernel
theorem dX11_key_56 : decode m_X11_key.2.1 56 = .ok (.aload_n 0, 1) := by decide +kernel
theorem dX11_key_57 : decode m_X11_key.2.1 57 = .ok (.getfield 233, 3) := by decide +kernel
theorem dX11_key_60 : decode m_X11_key.2.1 60 = .ok (.iconst 2, 1) := by decide +kernel
theorem dX11_key_61 : decode m_X11_key.2.1 61 = .ok (.if_icmp .ne 19, 3) := by decide +kernel
theorem dX11_key_64 : decode m_X11_key.2.1 64 = .ok (.aload_n 0, 1) := by decide +kernel
theorem dX11_key_65 : decode m_X11_key.2.1 65 = .ok (.getfield 248, 3) := by decide +kernel
theorem dX11_key_68 : decode m_X11_key.2.1 68 = .ok (.bipush 6, 2) := by decide +kernel
theorem dX11_key_70 : decode m_X11_key.2.1 70 = .ok (.if_icmp .ge 10, 3) := by decide +kernel
theorem dX11_key_73 : decode m_X11_key.2.1 73 = .ok (.aload_n 0, 1) := by decide +kernel
theorem dX11_key_74 : decode m_X11_key.2.1 74 = .ok (.getfield 248, 3) := by decide +kernel
theorem dX11_key_77 : decode m_X11_key.2.1 77 = .ok (.goto 4, 3) := by decide +kernel
theorem dX11_key_80 : decode m_X11_key.2.1 80 = .ok (.iconst (-1), 1) := by decide +kernel
theorem dX11_key_81 : decode m_X11_key.2.1 81 = .ok (.ireturn, 1) := by decide +kernel
theorem dX11_isName_0 : decode m_X11_isName.2.1 0 = .ok (.iload_n 0, 1) := by decide +kernel
theorem dX11_isName_1 : decode m_X11_isName.2.1 1 = .ok (.lookupswitch 69 #[(6, 27), (7, 51)], 27) := by decide +kernel
theorem dX11_isName_28 : decode m_X11_isName.2.1 28 = .ok (.iload_n 1, 1) := by decide +kernel
theorem dX11_isName_29 : decode m_X11_isName.2.1 29 = .ok (.bipush 104, 2) := by decide +kernel
theorem dX11_isName_31 : decode m_X11_isName.2.1 31 = .ok (.if_icmp .eq 15, 3) := by decide +kernel
theorem dX11_isName_34 : decode m_X11_isName.2.1 34 = .ok (.iload_n 1, 1) := by decide +kernel
theorem dX11_isName_35 : decode m_X11_isName.2.1 35 = .ok (.bipush 116, 2) := by decide +kernel
theorem dX11_isName_37 : decode m_X11_isName.2.1 37 = .ok (.if_icmp .eq 9, 3) := by decide +kernel
theorem dX11_isName_40 : decode m_X11_isName.2.1 40 = .ok (.iload_n 1, 1) := by decide +kernel
theorem dX11_isName_41 : decode m_X11_isName.2.1 41 = .ok (.bipush 105, 2) := by decide +kernel
theorem dX11_isName_43 : decode m_X11_isName.2.1 43 = .ok (.if_icmp .ne 7, 3) := by decide +kernel
theorem dX11_isName_46 : decode m_X11_isName.2.1 46 = .ok (.iconst 1, 1) := by decide +kernel
theorem dX11_isName_47 : decode m_X11_isName.2.1 47 = .ok (.goto 4, 3) := by decide +kernel
theorem dX11_isName_50 : decode m_X11_isName.2.1 50 = .ok (.iconst 0, 1) := by decide +kernel
theorem dX11_isName_51 : decode m_X11_isName.2.1 51 = .ok (.ireturn, 1) := by decide +kernel
theorem dX11_isName_52 : decode m_X11_isName.2.1 52 = .ok (.iload_n 1, 1) := by decide +kernel
theorem dX11_isName_53 : decode m_X11_isName.2.1 53 = .ok (.bipush 104, 2) := by decide +kernel
theorem dX11_isName_55 : decode m_X11_isName.2.1 55 = .ok (.if_icmp .eq 9, 3) := by decide +kernel
theorem dX11_isName_58 : decode m_X11_isName.2.1 58 = .ok (.iload_n 1, 1) := by decide +kernel
theorem dX11_isName_59 : decode m_X11_isName.2.1 59 = .ok (.bipush 99, 2) := by decide +kernel
theorem dX11_isName_61 : decode m_X11_isName.2.1 61 = .ok (.if_icmp .ne 7, 3) := by decide +kernel
theorem dX11_isName_64 : decode m_X11_isName.2.1 64 = .ok (.iconst 1, 1) := by decide +kernel
theorem dX11_isName_65 : decode m_X11_isName.2.1 65 = .ok (.goto 4, 3) := by decide +kernel
theorem dX11_isName_68 : decode m_X11_isName.2.1 68 = .ok (.iconst 0, 1) := by decide +kernel
theorem dX11_isName_69 : decode m_X11_isName.2.1 69 = .ok (.ireturn, 1) := by decide +kernel
theorem dX11_isName_70 : decode m_X11_isName.2.1 70 = .ok (.iload_n 1, 1) := by decide +kernel
theorem dX11_isName_71 : decode m_X11_isName.2.1 71 = .ok (.bipush 104, 2) := by decide +kernel
theorem dX11_isName_73 : decode m_X11_isName.2.1 73 = .ok (.if_icmp .eq 21, 3) := by decide +kernel
theorem dX11_isName_76 : decode m_X11_isName.2.1 76 = .ok (.iload_n 1, 1) := by decide +kernel
theorem dX11_isName_77 : decode m_X11_isName.2.1 77 = .ok (.bipush 116, 2) := by decide +kernel
theorem dX11_isName_79 : decode m_X11_isName.2.1 79 = .ok (.if_icmp .eq 15, 3) := by decide +kernel
theorem dX11_isName_82 : decode m_X11_isName.2.1 82 = .ok (.iload_n 1, 1) := by decide +kernel
theorem dX11_isName_83 : decode m_X11_isName.2.1 83 = .ok (.bipush 98, 2) := by decide +kernel
theorem dX11_isName_85 : decode m_X11_isName.2.1 85 = .ok (.if_icmp .eq 9, 3) := by decide +kernel
theorem dX11_isName_88 : decode m_X11_isName.2.1 88 = .ok (.iload_n 1, 1) := by decide +kernel
theorem dX11_isName_89 : decode m_X11_isName.2.1 89 = .ok (.bipush 115, 2) := by decide +kernel
theorem dX11_isName_91 : decode m_X11_isName.2.1 91 = .ok (.if_icmp .ne 7, 3) := by decide +kernel
theorem dX11_isName_94 : decode m_X11_isName.2.1 94 = .ok (.iconst 1, 1) := by decide +kernel
theorem dX11_isName_95 : decode m_X11_isName.2.1 95 = .ok (.goto 4, 3) := by decide +kernel
theorem dX11_isName_98 : decode m_X11_isName.2.1 98 = .ok (.iconst 0, 1) := by decide +kernel
theorem dX11_isName_99 : decode m_X11_isName.2.1 99 = .ok (.ireturn, 1) := by decide +kernel
theorem dX11_step_0 : decode m_X11_step.2.1 0 = .ok (.aload_n 0, 1) := by decide +kernel
theorem dX11_step_1 : decode m_X11_step.2.1 1 = .ok (.getfield 7, 3) := by decide +kernel
theorem dX11_step_4 : decode m_X11_step.2.1 4 = .ok (.aload_n 0, 1) := by decide +kernel
theorem dX11_step_5 : decode m_X11_step.2.1 5 = .ok (.getfield 258, 3) := by decide +kernel
theorem dX11_step_8 : decode m_X11_step.2.1 8 = .ok (.iconst 2, 1) := by decide +kernel
theorem dX11_step_9 : decode m_X11_step.2.1 9 = .ok (.aload_n 0, 1) := by decide +kernel
theorem dX11_step_10 : decode m_X11_step.2.1 10 = .ok (.getfield 261, 3) := by decide +kernel
theorem dX11_step_13 : decode m_X11_step.2.1 13 = .ok (.imul, 1) := by decide +kernel
theorem dX11_step_14 : decode m_X11_step.2.1 14 = .ok (.iadd, 1) := by decide +kernel
theorem dX11_step_15 : decode m_X11_step.2.1 15 = .ok (.iload_n 1, 1) := by decide +kernel
theorem dX11_step_16 : decode m_X11_step.2.1 16 = .ok (.iastore, 1) := by decide +kernel
theorem dX11_step_17 : decode m_X11_step.2.1 17 = .ok (.aload_n 0, 1) := by decide +kernel
theorem dX11_step_18 : decode m_X11_step.2.1 18 = .ok (.getfield 7, 3) := by decide +kernel
theorem dX11_step_21 : decode m_X11_step.2.1 21 = .ok (.aload_n 0, 1) := by decide +kernel
theorem dX11_step_22 : decode m_X11_step.2.1 22 = .ok (.getfield 258, 3) := by decide +kernel
theorem dX11_step_25 : decode m_X11_step.2.1 25 = .ok (.iconst 2, 1) := by decide +kernel
theorem dX11_step_26 : decode m_X11_step.2.1 26 = .ok (.aload_n 0, 1) := by decide +kernel
theorem dX11_step_27 : decode m_X11_step.2.1 27 = .ok (.getfield 261, 3) := by decide +kernel
theorem dX11_step_30 : decode m_X11_step.2.1 30 = .ok (.imul, 1) := by decide +kernel
theorem dX11_step_31 : decode m_X11_step.2.1 31 = .ok (.iadd, 1) := by decide +kernel
theorem dX11_step_32 : decode m_X11_step.2.1 32 = .ok (.iconst 1, 1) := by decide +kernel
theorem dX11_step_33 : decode m_X11_step.2.1 33 = .ok (.iadd, 1) := by decide +kernel
theorem dX11_step_34 : decode m_X11_step.2.1 34 = .ok (.iload_n 2, 1) := by decide +kernel
theorem dX11_step_35 : decode m_X11_step.2.1 35 = .ok (.iastore, 1) := by decide +kernel
theorem dX11_step_36 : decode m_X11_step.2.1 36 = .ok (.aload_n 0, 1) := by decide +kernel
theorem dX11_step_37 : decode m_X11_step.2.1 37 = .ok (.dup, 1) := by decide +kernel
theorem dX11_step_38 : decode m_X11_step.2.1 38 = .ok (.getfield 261, 3) := by decide +kernel
theorem dX11_step_41 : decode m_X11_step.2.1 41 = .ok (.iconst 1, 1) := by decide +kernel
theorem dX11_step_42 : decode m_X11_step.2.1 42 = .ok (.iadd, 1) := by decide +kernel
theorem dX11_step_43 : decode m_X11_step.2.1 43 = .ok (.putfield 261, 3) := by decide +kernel
theorem dX11_step_46 : decode m_X11_step.2.1 46 = .ok (.return_, 1) := by decide +kernel
theorem dX11_either_0 : decode m_X11_either.2.1 0 = .ok (.aload_n 0, 1) := by decide +kernel
theorem dX11_either_1 : decode m_X11_either.2.1 1 = .ok (.iload_n 1, 1) := by decide +kernel
theorem dX11_either_2 : decode m_X11_either.2.1 2 = .ok (.invokevirtual 264, 3) := by decide +kernel
theorem dX11_either_5 : decode m_X11_either.2.1 5 = .ok (.ifCond .ne 5, 3) := by decide +kernel
theorem dX11_either_8 : decode m_X11_either.2.1 8 = .ok (.iconst 0, 1) := by decide +kernel
theorem dX11_either_9 : decode m_X11_either.2.1 9 = .ok (.ireturn, 1) := by decide +kernel
theorem dX11_either_10 : decode m_X11_either.2.1 10 = .ok (.aload_n 0, 1) := by decide +kernel
theorem dX11_either_11 : decode m_X11_either.2.1 11 = .ok (.bipush 124, 2) := by decide +kernel
theorem dX11_either_13 : decode m_X11_either.2.1 13 = .ok (.invokevirtual 267, 3) := by decide +kernel
theorem dX11_either_16 : decode m_X11_either.2.1 16 = .ok (.ifCond .eq 27, 3) := by decide +kernel
theorem dX11_either_19 : decode m_X11_either.2.1 19 = .ok (.aload_n 0, 1) := by decide +kernel
theorem dX11_either_20 : decode m_X11_either.2.1 20 = .ok (.invokevirtual 255, 3) := by decide +kernel
theorem dX11_either_23 : decode m_X11_either.2.1 23 = .ok (.aload_n 0, 1) := by decide +kernel
theorem dX11_either_24 : decode m_X11_either.2.1 24 = .ok (.iload_n 1, 1) := by decide +kernel
theorem dX11_either_25 : decode m_X11_either.2.1 25 = .ok (.invokevirtual 264, 3) := by decide +kernel
theorem dX11_either_28 : decode m_X11_either.2.1 28 = .ok (.ifCond .ne 5, 3) := by decide +kernel
theorem dX11_either_31 : decode m_X11_either.2.1 31 = .ok (.iconst 0, 1) := by decide +kernel
theorem dX11_either_32 : decode m_X11_either.2.1 32 = .ok (.ireturn, 1) := by decide +kernel
theorem dX11_either_33 : decode m_X11_either.2.1 33 = .ok (.aload_n 0, 1) := by decide +kernel
theorem dX11_either_34 : decode m_X11_either.2.1 34 = .ok (.iconst 2, 1) := by decide +kernel
theorem dX11_either_35 : decode m_X11_either.2.1 35 = .ok (.bipush 124, 2) := by decide +kernel
theorem dX11_either_37 : decode m_X11_either.2.1 37 = .ok (.invokevirtual 270, 3) := by decide +kernel
theorem dX11_either_40 : decode m_X11_either.2.1 40 = .ok (.goto (-30), 3) := by decide +kernel
theorem dX11_either_43 : decode m_X11_either.2.1 43 = .ok (.iconst 1, 1) := by decide +kernel
theorem dX11_either_44 : decode m_X11_either.2.1 44 = .ok (.ireturn, 1) := by decide +kernel
theorem dX11_both_0 : decode m_X11_both.2.1 0 = .ok (.aload_n 0, 1) := by decide +kernel
theorem dX11_both_1 : decode m_X11_both.2.1 1 = .ok (.iload_n 1, 1) := by decide +kernel
theorem dX11_both_2 : decode m_X11_both.2.1 2 = .ok (.invokevirtual 273, 3) := by decide +kernel
theorem dX11_both_5 : decode m_X11_both.2.1 5 = .ok (.ifCond .ne 5, 3) := by decide +kernel
theorem dX11_both_8 : decode m_X11_both.2.1 8 = .ok (.iconst 0, 1) := by decide +kernel
theorem dX11_both_9 : decode m_X11_both.2.1 9 = .ok (.ireturn, 1) := by decide +kernel
theorem dX11_both_10 : decode m_X11_both.2.1 10 = .ok (.aload_n 0, 1) := by decide +kernel
theorem dX11_both_11 : decode m_X11_both.2.1 11 = .ok (.bipush 38, 2) := by decide +kernel
theorem dX11_both_13 : decode m_X11_both.2.1 13 = .ok (.invokevirtual 267, 3) := by decide +kernel
theorem dX11_both_16 : decode m_X11_both.2.1 16 = .ok (.ifCond .eq 27, 3) := by decide +kernel
theorem dX11_both_19 : decode m_X11_both.2.1 19 = .ok (.aload_n 0, 1) := by decide +kernel
theorem dX11_both_20 : decode m_X11_both.2.1 20 = .ok (.invokevirtual 255, 3) := by decide +kernel
theorem dX11_both_23 : decode m_X11_both.2.1 23 = .ok (.aload_n 0, 1) := by decide +kernel
theorem dX11_both_24 : decode m_X11_both.2.1 24 = .ok (.iload_n 1, 1) := by decide +kernel
theorem dX11_both_25 : decode m_X11_both.2.1 25 = .ok (.invokevirtual 273, 3) := by decide +kernel
theorem dX11_both_28 : decode m_X11_both.2.1 28 = .ok (.ifCond .ne 5, 3) := by decide +kernel
theorem dX11_both_31 : decode m_X11_both.2.1 31 = .ok (.iconst 0, 1) := by decide +kernel
theorem dX11_both_32 : decode m_X11_both.2.1 32 = .ok (.ireturn, 1) := by decide +kernel
theorem dX11_both_33 : decode m_X11_both.2.1 33 = .ok (.aload_n 0, 1) := by decide +kernel
theorem dX11_both_34 : decode m_X11_both.2.1 34 = .ok (.iconst 2, 1) := by decide +kernel
theorem dX11_both_35 : decode m_X11_both.2.1 35 = .ok (.bipush 38, 2) := by decide +kernel
theorem dX11_both_37 : decode m_X11_both.2.1 37 = .ok (.invokevirtual 270, 3) := by decide +kernel
theorem dX11_both_40 : decode m_X11_both.2.1 40 = .ok (.goto (-30), 3) := by decide +kernel
theorem dX11_both_43 : decode m_X11_both.2.1 43 = .ok (.iconst 1, 1) := by decide +kernel
theorem dX11_both_44 : decode m_X11_both.2.1 44 = .ok (.ireturn, 1) := by decide +kernel
theorem dX11_test_0 : decode m_X11_test.2.1 0 = .ok (.aload_n 0, 1) := by decide +kernel
theorem dX11_test_1 : decode m_X11_test.2.1 1 = .ok (.iload_n 1, 1) := by decide +kernel
theorem dX11_test_2 : decode m_X11_test.2.1 2 = .ok (.invokevirtual 276, 3) := by decide +kernel
theorem dX11_test_5 : decode m_X11_test.2.1 5 = .ok (.ifCond .ne 5, 3) := by decide +kernel
theorem dX11_test_8 : decode m_X11_test.2.1 8 = .ok (.iconst 0, 1) := by decide +kernel
theorem dX11_test_9 : decode m_X11_test.2.1 9 = .ok (.ireturn, 1) := by decide +kernel
theorem dX11_test_10 : decode m_X11_test.2.1 10 = .ok (.aload_n 0, 1) := by decide +kernel
theorem dX11_test_11 : decode m_X11_test.2.1 11 = .ok (.bipush 60, 2) := by decide +kernel
theorem dX11_test_13 : decode m_X11_test.2.1 13 = .ok (.invokevirtual 267, 3) := by decide +kernel
theorem dX11_test_16 : decode m_X11_test.2.1 16 = .ok (.ifCond .ne 21, 3) := by decide +kernel
theorem dX11_test_19 : decode m_X11_test.2.1 19 = .ok (.aload_n 0, 1) := by decide +kernel
theorem dX11_test_20 : decode m_X11_test.2.1 20 = .ok (.bipush 61, 2) := by decide +kernel
theorem dX11_test_22 : decode m_X11_test.2.1 22 = .ok (.invokevirtual 267, 3) := by decide +kernel
theorem dX11_test_25 : decode m_X11_test.2.1 25 = .ok (.ifCond .ne 12, 3) := by decide +kernel
theorem dX11_test_28 : decode m_X11_test.2.1 28 = .ok (.aload_n 0, 1) := by decide +kernel
theorem dX11_test_29 : decode m_X11_test.2.1 29 = .ok (.bipush 62, 2) := by decide +kernel
theorem dX11_test_31 : decode m_X11_test.2.1 31 = .ok (.invokevirtual 267, 3) := by decide +kernel
theorem dX11_test_34 : decode m_X11_test.2.1 34 = .ok (.ifCond .eq 28, 3) := by decide +kernel
theorem dX11_test_37 : decode m_X11_test.2.1 37 = .ok (.aload_n 0, 1) := by decide +kernel
theorem dX11_test_38 : decode m_X11_test.2.1 38 = .ok (.getfield 242, 3) := by decide +kernel
theorem dX11_test_41 : decode m_X11_test.2.1 41 = .ok (.istore_n 2, 1) := by decide +kernel
theorem dX11_test_42 : decode m_X11_test.2.1 42 = .ok (.aload_n 0, 1) := by decide +kernel
theorem dX11_test_43 : decode m_X11_test.2.1 43 = .ok (.invokevirtual 255, 3) := by decide +kernel
theorem dX11_test_46 : decode m_X11_test.2.1 46 = .ok (.aload_n 0, 1) := by decide +kernel
theorem dX11_test_47 : decode m_X11_test.2.1 47 = .ok (.iload_n 1, 1) := by decide +kernel
theorem dX11_test_48 : decode m_X11_test.2.1 48 = .ok (.invokevirtual 276, 3) := by decide +kernel
theorem dX11_test_51 : decode m_X11_test.2.1 51 = .ok (.ifCond .ne 5, 3) := by decide +kernel
theorem dX11_test_54 : decode m_X11_test.2.1 54 = .ok (.iconst 0, 1) := by decide +kernel
theorem dX11_test_55 : decode m_X11_test.2.1 55 = .ok (.ireturn, 1) := by decide +kernel
theorem dX11_test_56 : decode m_X11_test.2.1 56 = .ok (.aload_n 0, 1) := by decide +kernel
theorem dX11_test_57 : decode m_X11_test.2.1 57 = .ok (.iconst 2, 1) := by decide +kernel
theorem dX11_test_58 : decode m_X11_test.2.1 58 = .ok (.iload_n 2, 1) := by decide +kernel
theorem dX11_test_59 : decode m_X11_test.2.1 59 = .ok (.invokevirtual 270, 3) := by decide +kernel
theorem dX11_test_62 : decode m_X11_test.2.1 62 = .ok (.iconst 1, 1) := by decide +kernel
theorem dX11_test_63 : decode m_X11_test.2.1 63 = .ok (.ireturn, 1) := by decide +kernel
theorem dX11_sum_0 : decode m_X11_sum.2.1 0 = .ok (.aload_n 0, 1) := by decide +kernel
theorem dX11_sum_1 : decode m_X11_sum.2.1 1 = .ok (.iload_n 1, 1) := by decide +kernel
theorem dX11_sum_2 : decode m_X11_sum.2.1 2 = .ok (.invokevirtual 279, 3) := by decide +kernel
theorem dX11_sum_5 : decode m_X11_sum.2.1 5 = .ok (.ifCond .ne 5, 3) := by decide +kernel
theorem dX11_sum_8 : decode m_X11_sum.2.1 8 = .ok (.iconst 0, 1) := by decide +kernel
theorem dX11_sum_9 : decode m_X11_sum.2.1 9 = .ok (.ireturn, 1) := by decide +kernel
theorem dX11_sum_10 : decode m_X11_sum.2.1 10 = .ok (.aload_n 0, 1) := by decide +kernel
theorem dX11_sum_11 : decode m_X11_sum.2.1 11 = .ok (.bipush 43, 2) := by decide +kernel
theorem dX11_sum_13 : decode m_X11_sum.2.1 13 = .ok (.invokevirtual 267, 3) := by decide +kernel
theorem dX11_sum_16 : decode m_X11_sum.2.1 16 = .ok (.ifCond .ne 12, 3) := by decide +kernel
theorem dX11_sum_19 : decode m_X11_sum.2.1 19 = .ok (.aload_n 0, 1) := by decide +kernel
theorem dX11_sum_20 : decode m_X11_sum.2.1 20 = .ok (.bipush 45, 2) := by decide +kernel
theorem dX11_sum_22 : decode m_X11_sum.2.1 22 = .ok (.invokevirtual 267, 3) := by decide +kernel
theorem dX11_sum_25 : decode m_X11_sum.2.1 25 = .ok (.ifCond .eq 31, 3) := by decide +kernel
theorem dX11_sum_28 : decode m_X11_sum.2.1 28 = .ok (.aload_n 0, 1) := by decide +kernel
theorem dX11_sum_29 : decode m_X11_sum.2.1 29 = .ok (.getfield 242, 3) := by decide +kernel
theorem dX11_sum_32 : decode m_X11_sum.2.1 32 = .ok (.istore_n 2, 1) := by decide +kernel
theorem dX11_sum_33 : decode m_X11_sum.2.1 33 = .ok (.aload_n 0, 1) := by decide +kernel
theorem dX11_sum_34 : decode m_X11_sum.2.1 34 = .ok (.invokevirtual 255, 3) := by decide +kernel
theorem dX11_sum_37 : decode m_X11_sum.2.1 37 = .ok (.aload_n 0, 1) := by decide +kernel
theorem dX11_sum_38 : decode m_X11_sum.2.1 38 = .ok (.iload_n 1, 1) := by decide +kernel
theorem dX11_sum_39 : decode m_X11_sum.2.1 39 = .ok (.invokevirtual 279, 3) := by decide +kernel
theorem dX11_sum_42 : decode m_X11_sum.2.1 42 = .ok (.ifCond .ne 5, 3) := by decide +kernel
theorem dX11_sum_45 : decode m_X11_sum.2.1 45 = .ok (.iconst 0, 1) := by decide +kernel
theorem dX11_sum_46 : decode m_X11_sum.2.1 46 = .ok (.ireturn, 1) := by decide +kernel
theorem dX11_sum_47 : decode m_X11_sum.2.1 47 = .ok (.aload_n 0, 1) := by decide +kernel
theorem dX11_sum_48 : decode m_X11_sum.2.1 48 = .ok (.iconst 2, 1) := by decide +kernel
theorem dX11_sum_49 : decode m_X11_sum.2.1 49 = .ok (.iload_n 2, 1) := by decide +kernel
theorem dX11_sum_50 : decode m_X11_sum.2.1 50 = .ok (.invokevirtual 270, 3) := by decide +kernel
theorem dX11_sum_53 : decode m_X11_sum.2.1 53 = .ok (.goto (-43), 3) := by decide +kernel
theorem dX11_sum_56 : decode m_X11_sum.2.1 56 = .ok (.iconst 1, 1) := by decide +kernel
theorem dX11_sum_57 : decode m_X11_sum.2.1 57 = .ok (.ireturn, 1) := by decide +kernel
theorem dX11_term_0 : decode m_X11_term.2.1 0 = .ok (.aload_n 0, 1) := by decide +kernel
theorem dX11_term_1 : decode m_X11_term.2.1 1 = .ok (.iload_n 1, 1) := by decide +kernel
theorem dX11_term_2 : decode m_X11_term.2.1 2 = .ok (.invokevirtual 282, 3) := by decide +kernel
theorem dX11_term_5 : decode m_X11_term.2.1 5 = .ok (.ifCond .ne 5, 3) := by decide +kernel
theorem dX11_term_8 : decode m_X11_term.2.1 8 = .ok (.iconst 0, 1) := by decide +kernel
theorem dX11_term_9 : decode m_X11_term.2.1 9 = .ok (.ireturn, 1) := by decide +kernel
theorem dX11_term_10 : decode m_X11_term.2.1 10 = .ok (.aload_n 0, 1) := by decide +kernel
theorem dX11_term_11 : decode m_X11_term.2.1 11 = .ok (.bipush 42, 2) := by decide +kernel
theorem dX11_term_13 : decode m_X11_term.2.1 13 = .ok (.invokevirtual 267, 3) := by decide +kernel
theorem dX11_term_16 : decode m_X11_term.2.1 16 = .ok (.ifCond .ne 12, 3) := by decide +kernel
theorem dX11_term_19 : decode m_X11_term.2.1 19 = .ok (.aload_n 0, 1) := by decide +kernel
theorem dX11_term_20 : decode m_X11_term.2.1 20 = .ok (.bipush 47, 2) := by decide +kernel
theorem dX11_term_22 : decode m_X11_term.2.1 22 = .ok (.invokevirtual 267, 3) := by decide +kernel
theorem dX11_term_25 : decode m_X11_term.2.1 25 = .ok (.ifCond .eq 31, 3) := by decide +kernel
theorem dX11_term_28 : decode m_X11_term.2.1 28 = .ok (.aload_n 0, 1) := by decide +kernel
theorem dX11_term_29 : decode m_X11_term.2.1 29 = .ok (.getfield 242, 3) := by decide +kernel
theorem dX11_term_32 : decode m_X11_term.2.1 32 = .ok (.istore_n 2, 1) := by decide +kernel
theorem dX11_term_33 : decode m_X11_term.2.1 33 = .ok (.aload_n 0, 1) := by decide +kernel
theorem dX11_term_34 : decode m_X11_term.2.1 34 = .ok (.invokevirtual 255, 3) := by decide +kernel
theorem dX11_term_37 : decode m_X11_term.2.1 37 = .ok (.aload_n 0, 1) := by decide +kernel
theorem dX11_term_38 : decode m_X11_term.2.1 38 = .ok (.iload_n 1, 1) := by decide +kernel
theorem dX11_term_39 : decode m_X11_term.2.1 39 = .ok (.invokevirtual 282, 3) := by decide +kernel
theorem dX11_term_42 : decode m_X11_term.2.1 42 = .ok (.ifCond .ne 5, 3) := by decide +kernel
theorem dX11_term_45 : decode m_X11_term.2.1 45 = .ok (.iconst 0, 1) := by decide +kernel
theorem dX11_term_46 : decode m_X11_term.2.1 46 = .ok (.ireturn, 1) := by decide +kernel
theorem dX11_term_47 : decode m_X11_term.2.1 47 = .ok (.aload_n 0, 1) := by decide +kernel
theorem dX11_term_48 : decode m_X11_term.2.1 48 = .ok (.iconst 2, 1) := by decide +kernel
theorem dX11_term_49 : decode m_X11_term.2.1 49 = .ok (.iload_n 2, 1) := by decide +kernel
theorem dX11_term_50 : decode m_X11_term.2.1 50 = .ok (.invokevirtual 270, 3) := by decide +kernel
theorem dX11_term_53 : decode m_X11_term.2.1 53 = .ok (.goto (-43), 3) := by decide +kernel
theorem dX11_term_56 : decode m_X11_term.2.1 56 = .ok (.iconst 1, 1) := by decide +kernel
theorem dX11_term_57 : decode m_X11_term.2.1 57 = .ok (.ireturn, 1) := by decide +kernel
theorem dX11_part0_0 : decode m_X11_part0.2.1 0 = .ok (.aload_n 0, 1) := by decide +kernel
theorem dX11_part0_1 : decode m_X11_part0.2.1 1 = .ok (.getfield 233, 3) := by decide +kernel
theorem dX11_part0_4 : decode m_X11_part0.2.1 4 = .ok (.iconst 2, 1) := by decide +kernel
theorem dX11_part0_5 : decode m_X11_part0.2.1 5 = .ok (.if_icmp .ne 28, 3) := by decide +kernel
theorem dX11_part0_8 : decode m_X11_part0.2.1 8 = .ok (.aload_n 0, 1) := by decide +kernel
theorem dX11_part0_9 : decode m_X11_part0.2.1 9 = .ok (.iconst 0, 1) := by decide +kernel
theorem dX11_part0_10 : decode m_X11_part0.2.1 10 = .ok (.aload_n 0, 1) := by decide +kernel
theorem dX11_part0_11 : decode m_X11_part0.2.1 11 = .ok (.getfield 248, 3) := by decide +kernel
theorem dX11_part0_14 : decode m_X11_part0.2.1 14 = .ok (.invokevirtual 270, 3) := by decide +kernel
theorem dX11_part0_17 : decode m_X11_part0.2.1 17 = .ok (.aload_n 0, 1) := by decide +kernel
theorem dX11_part0_18 : decode m_X11_part0.2.1 18 = .ok (.dup, 1) := by decide +kernel
theorem dX11_part0_19 : decode m_X11_part0.2.1 19 = .ok (.getfield 285, 3) := by decide +kernel
theorem dX11_part0_22 : decode m_X11_part0.2.1 22 = .ok (.iconst 1, 1) := by decide +kernel
theorem dX11_part0_23 : decode m_X11_part0.2.1 23 = .ok (.iadd, 1) := by decide +kernel
theorem dX11_part0_24 : decode m_X11_part0.2.1 24 = .ok (.putfield 285, 3) := by decide +kernel
theorem dX11_part0_27 : decode m_X11_part0.2.1 27 = .ok (.aload_n 0, 1) := by decide +kernel
theorem dX11_part0_28 : decode m_X11_part0.2.1 28 = .ok (.invokevirtual 255, 3) := by decide +kernel
theorem dX11_part0_31 : decode m_X11_part0.2.1 31 = .ok (.iconst 1, 1) := by decide +kernel
theorem dX11_part0_32 : decode m_X11_part0.2.1 32 = .ok (.ireturn, 1) := by decide +kernel
theorem dX11_part0_33 : decode m_X11_part0.2.1 33 = .ok (.aload_n 0, 1) := by decide +kernel
theorem dX11_part0_34 : decode m_X11_part0.2.1 34 = .ok (.getfield 233, 3) := by decide +kernel
theorem dX11_part0_37 : decode m_X11_part0.2.1 37 = .ok (.iconst 1, 1) := by decide +kernel
theorem dX11_part0_38 : decode m_X11_part0.2.1 38 = .ok (.if_icmp .ne 46, 3) := by decide +kernel
theorem dX11_part0_41 : decode m_X11_part0.2.1 41 = .ok (.aload_n 0, 1) := by decide +kernel
theorem dX11_part0_42 : decode m_X11_part0.2.1 42 = .ok (.getfield 242, 3) := by decide +kernel
theorem dX11_part0_45 : decode m_X11_part0.2.1 45 = .ok (.ifCond .eq 39, 3) := by decide +kernel
theorem dX11_part0_48 : decode m_X11_part0.2.1 48 = .ok (.iload_n 1, 1) := by decide +kernel
theorem dX11_part0_49 : decode m_X11_part0.2.1 49 = .ok (.aload_n 0, 1) := by decide +kernel
theorem dX11_part0_50 : decode m_X11_part0.2.1 50 = .ok (.getfield 242, 3) := by decide +kernel
theorem dX11_part0_53 : decode m_X11_part0.2.1 53 = .ok (.invokestatic 288, 3) := by decide +kernel
theorem dX11_part0_56 : decode m_X11_part0.2.1 56 = .ok (.ifCond .eq 28, 3) := by decide +kernel
theorem dX11_part0_59 : decode m_X11_part0.2.1 59 = .ok (.aload_n 0, 1) := by decide +kernel
theorem dX11_part0_60 : decode m_X11_part0.2.1 60 = .ok (.iconst 1, 1) := by decide +kernel
theorem dX11_part0_61 : decode m_X11_part0.2.1 61 = .ok (.aload_n 0, 1) := by decide +kernel
theorem dX11_part0_62 : decode m_X11_part0.2.1 62 = .ok (.getfield 242, 3) := by decide +kernel
theorem dX11_part0_65 : decode m_X11_part0.2.1 65 = .ok (.invokevirtual 270, 3) := by decide +kernel
theorem dX11_part0_68 : decode m_X11_part0.2.1 68 = .ok (.aload_n 0, 1) := by decide +kernel
theorem dX11_part0_69 : decode m_X11_part0.2.1 69 = .ok (.dup, 1) := by decide +kernel
theorem dX11_part0_70 : decode m_X11_part0.2.1 70 = .ok (.getfield 285, 3) := by decide +kernel
theorem dX11_part0_73 : decode m_X11_part0.2.1 73 = .ok (.iconst 1, 1) := by decide +kernel
theorem dX11_part0_74 : decode m_X11_part0.2.1 74 = .ok (.iadd, 1) := by decide +kernel
theorem dX11_part0_75 : decode m_X11_part0.2.1 75 = .ok (.putfield 285, 3) := by decide +kernel
theorem dX11_part0_78 : decode m_X11_part0.2.1 78 = .ok (.aload_n 0, 1) := by decide +kernel
theorem dX11_part0_79 : decode m_X11_part0.2.1 79 = .ok (.invokevirtual 255, 3) := by decide +kernel
theorem dX11_part0_82 : decode m_X11_part0.2.1 82 = .ok (.iconst 1, 1) := by decide +kernel
theorem dX11_part0_83 : decode m_X11_part0.2.1 83 = .ok (.ireturn, 1) := by decide +kernel
theorem dX11_part0_84 : decode m_X11_part0.2.1 84 = .ok (.aload_n 0, 1) := by decide +kernel
theorem dX11_part0_85 : decode m_X11_part0.2.1 85 = .ok (.bipush 33, 2) := by decide +kernel
theorem dX11_part0_87 : decode m_X11_part0.2.1 87 = .ok (.invokevirtual 267, 3) := by decide +kernel
theorem dX11_part0_90 : decode m_X11_part0.2.1 90 = .ok (.ifCond .eq 55, 3) := by decide +kernel
theorem dX11_part0_93 : decode m_X11_part0.2.1 93 = .ok (.aload_n 0, 1) := by decide +kernel
theorem dX11_part0_94 : decode m_X11_part0.2.1 94 = .ok (.getfield 291, 3) := by decide +kernel
theorem dX11_part0_97 : decode m_X11_part0.2.1 97 = .ok (.bipush 8, 2) := by decide +kernel
theorem dX11_part0_99 : decode m_X11_part0.2.1 99 = .ok (.if_icmp .ge 46, 3) := by decide +kernel
theorem dX11_part0_102 : decode m_X11_part0.2.1 102 = .ok (.aload_n 0, 1) := by decide +kernel
theorem dX11_part0_103 : decode m_X11_part0.2.1 103 = .ok (.dup, 1) := by decide +kernel
theorem dX11_part0_104 : decode m_X11_part0.2.1 104 = .ok (.getfield 291, 3) := by decide +kernel
theorem dX11_part0_107 : decode m_X11_part0.2.1 107 = .ok (.iconst 1, 1) := by decide +kernel
theorem dX11_part0_108 : decode m_X11_part0.2.1 108 = .ok (.iadd, 1) := by decide +kernel
theorem dX11_part0_109 : decode m_X11_part0.2.1 109 = .ok (.putfield 291, 3) := by decide +kernel
theorem dX11_part0_112 : decode m_X11_part0.2.1 112 = .ok (.aload_n 0, 1) := by decide +kernel
theorem dX11_part0_113 : decode m_X11_part0.2.1 113 = .ok (.invokevirtual 255, 3) := by decide +kernel
theorem dX11_part0_116 : decode m_X11_part0.2.1 116 = .ok (.aload_n 0, 1) := by decide +kernel
theorem dX11_part0_117 : decode m_X11_part0.2.1 117 = .ok (.iload_n 1, 1) := by decide +kernel
theorem dX11_part0_118 : decode m_X11_part0.2.1 118 = .ok (.invokevirtual 282, 3) := by decide +kernel
theorem dX11_part0_121 : decode m_X11_part0.2.1 121 = .ok (.ifCond .ne 5, 3) := by decide +kernel
theorem dX11_part0_124 : decode m_X11_part0.2.1 124 = .ok (.iconst 0, 1) := by decide +kernel
theorem dX11_part0_125 : decode m_X11_part0.2.1 125 = .ok (.ireturn, 1) := by decide +kernel
theorem dX11_part0_126 : decode m_X11_part0.2.1 126 = .ok (.aload_n 0, 1) := by decide +kernel
theorem dX11_part0_127 : decode m_X11_part0.2.1 127 = .ok (.dup, 1) := by decide +kernel
theorem dX11_part0_128 : decode m_X11_part0.2.1 128 = .ok (.getfield 291, 3) := by decide +kernel
theorem dX11_part0_131 : decode m_X11_part0.2.1 131 = .ok (.iconst 1, 1) := by decide +kernel
theorem dX11_part0_132 : decode m_X11_part0.2.1 132 = .ok (.isub, 1) := by decide +kernel
theorem dX11_part0_133 : decode m_X11_part0.2.1 133 = .ok (.putfield 291, 3) := by decide +kernel
theorem dX11_part0_136 : decode m_X11_part0.2.1 136 = .ok (.aload_n 0, 1) := by decide +kernel
theorem dX11_part0_137 : decode m_X11_part0.2.1 137 = .ok (.iconst 2, 1) := by decide +kernel
theorem dX11_part0_138 : decode m_X11_part0.2.1 138 = .ok (.bipush 33, 2) := by decide +kernel
theorem dX11_part0_140 : decode m_X11_part0.2.1 140 = .ok (.invokevirtual 270, 3) := by decide +kernel
theorem dX11_part0_143 : decode m_X11_part0.2.1 143 = .ok (.iconst 1, 1) := by decide +kernel
theorem dX11_part0_144 : decode m_X11_part0.2.1 144 = .ok (.ireturn, 1) := by decide +kernel
theorem dX11_part0_145 : decode m_X11_part0.2.1 145 = .ok (.aload_n 0, 1) := by decide +kernel
theorem dX11_part0_146 : decode m_X11_part0.2.1 146 = .ok (.bipush 40, 2) := by decide +kernel
theorem dX11_part0_148 : decode m_X11_part0.2.1 148 = .ok (.invokevirtual 267, 3) := by decide +kernel
theorem dX11_part0_151 : decode m_X11_part0.2.1 151 = .ok (.ifCond .eq 12, 3) := by decide +kernel
theorem dX11_part0_154 : decode m_X11_part0.2.1 154 = .ok (.aload_n 0, 1) := by decide +kernel
theorem dX11_part0_155 : decode m_X11_part0.2.1 155 = .ok (.getfield 294, 3) := by decide +kernel
theorem dX11_part0_158 : decode m_X11_part0.2.1 158 = .ok (.bipush 8, 2) := by decide +kernel
theorem dX11_part0_160 : decode m_X11_part0.2.1 160 = .ok (.if_icmp .ne 5, 3) := by decide +kernel
theorem dX11_part0_163 : decode m_X11_part0.2.1 163 = .ok (.iconst 0, 1) := by decide +kernel
theorem dX11_part0_164 : decode m_X11_part0.2.1 164 = .ok (.ireturn, 1) := by decide +kernel
theorem dX11_part0_165 : decode m_X11_part0.2.1 165 = .ok (.aload_n 0, 1) := by decide +kernel
theorem dX11_part0_166 : decode m_X11_part0.2.1 166 = .ok (.dup, 1) := by decide +kernel
theorem dX11_part0_167 : decode m_X11_part0.2.1 167 = .ok (.getfield 294, 3) := by decide +kernel
theorem dX11_part0_170 : decode m_X11_part0.2.1 170 = .ok (.iconst 1, 1) := by decide +kernel
theorem dX11_part0_171 : decode m_X11_part0.2.1 171 = .ok (.iadd, 1) := by decide +kernel
theorem dX11_part0_172 : decode m_X11_part0.2.1 172 = .ok (.putfield 294, 3) := by decide +kernel
theorem dX11_part0_175 : decode m_X11_part0.2.1 175 = .ok (.aload_n 0, 1) := by decide +kernel
theorem dX11_part0_176 : decode m_X11_part0.2.1 176 = .ok (.invokevirtual 255, 3) := by decide +kernel
theorem dX11_part0_179 : decode m_X11_part0.2.1 179 = .ok (.aload_n 0, 1) := by decide +kernel
theorem dX11_part0_180 : decode m_X11_part0.2.1 180 = .ok (.iload_n 1, 1) := by decide +kernel
theorem dX11_part0_181 : decode m_X11_part0.2.1 181 = .ok (.invokevirtual 297, 3) := by decide +kernel
theorem dX11_part0_184 : decode m_X11_part0.2.1 184 = .ok (.ifCond .eq 12, 3) := by decide +kernel
theorem dX11_part0_187 : decode m_X11_part0.2.1 187 = .ok (.aload_n 0, 1) := by decide +kernel
theorem dX11_part0_188 : decode m_X11_part0.2.1 188 = .ok (.bipush 41, 2) := by decide +kernel
theorem dX11_part0_190 : decode m_X11_part0.2.1 190 = .ok (.invokevirtual 267, 3) := by decide +kernel
theorem dX11_part0_193 : decode m_X11_part0.2.1 193 = .ok (.ifCond .ne 5, 3) := by decide +kernel
theorem dX11_part0_196 : decode m_X11_part0.2.1 196 = .ok (.iconst 0, 1) := by decide +kernel
theorem dX11_part0_197 : decode m_X11_part0.2.1 197 = .ok (.ireturn, 1) := by decide +kernel
theorem dX11_part0_198 : decode m_X11_part0.2.1 198 = .ok (.aload_n 0, 1) := by decide +kernel
theorem dX11_part0_199 : decode m_X11_part0.2.1 199 = .ok (.dup, 1) := by decide +kernel
theorem dX11_part0_200 : decode m_X11_part0.2.1 200 = .ok (.getfield 294, 3) := by decide +kernel
theorem dX11_part0_203 : decode m_X11_part0.2.1 203 = .ok (.iconst 1, 1) := by decide +kernel
theorem dX11_part0_204 : decode m_X11_part0.2.1 204 = .ok (.isub, 1) := by decide +kernel
theorem dX11_part0_205 : decode m_X11_part0.2.1 205 = .ok (.putfield 294, 3) := by decide +kernel
theorem dX11_part0_208 : decode m_X11_part0.2.1 208 = .ok (.aload_n 0, 1) := by decide +kernel
theorem dX11_part0_209 : decode m_X11_part0.2.1 209 = .ok (.invokevirtual 255, 3) := by decide +kernel
theorem dX11_part0_212 : decode m_X11_part0.2.1 212 = .ok (.iconst 1, 1) := by decide +kernel
theorem dX11_part0_213 : decode m_X11_part0.2.1 213 = .ok (.ireturn, 1) := by decide +kernel
theorem dX11_parse_0 : decode m_X11_parse.2.1 0 = .ok (.aload_n 0, 1) := by decide +kernel
theorem dX11_parse_1 : decode m_X11_parse.2.1 1 = .ok (.iconst 0, 1) := by decide +kernel
theorem dX11_parse_2 : decode m_X11_parse.2.1 2 = .ok (.putfield 230, 3) := by decide +kernel
theorem dX11_parse_5 : decode m_X11_parse.2.1 5 = .ok (.aload_n 0, 1) := by decide +kernel
theorem dX11_parse_6 : decode m_X11_parse.2.1 6 = .ok (.iconst 3, 1) := by decide +kernel
theorem dX11_parse_7 : decode m_X11_parse.2.1 7 = .ok (.putfield 233, 3) := by decide +kernel
theorem dX11_parse_10 : decode m_X11_parse.2.1 10 = .ok (.aload_n 0, 1) := by decide +kernel
theorem dX11_parse_11 : decode m_X11_parse.2.1 11 = .ok (.iconst 0, 1) := by decide +kernel
theorem dX11_parse_12 : decode m_X11_parse.2.1 12 = .ok (.putfield 294, 3) := by decide +kernel
theorem dX11_parse_15 : decode m_X11_parse.2.1 15 = .ok (.aload_n 0, 1) := by decide +kernel
theorem dX11_parse_16 : decode m_X11_parse.2.1 16 = .ok (.iconst 0, 1) := by decide +kernel
theorem dX11_parse_17 : decode m_X11_parse.2.1 17 = .ok (.putfield 291, 3) := by decide +kernel
theorem dX11_parse_20 : decode m_X11_parse.2.1 20 = .ok (.aload_n 0, 1) := by decide +kernel
theorem dX11_parse_21 : decode m_X11_parse.2.1 21 = .ok (.iconst 0, 1) := by decide +kernel
theorem dX11_parse_22 : decode m_X11_parse.2.1 22 = .ok (.putfield 261, 3) := by decide +kernel
theorem dX11_parse_25 : decode m_X11_parse.2.1 25 = .ok (.aload_n 0, 1) := by decide +kernel
theorem dX11_parse_26 : decode m_X11_parse.2.1 26 = .ok (.iconst 0, 1) := by decide +kernel
theorem dX11_parse_27 : decode m_X11_parse.2.1 27 = .ok (.putfield 285, 3) := by decide +kernel
theorem dX11_parse_30 : decode m_X11_parse.2.1 30 = .ok (.aload_n 0, 1) := by decide +kernel
theorem dX11_parse_31 : decode m_X11_parse.2.1 31 = .ok (.aload_n 0, 1) := by decide +kernel
theorem dX11_parse_32 : decode m_X11_parse.2.1 32 = .ok (.getfield 7, 3) := by decide +kernel
theorem dX11_parse_35 : decode m_X11_parse.2.1 35 = .ok (.iconst 2, 1) := by decide +kernel
theorem dX11_parse_36 : decode m_X11_parse.2.1 36 = .ok (.iaload, 1) := by decide +kernel
theorem dX11_parse_37 : decode m_X11_parse.2.1 37 = .ok (.bipush 12, 2) := by decide +kernel
theorem dX11_parse_39 : decode m_X11_parse.2.1 39 = .ok (.if_icmp .ge 18, 3) := by decide +kernel
theorem dX11_parse_42 : decode m_X11_parse.2.1 42 = .ok (.aload_n 0, 1) := by decide +kernel
theorem dX11_parse_43 : decode m_X11_parse.2.1 43 = .ok (.aload_n 0, 1) := by decide +kernel
theorem dX11_parse_44 : decode m_X11_parse.2.1 44 = .ok (.getfield 7, 3) := by decide +kernel
theorem dX11_parse_47 : decode m_X11_parse.2.1 47 = .ok (.iconst 2, 1) := by decide +kernel
theorem dX11_parse_48 : decode m_X11_parse.2.1 48 = .ok (.iaload, 1) := by decide +kernel
theorem dX11_parse_49 : decode m_X11_parse.2.1 49 = .ok (.invokevirtual 300, 3) := by decide +kernel
theorem dX11_parse_52 : decode m_X11_parse.2.1 52 = .ok (.iconst 4, 1) := by decide +kernel
theorem dX11_parse_53 : decode m_X11_parse.2.1 53 = .ok (.iadd, 1) := by decide +kernel
theorem dX11_parse_54 : decode m_X11_parse.2.1 54 = .ok (.goto 6, 3) := by decide +kernel
theorem dX11_parse_57 : decode m_X11_parse.2.1 57 = .ok (.sipush 2750, 3) := by decide +kernel
theorem dX11_parse_60 : decode m_X11_parse.2.1 60 = .ok (.putfield 258, 3) := by decide +kernel
theorem dX11_parse_63 : decode m_X11_parse.2.1 63 = .ok (.aload_n 0, 1) := by decide +kernel
theorem dX11_parse_64 : decode m_X11_parse.2.1 64 = .ok (.invokevirtual 255, 3) := by decide +kernel
theorem dX11_parse_67 : decode m_X11_parse.2.1 67 = .ok (.aload_n 0, 1) := by decide +kernel
theorem dX11_parse_68 : decode m_X11_parse.2.1 68 = .ok (.invokevirtual 303, 3) := by decide +kernel
theorem dX11_parse_71 : decode m_X11_parse.2.1 71 = .ok (.istore_n 1, 1) := by decide +kernel
theorem dX11_parse_72 : decode m_X11_parse.2.1 72 = .ok (.iload_n 1, 1) := by decide +kernel
theorem dX11_parse_73 : decode m_X11_parse.2.1 73 = .ok (.ifCond .lt 7, 3) := by decide +kernel
theorem dX11_parse_76 : decode m_X11_parse.2.1 76 = .ok (.iconst 1, 1) := by decide +kernel
theorem dX11_parse_77 : decode m_X11_parse.2.1 77 = .ok (.goto 4, 3) := by decide +kernel
theorem dX11_parse_80 : decode m_X11_parse.2.1 80 = .ok (.iconst 0, 1) := by decide +kernel
theorem dX11_parse_81 : decode m_X11_parse.2.1 81 = .ok (.istore_n 2, 1) := by decide +kernel
theorem dX11_parse_82 : decode m_X11_parse.2.1 82 = .ok (.iload_n 2, 1) := by decide +kernel
theorem dX11_parse_83 : decode m_X11_parse.2.1 83 = .ok (.ifCond .eq 28, 3) := by decide +kernel
theorem dX11_parse_86 : decode m_X11_parse.2.1 86 = .ok (.aload_n 0, 1) := by decide +kernel
theorem dX11_parse_87 : decode m_X11_parse.2.1 87 = .ok (.invokevirtual 255, 3) := by decide +kernel
theorem dX11_parse_90 : decode m_X11_parse.2.1 90 = .ok (.aload_n 0, 1) := by decide +kernel
theorem dX11_parse_91 : decode m_X11_parse.2.1 91 = .ok (.iload_n 1, 1) := by decide +kernel
theorem dX11_parse_92 : decode m_X11_parse.2.1 92 = .ok (.invokevirtual 297, 3) := by decide +kernel
theorem dX11_parse_95 : decode m_X11_parse.2.1 95 = .ok (.ifCond .eq 14, 3) := by decide +kernel
theorem dX11_parse_98 : decode m_X11_parse.2.1 98 = .ok (.aload_n 0, 1) := by decide +kernel
theorem dX11_parse_99 : decode m_X11_parse.2.1 99 = .ok (.getfield 233, 3) := by decide +kernel
theorem dX11_parse_102 : decode m_X11_parse.2.1 102 = .ok (.ifCond .ne 7, 3) := by decide +kernel
theorem dX11_parse_105 : decode m_X11_parse.2.1 105 = .ok (.iconst 1, 1) := by decide +kernel
theorem dX11_parse_106 : decode m_X11_parse.2.1 106 = .ok (.goto 4, 3) := by decide +kernel
theorem dX11_parse_109 : decode m_X11_parse.2.1 109 = .ok (.iconst 0, 1) := by decide +kernel
theorem dX11_parse_110 : decode m_X11_parse.2.1 110 = .ok (.istore_n 2, 1) := by decide +kernel
theorem dX11_parse_111 : decode m_X11_parse.2.1 111 = .ok (.aload_n 0, 1) := by decide +kernel
theorem dX11_parse_112 : decode m_X11_parse.2.1 112 = .ok (.iconst 0, 1) := by decide +kernel
theorem dX11_parse_113 : decode m_X11_parse.2.1 113 = .ok (.putfield 219, 3) := by decide +kernel
theorem dX11_parse_116 : decode m_X11_parse.2.1 116 = .ok (.iload_n 2, 1) := by decide +kernel
theorem dX11_parse_117 : decode m_X11_parse.2.1 117 = .ok (.ifCond .eq 7, 3) := by decide +kernel
theorem dX11_parse_120 : decode m_X11_parse.2.1 120 = .ok (.iload_n 1, 1) := by decide +kernel
theorem dX11_parse_121 : decode m_X11_parse.2.1 121 = .ok (.goto 4, 3) := by decide +kernel
theorem dX11_parse_124 : decode m_X11_parse.2.1 124 = .ok (.iconst (-1), 1) := by decide +kernel
theorem dX11_parse_125 : decode m_X11_parse.2.1 125 = .ok (.ireturn, 1) := by decide +kernel
theorem dX11_text_0 : decode m_X11_text.2.1 0 = .ok (.aload_n 0, 1) := by decide +kernel
theorem dX11_text_1 : decode m_X11_text.2.1 1 = .ok (.invokevirtual 306, 3) := by decide +kernel
theorem dX11_text_4 : decode m_X11_text.2.1 4 = .ok (.istore_n 1, 1) := by decide +kernel
theorem dX11_text_5 : decode m_X11_text.2.1 5 = .ok (.iload_n 1, 1) := by decide +kernel
theorem dX11_text_6 : decode m_X11_text.2.1 6 = .ok (.ifCond .ge 11, 3) := by decide +kernel
theorem dX11_text_9 : decode m_X11_text.2.1 9 = .ok (.bipush (-100), 2) := by decide +kernel
theorem dX11_text_11 : decode m_X11_text.2.1 11 = .ok (.aload_n 0, 1) := by decide +kernel
theorem dX11_text_12 : decode m_X11_text.2.1 12 = .ok (.getfield 236, 3) := by decide +kernel
theorem dX11_text_15 : decode m_X11_text.2.1 15 = .ok (.isub, 1) := by decide +kernel
theorem dX11_text_16 : decode m_X11_text.2.1 16 = .ok (.ireturn, 1) := by decide +kernel
theorem dX11_text_17 : decode m_X11_text.2.1 17 = .ok (.aload_n 0, 1) := by decide +kernel
theorem dX11_text_18 : decode m_X11_text.2.1 18 = .ok (.getfield 7, 3) := by decide +kernel
theorem dX11_text_21 : decode m_X11_text.2.1 21 = .ok (.iconst 2, 1) := by decide +kernel
theorem dX11_text_22 : decode m_X11_text.2.1 22 = .ok (.iaload, 1) := by decide +kernel
theorem dX11_text_23 : decode m_X11_text.2.1 23 = .ok (.bipush 12, 2) := by decide +kernel
theorem dX11_text_25 : decode m_X11_text.2.1 25 = .ok (.if_icmp .ne 6, 3) := by decide +kernel
theorem dX11_text_28 : decode m_X11_text.2.1 28 = .ok (.ldc 101, 2) := by decide +kernel
theorem dX11_text_30 : decode m_X11_text.2.1 30 = .ok (.ireturn, 1) := by decide +kernel
theorem dX11_text_31 : decode m_X11_text.2.1 31 = .ok (.aload_n 0, 1) := by decide +kernel
theorem dX11_text_32 : decode m_X11_text.2.1 32 = .ok (.aload_n 0, 1) := by decide +kernel
theorem dX11_text_33 : decode m_X11_text.2.1 33 = .ok (.getfield 7, 3) := by decide +kernel
theorem dX11_text_36 : decode m_X11_text.2.1 36 = .ok (.iconst 2, 1) := by decide +kernel
theorem dX11_text_37 : decode m_X11_text.2.1 37 = .ok (.iaload, 1) := by decide +kernel
theorem dX11_text_38 : decode m_X11_text.2.1 38 = .ok (.invokevirtual 300, 3) := by decide +kernel
theorem dX11_text_41 : decode m_X11_text.2.1 41 = .ok (.istore_n 2, 1) := by decide +kernel
theorem dX11_text_42 : decode m_X11_text.2.1 42 = .ok (.aload_n 0, 1) := by decide +kernel
theorem dX11_text_43 : decode m_X11_text.2.1 43 = .ok (.getfield 7, 3) := by decide +kernel
theorem dX11_text_46 : decode m_X11_text.2.1 46 = .ok (.iload_n 2, 1) := by decide +kernel
theorem dX11_text_47 : decode m_X11_text.2.1 47 = .ok (.iconst 0, 1) := by decide +kernel
theorem dX11_text_48 : decode m_X11_text.2.1 48 = .ok (.iadd, 1) := by decide +kernel
theorem dX11_text_49 : decode m_X11_text.2.1 49 = .ok (.iload_n 1, 1) := by decide +kernel
theorem dX11_text_50 : decode m_X11_text.2.1 50 = .ok (.iastore, 1) := by decide +kernel
theorem dX11_text_51 : decode m_X11_text.2.1 51 = .ok (.aload_n 0, 1) := by decide +kernel
theorem dX11_text_52 : decode m_X11_text.2.1 52 = .ok (.getfield 7, 3) := by decide +kernel
theorem dX11_text_55 : decode m_X11_text.2.1 55 = .ok (.iload_n 2, 1) := by decide +kernel
theorem dX11_text_56 : decode m_X11_text.2.1 56 = .ok (.iconst 1, 1) := by decide +kernel
theorem dX11_text_57 : decode m_X11_text.2.1 57 = .ok (.iadd, 1) := by decide +kernel
theorem dX11_text_58 : decode m_X11_text.2.1 58 = .ok (.aload_n 0, 1) := by decide +kernel
theorem dX11_text_59 : decode m_X11_text.2.1 59 = .ok (.getfield 285, 3) := by decide +kernel
theorem dX11_text_62 : decode m_X11_text.2.1 62 = .ok (.iastore, 1) := by decide +kernel
theorem dX11_text_63 : decode m_X11_text.2.1 63 = .ok (.aload_n 0, 1) := by decide +kernel
theorem dX11_text_64 : decode m_X11_text.2.1 64 = .ok (.getfield 7, 3) := by decide +kernel
theorem dX11_text_67 : decode m_X11_text.2.1 67 = .ok (.iload_n 2, 1) := by decide +kernel
theorem dX11_text_68 : decode m_X11_text.2.1 68 = .ok (.iconst 2, 1) := by decide +kernel
theorem dX11_text_69 : decode m_X11_text.2.1 69 = .ok (.iadd, 1) := by decide +kernel
theorem dX11_text_70 : decode m_X11_text.2.1 70 = .ok (.aload_n 0, 1) := by decide +kernel
theorem dX11_text_71 : decode m_X11_text.2.1 71 = .ok (.getfield 261, 3) := by decide +kernel
theorem dX11_text_74 : decode m_X11_text.2.1 74 = .ok (.iastore, 1) := by decide +kernel
theorem dX11_text_75 : decode m_X11_text.2.1 75 = .ok (.aload_n 0, 1) := by decide +kernel
theorem dX11_text_76 : decode m_X11_text.2.1 76 = .ok (.getfield 7, 3) := by decide +kernel
theorem dX11_text_79 : decode m_X11_text.2.1 79 = .ok (.iconst 2, 1) := by decide +kernel
theorem dX11_text_80 : decode m_X11_text.2.1 80 = .ok (.dup2, 1) := by decide +kernel
theorem dX11_text_81 : decode m_X11_text.2.1 81 = .ok (.iaload, 1) := by decide +kernel
theorem dX11_text_82 : decode m_X11_text.2.1 82 = .ok (.iconst 1, 1) := by decide +kernel
theorem dX11_text_83 : decode m_X11_text.2.1 83 = .ok (.iadd, 1) := by decide +kernel
theorem dX11_text_84 : decode m_X11_text.2.1 84 = .ok (.iastore, 1) := by decide +kernel
theorem dX11_text_85 : decode m_X11_text.2.1 85 = .ok (.aload_n 0, 1) := by decide +kernel
theorem dX11_text_86 : decode m_X11_text.2.1 86 = .ok (.getfield 7, 3) := by decide +kernel
theorem dX11_text_89 : decode m_X11_text.2.1 89 = .ok (.iconst 2, 1) := by decide +kernel
theorem dX11_text_90 : decode m_X11_text.2.1 90 = .ok (.iaload, 1) := by decide +kernel
theorem dX11_text_91 : decode m_X11_text.2.1 91 = .ok (.iconst 1, 1) := by decide +kernel
theorem dX11_text_92 : decode m_X11_text.2.1 92 = .ok (.isub, 1) := by decide +kernel
theorem dX11_text_93 : decode m_X11_text.2.1 93 = .ok (.ireturn, 1) := by decide +kernel
theorem dX11_textTold_0 : decode m_X11_textTold.2.1 0 = .ok (.aload_n 0, 1) := by decide +kernel
theorem dX11_textTold_1 : decode m_X11_textTold.2.1 1 = .ok (.iload_n 1, 1) := by decide +kernel
theorem dX11_textTold_2 : decode m_X11_textTold.2.1 2 = .ok (.invokevirtual 309, 3) := by decide +kernel
theorem dX11_textTold_5 : decode m_X11_textTold.2.1 5 = .ok (.ifCond .eq 15, 3) := by decide +kernel
theorem dX11_textTold_8 : decode m_X11_textTold.2.1 8 = .ok (.iload_n 2, 1) := by decide +kernel
theorem dX11_textTold_9 : decode m_X11_textTold.2.1 9 = .ok (.i2l, 1) := by decide +kernel
theorem dX11_textTold_10 : decode m_X11_textTold.2.1 10 = .ok (.lconst 0, 1) := by decide +kernel
theorem dX11_textTold_11 : decode m_X11_textTold.2.1 11 = .ok (.ldc2_w 130, 3) := by decide +kernel
theorem dX11_textTold_14 : decode m_X11_textTold.2.1 14 = .ok (.invokestatic 78, 3) := by decide +kernel
theorem dX11_textTold_17 : decode m_X11_textTold.2.1 17 = .ok (.ifCond .ne 6, 3) := by decide +kernel
theorem dX11_textTold_20 : decode m_X11_textTold.2.1 20 = .ok (.ldc 100, 2) := by decide +kernel
theorem dX11_textTold_22 : decode m_X11_textTold.2.1 22 = .ok (.ireturn, 1) := by decide +kernel
theorem dX11_textTold_23 : decode m_X11_textTold.2.1 23 = .ok (.aload_n 0, 1) := by decide +kernel
theorem dX11_textTold_24 : decode m_X11_textTold.2.1 24 = .ok (.getfield 7, 3) := by decide +kernel
theorem dX11_textTold_27 : decode m_X11_textTold.2.1 27 = .ok (.aload_n 0, 1) := by decide +kernel
theorem dX11_textTold_28 : decode m_X11_textTold.2.1 28 = .ok (.iload_n 1, 1) := by decide +kernel
theorem dX11_textTold_29 : decode m_X11_textTold.2.1 29 = .ok (.invokevirtual 300, 3) := by decide +kernel
theorem dX11_textTold_32 : decode m_X11_textTold.2.1 32 = .ok (.iaload, 1) := by decide +kernel
theorem dX11_textTold_33 : decode m_X11_textTold.2.1 33 = .ok (.istore_n 3, 1) := by decide +kernel
theorem dX11_textTold_34 : decode m_X11_textTold.2.1 34 = .ok (.iload_n 2, 1) := by decide +kernel
theorem dX11_textTold_35 : decode m_X11_textTold.2.1 35 = .ok (.ifCond .ne 19, 3) := by decide +kernel
theorem dX11_textTold_38 : decode m_X11_textTold.2.1 38 = .ok (.iload_n 3, 1) := by decide +kernel
theorem dX11_textTold_39 : decode m_X11_textTold.2.1 39 = .ok (.bipush 6, 2) := by decide +kernel
theorem dX11_textTold_41 : decode m_X11_textTold.2.1 41 = .ok (.if_icmp .ge 7, 3) := by decide +kernel
theorem dX11_textTold_44 : decode m_X11_textTold.2.1 44 = .ok (.iconst 0, 1) := by decide +kernel
theorem dX11_textTold_45 : decode m_X11_textTold.2.1 45 = .ok (.goto 41, 3) := by decide +kernel
theorem dX11_textTold_48 : decode m_X11_textTold.2.1 48 = .ok (.iload_n 3, 1) := by decide +kernel
theorem dX11_textTold_49 : decode m_X11_textTold.2.1 49 = .ok (.iconst 5, 1) := by decide +kernel
theorem dX11_textTold_50 : decode m_X11_textTold.2.1 50 = .ok (.isub, 1) := by decide +kernel
theorem dX11_textTold_51 : decode m_X11_textTold.2.1 51 = .ok (.goto 35, 3) := by decide +kernel
theorem dX11_textTold_54 : decode m_X11_textTold.2.1 54 = .ok (.iload_n 2, 1) := by decide +kernel
theorem dX11_textTold_55 : decode m_X11_textTold.2.1 55 = .ok (.iconst 2, 1) := by decide +kernel
theorem dX11_textTold_56 : decode m_X11_textTold.2.1 56 = .ok (.if_icmp .ne 18, 3) := by decide +kernel
theorem dX11_textTold_59 : decode m_X11_textTold.2.1 59 = .ok (.aload_n 0, 1) := by decide +kernel
theorem dX11_textTold_60 : decode m_X11_textTold.2.1 60 = .ok (.getfield 7, 3) := by decide +kernel
theorem dX11_textTold_63 : decode m_X11_textTold.2.1 63 = .ok (.aload_n 0, 1) := by decide +kernel
theorem dX11_textTold_64 : decode m_X11_textTold.2.1 64 = .ok (.iload_n 1, 1) := by decide +kernel
theorem dX11_textTold_65 : decode m_X11_textTold.2.1 65 = .ok (.invokevirtual 300, 3) := by decide +kernel
theorem dX11_textTold_68 : decode m_X11_textTold.2.1 68 = .ok (.iconst 1, 1) := by decide +kernel
theorem dX11_textTold_69 : decode m_X11_textTold.2.1 69 = .ok (.iadd, 1) := by decide +kernel
theorem dX11_textTold_70 : decode m_X11_textTold.2.1 70 = .ok (.iaload, 1) := by decide +kernel
theorem dX11_textTold_71 : decode m_X11_textTold.2.1 71 = .ok (.goto 15, 3) := by decide +kernel
theorem dX11_textTold_74 : decode m_X11_textTold.2.1 74 = .ok (.iload_n 3, 1) := by decide +kernel
theorem dX11_textTold_75 : decode m_X11_textTold.2.1 75 = .ok (.bipush 6, 2) := by decide +kernel
theorem dX11_textTold_77 : decode m_X11_textTold.2.1 77 = .ok (.if_icmp .ge 7, 3) := by decide +kernel
theorem dX11_textTold_80 : decode m_X11_textTold.2.1 80 = .ok (.iload_n 3, 1) := by decide +kernel
theorem dX11_textTold_81 : decode m_X11_textTold.2.1 81 = .ok (.goto 5, 3) := by decide +kernel
theorem dX11_textTold_84 : decode m_X11_textTold.2.1 84 = .ok (.ldc 77, 2) := by decide +kernel
theorem dX11_textTold_86 : decode m_X11_textTold.2.1 86 = .ok (.ireturn, 1) := by decide +kernel
theorem dX11_counts_0 : decode m_X11_counts.2.1 0 = .ok (.iconst (-1), 1) := by decide +kernel
theorem dX11_counts_1 : decode m_X11_counts.2.1 1 = .ok (.istore_n 2, 1) := by decide +kernel
theorem dX11_counts_2 : decode m_X11_counts.2.1 2 = .ok (.iconst 0, 1) := by decide +kernel
theorem dX11_counts_3 : decode m_X11_counts.2.1 3 = .ok (.istore_n 3, 1) := by decide +kernel
theorem dX11_counts_4 : decode m_X11_counts.2.1 4 = .ok (.iload_n 3, 1) := by decide +kernel
theorem dX11_counts_5 : decode m_X11_counts.2.1 5 = .ok (.aload_n 0, 1) := by decide +kernel
theorem dX11_counts_6 : decode m_X11_counts.2.1 6 = .ok (.getfield 7, 3) := by decide +kernel
theorem dX11_counts_9 : decode m_X11_counts.2.1 9 = .ok (.iconst 2, 1) := by decide +kernel
theorem dX11_counts_10 : decode m_X11_counts.2.1 10 = .ok (.iaload, 1) := by decide +kernel
theorem dX11_counts_11 : decode m_X11_counts.2.1 11 = .ok (.if_icmp .ge 29, 3) := by decide +kernel
theorem dX11_counts_14 : decode m_X11_counts.2.1 14 = .ok (.aload_n 0, 1) := by decide +kernel
theorem dX11_counts_15 : decode m_X11_counts.2.1 15 = .ok (.getfield 7, 3) := by decide +kernel
theorem dX11_counts_18 : decode m_X11_counts.2.1 18 = .ok (.aload_n 0, 1) := by decide +kernel
theorem dX11_counts_19 : decode m_X11_counts.2.1 19 = .ok (.iload_n 3, 1) := by decide +kernel
theorem dX11_counts_20 : decode m_X11_counts.2.1 20 = .ok (.invokevirtual 300, 3) := by decide +kernel
theorem dX11_counts_23 : decode m_X11_counts.2.1 23 = .ok (.iaload, 1) := by decide +kernel
theorem dX11_counts_24 : decode m_X11_counts.2.1 24 = .ok (.iload_n 1, 1) := by decide +kernel
theorem dX11_counts_25 : decode m_X11_counts.2.1 25 = .ok (.if_icmp .ne 7, 3) := by decide +kernel
theorem dX11_counts_28 : decode m_X11_counts.2.1 28 = .ok (.iload_n 3, 1) := by decide +kernel
theorem dX11_counts_29 : decode m_X11_counts.2.1 29 = .ok (.goto 4, 3) := by decide +kernel
theorem dX11_counts_32 : decode m_X11_counts.2.1 32 = .ok (.iload_n 2, 1) := by decide +kernel
theorem dX11_counts_33 : decode m_X11_counts.2.1 33 = .ok (.istore_n 2, 1) := by decide +kernel
theorem dX11_counts_34 : decode m_X11_counts.2.1 34 = .ok (.iinc 3 1, 3) := by decide +kernel
theorem dX11_counts_37 : decode m_X11_counts.2.1 37 = .ok (.goto (-33), 3) := by decide +kernel
theorem dX11_counts_40 : decode m_X11_counts.2.1 40 = .ok (.iload_n 2, 1) := by decide +kernel
theorem dX11_counts_41 : decode m_X11_counts.2.1 41 = .ok (.ireturn, 1) := by decide +kernel
theorem dX11_why_0 : decode m_X11_why.2.1 0 = .ok (.iload_n 1, 1) := by decide +kernel
theorem dX11_why_1 : decode m_X11_why.2.1 1 = .ok (.i2l, 1) := by decide +kernel
theorem dX11_why_2 : decode m_X11_why.2.1 2 = .ok (.lconst 0, 1) := by decide +kernel
theorem dX11_why_3 : decode m_X11_why.2.1 3 = .ok (.ldc2_w 130, 3) := by decide +kernel
theorem dX11_why_6 : decode m_X11_why.2.1 6 = .ok (.invokestatic 78, 3) := by decide +kernel
theorem dX11_why_9 : decode m_X11_why.2.1 9 = .ok (.ifCond .eq 19, 3) := by decide +kernel
theorem dX11_why_12 : decode m_X11_why.2.1 12 = .ok (.iload_n 1, 1) := by decide +kernel
theorem dX11_why_13 : decode m_X11_why.2.1 13 = .ok (.ifCond .ne 18, 3) := by decide +kernel
theorem dX11_why_16 : decode m_X11_why.2.1 16 = .ok (.iload_n 2, 1) := by decide +kernel
theorem dX11_why_17 : decode m_X11_why.2.1 17 = .ok (.i2l, 1) := by decide +kernel
theorem dX11_why_18 : decode m_X11_why.2.1 18 = .ok (.lconst 0, 1) := by decide +kernel
theorem dX11_why_19 : decode m_X11_why.2.1 19 = .ok (.ldc2_w 96, 3) := by decide +kernel
theorem dX11_why_22 : decode m_X11_why.2.1 22 = .ok (.invokestatic 78, 3) := by decide +kernel
theorem dX11_why_25 : decode m_X11_why.2.1 25 = .ok (.ifCond .ne 6, 3) := by decide +kernel
theorem dX11_why_28 : decode m_X11_why.2.1 28 = .ok (.ldc 100, 2) := by decide +kernel
theorem dX11_why_30 : decode m_X11_why.2.1 30 = .ok (.ireturn, 1) := by decide +kernel
theorem dX11_why_31 : decode m_X11_why.2.1 31 = .ok (.aload_n 0, 1) := by decide +kernel
theorem dX11_why_32 : decode m_X11_why.2.1 32 = .ok (.iload_n 1, 1) := by decide +kernel
theorem dX11_why_33 : decode m_X11_why.2.1 33 = .ok (.ifCond .ne 7, 3) := by decide +kernel
theorem dX11_why_36 : decode m_X11_why.2.1 36 = .ok (.iload_n 2, 1) := by decide +kernel
theorem dX11_why_37 : decode m_X11_why.2.1 37 = .ok (.goto 6, 3) := by decide +kernel
theorem dX11_why_40 : decode m_X11_why.2.1 40 = .ok (.iload_n 1, 1) := by decide +kernel
theorem dX11_why_41 : decode m_X11_why.2.1 41 = .ok (.iconst 5, 1) := by decide +kernel
theorem dX11_why_42 : decode m_X11_why.2.1 42 = .ok (.iadd, 1) := by decide +kernel
theorem dX11_why_43 : decode m_X11_why.2.1 43 = .ok (.invokevirtual 165, 3) := by decide +kernel
theorem dX11_why_46 : decode m_X11_why.2.1 46 = .ok (.invokestatic 216, 3) := by decide +kernel
theorem dX11_why_49 : decode m_X11_why.2.1 49 = .ok (.ireturn, 1) := by decide +kernel
theorem dX11_joined_0 : decode m_X11_joined.2.1 0 = .ok (.iload_n 0, 1) := by decide +kernel
theorem dX11_joined_1 : decode m_X11_joined.2.1 1 = .ok (.tableswitch 196 38 62 #[182, 196, 196, 196, 123, 115, 196, 119, 196, 127, 196, 196, 196, 196, 196, 196, 196, 196, 196, 196, 196, 196, 149, 171, 160], 115) := by decide +kernel
theorem dX11_joined_116 : decode m_X11_joined.2.1 116 = .ok (.iload_n 1, 1) := by decide +kernel
theorem dX11_joined_117 : decode m_X11_joined.2.1 117 = .ok (.iload_n 2, 1) := by decide +kernel
theorem dX11_joined_118 : decode m_X11_joined.2.1 118 = .ok (.iadd, 1) := by decide +kernel
theorem dX11_joined_119 : decode m_X11_joined.2.1 119 = .ok (.ireturn, 1) := by decide +kernel
theorem dX11_joined_120 : decode m_X11_joined.2.1 120 = .ok (.iload_n 1, 1) := by decide +kernel
theorem dX11_joined_121 : decode m_X11_joined.2.1 121 = .ok (.iload_n 2, 1) := by decide +kernel
theorem dX11_joined_122 : decode m_X11_joined.2.1 122 = .ok (.isub, 1) := by decide +kernel
theorem dX11_joined_123 : decode m_X11_joined.2.1 123 = .ok (.ireturn, 1) := by decide +kernel
theorem dX11_joined_124 : decode m_X11_joined.2.1 124 = .ok (.iload_n 1, 1) := by decide +kernel
theorem dX11_joined_125 : decode m_X11_joined.2.1 125 = .ok (.iload_n 2, 1) := by decide +kernel
theorem dX11_joined_126 : decode m_X11_joined.2.1 126 = .ok (.imul, 1) := by decide +kernel
theorem dX11_joined_127 : decode m_X11_joined.2.1 127 = .ok (.ireturn, 1) := by decide +kernel
theorem dX11_joined_128 : decode m_X11_joined.2.1 128 = .ok (.iload_n 2, 1) := by decide +kernel
theorem dX11_joined_129 : decode m_X11_joined.2.1 129 = .ok (.ifCond .ne 7, 3) := by decide +kernel
theorem dX11_joined_132 : decode m_X11_joined.2.1 132 = .ok (.iconst 0, 1) := by decide +kernel
theorem dX11_joined_133 : decode m_X11_joined.2.1 133 = .ok (.goto 16, 3) := by decide +kernel
theorem dX11_joined_136 : decode m_X11_joined.2.1 136 = .ok (.iload_n 2, 1) := by decide +kernel
theorem dX11_joined_137 : decode m_X11_joined.2.1 137 = .ok (.iconst (-1), 1) := by decide +kernel
theorem dX11_joined_138 : decode m_X11_joined.2.1 138 = .ok (.if_icmp .ne 8, 3) := by decide +kernel
theorem dX11_joined_141 : decode m_X11_joined.2.1 141 = .ok (.iload_n 1, 1) := by decide +kernel
theorem dX11_joined_142 : decode m_X11_joined.2.1 142 = .ok (.ineg, 1) := by decide +kernel
theorem dX11_joined_143 : decode m_X11_joined.2.1 143 = .ok (.goto 6, 3) := by decide +kernel
theorem dX11_joined_146 : decode m_X11_joined.2.1 146 = .ok (.iload_n 1, 1) := by decide +kernel
theorem dX11_joined_147 : decode m_X11_joined.2.1 147 = .ok (.iload_n 2, 1) := by decide +kernel
theorem dX11_joined_148 : decode m_X11_joined.2.1 148 = .ok (.idiv, 1) := by decide +kernel
theorem dX11_joined_149 : decode m_X11_joined.2.1 149 = .ok (.ireturn, 1) := by decide +kernel
theorem dX11_joined_150 : decode m_X11_joined.2.1 150 = .ok (.iload_n 1, 1) := by decide +kernel
theorem dX11_joined_151 : decode m_X11_joined.2.1 151 = .ok (.iload_n 2, 1) := by decide +kernel
theorem dX11_joined_152 : decode m_X11_joined.2.1 152 = .ok (.if_icmp .ge 7, 3) := by decide +kernel
theorem dX11_joined_155 : decode m_X11_joined.2.1 155 = .ok (.iconst 1, 1) := by decide +kernel
theorem dX11_joined_156 : decode m_X11_joined.2.1 156 = .ok (.goto 4, 3) := by decide +kernel
theorem dX11_joined_159 : decode m_X11_joined.2.1 159 = .ok (.iconst 0, 1) := by decide +kernel
theorem dX11_joined_160 : decode m_X11_joined.2.1 160 = .ok (.ireturn, 1) := by decide +kernel
theorem dX11_joined_161 : decode m_X11_joined.2.1 161 = .ok (.iload_n 1, 1) := by decide +kernel
theorem dX11_joined_162 : decode m_X11_joined.2.1 162 = .ok (.iload_n 2, 1) := by decide +kernel
theorem dX11_joined_163 : decode m_X11_joined.2.1 163 = .ok (.if_icmp .le 7, 3) := by decide +kernel
theorem dX11_joined_166 : decode m_X11_joined.2.1 166 = .ok (.iconst 1, 1) := by decide +kernel
theorem dX11_joined_167 : decode m_X11_joined.2.1 167 = .ok (.goto 4, 3) := by decide +kernel
theorem dX11_joined_170 : decode m_X11_joined.2.1 170 = .ok (.iconst 0, 1) := by decide +kernel
theorem dX11_joined_171 : decode m_X11_joined.2.1 171 = .ok (.ireturn, 1) := by decide +kernel
theorem dX11_joined_172 : decode m_X11_joined.2.1 172 = .ok (.iload_n 1, 1) := by decide +kernel
theorem dX11_joined_173 : decode m_X11_joined.2.1 173 = .ok (.iload_n 2, 1) := by decide +kernel
theorem dX11_joined_174 : decode m_X11_joined.2.1 174 = .ok (.if_icmp .ne 7, 3) := by decide +kernel
theorem dX11_joined_177 : decode m_X11_joined.2.1 177 = .ok (.iconst 1, 1) := by decide +kernel
theorem dX11_joined_178 : decode m_X11_joined.2.1 178 = .ok (.goto 4, 3) := by decide +kernel
theorem dX11_joined_181 : decode m_X11_joined.2.1 181 = .ok (.iconst 0, 1) := by decide +kernel
theorem dX11_joined_182 : decode m_X11_joined.2.1 182 = .ok (.ireturn, 1) := by decide +kernel
theorem dX11_joined_183 : decode m_X11_joined.2.1 183 = .ok (.iload_n 1, 1) := by decide +kernel
theorem dX11_joined_184 : decode m_X11_joined.2.1 184 = .ok (.ifCond .eq 11, 3) := by decide +kernel
theorem dX11_joined_187 : decode m_X11_joined.2.1 187 = .ok (.iload_n 2, 1) := by decide +kernel
theorem dX11_joined_188 : decode m_X11_joined.2.1 188 = .ok (.ifCond .eq 7, 3) := by decide +kernel
theorem dX11_joined_191 : decode m_X11_joined.2.1 191 = .ok (.iconst 1, 1) := by decide +kernel
theorem dX11_joined_192 : decode m_X11_joined.2.1 192 = .ok (.goto 4, 3) := by decide +kernel
theorem dX11_joined_195 : decode m_X11_joined.2.1 195 = .ok (.iconst 0, 1) := by decide +kernel
theorem dX11_joined_196 : decode m_X11_joined.2.1 196 = .ok (.ireturn, 1) := by decide +kernel
theorem dX11_joined_197 : decode m_X11_joined.2.1 197 = .ok (.iload_n 1, 1) := by decide +kernel
theorem dX11_joined_198 : decode m_X11_joined.2.1 198 = .ok (.ifCond .ne 7, 3) := by decide +kernel
theorem dX11_joined_201 : decode m_X11_joined.2.1 201 = .ok (.iload_n 2, 1) := by decide +kernel
theorem dX11_joined_202 : decode m_X11_joined.2.1 202 = .ok (.ifCond .eq 7, 3) := by decide +kernel
theorem dX11_joined_205 : decode m_X11_joined.2.1 205 = .ok (.iconst 1, 1) := by decide +kernel
theorem dX11_joined_206 : decode m_X11_joined.2.1 206 = .ok (.goto 4, 3) := by decide +kernel
theorem dX11_joined_209 : decode m_X11_joined.2.1 209 = .ok (.iconst 0, 1) := by decide +kernel
theorem dX11_joined_210 : decode m_X11_joined.2.1 210 = .ok (.ireturn, 1) := by decide +kernel
theorem dX11_worked_0 : decode m_X11_worked.2.1 0 = .ok (.iconst 0, 1) := by decide +kernel
theorem dX11_worked_1 : decode m_X11_worked.2.1 1 = .ok (.istore_n 2, 1) := by decide +kernel
theorem dX11_worked_2 : decode m_X11_worked.2.1 2 = .ok (.iconst 0, 1) := by decide +kernel
theorem dX11_worked_3 : decode m_X11_worked.2.1 3 = .ok (.istore_n 3, 1) := by decide +kernel
theorem dX11_worked_4 : decode m_X11_worked.2.1 4 = .ok (.iload_n 3, 1) := by decide +kernel
theorem dX11_worked_5 : decode m_X11_worked.2.1 5 = .ok (.aload_n 0, 1) := by decide +kernel
theorem dX11_worked_6 : decode m_X11_worked.2.1 6 = .ok (.getfield 7, 3) := by decide +kernel
theorem dX11_worked_9 : decode m_X11_worked.2.1 9 = .ok (.aload_n 0, 1) := by decide +kernel
theorem dX11_worked_10 : decode m_X11_worked.2.1 10 = .ok (.iload_n 1, 1) := by decide +kernel
theorem dX11_worked_11 : decode m_X11_worked.2.1 11 = .ok (.invokevirtual 300, 3) := by decide +kernel
theorem dX11_worked_14 : decode m_X11_worked.2.1 14 = .ok (.iconst 2, 1) := by decide +kernel
theorem dX11_worked_15 : decode m_X11_worked.2.1 15 = .ok (.iadd, 1) := by decide +kernel
theorem dX11_worked_16 : decode m_X11_worked.2.1 16 = .ok (.iaload, 1) := by decide +kernel
theorem dX11_worked_17 : decode m_X11_worked.2.1 17 = .ok (.if_icmp .ge 146, 3) := by decide +kernel
theorem dX11_worked_20 : decode m_X11_worked.2.1 20 = .ok (.aload_n 0, 1) := by decide +kernel
theorem dX11_worked_21 : decode m_X11_worked.2.1 21 = .ok (.getfield 7, 3) := by decide +kernel
theorem dX11_worked_24 : decode m_X11_worked.2.1 24 = .ok (.aload_n 0, 1) := by decide +kernel
theorem dX11_worked_25 : decode m_X11_worked.2.1 25 = .ok (.iload_n 1, 1) := by decide +kernel
theorem dX11_worked_26 : decode m_X11_worked.2.1 26 = .ok (.invokevirtual 300, 3) := by decide +kernel
theorem dX11_worked_29 : decode m_X11_worked.2.1 29 = .ok (.iconst 4, 1) := by decide +kernel
theorem dX11_worked_30 : decode m_X11_worked.2.1 30 = .ok (.iadd, 1) := by decide +kernel
theorem dX11_worked_31 : decode m_X11_worked.2.1 31 = .ok (.iconst 2, 1) := by decide +kernel
theorem dX11_worked_32 : decode m_X11_worked.2.1 32 = .ok (.iload_n 3, 1) := by decide +kernel
theorem dX11_worked_33 : decode m_X11_worked.2.1 33 = .ok (.imul, 1) := by decide +kernel
theorem dX11_worked_34 : decode m_X11_worked.2.1 34 = .ok (.iadd, 1) := by decide +kernel
theorem dX11_worked_35 : decode m_X11_worked.2.1 35 = .ok (.iaload, 1) := by decide +kernel
theorem dX11_worked_36 : decode m_X11_worked.2.1 36 = .ok (.istore 4, 2) := by decide +kernel
theorem dX11_worked_38 : decode m_X11_worked.2.1 38 = .ok (.aload_n 0, 1) := by decide +kernel
theorem dX11_worked_39 : decode m_X11_worked.2.1 39 = .ok (.getfield 7, 3) := by decide +kernel
theorem dX11_worked_42 : decode m_X11_worked.2.1 42 = .ok (.aload_n 0, 1) := by decide +kernel
theorem dX11_worked_43 : decode m_X11_worked.2.1 43 = .ok (.iload_n 1, 1) := by decide +kernel
theorem dX11_worked_44 : decode m_X11_worked.2.1 44 = .ok (.invokevirtual 300, 3) := by decide +kernel
theorem dX11_worked_47 : decode m_X11_worked.2.1 47 = .ok (.iconst 4, 1) := by decide +kernel
theorem dX11_worked_48 : decode m_X11_worked.2.1 48 = .ok (.iadd, 1) := by decide +kernel
theorem dX11_worked_49 : decode m_X11_worked.2.1 49 = .ok (.iconst 2, 1) := by decide +kernel
theorem dX11_worked_50 : decode m_X11_worked.2.1 50 = .ok (.iload_n 3, 1) := by decide +kernel
theorem dX11_worked_51 : decode m_X11_worked.2.1 51 = .ok (.imul, 1) := by decide +kernel
theorem dX11_worked_52 : decode m_X11_worked.2.1 52 = .ok (.iadd, 1) := by decide +kernel
theorem dX11_worked_53 : decode m_X11_worked.2.1 53 = .ok (.iconst 1, 1) := by decide +kernel
theorem dX11_worked_54 : decode m_X11_worked.2.1 54 = .ok (.iadd, 1) := by decide +kernel
theorem dX11_worked_55 : decode m_X11_worked.2.1 55 = .ok (.iaload, 1) := by decide +kernel
theorem dX11_worked_56 : decode m_X11_worked.2.1 56 = .ok (.istore 5, 2) := by decide +kernel
theorem dX11_worked_58 : decode m_X11_worked.2.1 58 = .ok (.iload 4, 2) := by decide +kernel
theorem dX11_worked_60 : decode m_X11_worked.2.1 60 = .ok (.iconst 2, 1) := by decide +kernel
theorem dX11_worked_61 : decode m_X11_worked.2.1 61 = .ok (.if_icmp .eq 32, 3) := by decide +kernel
theorem dX11_worked_64 : decode m_X11_worked.2.1 64 = .ok (.aload_n 0, 1) := by decide +kernel
theorem dX11_worked_65 : decode m_X11_worked.2.1 65 = .ok (.getfield 65, 3) := by decide +kernel
theorem dX11_worked_68 : decode m_X11_worked.2.1 68 = .ok (.iload_n 2, 1) := by decide +kernel
theorem dX11_worked_69 : decode m_X11_worked.2.1 69 = .ok (.iload 4, 2) := by decide +kernel
theorem dX11_worked_71 : decode m_X11_worked.2.1 71 = .ok (.ifCond .ne 8, 3) := by decide +kernel
theorem dX11_worked_74 : decode m_X11_worked.2.1 74 = .ok (.iload 5, 2) := by decide +kernel
theorem dX11_worked_76 : decode m_X11_worked.2.1 76 = .ok (.goto 10, 3) := by decide +kernel
theorem dX11_worked_79 : decode m_X11_worked.2.1 79 = .ok (.aload_n 0, 1) := by decide +kernel
theorem dX11_worked_80 : decode m_X11_worked.2.1 80 = .ok (.getfield 62, 3) := by decide +kernel
theorem dX11_worked_83 : decode m_X11_worked.2.1 83 = .ok (.iload 5, 2) := by decide +kernel
theorem dX11_worked_85 : decode m_X11_worked.2.1 85 = .ok (.iaload, 1) := by decide +kernel
theorem dX11_worked_86 : decode m_X11_worked.2.1 86 = .ok (.iastore, 1) := by decide +kernel
theorem dX11_worked_87 : decode m_X11_worked.2.1 87 = .ok (.iinc 2 1, 3) := by decide +kernel
theorem dX11_worked_90 : decode m_X11_worked.2.1 90 = .ok (.goto 67, 3) := by decide +kernel
theorem dX11_worked_93 : decode m_X11_worked.2.1 93 = .ok (.iload 5, 2) := by decide +kernel
theorem dX11_worked_95 : decode m_X11_worked.2.1 95 = .ok (.bipush 33, 2) := by decide +kernel
theorem dX11_worked_97 : decode m_X11_worked.2.1 97 = .ok (.if_icmp .ne 30, 3) := by decide +kernel
theorem dX11_worked_100 : decode m_X11_worked.2.1 100 = .ok (.aload_n 0, 1) := by decide +kernel
theorem dX11_worked_101 : decode m_X11_worked.2.1 101 = .ok (.getfield 65, 3) := by decide +kernel
theorem dX11_worked_104 : decode m_X11_worked.2.1 104 = .ok (.iload_n 2, 1) := by decide +kernel
theorem dX11_worked_105 : decode m_X11_worked.2.1 105 = .ok (.iconst 1, 1) := by decide +kernel
theorem dX11_worked_106 : decode m_X11_worked.2.1 106 = .ok (.isub, 1) := by decide +kernel
theorem dX11_worked_107 : decode m_X11_worked.2.1 107 = .ok (.aload_n 0, 1) := by decide +kernel
theorem dX11_worked_108 : decode m_X11_worked.2.1 108 = .ok (.getfield 65, 3) := by decide +kernel
theorem dX11_worked_111 : decode m_X11_worked.2.1 111 = .ok (.iload_n 2, 1) := by decide +kernel
theorem dX11_worked_112 : decode m_X11_worked.2.1 112 = .ok (.iconst 1, 1) := by decide +kernel
theorem dX11_worked_113 : decode m_X11_worked.2.1 113 = .ok (.isub, 1) := by decide +kernel
theorem dX11_worked_114 : decode m_X11_worked.2.1 114 = .ok (.iaload, 1) := by decide +kernel
theorem dX11_worked_115 : decode m_X11_worked.2.1 115 = .ok (.ifCond .ne 7, 3) := by decide +kernel
theorem dX11_worked_118 : decode m_X11_worked.2.1 118 = .ok (.iconst 1, 1) := by decide +kernel
theorem dX11_worked_119 : decode m_X11_worked.2.1 119 = .ok (.goto 4, 3) := by decide +kernel
theorem dX11_worked_122 : decode m_X11_worked.2.1 122 = .ok (.iconst 0, 1) := by decide +kernel
theorem dX11_worked_123 : decode m_X11_worked.2.1 123 = .ok (.iastore, 1) := by decide +kernel
theorem dX11_worked_124 : decode m_X11_worked.2.1 124 = .ok (.goto 33, 3) := by decide +kernel
theorem dX11_worked_127 : decode m_X11_worked.2.1 127 = .ok (.iinc 2 (-1), 3) := by decide +kernel
theorem dX11_worked_130 : decode m_X11_worked.2.1 130 = .ok (.aload_n 0, 1) := by decide +kernel
theorem dX11_worked_131 : decode m_X11_worked.2.1 131 = .ok (.getfield 65, 3) := by decide +kernel
theorem dX11_worked_134 : decode m_X11_worked.2.1 134 = .ok (.iload_n 2, 1) := by decide +kernel
theorem dX11_worked_135 : decode m_X11_worked.2.1 135 = .ok (.iconst 1, 1) := by decide +kernel
theorem dX11_worked_136 : decode m_X11_worked.2.1 136 = .ok (.isub, 1) := by decide +kernel
theorem dX11_worked_137 : decode m_X11_worked.2.1 137 = .ok (.iload 5, 2) := by decide +kernel
theorem dX11_worked_139 : decode m_X11_worked.2.1 139 = .ok (.aload_n 0, 1) := by decide +kernel
theorem dX11_worked_140 : decode m_X11_worked.2.1 140 = .ok (.getfield 65, 3) := by decide +kernel
theorem dX11_worked_143 : decode m_X11_worked.2.1 143 = .ok (.iload_n 2, 1) := by decide +kernel
theorem dX11_worked_144 : decode m_X11_worked.2.1 144 = .ok (.iconst 1, 1) := by decide +kernel
theorem dX11_worked_145 : decode m_X11_worked.2.1 145 = .ok (.isub, 1) := by decide +kernel
theorem dX11_worked_146 : decode m_X11_worked.2.1 146 = .ok (.iaload, 1) := by decide +kernel
theorem dX11_worked_147 : decode m_X11_worked.2.1 147 = .ok (.aload_n 0, 1) := by decide +kernel
theorem dX11_worked_148 : decode m_X11_worked.2.1 148 = .ok (.getfield 65, 3) := by decide +kernel
theorem dX11_worked_151 : decode m_X11_worked.2.1 151 = .ok (.iload_n 2, 1) := by decide +kernel
theorem dX11_worked_152 : decode m_X11_worked.2.1 152 = .ok (.iaload, 1) := by decide +kernel
theorem dX11_worked_153 : decode m_X11_worked.2.1 153 = .ok (.invokestatic 312, 3) := by decide +kernel
theorem dX11_worked_156 : decode m_X11_worked.2.1 156 = .ok (.iastore, 1) := by decide +kernel
theorem dX11_worked_157 : decode m_X11_worked.2.1 157 = .ok (.iinc 3 1, 3) := by decide +kernel
theorem dX11_worked_160 : decode m_X11_worked.2.1 160 = .ok (.goto (-156), 3) := by decide +kernel
theorem dX11_worked_163 : decode m_X11_worked.2.1 163 = .ok (.aload_n 0, 1) := by decide +kernel
theorem dX11_worked_164 : decode m_X11_worked.2.1 164 = .ok (.getfield 65, 3) := by decide +kernel
theorem dX11_worked_167 : decode m_X11_worked.2.1 167 = .ok (.iconst 0, 1) := by decide +kernel
theorem dX11_worked_168 : decode m_X11_worked.2.1 168 = .ok (.iaload, 1) := by decide +kernel
theorem dX11_worked_169 : decode m_X11_worked.2.1 169 = .ok (.ireturn, 1) := by decide +kernel
theorem dX11_choose_0 : decode m_X11_choose.2.1 0 = .ok (.aload_n 0, 1) := by decide +kernel
theorem dX11_choose_1 : decode m_X11_choose.2.1 1 = .ok (.iload_n 1, 1) := by decide +kernel
theorem dX11_choose_2 : decode m_X11_choose.2.1 2 = .ok (.invokevirtual 102, 3) := by decide +kernel
theorem dX11_choose_5 : decode m_X11_choose.2.1 5 = .ok (.ifCond .ne 6, 3) := by decide +kernel
theorem dX11_choose_8 : decode m_X11_choose.2.1 8 = .ok (.ldc 100, 2) := by decide +kernel
theorem dX11_choose_10 : decode m_X11_choose.2.1 10 = .ok (.ireturn, 1) := by decide +kernel
theorem dX11_choose_11 : decode m_X11_choose.2.1 11 = .ok (.iconst 0, 1) := by decide +kernel
theorem dX11_choose_12 : decode m_X11_choose.2.1 12 = .ok (.istore_n 2, 1) := by decide +kernel
theorem dX11_choose_13 : decode m_X11_choose.2.1 13 = .ok (.iload_n 2, 1) := by decide +kernel
theorem dX11_choose_14 : decode m_X11_choose.2.1 14 = .ok (.aload_n 0, 1) := by decide +kernel
theorem dX11_choose_15 : decode m_X11_choose.2.1 15 = .ok (.getfield 7, 3) := by decide +kernel
theorem dX11_choose_18 : decode m_X11_choose.2.1 18 = .ok (.iconst 3, 1) := by decide +kernel
theorem dX11_choose_19 : decode m_X11_choose.2.1 19 = .ok (.iaload, 1) := by decide +kernel
theorem dX11_choose_20 : decode m_X11_choose.2.1 20 = .ok (.if_icmp .ge 26, 3) := by decide +kernel
theorem dX11_choose_23 : decode m_X11_choose.2.1 23 = .ok (.aload_n 0, 1) := by decide +kernel
theorem dX11_choose_24 : decode m_X11_choose.2.1 24 = .ok (.getfield 7, 3) := by decide +kernel
theorem dX11_choose_27 : decode m_X11_choose.2.1 27 = .ok (.sipush 310, 3) := by decide +kernel
theorem dX11_choose_30 : decode m_X11_choose.2.1 30 = .ok (.iload_n 2, 1) := by decide +kernel
theorem dX11_choose_31 : decode m_X11_choose.2.1 31 = .ok (.iadd, 1) := by decide +kernel
theorem dX11_choose_32 : decode m_X11_choose.2.1 32 = .ok (.iaload, 1) := by decide +kernel
theorem dX11_choose_33 : decode m_X11_choose.2.1 33 = .ok (.iload_n 1, 1) := by decide +kernel
theorem dX11_choose_34 : decode m_X11_choose.2.1 34 = .ok (.if_icmp .ne 6, 3) := by decide +kernel
theorem dX11_choose_37 : decode m_X11_choose.2.1 37 = .ok (.ldc 153, 2) := by decide +kernel
theorem dX11_choose_39 : decode m_X11_choose.2.1 39 = .ok (.ireturn, 1) := by decide +kernel
theorem dX11_choose_40 : decode m_X11_choose.2.1 40 = .ok (.iinc 2 1, 3) := by decide +kernel
theorem dX11_choose_43 : decode m_X11_choose.2.1 43 = .ok (.goto (-30), 3) := by decide +kernel
theorem dX11_choose_46 : decode m_X11_choose.2.1 46 = .ok (.aload_n 0, 1) := by decide +kernel
theorem dX11_choose_47 : decode m_X11_choose.2.1 47 = .ok (.getfield 7, 3) := by decide +kernel
theorem dX11_choose_50 : decode m_X11_choose.2.1 50 = .ok (.iconst 3, 1) := by decide +kernel
theorem dX11_choose_51 : decode m_X11_choose.2.1 51 = .ok (.iaload, 1) := by decide +kernel
theorem dX11_choose_52 : decode m_X11_choose.2.1 52 = .ok (.iconst 3, 1) := by decide +kernel
theorem dX11_choose_53 : decode m_X11_choose.2.1 53 = .ok (.if_icmp .ne 6, 3) := by decide +kernel
theorem dX11_choose_56 : decode m_X11_choose.2.1 56 = .ok (.ldc 101, 2) := by decide +kernel
theorem dX11_choose_58 : decode m_X11_choose.2.1 58 = .ok (.ireturn, 1) := by decide +kernel
theorem dX11_choose_59 : decode m_X11_choose.2.1 59 = .ok (.aload_n 0, 1) := by decide +kernel
theorem dX11_choose_60 : decode m_X11_choose.2.1 60 = .ok (.getfield 7, 3) := by decide +kernel
theorem dX11_choose_63 : decode m_X11_choose.2.1 63 = .ok (.sipush 310, 3) := by decide +kernel
theorem dX11_choose_66 : decode m_X11_choose.2.1 66 = .ok (.aload_n 0, 1) := by decide +kernel
theorem dX11_choose_67 : decode m_X11_choose.2.1 67 = .ok (.getfield 7, 3) := by decide +kernel
theorem dX11_choose_70 : decode m_X11_choose.2.1 70 = .ok (.iconst 3, 1) := by decide +kernel
theorem dX11_choose_71 : decode m_X11_choose.2.1 71 = .ok (.iaload, 1) := by decide +kernel
theorem dX11_choose_72 : decode m_X11_choose.2.1 72 = .ok (.iadd, 1) := by decide +kernel
theorem dX11_choose_73 : decode m_X11_choose.2.1 73 = .ok (.iload_n 1, 1) := by decide +kernel
theorem dX11_choose_74 : decode m_X11_choose.2.1 74 = .ok (.iastore, 1) := by decide +kernel
theorem dX11_choose_75 : decode m_X11_choose.2.1 75 = .ok (.aload_n 0, 1) := by decide +kernel
theorem dX11_choose_76 : decode m_X11_choose.2.1 76 = .ok (.getfield 7, 3) := by decide +kernel
theorem dX11_choose_79 : decode m_X11_choose.2.1 79 = .ok (.iconst 3, 1) := by decide +kernel
theorem dX11_choose_80 : decode m_X11_choose.2.1 80 = .ok (.dup2, 1) := by decide +kernel
theorem dX11_choose_81 : decode m_X11_choose.2.1 81 = .ok (.iaload, 1) := by decide +kernel
theorem dX11_choose_82 : decode m_X11_choose.2.1 82 = .ok (.iconst 1, 1) := by decide +kernel
theorem dX11_choose_83 : decode m_X11_choose.2.1 83 = .ok (.iadd, 1) := by decide +kernel
theorem dX11_choose_84 : decode m_X11_choose.2.1 84 = .ok (.iastore, 1) := by decide +kernel
theorem dX11_choose_85 : decode m_X11_choose.2.1 85 = .ok (.aload_n 0, 1) := by decide +kernel
theorem dX11_choose_86 : decode m_X11_choose.2.1 86 = .ok (.getfield 7, 3) := by decide +kernel
theorem dX11_choose_89 : decode m_X11_choose.2.1 89 = .ok (.iconst 3, 1) := by decide +kernel
theorem dX11_choose_90 : decode m_X11_choose.2.1 90 = .ok (.iaload, 1) := by decide +kernel
theorem dX11_choose_91 : decode m_X11_choose.2.1 91 = .ok (.ireturn, 1) := by decide +kernel
theorem dX11_clear_0 : decode m_X11_clear.2.1 0 = .ok (.aload_n 0, 1) := by decide +kernel
theorem dX11_clear_1 : decode m_X11_clear.2.1 1 = .ok (.iconst 3, 1) := by decide +kernel
theorem dX11_clear_2 : decode m_X11_clear.2.1 2 = .ok (.iconst 0, 1) := by decide +kernel
theorem dX11_clear_3 : decode m_X11_clear.2.1 3 = .ok (.invokevirtual 127, 3) := by decide +kernel
theorem dX11_clear_6 : decode m_X11_clear.2.1 6 = .ok (.ireturn, 1) := by decide +kernel
theorem dX11_ofBurden_0 : decode m_X11_ofBurden.2.1 0 = .ok (.iload_n 1, 1) := by decide +kernel
theorem dX11_ofBurden_1 : decode m_X11_ofBurden.2.1 1 = .ok (.istore_n 3, 1) := by decide +kernel
theorem dX11_ofBurden_2 : decode m_X11_ofBurden.2.1 2 = .ok (.iconst 0, 1) := by decide +kernel
theorem dX11_ofBurden_3 : decode m_X11_ofBurden.2.1 3 = .ok (.istore 4, 2) := by decide +kernel
theorem dX11_ofBurden_5 : decode m_X11_ofBurden.2.1 5 = .ok (.aload_n 0, 1) := by decide +kernel
theorem dX11_ofBurden_6 : decode m_X11_ofBurden.2.1 6 = .ok (.getfield 7, 3) := by decide +kernel
theorem dX11_ofBurden_9 : decode m_X11_ofBurden.2.1 9 = .ok (.iconst 3, 1) := by decide +kernel
theorem dX11_ofBurden_10 : decode m_X11_ofBurden.2.1 10 = .ok (.iaload, 1) := by decide +kernel
theorem dX11_ofBurden_11 : decode m_X11_ofBurden.2.1 11 = .ok (.iconst 1, 1) := by decide +kernel
theorem dX11_ofBurden_12 : decode m_X11_ofBurden.2.1 12 = .ok (.isub, 1) := by decide +kernel
theorem dX11_ofBurden_13 : decode m_X11_ofBurden.2.1 13 = .ok (.istore 5, 2) := by decide +kernel
theorem dX11_ofBurden_15 : decode m_X11_ofBurden.2.1 15 = .ok (.iload 5, 2) := by decide +kernel
theorem dX11_ofBurden_17 : decode m_X11_ofBurden.2.1 17 = .ok (.ifCond .lt 73, 3) := by decide +kernel
theorem dX11_ofBurden_20 : decode m_X11_ofBurden.2.1 20 = .ok (.aload_n 0, 1) := by decide +kernel
theorem dX11_ofBurden_21 : decode m_X11_ofBurden.2.1 21 = .ok (.getfield 7, 3) := by decide +kernel
theorem dX11_ofBurden_24 : decode m_X11_ofBurden.2.1 24 = .ok (.sipush 310, 3) := by decide +kernel
theorem dX11_ofBurden_27 : decode m_X11_ofBurden.2.1 27 = .ok (.iload 5, 2) := by decide +kernel
theorem dX11_ofBurden_29 : decode m_X11_ofBurden.2.1 29 = .ok (.iadd, 1) := by decide +kernel
theorem dX11_ofBurden_30 : decode m_X11_ofBurden.2.1 30 = .ok (.iaload, 1) := by decide +kernel
theorem dX11_ofBurden_31 : decode m_X11_ofBurden.2.1 31 = .ok (.istore 6, 2) := by decide +kernel
theorem dX11_ofBurden_33 : decode m_X11_ofBurden.2.1 33 = .ok (.bipush 10, 2) := by decide +kernel
theorem dX11_ofBurden_35 : decode m_X11_ofBurden.2.1 35 = .ok (.iload_n 3, 1) := by decide +kernel
theorem dX11_ofBurden_36 : decode m_X11_ofBurden.2.1 36 = .ok (.bipush 10, 2) := by decide +kernel
theorem dX11_ofBurden_38 : decode m_X11_ofBurden.2.1 38 = .ok (.irem, 1) := by decide +kernel
theorem dX11_ofBurden_39 : decode m_X11_ofBurden.2.1 39 = .ok (.imul, 1) := by decide +kernel
theorem dX11_ofBurden_40 : decode m_X11_ofBurden.2.1 40 = .ok (.istore 7, 2) := by decide +kernel
theorem dX11_ofBurden_42 : decode m_X11_ofBurden.2.1 42 = .ok (.iload 4, 2) := by decide +kernel
theorem dX11_ofBurden_44 : decode m_X11_ofBurden.2.1 44 = .ok (.iload_n 2, 1) := by decide +kernel
theorem dX11_ofBurden_45 : decode m_X11_ofBurden.2.1 45 = .ok (.ifCond .ne 22, 3) := by decide +kernel
theorem dX11_ofBurden_48 : decode m_X11_ofBurden.2.1 48 = .ok (.iload 7, 2) := by decide +kernel
theorem dX11_ofBurden_50 : decode m_X11_ofBurden.2.1 50 = .ok (.aload_n 0, 1) := by decide +kernel
theorem dX11_ofBurden_51 : decode m_X11_ofBurden.2.1 51 = .ok (.getfield 7, 3) := by decide +kernel
theorem dX11_ofBurden_54 : decode m_X11_ofBurden.2.1 54 = .ok (.aload_n 0, 1) := by decide +kernel
theorem dX11_ofBurden_55 : decode m_X11_ofBurden.2.1 55 = .ok (.iload 6, 2) := by decide +kernel
theorem dX11_ofBurden_57 : decode m_X11_ofBurden.2.1 57 = .ok (.invokevirtual 86, 3) := by decide +kernel
theorem dX11_ofBurden_60 : decode m_X11_ofBurden.2.1 60 = .ok (.iconst 2, 1) := by decide +kernel
theorem dX11_ofBurden_61 : decode m_X11_ofBurden.2.1 61 = .ok (.iadd, 1) := by decide +kernel
theorem dX11_ofBurden_62 : decode m_X11_ofBurden.2.1 62 = .ok (.iaload, 1) := by decide +kernel
theorem dX11_ofBurden_63 : decode m_X11_ofBurden.2.1 63 = .ok (.imul, 1) := by decide +kernel
theorem dX11_ofBurden_64 : decode m_X11_ofBurden.2.1 64 = .ok (.goto 12, 3) := by decide +kernel
theorem dX11_ofBurden_67 : decode m_X11_ofBurden.2.1 67 = .ok (.aload_n 0, 1) := by decide +kernel
theorem dX11_ofBurden_68 : decode m_X11_ofBurden.2.1 68 = .ok (.iload 6, 2) := by decide +kernel
theorem dX11_ofBurden_70 : decode m_X11_ofBurden.2.1 70 = .ok (.iload 7, 2) := by decide +kernel
theorem dX11_ofBurden_72 : decode m_X11_ofBurden.2.1 72 = .ok (.iload_n 2, 1) := by decide +kernel
theorem dX11_ofBurden_73 : decode m_X11_ofBurden.2.1 73 = .ok (.invokevirtual 117, 3) := by decide +kernel
theorem dX11_ofBurden_76 : decode m_X11_ofBurden.2.1 76 = .ok (.iadd, 1) := by decide +kernel
theorem dX11_ofBurden_77 : decode m_X11_ofBurden.2.1 77 = .ok (.istore 4, 2) := by decide +kernel
theorem dX11_ofBurden_79 : decode m_X11_ofBurden.2.1 79 = .ok (.iload_n 3, 1) := by decide +kernel
theorem dX11_ofBurden_80 : decode m_X11_ofBurden.2.1 80 = .ok (.bipush 10, 2) := by decide +kernel
theorem dX11_ofBurden_82 : decode m_X11_ofBurden.2.1 82 = .ok (.idiv, 1) := by decide +kernel
theorem dX11_ofBurden_83 : decode m_X11_ofBurden.2.1 83 = .ok (.istore_n 3, 1) := by decide +kernel
theorem dX11_ofBurden_84 : decode m_X11_ofBurden.2.1 84 = .ok (.iinc 5 (-1), 3) := by decide +kernel
theorem dX11_ofBurden_87 : decode m_X11_ofBurden.2.1 87 = .ok (.goto (-72), 3) := by decide +kernel
theorem dX11_ofBurden_90 : decode m_X11_ofBurden.2.1 90 = .ok (.iload 4, 2) := by decide +kernel
theorem dX11_ofBurden_92 : decode m_X11_ofBurden.2.1 92 = .ok (.ireturn, 1) := by decide +kernel
theorem dX11_burden_0 : decode m_X11_burden.2.1 0 = .ok (.iload_n 2, 1) := by decide +kernel
theorem dX11_burden_1 : decode m_X11_burden.2.1 1 = .ok (.sipush 1000, 3) := by decide +kernel
theorem dX11_burden_4 : decode m_X11_burden.2.1 4 = .ok (.idiv, 1) := by decide +kernel
theorem dX11_burden_5 : decode m_X11_burden.2.1 5 = .ok (.istore 4, 2) := by decide +kernel
theorem dX11_burden_7 : decode m_X11_burden.2.1 7 = .ok (.iload_n 2, 1) := by decide +kernel
theorem dX11_burden_8 : decode m_X11_burden.2.1 8 = .ok (.sipush 1000, 3) := by decide +kernel
theorem dX11_burden_11 : decode m_X11_burden.2.1 11 = .ok (.irem, 1) := by decide +kernel
theorem dX11_burden_12 : decode m_X11_burden.2.1 12 = .ok (.istore 5, 2) := by decide +kernel
theorem dX11_burden_14 : decode m_X11_burden.2.1 14 = .ok (.iload_n 1, 1) := by decide +kernel
theorem dX11_burden_15 : decode m_X11_burden.2.1 15 = .ok (.i2l, 1) := by decide +kernel
theorem dX11_burden_16 : decode m_X11_burden.2.1 16 = .ok (.lconst 0, 1) := by decide +kernel
theorem dX11_burden_17 : decode m_X11_burden.2.1 17 = .ok (.ldc2_w 98, 3) := by decide +kernel
theorem dX11_burden_20 : decode m_X11_burden.2.1 20 = .ok (.invokestatic 78, 3) := by decide +kernel
theorem dX11_burden_23 : decode m_X11_burden.2.1 23 = .ok (.ifCond .eq 42, 3) := by decide +kernel
theorem dX11_burden_26 : decode m_X11_burden.2.1 26 = .ok (.iload_n 2, 1) := by decide +kernel
theorem dX11_burden_27 : decode m_X11_burden.2.1 27 = .ok (.i2l, 1) := by decide +kernel
theorem dX11_burden_28 : decode m_X11_burden.2.1 28 = .ok (.lconst 0, 1) := by decide +kernel
theorem dX11_burden_29 : decode m_X11_burden.2.1 29 = .ok (.ldc2_w 315, 3) := by decide +kernel
theorem dX11_burden_32 : decode m_X11_burden.2.1 32 = .ok (.invokestatic 78, 3) := by decide +kernel
theorem dX11_burden_35 : decode m_X11_burden.2.1 35 = .ok (.ifCond .eq 30, 3) := by decide +kernel
theorem dX11_burden_38 : decode m_X11_burden.2.1 38 = .ok (.iload 4, 2) := by decide +kernel
theorem dX11_burden_40 : decode m_X11_burden.2.1 40 = .ok (.iload 5, 2) := by decide +kernel
theorem dX11_burden_42 : decode m_X11_burden.2.1 42 = .ok (.if_icmp .gt 23, 3) := by decide +kernel
theorem dX11_burden_45 : decode m_X11_burden.2.1 45 = .ok (.iload_n 3, 1) := by decide +kernel
theorem dX11_burden_46 : decode m_X11_burden.2.1 46 = .ok (.i2l, 1) := by decide +kernel
theorem dX11_burden_47 : decode m_X11_burden.2.1 47 = .ok (.ldc2_w 132, 3) := by decide +kernel
theorem dX11_burden_50 : decode m_X11_burden.2.1 50 = .ok (.aload_n 0, 1) := by decide +kernel
theorem dX11_burden_51 : decode m_X11_burden.2.1 51 = .ok (.getfield 7, 3) := by decide +kernel
theorem dX11_burden_54 : decode m_X11_burden.2.1 54 = .ok (.iconst 3, 1) := by decide +kernel
theorem dX11_burden_55 : decode m_X11_burden.2.1 55 = .ok (.iaload, 1) := by decide +kernel
theorem dX11_burden_56 : decode m_X11_burden.2.1 56 = .ok (.iconst 1, 1) := by decide +kernel
theorem dX11_burden_57 : decode m_X11_burden.2.1 57 = .ok (.isub, 1) := by decide +kernel
theorem dX11_burden_58 : decode m_X11_burden.2.1 58 = .ok (.i2l, 1) := by decide +kernel
theorem dX11_burden_59 : decode m_X11_burden.2.1 59 = .ok (.invokestatic 78, 3) := by decide +kernel
theorem dX11_burden_62 : decode m_X11_burden.2.1 62 = .ok (.ifCond .ne 6, 3) := by decide +kernel
theorem dX11_burden_65 : decode m_X11_burden.2.1 65 = .ok (.ldc 100, 2) := by decide +kernel
theorem dX11_burden_67 : decode m_X11_burden.2.1 67 = .ok (.ireturn, 1) := by decide +kernel
theorem dX11_burden_68 : decode m_X11_burden.2.1 68 = .ok (.aload_n 0, 1) := by decide +kernel
theorem dX11_burden_69 : decode m_X11_burden.2.1 69 = .ok (.getfield 7, 3) := by decide +kernel
theorem dX11_burden_72 : decode m_X11_burden.2.1 72 = .ok (.iconst 3, 1) := by decide +kernel
theorem dX11_burden_73 : decode m_X11_burden.2.1 73 = .ok (.iaload, 1) := by decide +kernel
theorem dX11_burden_74 : decode m_X11_burden.2.1 74 = .ok (.ifCond .ne 7, 3) := by decide +kernel
theorem dX11_burden_77 : decode m_X11_burden.2.1 77 = .ok (.iconst 1, 1) := by decide +kernel
theorem dX11_burden_78 : decode m_X11_burden.2.1 78 = .ok (.goto 36, 3) := by decide +kernel
theorem dX11_burden_81 : decode m_X11_burden.2.1 81 = .ok (.aload_n 0, 1) := by decide +kernel
theorem dX11_burden_82 : decode m_X11_burden.2.1 82 = .ok (.getfield 7, 3) := by decide +kernel
theorem dX11_burden_85 : decode m_X11_burden.2.1 85 = .ok (.iconst 3, 1) := by decide +kernel
theorem dX11_burden_86 : decode m_X11_burden.2.1 86 = .ok (.iaload, 1) := by decide +kernel
theorem dX11_burden_87 : decode m_X11_burden.2.1 87 = .ok (.iconst 1, 1) := by decide +kernel
theorem dX11_burden_88 : decode m_X11_burden.2.1 88 = .ok (.if_icmp .ne 8, 3) := by decide +kernel
theorem dX11_burden_91 : decode m_X11_burden.2.1 91 = .ok (.bipush 10, 2) := by decide +kernel
theorem dX11_burden_93 : decode m_X11_burden.2.1 93 = .ok (.goto 21, 3) := by decide +kernel
theorem dX11_burden_96 : decode m_X11_burden.2.1 96 = .ok (.aload_n 0, 1) := by decide +kernel
theorem dX11_burden_97 : decode m_X11_burden.2.1 97 = .ok (.getfield 7, 3) := by decide +kernel
theorem dX11_burden_100 : decode m_X11_burden.2.1 100 = .ok (.iconst 3, 1) := by decide +kernel
theorem dX11_burden_101 : decode m_X11_burden.2.1 101 = .ok (.iaload, 1) := by decide +kernel
theorem dX11_burden_102 : decode m_X11_burden.2.1 102 = .ok (.iconst 2, 1) := by decide +kernel
theorem dX11_burden_103 : decode m_X11_burden.2.1 103 = .ok (.if_icmp .ne 8, 3) := by decide +kernel
theorem dX11_burden_106 : decode m_X11_burden.2.1 106 = .ok (.bipush 100, 2) := by decide +kernel
theorem dX11_burden_108 : decode m_X11_burden.2.1 108 = .ok (.goto 6, 3) := by decide +kernel
theorem dX11_burden_111 : decode m_X11_burden.2.1 111 = .ok (.sipush 1000, 3) := by decide +kernel
theorem dX11_burden_114 : decode m_X11_burden.2.1 114 = .ok (.istore 6, 2) := by decide +kernel
theorem dX11_burden_116 : decode m_X11_burden.2.1 116 = .ok (.iconst (-1), 1) := by decide +kernel
theorem dX11_burden_117 : decode m_X11_burden.2.1 117 = .ok (.istore 7, 2) := by decide +kernel
theorem dX11_burden_119 : decode m_X11_burden.2.1 119 = .ok (.iconst 0, 1) := by decide +kernel
theorem dX11_burden_120 : decode m_X11_burden.2.1 120 = .ok (.istore 8, 2) := by decide +kernel
theorem dX11_burden_122 : decode m_X11_burden.2.1 122 = .ok (.iconst 0, 1) := by decide +kernel
theorem dX11_burden_123 : decode m_X11_burden.2.1 123 = .ok (.istore 9, 2) := by decide +kernel
theorem dX11_burden_125 : decode m_X11_burden.2.1 125 = .ok (.iload 9, 2) := by decide +kernel
theorem dX11_burden_127 : decode m_X11_burden.2.1 127 = .ok (.iload 6, 2) := by decide +kernel
theorem dX11_burden_129 : decode m_X11_burden.2.1 129 = .ok (.if_icmp .ge 97, 3) := by decide +kernel
theorem dX11_burden_132 : decode m_X11_burden.2.1 132 = .ok (.aload_n 0, 1) := by decide +kernel
theorem dX11_burden_133 : decode m_X11_burden.2.1 133 = .ok (.iload 9, 2) := by decide +kernel
theorem dX11_burden_135 : decode m_X11_burden.2.1 135 = .ok (.iconst 0, 1) := by decide +kernel
theorem dX11_burden_136 : decode m_X11_burden.2.1 136 = .ok (.invokevirtual 317, 3) := by decide +kernel
theorem dX11_burden_139 : decode m_X11_burden.2.1 139 = .ok (.istore 10, 2) := by decide +kernel
theorem dX11_burden_141 : decode m_X11_burden.2.1 141 = .ok (.iload 7, 2) := by decide +kernel
theorem dX11_burden_143 : decode m_X11_burden.2.1 143 = .ok (.ifCond .lt 10, 3) := by decide +kernel
theorem dX11_burden_146 : decode m_X11_burden.2.1 146 = .ok (.iload 10, 2) := by decide +kernel
theorem dX11_burden_148 : decode m_X11_burden.2.1 148 = .ok (.iload 8, 2) := by decide +kernel
theorem dX11_burden_150 : decode m_X11_burden.2.1 150 = .ok (.if_icmp .ge 70, 3) := by decide +kernel
theorem dX11_burden_153 : decode m_X11_burden.2.1 153 = .ok (.aload_n 0, 1) := by decide +kernel
theorem dX11_burden_154 : decode m_X11_burden.2.1 154 = .ok (.iload 9, 2) := by decide +kernel
theorem dX11_burden_156 : decode m_X11_burden.2.1 156 = .ok (.iconst 2, 1) := by decide +kernel
theorem dX11_burden_157 : decode m_X11_burden.2.1 157 = .ok (.invokevirtual 317, 3) := by decide +kernel
theorem dX11_burden_160 : decode m_X11_burden.2.1 160 = .ok (.istore 11, 2) := by decide +kernel
theorem dX11_burden_162 : decode m_X11_burden.2.1 162 = .ok (.iload 11, 2) := by decide +kernel
theorem dX11_burden_164 : decode m_X11_burden.2.1 164 = .ok (.ifCond .ne 7, 3) := by decide +kernel
theorem dX11_burden_167 : decode m_X11_burden.2.1 167 = .ok (.iconst 0, 1) := by decide +kernel
theorem dX11_burden_168 : decode m_X11_burden.2.1 168 = .ok (.goto 16, 3) := by decide +kernel
theorem dX11_burden_171 : decode m_X11_burden.2.1 171 = .ok (.bipush 100, 2) := by decide +kernel
theorem dX11_burden_173 : decode m_X11_burden.2.1 173 = .ok (.aload_n 0, 1) := by decide +kernel
theorem dX11_burden_174 : decode m_X11_burden.2.1 174 = .ok (.iload 9, 2) := by decide +kernel
theorem dX11_burden_176 : decode m_X11_burden.2.1 176 = .ok (.iconst 3, 1) := by decide +kernel
theorem dX11_burden_177 : decode m_X11_burden.2.1 177 = .ok (.invokevirtual 317, 3) := by decide +kernel
theorem dX11_burden_180 : decode m_X11_burden.2.1 180 = .ok (.imul, 1) := by decide +kernel
theorem dX11_burden_181 : decode m_X11_burden.2.1 181 = .ok (.iload 11, 2) := by decide +kernel
theorem dX11_burden_183 : decode m_X11_burden.2.1 183 = .ok (.idiv, 1) := by decide +kernel
theorem dX11_burden_184 : decode m_X11_burden.2.1 184 = .ok (.istore 12, 2) := by decide +kernel
theorem dX11_burden_186 : decode m_X11_burden.2.1 186 = .ok (.aload_n 0, 1) := by decide +kernel
theorem dX11_burden_187 : decode m_X11_burden.2.1 187 = .ok (.iload 9, 2) := by decide +kernel
theorem dX11_burden_189 : decode m_X11_burden.2.1 189 = .ok (.iconst 1, 1) := by decide +kernel
theorem dX11_burden_190 : decode m_X11_burden.2.1 190 = .ok (.invokevirtual 317, 3) := by decide +kernel
theorem dX11_burden_193 : decode m_X11_burden.2.1 193 = .ok (.iload_n 1, 1) := by decide +kernel
theorem dX11_burden_194 : decode m_X11_burden.2.1 194 = .ok (.if_icmp .lt 26, 3) := by decide +kernel
theorem dX11_burden_197 : decode m_X11_burden.2.1 197 = .ok (.iload 12, 2) := by decide +kernel
theorem dX11_burden_199 : decode m_X11_burden.2.1 199 = .ok (.i2l, 1) := by decide +kernel
theorem dX11_burden_200 : decode m_X11_burden.2.1 200 = .ok (.iload 4, 2) := by decide +kernel
theorem dX11_burden_202 : decode m_X11_burden.2.1 202 = .ok (.i2l, 1) := by decide +kernel
theorem dX11_burden_203 : decode m_X11_burden.2.1 203 = .ok (.iload 5, 2) := by decide +kernel
theorem dX11_burden_205 : decode m_X11_burden.2.1 205 = .ok (.i2l, 1) := by decide +kernel
theorem dX11_burden_206 : decode m_X11_burden.2.1 206 = .ok (.invokestatic 78, 3) := by decide +kernel
theorem dX11_burden_209 : decode m_X11_burden.2.1 209 = .ok (.ifCond .eq 11, 3) := by decide +kernel
theorem dX11_burden_212 : decode m_X11_burden.2.1 212 = .ok (.iload 9, 2) := by decide +kernel
theorem dX11_burden_214 : decode m_X11_burden.2.1 214 = .ok (.istore 7, 2) := by decide +kernel
theorem dX11_burden_216 : decode m_X11_burden.2.1 216 = .ok (.iload 10, 2) := by decide +kernel
theorem dX11_burden_218 : decode m_X11_burden.2.1 218 = .ok (.istore 8, 2) := by decide +kernel
theorem dX11_burden_220 : decode m_X11_burden.2.1 220 = .ok (.iinc 9 1, 3) := by decide +kernel
theorem dX11_burden_223 : decode m_X11_burden.2.1 223 = .ok (.goto (-98), 3) := by decide +kernel
theorem dX11_burden_226 : decode m_X11_burden.2.1 226 = .ok (.iload 7, 2) := by decide +kernel
theorem dX11_burden_228 : decode m_X11_burden.2.1 228 = .ok (.ifCond .ge 6, 3) := by decide +kernel
theorem dX11_burden_231 : decode m_X11_burden.2.1 231 = .ok (.ldc 77, 2) := by decide +kernel
theorem dX11_burden_233 : decode m_X11_burden.2.1 233 = .ok (.ireturn, 1) := by decide +kernel
theorem dX11_burden_234 : decode m_X11_burden.2.1 234 = .ok (.iload 7, 2) := by decide +kernel
theorem dX11_burden_236 : decode m_X11_burden.2.1 236 = .ok (.istore 9, 2) := by decide +kernel
theorem dX11_burden_238 : decode m_X11_burden.2.1 238 = .ok (.aload_n 0, 1) := by decide +kernel
theorem dX11_burden_239 : decode m_X11_burden.2.1 239 = .ok (.getfield 7, 3) := by decide +kernel
theorem dX11_burden_242 : decode m_X11_burden.2.1 242 = .ok (.iconst 3, 1) := by decide +kernel
theorem dX11_burden_243 : decode m_X11_burden.2.1 243 = .ok (.iaload, 1) := by decide +kernel
theorem dX11_burden_244 : decode m_X11_burden.2.1 244 = .ok (.iconst 1, 1) := by decide +kernel
theorem dX11_burden_245 : decode m_X11_burden.2.1 245 = .ok (.isub, 1) := by decide +kernel
theorem dX11_burden_246 : decode m_X11_burden.2.1 246 = .ok (.istore 10, 2) := by decide +kernel
theorem dX11_burden_248 : decode m_X11_burden.2.1 248 = .ok (.iload 10, 2) := by decide +kernel
theorem dX11_burden_250 : decode m_X11_burden.2.1 250 = .ok (.iload_n 3, 1) := by decide +kernel
theorem dX11_burden_251 : decode m_X11_burden.2.1 251 = .ok (.if_icmp .le 16, 3) := by decide +kernel
theorem dX11_burden_254 : decode m_X11_burden.2.1 254 = .ok (.iload 9, 2) := by decide +kernel
theorem dX11_burden_256 : decode m_X11_burden.2.1 256 = .ok (.bipush 10, 2) := by decide +kernel
theorem dX11_burden_258 : decode m_X11_burden.2.1 258 = .ok (.idiv, 1) := by decide +kernel
theorem dX11_burden_259 : decode m_X11_burden.2.1 259 = .ok (.istore 9, 2) := by decide +kernel
theorem dX11_burden_261 : decode m_X11_burden.2.1 261 = .ok (.iinc 10 (-1), 3) := by decide +kernel
theorem dX11_burden_264 : decode m_X11_burden.2.1 264 = .ok (.goto (-16), 3) := by decide +kernel
theorem dX11_burden_267 : decode m_X11_burden.2.1 267 = .ok (.iload_n 3, 1) := by decide +kernel
theorem dX11_burden_268 : decode m_X11_burden.2.1 268 = .ok (.ifCond .ge 8, 3) := by decide +kernel
theorem dX11_burden_271 : decode m_X11_burden.2.1 271 = .ok (.iload 8, 2) := by decide +kernel
theorem dX11_burden_273 : decode m_X11_burden.2.1 273 = .ok (.goto 8, 3) := by decide +kernel
theorem dX11_burden_276 : decode m_X11_burden.2.1 276 = .ok (.iload 9, 2) := by decide +kernel
theorem dX11_burden_278 : decode m_X11_burden.2.1 278 = .ok (.bipush 10, 2) := by decide +kernel
theorem dX11_burden_280 : decode m_X11_burden.2.1 280 = .ok (.irem, 1) := by decide +kernel
theorem dX11_burden_281 : decode m_X11_burden.2.1 281 = .ok (.ireturn, 1) := by decide +kernel
theorem dX11_ladle_0 : decode m_X11_ladle.2.1 0 = .ok (.iload_n 1, 1) := by decide +kernel
theorem dX11_ladle_1 : decode m_X11_ladle.2.1 1 = .ok (.i2l, 1) := by decide +kernel
theorem dX11_ladle_2 : decode m_X11_ladle.2.1 2 = .ok (.lconst 1, 1) := by decide +kernel
theorem dX11_ladle_3 : decode m_X11_ladle.2.1 3 = .ok (.ldc2_w 109, 3) := by decide +kernel
theorem dX11_ladle_6 : decode m_X11_ladle.2.1 6 = .ok (.invokestatic 78, 3) := by decide +kernel
theorem dX11_ladle_9 : decode m_X11_ladle.2.1 9 = .ok (.ifCond .ne 6, 3) := by decide +kernel
theorem dX11_ladle_12 : decode m_X11_ladle.2.1 12 = .ok (.ldc 100, 2) := by decide +kernel
theorem dX11_ladle_14 : decode m_X11_ladle.2.1 14 = .ok (.ireturn, 1) := by decide +kernel
theorem dX11_ladle_15 : decode m_X11_ladle.2.1 15 = .ok (.aload_n 0, 1) := by decide +kernel
theorem dX11_ladle_16 : decode m_X11_ladle.2.1 16 = .ok (.getfield 7, 3) := by decide +kernel
theorem dX11_ladle_19 : decode m_X11_ladle.2.1 19 = .ok (.iconst 4, 1) := by decide +kernel
theorem dX11_ladle_20 : decode m_X11_ladle.2.1 20 = .ok (.iaload, 1) := by decide +kernel
theorem dX11_ladle_21 : decode m_X11_ladle.2.1 21 = .ok (.bipush 6, 2) := by decide +kernel
theorem dX11_ladle_23 : decode m_X11_ladle.2.1 23 = .ok (.if_icmp .ne 6, 3) := by decide +kernel
theorem dX11_ladle_26 : decode m_X11_ladle.2.1 26 = .ok (.ldc 101, 2) := by decide +kernel
theorem dX11_ladle_28 : decode m_X11_ladle.2.1 28 = .ok (.ireturn, 1) := by decide +kernel
theorem dX11_ladle_29 : decode m_X11_ladle.2.1 29 = .ok (.aload_n 0, 1) := by decide +kernel
theorem dX11_ladle_30 : decode m_X11_ladle.2.1 30 = .ok (.getfield 7, 3) := by decide +kernel
theorem dX11_ladle_33 : decode m_X11_ladle.2.1 33 = .ok (.aload_n 0, 1) := by decide +kernel
theorem dX11_ladle_34 : decode m_X11_ladle.2.1 34 = .ok (.aload_n 0, 1) := by decide +kernel
theorem dX11_ladle_35 : decode m_X11_ladle.2.1 35 = .ok (.getfield 7, 3) := by decide +kernel
theorem dX11_ladle_38 : decode m_X11_ladle.2.1 38 = .ok (.iconst 4, 1) := by decide +kernel
theorem dX11_ladle_39 : decode m_X11_ladle.2.1 39 = .ok (.iaload, 1) := by decide +kernel
theorem dX11_ladle_40 : decode m_X11_ladle.2.1 40 = .ok (.invokevirtual 320, 3) := by decide +kernel
theorem dX11_ladle_43 : decode m_X11_ladle.2.1 43 = .ok (.iload_n 1, 1) := by decide +kernel
theorem dX11_ladle_44 : decode m_X11_ladle.2.1 44 = .ok (.iastore, 1) := by decide +kernel
theorem dX11_ladle_45 : decode m_X11_ladle.2.1 45 = .ok (.aload_n 0, 1) := by decide +kernel
theorem dX11_ladle_46 : decode m_X11_ladle.2.1 46 = .ok (.getfield 7, 3) := by decide +kernel
theorem dX11_ladle_49 : decode m_X11_ladle.2.1 49 = .ok (.aload_n 0, 1) := by decide +kernel
theorem dX11_ladle_50 : decode m_X11_ladle.2.1 50 = .ok (.aload_n 0, 1) := by decide +kernel
theorem dX11_ladle_51 : decode m_X11_ladle.2.1 51 = .ok (.getfield 7, 3) := by decide +kernel
theorem dX11_ladle_54 : decode m_X11_ladle.2.1 54 = .ok (.iconst 4, 1) := by decide +kernel
theorem dX11_ladle_55 : decode m_X11_ladle.2.1 55 = .ok (.iaload, 1) := by decide +kernel
theorem dX11_ladle_56 : decode m_X11_ladle.2.1 56 = .ok (.invokevirtual 320, 3) := by decide +kernel
theorem dX11_ladle_59 : decode m_X11_ladle.2.1 59 = .ok (.iconst 1, 1) := by decide +kernel
theorem dX11_ladle_60 : decode m_X11_ladle.2.1 60 = .ok (.iadd, 1) := by decide +kernel
theorem dX11_ladle_61 : decode m_X11_ladle.2.1 61 = .ok (.iconst 0, 1) := by decide +kernel
theorem dX11_ladle_62 : decode m_X11_ladle.2.1 62 = .ok (.iastore, 1) := by decide +kernel
theorem dX11_ladle_63 : decode m_X11_ladle.2.1 63 = .ok (.aload_n 0, 1) := by decide +kernel
theorem dX11_ladle_64 : decode m_X11_ladle.2.1 64 = .ok (.getfield 7, 3) := by decide +kernel
theorem dX11_ladle_67 : decode m_X11_ladle.2.1 67 = .ok (.iconst 4, 1) := by decide +kernel
theorem dX11_ladle_68 : decode m_X11_ladle.2.1 68 = .ok (.dup2, 1) := by decide +kernel
theorem dX11_ladle_69 : decode m_X11_ladle.2.1 69 = .ok (.iaload, 1) := by decide +kernel
theorem dX11_ladle_70 : decode m_X11_ladle.2.1 70 = .ok (.iconst 1, 1) := by decide +kernel
theorem dX11_ladle_71 : decode m_X11_ladle.2.1 71 = .ok (.iadd, 1) := by decide +kernel
theorem dX11_ladle_72 : decode m_X11_ladle.2.1 72 = .ok (.iastore, 1) := by decide +kernel
theorem dX11_ladle_73 : decode m_X11_ladle.2.1 73 = .ok (.aload_n 0, 1) := by decide +kernel
theorem dX11_ladle_74 : decode m_X11_ladle.2.1 74 = .ok (.getfield 7, 3) := by decide +kernel
theorem dX11_ladle_77 : decode m_X11_ladle.2.1 77 = .ok (.iconst 4, 1) := by decide +kernel
theorem dX11_ladle_78 : decode m_X11_ladle.2.1 78 = .ok (.iaload, 1) := by decide +kernel
theorem dX11_ladle_79 : decode m_X11_ladle.2.1 79 = .ok (.iconst 1, 1) := by decide +kernel
theorem dX11_ladle_80 : decode m_X11_ladle.2.1 80 = .ok (.isub, 1) := by decide +kernel
theorem dX11_ladle_81 : decode m_X11_ladle.2.1 81 = .ok (.ireturn, 1) := by decide +kernel
theorem dX11_backAt_0 : decode m_X11_backAt.2.1 0 = .ok (.iload_n 1, 1) := by decide +kernel
theorem dX11_backAt_1 : decode m_X11_backAt.2.1 1 = .ok (.i2l, 1) := by decide +kernel
theorem dX11_backAt_2 : decode m_X11_backAt.2.1 2 = .ok (.lconst 0, 1) := by decide +kernel
theorem dX11_backAt_3 : decode m_X11_backAt.2.1 3 = .ok (.aload_n 0, 1) := by decide +kernel
theorem dX11_backAt_4 : decode m_X11_backAt.2.1 4 = .ok (.getfield 7, 3) := by decide +kernel
theorem dX11_backAt_7 : decode m_X11_backAt.2.1 7 = .ok (.iconst 4, 1) := by decide +kernel
theorem dX11_backAt_8 : decode m_X11_backAt.2.1 8 = .ok (.iaload, 1) := by decide +kernel
theorem dX11_backAt_9 : decode m_X11_backAt.2.1 9 = .ok (.iconst 1, 1) := by decide +kernel
theorem dX11_backAt_10 : decode m_X11_backAt.2.1 10 = .ok (.isub, 1) := by decide +kernel
theorem dX11_backAt_11 : decode m_X11_backAt.2.1 11 = .ok (.i2l, 1) := by decide +kernel
theorem dX11_backAt_12 : decode m_X11_backAt.2.1 12 = .ok (.invokestatic 78, 3) := by decide +kernel
theorem dX11_backAt_15 : decode m_X11_backAt.2.1 15 = .ok (.ifCond .eq 24, 3) := by decide +kernel
theorem dX11_backAt_18 : decode m_X11_backAt.2.1 18 = .ok (.ldc_w 323, 3) := by decide +kernel
theorem dX11_backAt_21 : decode m_X11_backAt.2.1 21 = .ok (.aload_n 0, 1) := by decide +kernel
theorem dX11_backAt_22 : decode m_X11_backAt.2.1 22 = .ok (.getfield 7, 3) := by decide +kernel
theorem dX11_backAt_25 : decode m_X11_backAt.2.1 25 = .ok (.aload_n 0, 1) := by decide +kernel
theorem dX11_backAt_26 : decode m_X11_backAt.2.1 26 = .ok (.iload_n 1, 1) := by decide +kernel
theorem dX11_backAt_27 : decode m_X11_backAt.2.1 27 = .ok (.invokevirtual 320, 3) := by decide +kernel
theorem dX11_backAt_30 : decode m_X11_backAt.2.1 30 = .ok (.iconst 1, 1) := by decide +kernel
theorem dX11_backAt_31 : decode m_X11_backAt.2.1 31 = .ok (.iadd, 1) := by decide +kernel
theorem dX11_backAt_32 : decode m_X11_backAt.2.1 32 = .ok (.iaload, 1) := by decide +kernel
theorem dX11_backAt_33 : decode m_X11_backAt.2.1 33 = .ok (.invokestatic 190, 3) := by decide +kernel
theorem dX11_backAt_36 : decode m_X11_backAt.2.1 36 = .ok (.goto 5, 3) := by decide +kernel
theorem dX11_backAt_39 : decode m_X11_backAt.2.1 39 = .ok (.ldc 100, 2) := by decide +kernel
theorem dX11_backAt_41 : decode m_X11_backAt.2.1 41 = .ok (.ireturn, 1) := by decide +kernel
theorem dX11_pour_0 : decode m_X11_pour.2.1 0 = .ok (.iload_n 1, 1) := by decide +kernel
theorem dX11_pour_1 : decode m_X11_pour.2.1 1 = .ok (.i2l, 1) := by decide +kernel
theorem dX11_pour_2 : decode m_X11_pour.2.1 2 = .ok (.lconst 1, 1) := by decide +kernel
theorem dX11_pour_3 : decode m_X11_pour.2.1 3 = .ok (.ldc2_w 98, 3) := by decide +kernel
theorem dX11_pour_6 : decode m_X11_pour.2.1 6 = .ok (.invokestatic 78, 3) := by decide +kernel
theorem dX11_pour_9 : decode m_X11_pour.2.1 9 = .ok (.ifCond .eq 15, 3) := by decide +kernel
theorem dX11_pour_12 : decode m_X11_pour.2.1 12 = .ok (.iload_n 2, 1) := by decide +kernel
theorem dX11_pour_13 : decode m_X11_pour.2.1 13 = .ok (.i2l, 1) := by decide +kernel
theorem dX11_pour_14 : decode m_X11_pour.2.1 14 = .ok (.lconst 0, 1) := by decide +kernel
theorem dX11_pour_15 : decode m_X11_pour.2.1 15 = .ok (.ldc2_w 98, 3) := by decide +kernel
theorem dX11_pour_18 : decode m_X11_pour.2.1 18 = .ok (.invokestatic 78, 3) := by decide +kernel
theorem dX11_pour_21 : decode m_X11_pour.2.1 21 = .ok (.ifCond .ne 6, 3) := by decide +kernel
theorem dX11_pour_24 : decode m_X11_pour.2.1 24 = .ok (.ldc 100, 2) := by decide +kernel
theorem dX11_pour_26 : decode m_X11_pour.2.1 26 = .ok (.ireturn, 1) := by decide +kernel
theorem dX11_pour_27 : decode m_X11_pour.2.1 27 = .ok (.aload_n 0, 1) := by decide +kernel
theorem dX11_pour_28 : decode m_X11_pour.2.1 28 = .ok (.getfield 7, 3) := by decide +kernel
theorem dX11_pour_31 : decode m_X11_pour.2.1 31 = .ok (.iconst 4, 1) := by decide +kernel
theorem dX11_pour_32 : decode m_X11_pour.2.1 32 = .ok (.iaload, 1) := by decide +kernel
theorem dX11_pour_33 : decode m_X11_pour.2.1 33 = .ok (.ifCond .eq 14, 3) := by decide +kernel
theorem dX11_pour_36 : decode m_X11_pour.2.1 36 = .ok (.aload_n 0, 1) := by decide +kernel
theorem dX11_pour_37 : decode m_X11_pour.2.1 37 = .ok (.getfield 7, 3) := by decide +kernel
theorem dX11_pour_40 : decode m_X11_pour.2.1 40 = .ok (.bipush 9, 2) := by decide +kernel
theorem dX11_pour_42 : decode m_X11_pour.2.1 42 = .ok (.iaload, 1) := by decide +kernel
theorem dX11_pour_43 : decode m_X11_pour.2.1 43 = .ok (.iload_n 1, 1) := by decide +kernel
theorem dX11_pour_44 : decode m_X11_pour.2.1 44 = .ok (.if_icmp .ge 6, 3) := by decide +kernel
theorem dX11_pour_47 : decode m_X11_pour.2.1 47 = .ok (.ldc 153, 2) := by decide +kernel
theorem dX11_pour_49 : decode m_X11_pour.2.1 49 = .ok (.ireturn, 1) := by decide +kernel
theorem dX11_pour_50 : decode m_X11_pour.2.1 50 = .ok (.aload_n 0, 1) := by decide +kernel
theorem dX11_pour_51 : decode m_X11_pour.2.1 51 = .ok (.iload_n 1, 1) := by decide +kernel
theorem dX11_pour_52 : decode m_X11_pour.2.1 52 = .ok (.invokevirtual 209, 3) := by decide +kernel
theorem dX11_pour_55 : decode m_X11_pour.2.1 55 = .ok (.iload_n 2, 1) := by decide +kernel
theorem dX11_pour_56 : decode m_X11_pour.2.1 56 = .ok (.istore_n 3, 1) := by decide +kernel
theorem dX11_pour_57 : decode m_X11_pour.2.1 57 = .ok (.iconst 0, 1) := by decide +kernel
theorem dX11_pour_58 : decode m_X11_pour.2.1 58 = .ok (.istore 4, 2) := by decide +kernel
theorem dX11_pour_60 : decode m_X11_pour.2.1 60 = .ok (.iconst 0, 1) := by decide +kernel
theorem dX11_pour_61 : decode m_X11_pour.2.1 61 = .ok (.istore 5, 2) := by decide +kernel
theorem dX11_pour_63 : decode m_X11_pour.2.1 63 = .ok (.iload_n 1, 1) := by decide +kernel
theorem dX11_pour_64 : decode m_X11_pour.2.1 64 = .ok (.istore 6, 2) := by decide +kernel
theorem dX11_pour_66 : decode m_X11_pour.2.1 66 = .ok (.iload 6, 2) := by decide +kernel
theorem dX11_pour_68 : decode m_X11_pour.2.1 68 = .ok (.ifCond .le 160, 3) := by decide +kernel
theorem dX11_pour_71 : decode m_X11_pour.2.1 71 = .ok (.iconst 0, 1) := by decide +kernel
theorem dX11_pour_72 : decode m_X11_pour.2.1 72 = .ok (.istore 7, 2) := by decide +kernel
theorem dX11_pour_74 : decode m_X11_pour.2.1 74 = .ok (.iconst 1, 1) := by decide +kernel
theorem dX11_pour_75 : decode m_X11_pour.2.1 75 = .ok (.istore 8, 2) := by decide +kernel
theorem dX11_pour_77 : decode m_X11_pour.2.1 77 = .ok (.iload 8, 2) := by decide +kernel
theorem dX11_pour_79 : decode m_X11_pour.2.1 79 = .ok (.aload_n 0, 1) := by decide +kernel
theorem dX11_pour_80 : decode m_X11_pour.2.1 80 = .ok (.getfield 7, 3) := by decide +kernel
theorem dX11_pour_83 : decode m_X11_pour.2.1 83 = .ok (.iconst 4, 1) := by decide +kernel
theorem dX11_pour_84 : decode m_X11_pour.2.1 84 = .ok (.iaload, 1) := by decide +kernel
theorem dX11_pour_85 : decode m_X11_pour.2.1 85 = .ok (.if_icmp .ge 47, 3) := by decide +kernel
theorem dX11_pour_88 : decode m_X11_pour.2.1 88 = .ok (.aload_n 0, 1) := by decide +kernel
theorem dX11_pour_89 : decode m_X11_pour.2.1 89 = .ok (.getfield 7, 3) := by decide +kernel
theorem dX11_pour_92 : decode m_X11_pour.2.1 92 = .ok (.aload_n 0, 1) := by decide +kernel
theorem dX11_pour_93 : decode m_X11_pour.2.1 93 = .ok (.iload 8, 2) := by decide +kernel
theorem dX11_pour_95 : decode m_X11_pour.2.1 95 = .ok (.invokevirtual 320, 3) := by decide +kernel
theorem dX11_pour_98 : decode m_X11_pour.2.1 98 = .ok (.iconst 1, 1) := by decide +kernel
theorem dX11_pour_99 : decode m_X11_pour.2.1 99 = .ok (.iadd, 1) := by decide +kernel
theorem dX11_pour_100 : decode m_X11_pour.2.1 100 = .ok (.iaload, 1) := by decide +kernel
theorem dX11_pour_101 : decode m_X11_pour.2.1 101 = .ok (.aload_n 0, 1) := by decide +kernel
theorem dX11_pour_102 : decode m_X11_pour.2.1 102 = .ok (.getfield 7, 3) := by decide +kernel
theorem dX11_pour_105 : decode m_X11_pour.2.1 105 = .ok (.aload_n 0, 1) := by decide +kernel
theorem dX11_pour_106 : decode m_X11_pour.2.1 106 = .ok (.iload 7, 2) := by decide +kernel
theorem dX11_pour_108 : decode m_X11_pour.2.1 108 = .ok (.invokevirtual 320, 3) := by decide +kernel
theorem dX11_pour_111 : decode m_X11_pour.2.1 111 = .ok (.iconst 1, 1) := by decide +kernel
theorem dX11_pour_112 : decode m_X11_pour.2.1 112 = .ok (.iadd, 1) := by decide +kernel
theorem dX11_pour_113 : decode m_X11_pour.2.1 113 = .ok (.iaload, 1) := by decide +kernel
theorem dX11_pour_114 : decode m_X11_pour.2.1 114 = .ok (.if_icmp .ge 8, 3) := by decide +kernel
theorem dX11_pour_117 : decode m_X11_pour.2.1 117 = .ok (.iload 8, 2) := by decide +kernel
theorem dX11_pour_119 : decode m_X11_pour.2.1 119 = .ok (.goto 5, 3) := by decide +kernel
theorem dX11_pour_122 : decode m_X11_pour.2.1 122 = .ok (.iload 7, 2) := by decide +kernel
theorem dX11_pour_124 : decode m_X11_pour.2.1 124 = .ok (.istore 7, 2) := by decide +kernel
theorem dX11_pour_126 : decode m_X11_pour.2.1 126 = .ok (.iinc 8 1, 3) := by decide +kernel
theorem dX11_pour_129 : decode m_X11_pour.2.1 129 = .ok (.goto (-52), 3) := by decide +kernel
theorem dX11_pour_132 : decode m_X11_pour.2.1 132 = .ok (.aload_n 0, 1) := by decide +kernel
theorem dX11_pour_133 : decode m_X11_pour.2.1 133 = .ok (.iload 7, 2) := by decide +kernel
theorem dX11_pour_135 : decode m_X11_pour.2.1 135 = .ok (.invokevirtual 320, 3) := by decide +kernel
theorem dX11_pour_138 : decode m_X11_pour.2.1 138 = .ok (.istore 8, 2) := by decide +kernel
theorem dX11_pour_140 : decode m_X11_pour.2.1 140 = .ok (.aload_n 0, 1) := by decide +kernel
theorem dX11_pour_141 : decode m_X11_pour.2.1 141 = .ok (.getfield 7, 3) := by decide +kernel
theorem dX11_pour_144 : decode m_X11_pour.2.1 144 = .ok (.iload 8, 2) := by decide +kernel
theorem dX11_pour_146 : decode m_X11_pour.2.1 146 = .ok (.iconst 1, 1) := by decide +kernel
theorem dX11_pour_147 : decode m_X11_pour.2.1 147 = .ok (.iadd, 1) := by decide +kernel
theorem dX11_pour_148 : decode m_X11_pour.2.1 148 = .ok (.iaload, 1) := by decide +kernel
theorem dX11_pour_149 : decode m_X11_pour.2.1 149 = .ok (.iload_n 3, 1) := by decide +kernel
theorem dX11_pour_150 : decode m_X11_pour.2.1 150 = .ok (.if_icmp .le 15, 3) := by decide +kernel
theorem dX11_pour_153 : decode m_X11_pour.2.1 153 = .ok (.aload_n 0, 1) := by decide +kernel
theorem dX11_pour_154 : decode m_X11_pour.2.1 154 = .ok (.getfield 7, 3) := by decide +kernel
theorem dX11_pour_157 : decode m_X11_pour.2.1 157 = .ok (.iload 8, 2) := by decide +kernel
theorem dX11_pour_159 : decode m_X11_pour.2.1 159 = .ok (.iconst 1, 1) := by decide +kernel
theorem dX11_pour_160 : decode m_X11_pour.2.1 160 = .ok (.iadd, 1) := by decide +kernel
theorem dX11_pour_161 : decode m_X11_pour.2.1 161 = .ok (.iaload, 1) := by decide +kernel
theorem dX11_pour_162 : decode m_X11_pour.2.1 162 = .ok (.goto 4, 3) := by decide +kernel
theorem dX11_pour_165 : decode m_X11_pour.2.1 165 = .ok (.iload_n 3, 1) := by decide +kernel
theorem dX11_pour_166 : decode m_X11_pour.2.1 166 = .ok (.istore 9, 2) := by decide +kernel
theorem dX11_pour_168 : decode m_X11_pour.2.1 168 = .ok (.iload 6, 2) := by decide +kernel
theorem dX11_pour_170 : decode m_X11_pour.2.1 170 = .ok (.aload_n 0, 1) := by decide +kernel
theorem dX11_pour_171 : decode m_X11_pour.2.1 171 = .ok (.getfield 7, 3) := by decide +kernel
theorem dX11_pour_174 : decode m_X11_pour.2.1 174 = .ok (.iload 8, 2) := by decide +kernel
theorem dX11_pour_176 : decode m_X11_pour.2.1 176 = .ok (.iaload, 1) := by decide +kernel
theorem dX11_pour_177 : decode m_X11_pour.2.1 177 = .ok (.invokestatic 190, 3) := by decide +kernel
theorem dX11_pour_180 : decode m_X11_pour.2.1 180 = .ok (.istore 10, 2) := by decide +kernel
theorem dX11_pour_182 : decode m_X11_pour.2.1 182 = .ok (.iload 4, 2) := by decide +kernel
theorem dX11_pour_184 : decode m_X11_pour.2.1 184 = .ok (.iload 9, 2) := by decide +kernel
theorem dX11_pour_186 : decode m_X11_pour.2.1 186 = .ok (.iload_n 3, 1) := by decide +kernel
theorem dX11_pour_187 : decode m_X11_pour.2.1 187 = .ok (.isub, 1) := by decide +kernel
theorem dX11_pour_188 : decode m_X11_pour.2.1 188 = .ok (.iadd, 1) := by decide +kernel
theorem dX11_pour_189 : decode m_X11_pour.2.1 189 = .ok (.istore 4, 2) := by decide +kernel
theorem dX11_pour_191 : decode m_X11_pour.2.1 191 = .ok (.iload 9, 2) := by decide +kernel
theorem dX11_pour_193 : decode m_X11_pour.2.1 193 = .ok (.iload 10, 2) := by decide +kernel
theorem dX11_pour_195 : decode m_X11_pour.2.1 195 = .ok (.iadd, 1) := by decide +kernel
theorem dX11_pour_196 : decode m_X11_pour.2.1 196 = .ok (.istore_n 3, 1) := by decide +kernel
theorem dX11_pour_197 : decode m_X11_pour.2.1 197 = .ok (.aload_n 0, 1) := by decide +kernel
theorem dX11_pour_198 : decode m_X11_pour.2.1 198 = .ok (.getfield 7, 3) := by decide +kernel
theorem dX11_pour_201 : decode m_X11_pour.2.1 201 = .ok (.iload 8, 2) := by decide +kernel
theorem dX11_pour_203 : decode m_X11_pour.2.1 203 = .ok (.iconst 1, 1) := by decide +kernel
theorem dX11_pour_204 : decode m_X11_pour.2.1 204 = .ok (.iadd, 1) := by decide +kernel
theorem dX11_pour_205 : decode m_X11_pour.2.1 205 = .ok (.iload_n 3, 1) := by decide +kernel
theorem dX11_pour_206 : decode m_X11_pour.2.1 206 = .ok (.aload_n 0, 1) := by decide +kernel
theorem dX11_pour_207 : decode m_X11_pour.2.1 207 = .ok (.getfield 7, 3) := by decide +kernel
theorem dX11_pour_210 : decode m_X11_pour.2.1 210 = .ok (.bipush 8, 2) := by decide +kernel
theorem dX11_pour_212 : decode m_X11_pour.2.1 212 = .ok (.iaload, 1) := by decide +kernel
theorem dX11_pour_213 : decode m_X11_pour.2.1 213 = .ok (.iadd, 1) := by decide +kernel
theorem dX11_pour_214 : decode m_X11_pour.2.1 214 = .ok (.iastore, 1) := by decide +kernel
theorem dX11_pour_215 : decode m_X11_pour.2.1 215 = .ok (.iload 6, 2) := by decide +kernel
theorem dX11_pour_217 : decode m_X11_pour.2.1 217 = .ok (.iload 10, 2) := by decide +kernel
theorem dX11_pour_219 : decode m_X11_pour.2.1 219 = .ok (.isub, 1) := by decide +kernel
theorem dX11_pour_220 : decode m_X11_pour.2.1 220 = .ok (.istore 6, 2) := by decide +kernel
theorem dX11_pour_222 : decode m_X11_pour.2.1 222 = .ok (.iinc 5 1, 3) := by decide +kernel
theorem dX11_pour_225 : decode m_X11_pour.2.1 225 = .ok (.goto (-159), 3) := by decide +kernel
theorem dX11_pour_228 : decode m_X11_pour.2.1 228 = .ok (.aload_n 0, 1) := by decide +kernel
theorem dX11_pour_229 : decode m_X11_pour.2.1 229 = .ok (.bipush 7, 2) := by decide +kernel
theorem dX11_pour_231 : decode m_X11_pour.2.1 231 = .ok (.invokevirtual 165, 3) := by decide +kernel
theorem dX11_pour_234 : decode m_X11_pour.2.1 234 = .ok (.istore 6, 2) := by decide +kernel
theorem dX11_pour_236 : decode m_X11_pour.2.1 236 = .ok (.aload_n 0, 1) := by decide +kernel
theorem dX11_pour_237 : decode m_X11_pour.2.1 237 = .ok (.getfield 62, 3) := by decide +kernel
theorem dX11_pour_240 : decode m_X11_pour.2.1 240 = .ok (.bipush 104, 2) := by decide +kernel
theorem dX11_pour_242 : decode m_X11_pour.2.1 242 = .ok (.aload_n 0, 1) := by decide +kernel
theorem dX11_pour_243 : decode m_X11_pour.2.1 243 = .ok (.getfield 7, 3) := by decide +kernel
theorem dX11_pour_246 : decode m_X11_pour.2.1 246 = .ok (.iconst 5, 1) := by decide +kernel
theorem dX11_pour_247 : decode m_X11_pour.2.1 247 = .ok (.iaload, 1) := by decide +kernel
theorem dX11_pour_248 : decode m_X11_pour.2.1 248 = .ok (.iastore, 1) := by decide +kernel
theorem dX11_pour_249 : decode m_X11_pour.2.1 249 = .ok (.aload_n 0, 1) := by decide +kernel
theorem dX11_pour_250 : decode m_X11_pour.2.1 250 = .ok (.getfield 62, 3) := by decide +kernel
theorem dX11_pour_253 : decode m_X11_pour.2.1 253 = .ok (.bipush 99, 2) := by decide +kernel
theorem dX11_pour_255 : decode m_X11_pour.2.1 255 = .ok (.iload 5, 2) := by decide +kernel
theorem dX11_pour_257 : decode m_X11_pour.2.1 257 = .ok (.iastore, 1) := by decide +kernel
theorem dX11_pour_258 : decode m_X11_pour.2.1 258 = .ok (.iload 4, 2) := by decide +kernel
theorem dX11_pour_260 : decode m_X11_pour.2.1 260 = .ok (.iload 6, 2) := by decide +kernel
theorem dX11_pour_262 : decode m_X11_pour.2.1 262 = .ok (.ifCond .ge 7, 3) := by decide +kernel
theorem dX11_pour_265 : decode m_X11_pour.2.1 265 = .ok (.iconst 0, 1) := by decide +kernel
theorem dX11_pour_266 : decode m_X11_pour.2.1 266 = .ok (.goto 15, 3) := by decide +kernel
theorem dX11_pour_269 : decode m_X11_pour.2.1 269 = .ok (.aload_n 0, 1) := by decide +kernel
theorem dX11_pour_270 : decode m_X11_pour.2.1 270 = .ok (.iload 6, 2) := by decide +kernel
theorem dX11_pour_272 : decode m_X11_pour.2.1 272 = .ok (.invokevirtual 172, 3) := by decide +kernel
theorem dX11_pour_275 : decode m_X11_pour.2.1 275 = .ok (.sipush 999, 3) := by decide +kernel
theorem dX11_pour_278 : decode m_X11_pour.2.1 278 = .ok (.invokestatic 175, 3) := by decide +kernel
theorem dX11_pour_281 : decode m_X11_pour.2.1 281 = .ok (.iadd, 1) := by decide +kernel
theorem dX11_pour_282 : decode m_X11_pour.2.1 282 = .ok (.ireturn, 1) := by decide +kernel
theorem dX11_isSheet_0 : decode m_X11_isSheet.2.1 0 = .ok (.iload_n 0, 1) := by decide +kernel
theorem dX11_isSheet_1 : decode m_X11_isSheet.2.1 1 = .ok (.i2l, 1) := by decide +kernel
theorem dX11_isSheet_2 : decode m_X11_isSheet.2.1 2 = .ok (.lconst 0, 1) := by decide +kernel
theorem dX11_isSheet_3 : decode m_X11_isSheet.2.1 3 = .ok (.ldc2_w 111, 3) := by decide +kernel
theorem dX11_isSheet_6 : decode m_X11_isSheet.2.1 6 = .ok (.invokestatic 78, 3) := by decide +kernel
theorem dX11_isSheet_9 : decode m_X11_isSheet.2.1 9 = .ok (.ireturn, 1) := by decide +kernel
theorem dX11_sheet_0 : decode m_X11_sheet.2.1 0 = .ok (.iload_n 1, 1) := by decide +kernel
theorem dX11_sheet_1 : decode m_X11_sheet.2.1 1 = .ok (.invokestatic 324, 3) := by decide +kernel
theorem dX11_sheet_4 : decode m_X11_sheet.2.1 4 = .ok (.ifCond .eq 25, 3) := by decide +kernel
theorem dX11_sheet_7 : decode m_X11_sheet.2.1 7 = .ok (.iload_n 2, 1) := by decide +kernel
theorem dX11_sheet_8 : decode m_X11_sheet.2.1 8 = .ok (.i2l, 1) := by decide +kernel
theorem dX11_sheet_9 : decode m_X11_sheet.2.1 9 = .ok (.ldc2_w 132, 3) := by decide +kernel
theorem dX11_sheet_12 : decode m_X11_sheet.2.1 12 = .ok (.lconst 1, 1) := by decide +kernel
theorem dX11_sheet_13 : decode m_X11_sheet.2.1 13 = .ok (.invokestatic 78, 3) := by decide +kernel
theorem dX11_sheet_16 : decode m_X11_sheet.2.1 16 = .ok (.ifCond .eq 13, 3) := by decide +kernel
theorem dX11_sheet_19 : decode m_X11_sheet.2.1 19 = .ok (.iload_n 2, 1) := by decide +kernel
theorem dX11_sheet_20 : decode m_X11_sheet.2.1 20 = .ok (.ifCond .lt 12, 3) := by decide +kernel
theorem dX11_sheet_23 : decode m_X11_sheet.2.1 23 = .ok (.iload_n 3, 1) := by decide +kernel
theorem dX11_sheet_24 : decode m_X11_sheet.2.1 24 = .ok (.bipush 24, 2) := by decide +kernel
theorem dX11_sheet_26 : decode m_X11_sheet.2.1 26 = .ok (.if_icmp .le 6, 3) := by decide +kernel
theorem dX11_sheet_29 : decode m_X11_sheet.2.1 29 = .ok (.ldc 100, 2) := by decide +kernel
theorem dX11_sheet_31 : decode m_X11_sheet.2.1 31 = .ok (.ireturn, 1) := by decide +kernel
theorem dX11_sheet_32 : decode m_X11_sheet.2.1 32 = .ok (.iload_n 2, 1) := by decide +kernel
theorem dX11_sheet_33 : decode m_X11_sheet.2.1 33 = .ok (.ifCond .lt 11, 3) := by decide +kernel
theorem dX11_sheet_36 : decode m_X11_sheet.2.1 36 = .ok (.iload_n 3, 1) := by decide +kernel
theorem dX11_sheet_37 : decode m_X11_sheet.2.1 37 = .ok (.ifCond .ge 7, 3) := by decide +kernel
theorem dX11_sheet_40 : decode m_X11_sheet.2.1 40 = .ok (.ldc_w 327, 3) := by decide +kernel
theorem dX11_sheet_43 : decode m_X11_sheet.2.1 43 = .ok (.ireturn, 1) := by decide +kernel
theorem dX11_sheet_44 : decode m_X11_sheet.2.1 44 = .ok (.aload_n 0, 1) := by decide +kernel
theorem dX11_sheet_45 : decode m_X11_sheet.2.1 45 = .ok (.getfield 19, 3) := by decide +kernel
theorem dX11_sheet_48 : decode m_X11_sheet.2.1 48 = .ok (.iload_n 1, 1) := by decide +kernel
theorem dX11_sheet_49 : decode m_X11_sheet.2.1 49 = .ok (.iload_n 2, 1) := by decide +kernel
theorem dX11_sheet_50 : decode m_X11_sheet.2.1 50 = .ok (.iastore, 1) := by decide +kernel
theorem dX11_sheet_51 : decode m_X11_sheet.2.1 51 = .ok (.aload_n 0, 1) := by decide +kernel
theorem dX11_sheet_52 : decode m_X11_sheet.2.1 52 = .ok (.getfield 22, 3) := by decide +kernel
theorem dX11_sheet_55 : decode m_X11_sheet.2.1 55 = .ok (.iload_n 1, 1) := by decide +kernel
theorem dX11_sheet_56 : decode m_X11_sheet.2.1 56 = .ok (.iload_n 2, 1) := by decide +kernel
theorem dX11_sheet_57 : decode m_X11_sheet.2.1 57 = .ok (.ifCond .ge 7, 3) := by decide +kernel
theorem dX11_sheet_60 : decode m_X11_sheet.2.1 60 = .ok (.iconst 0, 1) := by decide +kernel
theorem dX11_sheet_61 : decode m_X11_sheet.2.1 61 = .ok (.goto 4, 3) := by decide +kernel
theorem dX11_sheet_64 : decode m_X11_sheet.2.1 64 = .ok (.iload_n 3, 1) := by decide +kernel
theorem dX11_sheet_65 : decode m_X11_sheet.2.1 65 = .ok (.iastore, 1) := by decide +kernel
theorem dX11_sheet_66 : decode m_X11_sheet.2.1 66 = .ok (.iconst 0, 1) := by decide +kernel
theorem dX11_sheet_67 : decode m_X11_sheet.2.1 67 = .ok (.istore 4, 2) := by decide +kernel
theorem dX11_sheet_69 : decode m_X11_sheet.2.1 69 = .ok (.iload 4, 2) := by decide +kernel
theorem dX11_sheet_71 : decode m_X11_sheet.2.1 71 = .ok (.bipush 24, 2) := by decide +kernel
theorem dX11_sheet_73 : decode m_X11_sheet.2.1 73 = .ok (.if_icmp .ge 22, 3) := by decide +kernel
theorem dX11_sheet_76 : decode m_X11_sheet.2.1 76 = .ok (.aload_n 0, 1) := by decide +kernel
theorem dX11_sheet_77 : decode m_X11_sheet.2.1 77 = .ok (.getfield 25, 3) := by decide +kernel
theorem dX11_sheet_80 : decode m_X11_sheet.2.1 80 = .ok (.bipush 24, 2) := by decide +kernel
theorem dX11_sheet_82 : decode m_X11_sheet.2.1 82 = .ok (.iload_n 1, 1) := by decide +kernel
theorem dX11_sheet_83 : decode m_X11_sheet.2.1 83 = .ok (.imul, 1) := by decide +kernel
theorem dX11_sheet_84 : decode m_X11_sheet.2.1 84 = .ok (.iload 4, 2) := by decide +kernel
theorem dX11_sheet_86 : decode m_X11_sheet.2.1 86 = .ok (.iadd, 1) := by decide +kernel
theorem dX11_sheet_87 : decode m_X11_sheet.2.1 87 = .ok (.iconst 0, 1) := by decide +kernel
theorem dX11_sheet_88 : decode m_X11_sheet.2.1 88 = .ok (.iastore, 1) := by decide +kernel
theorem dX11_sheet_89 : decode m_X11_sheet.2.1 89 = .ok (.iinc 4 1, 3) := by decide +kernel
theorem dX11_sheet_92 : decode m_X11_sheet.2.1 92 = .ok (.goto (-23), 3) := by decide +kernel
theorem dX11_sheet_95 : decode m_X11_sheet.2.1 95 = .ok (.aload_n 0, 1) := by decide +kernel
theorem dX11_sheet_96 : decode m_X11_sheet.2.1 96 = .ok (.getfield 22, 3) := by decide +kernel
theorem dX11_sheet_99 : decode m_X11_sheet.2.1 99 = .ok (.iload_n 1, 1) := by decide +kernel
theorem dX11_sheet_100 : decode m_X11_sheet.2.1 100 = .ok (.iaload, 1) := by decide +kernel
theorem dX11_sheet_101 : decode m_X11_sheet.2.1 101 = .ok (.ireturn, 1) := by decide +kernel
theorem dX11_mark_0 : decode m_X11_mark.2.1 0 = .ok (.iload_n 1, 1) := by decide +kernel
theorem dX11_mark_1 : decode m_X11_mark.2.1 1 = .ok (.invokestatic 324, 3) := by decide +kernel
theorem dX11_mark_4 : decode m_X11_mark.2.1 4 = .ok (.ifCond .ne 6, 3) := by decide +kernel
theorem dX11_mark_7 : decode m_X11_mark.2.1 7 = .ok (.ldc 100, 2) := by decide +kernel
theorem dX11_mark_9 : decode m_X11_mark.2.1 9 = .ok (.ireturn, 1) := by decide +kernel
theorem dX11_mark_10 : decode m_X11_mark.2.1 10 = .ok (.aload_n 0, 1) := by decide +kernel
theorem dX11_mark_11 : decode m_X11_mark.2.1 11 = .ok (.getfield 19, 3) := by decide +kernel
theorem dX11_mark_14 : decode m_X11_mark.2.1 14 = .ok (.iload_n 1, 1) := by decide +kernel
theorem dX11_mark_15 : decode m_X11_mark.2.1 15 = .ok (.iaload, 1) := by decide +kernel
theorem dX11_mark_16 : decode m_X11_mark.2.1 16 = .ok (.ifCond .ge 7, 3) := by decide +kernel
theorem dX11_mark_19 : decode m_X11_mark.2.1 19 = .ok (.ldc_w 328, 3) := by decide +kernel
theorem dX11_mark_22 : decode m_X11_mark.2.1 22 = .ok (.ireturn, 1) := by decide +kernel
theorem dX11_mark_23 : decode m_X11_mark.2.1 23 = .ok (.iload_n 2, 1) := by decide +kernel
theorem dX11_mark_24 : decode m_X11_mark.2.1 24 = .ok (.i2l, 1) := by decide +kernel
theorem dX11_mark_25 : decode m_X11_mark.2.1 25 = .ok (.lconst 0, 1) := by decide +kernel
theorem dX11_mark_26 : decode m_X11_mark.2.1 26 = .ok (.aload_n 0, 1) := by decide +kernel
theorem dX11_mark_27 : decode m_X11_mark.2.1 27 = .ok (.getfield 22, 3) := by decide +kernel
theorem dX11_mark_30 : decode m_X11_mark.2.1 30 = .ok (.iload_n 1, 1) := by decide +kernel
theorem dX11_mark_31 : decode m_X11_mark.2.1 31 = .ok (.iaload, 1) := by decide +kernel
theorem dX11_mark_32 : decode m_X11_mark.2.1 32 = .ok (.iconst 1, 1) := by decide +kernel
theorem dX11_mark_33 : decode m_X11_mark.2.1 33 = .ok (.isub, 1) := by decide +kernel
theorem dX11_mark_34 : decode m_X11_mark.2.1 34 = .ok (.i2l, 1) := by decide +kernel
theorem dX11_mark_35 : decode m_X11_mark.2.1 35 = .ok (.invokestatic 78, 3) := by decide +kernel
theorem dX11_mark_38 : decode m_X11_mark.2.1 38 = .ok (.ifCond .ne 7, 3) := by decide +kernel
theorem dX11_mark_41 : decode m_X11_mark.2.1 41 = .ok (.ldc_w 329, 3) := by decide +kernel
theorem dX11_mark_44 : decode m_X11_mark.2.1 44 = .ok (.ireturn, 1) := by decide +kernel
theorem dX11_mark_45 : decode m_X11_mark.2.1 45 = .ok (.aload_n 0, 1) := by decide +kernel
theorem dX11_mark_46 : decode m_X11_mark.2.1 46 = .ok (.getfield 19, 3) := by decide +kernel
theorem dX11_mark_49 : decode m_X11_mark.2.1 49 = .ok (.iload_n 1, 1) := by decide +kernel
theorem dX11_mark_50 : decode m_X11_mark.2.1 50 = .ok (.iaload, 1) := by decide +kernel
theorem dX11_mark_51 : decode m_X11_mark.2.1 51 = .ok (.ifCond .ne 12, 3) := by decide +kernel
theorem dX11_mark_54 : decode m_X11_mark.2.1 54 = .ok (.iload_n 3, 1) := by decide +kernel
theorem dX11_mark_55 : decode m_X11_mark.2.1 55 = .ok (.ldc 77, 2) := by decide +kernel
theorem dX11_mark_57 : decode m_X11_mark.2.1 57 = .ok (.if_icmp .ne 6, 3) := by decide +kernel
theorem dX11_mark_60 : decode m_X11_mark.2.1 60 = .ok (.ldc 124, 2) := by decide +kernel
theorem dX11_mark_62 : decode m_X11_mark.2.1 62 = .ok (.ireturn, 1) := by decide +kernel
theorem dX11_mark_63 : decode m_X11_mark.2.1 63 = .ok (.aload_n 0, 1) := by decide +kernel
theorem dX11_mark_64 : decode m_X11_mark.2.1 64 = .ok (.getfield 19, 3) := by decide +kernel
theorem dX11_mark_67 : decode m_X11_mark.2.1 67 = .ok (.iload_n 1, 1) := by decide +kernel
theorem dX11_mark_68 : decode m_X11_mark.2.1 68 = .ok (.iaload, 1) := by decide +kernel
theorem dX11_mark_69 : decode m_X11_mark.2.1 69 = .ok (.iconst 1, 1) := by decide +kernel
theorem dX11_mark_70 : decode m_X11_mark.2.1 70 = .ok (.if_icmp .ne 26, 3) := by decide +kernel
theorem dX11_mark_73 : decode m_X11_mark.2.1 73 = .ok (.iload_n 3, 1) := by decide +kernel
theorem dX11_mark_74 : decode m_X11_mark.2.1 74 = .ok (.ldc 77, 2) := by decide +kernel
theorem dX11_mark_76 : decode m_X11_mark.2.1 76 = .ok (.if_icmp .eq 20, 3) := by decide +kernel
theorem dX11_mark_79 : decode m_X11_mark.2.1 79 = .ok (.iload_n 3, 1) := by decide +kernel
theorem dX11_mark_80 : decode m_X11_mark.2.1 80 = .ok (.i2l, 1) := by decide +kernel
theorem dX11_mark_81 : decode m_X11_mark.2.1 81 = .ok (.ldc2_w 330, 3) := by decide +kernel
theorem dX11_mark_84 : decode m_X11_mark.2.1 84 = .ok (.ldc2_w 125, 3) := by decide +kernel
theorem dX11_mark_87 : decode m_X11_mark.2.1 87 = .ok (.invokestatic 78, 3) := by decide +kernel
theorem dX11_mark_90 : decode m_X11_mark.2.1 90 = .ok (.ifCond .ne 6, 3) := by decide +kernel
theorem dX11_mark_93 : decode m_X11_mark.2.1 93 = .ok (.ldc 100, 2) := by decide +kernel
theorem dX11_mark_95 : decode m_X11_mark.2.1 95 = .ok (.ireturn, 1) := by decide +kernel
theorem dX11_mark_96 : decode m_X11_mark.2.1 96 = .ok (.aload_n 0, 1) := by decide +kernel
theorem dX11_mark_97 : decode m_X11_mark.2.1 97 = .ok (.getfield 25, 3) := by decide +kernel
theorem dX11_mark_100 : decode m_X11_mark.2.1 100 = .ok (.bipush 24, 2) := by decide +kernel
theorem dX11_mark_102 : decode m_X11_mark.2.1 102 = .ok (.iload_n 1, 1) := by decide +kernel
theorem dX11_mark_103 : decode m_X11_mark.2.1 103 = .ok (.imul, 1) := by decide +kernel
theorem dX11_mark_104 : decode m_X11_mark.2.1 104 = .ok (.iload_n 2, 1) := by decide +kernel
theorem dX11_mark_105 : decode m_X11_mark.2.1 105 = .ok (.iadd, 1) := by decide +kernel
theorem dX11_mark_106 : decode m_X11_mark.2.1 106 = .ok (.aload_n 0, 1) := by decide +kernel
theorem dX11_mark_107 : decode m_X11_mark.2.1 107 = .ok (.getfield 19, 3) := by decide +kernel
theorem dX11_mark_110 : decode m_X11_mark.2.1 110 = .ok (.iload_n 1, 1) := by decide +kernel
theorem dX11_mark_111 : decode m_X11_mark.2.1 111 = .ok (.iaload, 1) := by decide +kernel
theorem dX11_mark_112 : decode m_X11_mark.2.1 112 = .ok (.ifCond .ne 13, 3) := by decide +kernel
theorem dX11_mark_115 : decode m_X11_mark.2.1 115 = .ok (.iload_n 3, 1) := by decide +kernel
theorem dX11_mark_116 : decode m_X11_mark.2.1 116 = .ok (.bipush 16, 2) := by decide +kernel
theorem dX11_mark_118 : decode m_X11_mark.2.1 118 = .ok (.ishl, 1) := by decide +kernel
theorem dX11_mark_119 : decode m_X11_mark.2.1 119 = .ok (.bipush 16, 2) := by decide +kernel
theorem dX11_mark_121 : decode m_X11_mark.2.1 121 = .ok (.ishr, 1) := by decide +kernel
theorem dX11_mark_122 : decode m_X11_mark.2.1 122 = .ok (.goto 4, 3) := by decide +kernel
theorem dX11_mark_125 : decode m_X11_mark.2.1 125 = .ok (.iload_n 3, 1) := by decide +kernel
theorem dX11_mark_126 : decode m_X11_mark.2.1 126 = .ok (.iastore, 1) := by decide +kernel
theorem dX11_mark_127 : decode m_X11_mark.2.1 127 = .ok (.iconst 1, 1) := by decide +kernel
theorem dX11_mark_128 : decode m_X11_mark.2.1 128 = .ok (.ireturn, 1) := by decide +kernel
theorem dX11_sound_0 : decode m_X11_sound.2.1 0 = .ok (.iload_n 1, 1) := by decide +kernel
theorem dX11_sound_1 : decode m_X11_sound.2.1 1 = .ok (.invokestatic 324, 3) := by decide +kernel
theorem dX11_sound_4 : decode m_X11_sound.2.1 4 = .ok (.ifCond .eq 30, 3) := by decide +kernel
theorem dX11_sound_7 : decode m_X11_sound.2.1 7 = .ok (.iload_n 2, 1) := by decide +kernel
theorem dX11_sound_8 : decode m_X11_sound.2.1 8 = .ok (.i2l, 1) := by decide +kernel
theorem dX11_sound_9 : decode m_X11_sound.2.1 9 = .ok (.lconst 0, 1) := by decide +kernel
theorem dX11_sound_10 : decode m_X11_sound.2.1 10 = .ok (.lconst 1, 1) := by decide +kernel
theorem dX11_sound_11 : decode m_X11_sound.2.1 11 = .ok (.invokestatic 78, 3) := by decide +kernel
theorem dX11_sound_14 : decode m_X11_sound.2.1 14 = .ok (.ifCond .eq 20, 3) := by decide +kernel
theorem dX11_sound_17 : decode m_X11_sound.2.1 17 = .ok (.iload_n 2, 1) := by decide +kernel
theorem dX11_sound_18 : decode m_X11_sound.2.1 18 = .ok (.iconst 1, 1) := by decide +kernel
theorem dX11_sound_19 : decode m_X11_sound.2.1 19 = .ok (.if_icmp .ne 18, 3) := by decide +kernel
theorem dX11_sound_22 : decode m_X11_sound.2.1 22 = .ok (.iload_n 3, 1) := by decide +kernel
theorem dX11_sound_23 : decode m_X11_sound.2.1 23 = .ok (.i2l, 1) := by decide +kernel
theorem dX11_sound_24 : decode m_X11_sound.2.1 24 = .ok (.lconst 0, 1) := by decide +kernel
theorem dX11_sound_25 : decode m_X11_sound.2.1 25 = .ok (.ldc2_w 98, 3) := by decide +kernel
theorem dX11_sound_28 : decode m_X11_sound.2.1 28 = .ok (.invokestatic 78, 3) := by decide +kernel
theorem dX11_sound_31 : decode m_X11_sound.2.1 31 = .ok (.ifCond .ne 6, 3) := by decide +kernel
theorem dX11_sound_34 : decode m_X11_sound.2.1 34 = .ok (.ldc 100, 2) := by decide +kernel
theorem dX11_sound_36 : decode m_X11_sound.2.1 36 = .ok (.ireturn, 1) := by decide +kernel
theorem dX11_sound_37 : decode m_X11_sound.2.1 37 = .ok (.aload_n 0, 1) := by decide +kernel
theorem dX11_sound_38 : decode m_X11_sound.2.1 38 = .ok (.getfield 19, 3) := by decide +kernel
theorem dX11_sound_41 : decode m_X11_sound.2.1 41 = .ok (.iload_n 1, 1) := by decide +kernel
theorem dX11_sound_42 : decode m_X11_sound.2.1 42 = .ok (.iaload, 1) := by decide +kernel
theorem dX11_sound_43 : decode m_X11_sound.2.1 43 = .ok (.ifCond .ge 7, 3) := by decide +kernel
theorem dX11_sound_46 : decode m_X11_sound.2.1 46 = .ok (.ldc_w 328, 3) := by decide +kernel
theorem dX11_sound_49 : decode m_X11_sound.2.1 49 = .ok (.ireturn, 1) := by decide +kernel
theorem dX11_sound_50 : decode m_X11_sound.2.1 50 = .ok (.iconst 0, 1) := by decide +kernel
theorem dX11_sound_51 : decode m_X11_sound.2.1 51 = .ok (.istore 4, 2) := by decide +kernel
theorem dX11_sound_53 : decode m_X11_sound.2.1 53 = .ok (.iconst 0, 1) := by decide +kernel
theorem dX11_sound_54 : decode m_X11_sound.2.1 54 = .ok (.istore 5, 2) := by decide +kernel
theorem dX11_sound_56 : decode m_X11_sound.2.1 56 = .ok (.iconst 0, 1) := by decide +kernel
theorem dX11_sound_57 : decode m_X11_sound.2.1 57 = .ok (.istore 6, 2) := by decide +kernel
theorem dX11_sound_59 : decode m_X11_sound.2.1 59 = .ok (.ldc 77, 2) := by decide +kernel
theorem dX11_sound_61 : decode m_X11_sound.2.1 61 = .ok (.istore 7, 2) := by decide +kernel
theorem dX11_sound_63 : decode m_X11_sound.2.1 63 = .ok (.iconst 0, 1) := by decide +kernel
theorem dX11_sound_64 : decode m_X11_sound.2.1 64 = .ok (.istore 8, 2) := by decide +kernel
theorem dX11_sound_66 : decode m_X11_sound.2.1 66 = .ok (.iload 8, 2) := by decide +kernel
theorem dX11_sound_68 : decode m_X11_sound.2.1 68 = .ok (.aload_n 0, 1) := by decide +kernel
theorem dX11_sound_69 : decode m_X11_sound.2.1 69 = .ok (.getfield 22, 3) := by decide +kernel
theorem dX11_sound_72 : decode m_X11_sound.2.1 72 = .ok (.iload_n 1, 1) := by decide +kernel
theorem dX11_sound_73 : decode m_X11_sound.2.1 73 = .ok (.iaload, 1) := by decide +kernel
theorem dX11_sound_74 : decode m_X11_sound.2.1 74 = .ok (.if_icmp .ge 100, 3) := by decide +kernel
theorem dX11_sound_77 : decode m_X11_sound.2.1 77 = .ok (.aload_n 0, 1) := by decide +kernel
theorem dX11_sound_78 : decode m_X11_sound.2.1 78 = .ok (.getfield 25, 3) := by decide +kernel
theorem dX11_sound_81 : decode m_X11_sound.2.1 81 = .ok (.bipush 24, 2) := by decide +kernel
theorem dX11_sound_83 : decode m_X11_sound.2.1 83 = .ok (.iload_n 1, 1) := by decide +kernel
theorem dX11_sound_84 : decode m_X11_sound.2.1 84 = .ok (.imul, 1) := by decide +kernel
theorem dX11_sound_85 : decode m_X11_sound.2.1 85 = .ok (.iload 8, 2) := by decide +kernel
theorem dX11_sound_87 : decode m_X11_sound.2.1 87 = .ok (.iadd, 1) := by decide +kernel
theorem dX11_sound_88 : decode m_X11_sound.2.1 88 = .ok (.iaload, 1) := by decide +kernel
theorem dX11_sound_89 : decode m_X11_sound.2.1 89 = .ok (.istore 9, 2) := by decide +kernel
theorem dX11_sound_91 : decode m_X11_sound.2.1 91 = .ok (.iload 9, 2) := by decide +kernel
theorem dX11_sound_93 : decode m_X11_sound.2.1 93 = .ok (.ldc 77, 2) := by decide +kernel
theorem dX11_sound_95 : decode m_X11_sound.2.1 95 = .ok (.if_icmp .eq 73, 3) := by decide +kernel
theorem dX11_sound_98 : decode m_X11_sound.2.1 98 = .ok (.iload 7, 2) := by decide +kernel
theorem dX11_sound_100 : decode m_X11_sound.2.1 100 = .ok (.ldc 77, 2) := by decide +kernel
theorem dX11_sound_102 : decode m_X11_sound.2.1 102 = .ok (.if_icmp .eq 17, 3) := by decide +kernel
theorem dX11_sound_105 : decode m_X11_sound.2.1 105 = .ok (.iload 9, 2) := by decide +kernel
theorem dX11_sound_107 : decode m_X11_sound.2.1 107 = .ok (.iload 7, 2) := by decide +kernel
theorem dX11_sound_109 : decode m_X11_sound.2.1 109 = .ok (.if_icmp .lt 10, 3) := by decide +kernel
theorem dX11_sound_112 : decode m_X11_sound.2.1 112 = .ok (.iload 5, 2) := by decide +kernel
theorem dX11_sound_114 : decode m_X11_sound.2.1 114 = .ok (.iconst 1, 1) := by decide +kernel
theorem dX11_sound_115 : decode m_X11_sound.2.1 115 = .ok (.iadd, 1) := by decide +kernel
theorem dX11_sound_116 : decode m_X11_sound.2.1 116 = .ok (.goto 4, 3) := by decide +kernel
theorem dX11_sound_119 : decode m_X11_sound.2.1 119 = .ok (.iconst 0, 1) := by decide +kernel
theorem dX11_sound_120 : decode m_X11_sound.2.1 120 = .ok (.istore 5, 2) := by decide +kernel
theorem dX11_sound_122 : decode m_X11_sound.2.1 122 = .ok (.iload 5, 2) := by decide +kernel
theorem dX11_sound_124 : decode m_X11_sound.2.1 124 = .ok (.iload 4, 2) := by decide +kernel
theorem dX11_sound_126 : decode m_X11_sound.2.1 126 = .ok (.if_icmp .le 8, 3) := by decide +kernel
theorem dX11_sound_129 : decode m_X11_sound.2.1 129 = .ok (.iload 5, 2) := by decide +kernel
theorem dX11_sound_131 : decode m_X11_sound.2.1 131 = .ok (.goto 5, 3) := by decide +kernel
theorem dX11_sound_134 : decode m_X11_sound.2.1 134 = .ok (.iload 4, 2) := by decide +kernel
theorem dX11_sound_136 : decode m_X11_sound.2.1 136 = .ok (.istore 4, 2) := by decide +kernel
theorem dX11_sound_138 : decode m_X11_sound.2.1 138 = .ok (.iload 6, 2) := by decide +kernel
theorem dX11_sound_140 : decode m_X11_sound.2.1 140 = .ok (.iload 7, 2) := by decide +kernel
theorem dX11_sound_142 : decode m_X11_sound.2.1 142 = .ok (.ldc 77, 2) := by decide +kernel
theorem dX11_sound_144 : decode m_X11_sound.2.1 144 = .ok (.if_icmp .eq 16, 3) := by decide +kernel
theorem dX11_sound_147 : decode m_X11_sound.2.1 147 = .ok (.iload 7, 2) := by decide +kernel
theorem dX11_sound_149 : decode m_X11_sound.2.1 149 = .ok (.iload 9, 2) := by decide +kernel
theorem dX11_sound_151 : decode m_X11_sound.2.1 151 = .ok (.isub, 1) := by decide +kernel
theorem dX11_sound_152 : decode m_X11_sound.2.1 152 = .ok (.iload_n 3, 1) := by decide +kernel
theorem dX11_sound_153 : decode m_X11_sound.2.1 153 = .ok (.if_icmp .le 7, 3) := by decide +kernel
theorem dX11_sound_156 : decode m_X11_sound.2.1 156 = .ok (.iconst 1, 1) := by decide +kernel
theorem dX11_sound_157 : decode m_X11_sound.2.1 157 = .ok (.goto 4, 3) := by decide +kernel
theorem dX11_sound_160 : decode m_X11_sound.2.1 160 = .ok (.iconst 0, 1) := by decide +kernel
theorem dX11_sound_161 : decode m_X11_sound.2.1 161 = .ok (.iadd, 1) := by decide +kernel
theorem dX11_sound_162 : decode m_X11_sound.2.1 162 = .ok (.istore 6, 2) := by decide +kernel
theorem dX11_sound_164 : decode m_X11_sound.2.1 164 = .ok (.iload 9, 2) := by decide +kernel
theorem dX11_sound_166 : decode m_X11_sound.2.1 166 = .ok (.istore 7, 2) := by decide +kernel
theorem dX11_sound_168 : decode m_X11_sound.2.1 168 = .ok (.iinc 8 1, 3) := by decide +kernel
theorem dX11_sound_171 : decode m_X11_sound.2.1 171 = .ok (.goto (-105), 3) := by decide +kernel
theorem dX11_sound_174 : decode m_X11_sound.2.1 174 = .ok (.iload_n 2, 1) := by decide +kernel
theorem dX11_sound_175 : decode m_X11_sound.2.1 175 = .ok (.ifCond .ne 8, 3) := by decide +kernel
theorem dX11_sound_178 : decode m_X11_sound.2.1 178 = .ok (.iload 4, 2) := by decide +kernel
theorem dX11_sound_180 : decode m_X11_sound.2.1 180 = .ok (.goto 5, 3) := by decide +kernel
theorem dX11_sound_183 : decode m_X11_sound.2.1 183 = .ok (.iload 6, 2) := by decide +kernel
theorem dX11_sound_185 : decode m_X11_sound.2.1 185 = .ok (.ireturn, 1) := by decide +kernel
theorem dX11_tops_0 : decode m_X11_tops.2.1 0 = .ok (.iload_n 1, 1) := by decide +kernel
theorem dX11_tops_1 : decode m_X11_tops.2.1 1 = .ok (.invokestatic 324, 3) := by decide +kernel
theorem dX11_tops_4 : decode m_X11_tops.2.1 4 = .ok (.ifCond .ne 6, 3) := by decide +kernel
theorem dX11_tops_7 : decode m_X11_tops.2.1 7 = .ok (.ldc 100, 2) := by decide +kernel
theorem dX11_tops_9 : decode m_X11_tops.2.1 9 = .ok (.ireturn, 1) := by decide +kernel
theorem dX11_tops_10 : decode m_X11_tops.2.1 10 = .ok (.aload_n 0, 1) := by decide +kernel
theorem dX11_tops_11 : decode m_X11_tops.2.1 11 = .ok (.getfield 19, 3) := by decide +kernel
theorem dX11_tops_14 : decode m_X11_tops.2.1 14 = .ok (.iload_n 1, 1) := by decide +kernel
theorem dX11_tops_15 : decode m_X11_tops.2.1 15 = .ok (.iaload, 1) := by decide +kernel
theorem dX11_tops_16 : decode m_X11_tops.2.1 16 = .ok (.ifCond .ge 7, 3) := by decide +kernel
theorem dX11_tops_19 : decode m_X11_tops.2.1 19 = .ok (.ldc_w 328, 3) := by decide +kernel
theorem dX11_tops_22 : decode m_X11_tops.2.1 22 = .ok (.ireturn, 1) := by decide +kernel
theorem dX11_tops_23 : decode m_X11_tops.2.1 23 = .ok (.iload_n 2, 1) := by decide +kernel
theorem dX11_tops_24 : decode m_X11_tops.2.1 24 = .ok (.i2l, 1) := by decide +kernel
theorem dX11_tops_25 : decode m_X11_tops.2.1 25 = .ok (.lconst 0, 1) := by decide +kernel
theorem dX11_tops_26 : decode m_X11_tops.2.1 26 = .ok (.aload_n 0, 1) := by decide +kernel
theorem dX11_tops_27 : decode m_X11_tops.2.1 27 = .ok (.getfield 22, 3) := by decide +kernel
theorem dX11_tops_30 : decode m_X11_tops.2.1 30 = .ok (.iload_n 1, 1) := by decide +kernel
theorem dX11_tops_31 : decode m_X11_tops.2.1 31 = .ok (.iaload, 1) := by decide +kernel
theorem dX11_tops_32 : decode m_X11_tops.2.1 32 = .ok (.iconst 1, 1) := by decide +kernel
theorem dX11_tops_33 : decode m_X11_tops.2.1 33 = .ok (.isub, 1) := by decide +kernel
theorem dX11_tops_34 : decode m_X11_tops.2.1 34 = .ok (.i2l, 1) := by decide +kernel
theorem dX11_tops_35 : decode m_X11_tops.2.1 35 = .ok (.invokestatic 78, 3) := by decide +kernel
theorem dX11_tops_38 : decode m_X11_tops.2.1 38 = .ok (.ifCond .ne 7, 3) := by decide +kernel
theorem dX11_tops_41 : decode m_X11_tops.2.1 41 = .ok (.ldc_w 329, 3) := by decide +kernel
theorem dX11_tops_44 : decode m_X11_tops.2.1 44 = .ok (.ireturn, 1) := by decide +kernel
theorem dX11_tops_45 : decode m_X11_tops.2.1 45 = .ok (.iconst 5, 1) := by decide +kernel
theorem dX11_tops_46 : decode m_X11_tops.2.1 46 = .ok (.aload_n 0, 1) := by decide +kernel
theorem dX11_tops_47 : decode m_X11_tops.2.1 47 = .ok (.getfield 22, 3) := by decide +kernel
theorem dX11_tops_50 : decode m_X11_tops.2.1 50 = .ok (.iload_n 1, 1) := by decide +kernel
theorem dX11_tops_51 : decode m_X11_tops.2.1 51 = .ok (.iaload, 1) := by decide +kernel
theorem dX11_tops_52 : decode m_X11_tops.2.1 52 = .ok (.iload_n 2, 1) := by decide +kernel
theorem dX11_tops_53 : decode m_X11_tops.2.1 53 = .ok (.isub, 1) := by decide +kernel
theorem dX11_tops_54 : decode m_X11_tops.2.1 54 = .ok (.invokestatic 190, 3) := by decide +kernel
theorem dX11_tops_57 : decode m_X11_tops.2.1 57 = .ok (.istore_n 3, 1) := by decide +kernel
theorem dX11_tops_58 : decode m_X11_tops.2.1 58 = .ok (.iconst 0, 1) := by decide +kernel
theorem dX11_tops_59 : decode m_X11_tops.2.1 59 = .ok (.istore 4, 2) := by decide +kernel
theorem dX11_tops_61 : decode m_X11_tops.2.1 61 = .ok (.iload 4, 2) := by decide +kernel
theorem dX11_tops_63 : decode m_X11_tops.2.1 63 = .ok (.iload_n 3, 1) := by decide +kernel
theorem dX11_tops_64 : decode m_X11_tops.2.1 64 = .ok (.if_icmp .ge 53, 3) := by decide +kernel
theorem dX11_tops_67 : decode m_X11_tops.2.1 67 = .ok (.aload_n 0, 1) := by decide +kernel
theorem dX11_tops_68 : decode m_X11_tops.2.1 68 = .ok (.iload 4, 2) := by decide +kernel
theorem dX11_tops_70 : decode m_X11_tops.2.1 70 = .ok (.invokevirtual 143, 3) := by decide +kernel
theorem dX11_tops_73 : decode m_X11_tops.2.1 73 = .ok (.istore 5, 2) := by decide +kernel
theorem dX11_tops_75 : decode m_X11_tops.2.1 75 = .ok (.aload_n 0, 1) := by decide +kernel
theorem dX11_tops_76 : decode m_X11_tops.2.1 76 = .ok (.getfield 25, 3) := by decide +kernel
theorem dX11_tops_79 : decode m_X11_tops.2.1 79 = .ok (.bipush 24, 2) := by decide +kernel
theorem dX11_tops_81 : decode m_X11_tops.2.1 81 = .ok (.iload_n 1, 1) := by decide +kernel
theorem dX11_tops_82 : decode m_X11_tops.2.1 82 = .ok (.imul, 1) := by decide +kernel
theorem dX11_tops_83 : decode m_X11_tops.2.1 83 = .ok (.iload_n 2, 1) := by decide +kernel
theorem dX11_tops_84 : decode m_X11_tops.2.1 84 = .ok (.iadd, 1) := by decide +kernel
theorem dX11_tops_85 : decode m_X11_tops.2.1 85 = .ok (.iload 4, 2) := by decide +kernel
theorem dX11_tops_87 : decode m_X11_tops.2.1 87 = .ok (.iadd, 1) := by decide +kernel
theorem dX11_tops_88 : decode m_X11_tops.2.1 88 = .ok (.aload_n 0, 1) := by decide +kernel
theorem dX11_tops_89 : decode m_X11_tops.2.1 89 = .ok (.getfield 19, 3) := by decide +kernel
theorem dX11_tops_92 : decode m_X11_tops.2.1 92 = .ok (.iload_n 1, 1) := by decide +kernel
theorem dX11_tops_93 : decode m_X11_tops.2.1 93 = .ok (.iaload, 1) := by decide +kernel
theorem dX11_tops_94 : decode m_X11_tops.2.1 94 = .ok (.ifCond .ne 14, 3) := by decide +kernel
theorem dX11_tops_97 : decode m_X11_tops.2.1 97 = .ok (.iload 5, 2) := by decide +kernel
theorem dX11_tops_99 : decode m_X11_tops.2.1 99 = .ok (.bipush 16, 2) := by decide +kernel
theorem dX11_tops_101 : decode m_X11_tops.2.1 101 = .ok (.ishl, 1) := by decide +kernel
theorem dX11_tops_102 : decode m_X11_tops.2.1 102 = .ok (.bipush 16, 2) := by decide +kernel
theorem dX11_tops_104 : decode m_X11_tops.2.1 104 = .ok (.ishr, 1) := by decide +kernel
theorem dX11_tops_105 : decode m_X11_tops.2.1 105 = .ok (.goto 5, 3) := by decide +kernel
theorem dX11_tops_108 : decode m_X11_tops.2.1 108 = .ok (.iload 5, 2) := by decide +kernel
theorem dX11_tops_110 : decode m_X11_tops.2.1 110 = .ok (.iastore, 1) := by decide +kernel
theorem dX11_tops_111 : decode m_X11_tops.2.1 111 = .ok (.iinc 4 1, 3) := by decide +kernel
theorem dX11_tops_114 : decode m_X11_tops.2.1 114 = .ok (.goto (-53), 3) := by decide +kernel
theorem dX11_tops_117 : decode m_X11_tops.2.1 117 = .ok (.iload_n 3, 1) := by decide +kernel
theorem dX11_tops_118 : decode m_X11_tops.2.1 118 = .ok (.ireturn, 1) := by decide +kernel
theorem dX11_copy_0 : decode m_X11_copy.2.1 0 = .ok (.iload_n 1, 1) := by decide +kernel
theorem dX11_copy_1 : decode m_X11_copy.2.1 1 = .ok (.invokestatic 324, 3) := by decide +kernel
theorem dX11_copy_4 : decode m_X11_copy.2.1 4 = .ok (.ifCond .eq 10, 3) := by decide +kernel
theorem dX11_copy_7 : decode m_X11_copy.2.1 7 = .ok (.iload_n 3, 1) := by decide +kernel
theorem dX11_copy_8 : decode m_X11_copy.2.1 8 = .ok (.invokestatic 324, 3) := by decide +kernel
theorem dX11_copy_11 : decode m_X11_copy.2.1 11 = .ok (.ifCond .ne 6, 3) := by decide +kernel
theorem dX11_copy_14 : decode m_X11_copy.2.1 14 = .ok (.ldc 100, 2) := by decide +kernel
theorem dX11_copy_16 : decode m_X11_copy.2.1 16 = .ok (.ireturn, 1) := by decide +kernel
theorem dX11_copy_17 : decode m_X11_copy.2.1 17 = .ok (.aload_n 0, 1) := by decide +kernel
theorem dX11_copy_18 : decode m_X11_copy.2.1 18 = .ok (.getfield 19, 3) := by decide +kernel
theorem dX11_copy_21 : decode m_X11_copy.2.1 21 = .ok (.iload_n 1, 1) := by decide +kernel
theorem dX11_copy_22 : decode m_X11_copy.2.1 22 = .ok (.iaload, 1) := by decide +kernel
theorem dX11_copy_23 : decode m_X11_copy.2.1 23 = .ok (.ifCond .lt 12, 3) := by decide +kernel
theorem dX11_copy_26 : decode m_X11_copy.2.1 26 = .ok (.aload_n 0, 1) := by decide +kernel
theorem dX11_copy_27 : decode m_X11_copy.2.1 27 = .ok (.getfield 19, 3) := by decide +kernel
theorem dX11_copy_30 : decode m_X11_copy.2.1 30 = .ok (.iload_n 3, 1) := by decide +kernel
theorem dX11_copy_31 : decode m_X11_copy.2.1 31 = .ok (.iaload, 1) := by decide +kernel
theorem dX11_copy_32 : decode m_X11_copy.2.1 32 = .ok (.ifCond .ge 7, 3) := by decide +kernel
theorem dX11_copy_35 : decode m_X11_copy.2.1 35 = .ok (.ldc_w 328, 3) := by decide +kernel
theorem dX11_copy_38 : decode m_X11_copy.2.1 38 = .ok (.ireturn, 1) := by decide +kernel
theorem dX11_copy_39 : decode m_X11_copy.2.1 39 = .ok (.aload_n 0, 1) := by decide +kernel
theorem dX11_copy_40 : decode m_X11_copy.2.1 40 = .ok (.getfield 19, 3) := by decide +kernel
theorem dX11_copy_43 : decode m_X11_copy.2.1 43 = .ok (.iload_n 1, 1) := by decide +kernel
theorem dX11_copy_44 : decode m_X11_copy.2.1 44 = .ok (.iaload, 1) := by decide +kernel
theorem dX11_copy_45 : decode m_X11_copy.2.1 45 = .ok (.aload_n 0, 1) := by decide +kernel
theorem dX11_copy_46 : decode m_X11_copy.2.1 46 = .ok (.getfield 19, 3) := by decide +kernel
theorem dX11_copy_49 : decode m_X11_copy.2.1 49 = .ok (.iload_n 3, 1) := by decide +kernel
theorem dX11_copy_50 : decode m_X11_copy.2.1 50 = .ok (.iaload, 1) := by decide +kernel
theorem dX11_copy_51 : decode m_X11_copy.2.1 51 = .ok (.if_icmp .eq 6, 3) := by decide +kernel
theorem dX11_copy_54 : decode m_X11_copy.2.1 54 = .ok (.ldc 124, 2) := by decide +kernel
theorem dX11_copy_56 : decode m_X11_copy.2.1 56 = .ok (.ireturn, 1) := by decide +kernel
theorem dX11_copy_57 : decode m_X11_copy.2.1 57 = .ok (.iload_n 2, 1) := by decide +kernel
theorem dX11_copy_58 : decode m_X11_copy.2.1 58 = .ok (.ifCond .lt 48, 3) := by decide +kernel
theorem dX11_copy_61 : decode m_X11_copy.2.1 61 = .ok (.iload 4, 2) := by decide +kernel
theorem dX11_copy_63 : decode m_X11_copy.2.1 63 = .ok (.ifCond .lt 43, 3) := by decide +kernel
theorem dX11_copy_66 : decode m_X11_copy.2.1 66 = .ok (.iload 5, 2) := by decide +kernel
theorem dX11_copy_68 : decode m_X11_copy.2.1 68 = .ok (.ifCond .lt 38, 3) := by decide +kernel
theorem dX11_copy_71 : decode m_X11_copy.2.1 71 = .ok (.iload_n 2, 1) := by decide +kernel
theorem dX11_copy_72 : decode m_X11_copy.2.1 72 = .ok (.i2l, 1) := by decide +kernel
theorem dX11_copy_73 : decode m_X11_copy.2.1 73 = .ok (.iload 5, 2) := by decide +kernel
theorem dX11_copy_75 : decode m_X11_copy.2.1 75 = .ok (.i2l, 1) := by decide +kernel
theorem dX11_copy_76 : decode m_X11_copy.2.1 76 = .ok (.ladd, 1) := by decide +kernel
theorem dX11_copy_77 : decode m_X11_copy.2.1 77 = .ok (.aload_n 0, 1) := by decide +kernel
theorem dX11_copy_78 : decode m_X11_copy.2.1 78 = .ok (.getfield 22, 3) := by decide +kernel
theorem dX11_copy_81 : decode m_X11_copy.2.1 81 = .ok (.iload_n 1, 1) := by decide +kernel
theorem dX11_copy_82 : decode m_X11_copy.2.1 82 = .ok (.iaload, 1) := by decide +kernel
theorem dX11_copy_83 : decode m_X11_copy.2.1 83 = .ok (.i2l, 1) := by decide +kernel
theorem dX11_copy_84 : decode m_X11_copy.2.1 84 = .ok (.lcmp, 1) := by decide +kernel
theorem dX11_copy_85 : decode m_X11_copy.2.1 85 = .ok (.ifCond .gt 21, 3) := by decide +kernel
theorem dX11_copy_88 : decode m_X11_copy.2.1 88 = .ok (.iload 4, 2) := by decide +kernel
theorem dX11_copy_90 : decode m_X11_copy.2.1 90 = .ok (.i2l, 1) := by decide +kernel
theorem dX11_copy_91 : decode m_X11_copy.2.1 91 = .ok (.iload 5, 2) := by decide +kernel
theorem dX11_copy_93 : decode m_X11_copy.2.1 93 = .ok (.i2l, 1) := by decide +kernel
theorem dX11_copy_94 : decode m_X11_copy.2.1 94 = .ok (.ladd, 1) := by decide +kernel
theorem dX11_copy_95 : decode m_X11_copy.2.1 95 = .ok (.aload_n 0, 1) := by decide +kernel
theorem dX11_copy_96 : decode m_X11_copy.2.1 96 = .ok (.getfield 22, 3) := by decide +kernel
theorem dX11_copy_99 : decode m_X11_copy.2.1 99 = .ok (.iload_n 3, 1) := by decide +kernel
theorem dX11_copy_100 : decode m_X11_copy.2.1 100 = .ok (.iaload, 1) := by decide +kernel
theorem dX11_copy_101 : decode m_X11_copy.2.1 101 = .ok (.i2l, 1) := by decide +kernel
theorem dX11_copy_102 : decode m_X11_copy.2.1 102 = .ok (.lcmp, 1) := by decide +kernel
theorem dX11_copy_103 : decode m_X11_copy.2.1 103 = .ok (.ifCond .le 7, 3) := by decide +kernel
theorem dX11_copy_106 : decode m_X11_copy.2.1 106 = .ok (.ldc_w 329, 3) := by decide +kernel
theorem dX11_copy_109 : decode m_X11_copy.2.1 109 = .ok (.ireturn, 1) := by decide +kernel
theorem dX11_copy_110 : decode m_X11_copy.2.1 110 = .ok (.iconst 0, 1) := by decide +kernel
theorem dX11_copy_111 : decode m_X11_copy.2.1 111 = .ok (.istore 6, 2) := by decide +kernel
theorem dX11_copy_113 : decode m_X11_copy.2.1 113 = .ok (.iload 6, 2) := by decide +kernel
theorem dX11_copy_115 : decode m_X11_copy.2.1 115 = .ok (.iload 5, 2) := by decide +kernel
theorem dX11_copy_117 : decode m_X11_copy.2.1 117 = .ok (.if_icmp .ge 30, 3) := by decide +kernel
theorem dX11_copy_120 : decode m_X11_copy.2.1 120 = .ok (.aload_n 0, 1) := by decide +kernel
theorem dX11_copy_121 : decode m_X11_copy.2.1 121 = .ok (.getfield 68, 3) := by decide +kernel
theorem dX11_copy_124 : decode m_X11_copy.2.1 124 = .ok (.iload 6, 2) := by decide +kernel
theorem dX11_copy_126 : decode m_X11_copy.2.1 126 = .ok (.aload_n 0, 1) := by decide +kernel
theorem dX11_copy_127 : decode m_X11_copy.2.1 127 = .ok (.getfield 25, 3) := by decide +kernel
theorem dX11_copy_130 : decode m_X11_copy.2.1 130 = .ok (.bipush 24, 2) := by decide +kernel
theorem dX11_copy_132 : decode m_X11_copy.2.1 132 = .ok (.iload_n 1, 1) := by decide +kernel
theorem dX11_copy_133 : decode m_X11_copy.2.1 133 = .ok (.imul, 1) := by decide +kernel
theorem dX11_copy_134 : decode m_X11_copy.2.1 134 = .ok (.iload_n 2, 1) := by decide +kernel
theorem dX11_copy_135 : decode m_X11_copy.2.1 135 = .ok (.iadd, 1) := by decide +kernel
theorem dX11_copy_136 : decode m_X11_copy.2.1 136 = .ok (.iload 6, 2) := by decide +kernel
theorem dX11_copy_138 : decode m_X11_copy.2.1 138 = .ok (.iadd, 1) := by decide +kernel
theorem dX11_copy_139 : decode m_X11_copy.2.1 139 = .ok (.iaload, 1) := by decide +kernel
theorem dX11_copy_140 : decode m_X11_copy.2.1 140 = .ok (.iastore, 1) := by decide +kernel
theorem dX11_copy_141 : decode m_X11_copy.2.1 141 = .ok (.iinc 6 1, 3) := by decide +kernel
theorem dX11_copy_144 : decode m_X11_copy.2.1 144 = .ok (.goto (-31), 3) := by decide +kernel
theorem dX11_copy_147 : decode m_X11_copy.2.1 147 = .ok (.iconst 0, 1) := by decide +kernel
theorem dX11_copy_148 : decode m_X11_copy.2.1 148 = .ok (.istore 6, 2) := by decide +kernel
theorem dX11_copy_150 : decode m_X11_copy.2.1 150 = .ok (.iload 6, 2) := by decide +kernel
theorem dX11_copy_152 : decode m_X11_copy.2.1 152 = .ok (.iload 5, 2) := by decide +kernel
theorem dX11_copy_154 : decode m_X11_copy.2.1 154 = .ok (.if_icmp .ge 31, 3) := by decide +kernel
theorem dX11_copy_157 : decode m_X11_copy.2.1 157 = .ok (.aload_n 0, 1) := by decide +kernel
theorem dX11_copy_158 : decode m_X11_copy.2.1 158 = .ok (.getfield 25, 3) := by decide +kernel
theorem dX11_copy_161 : decode m_X11_copy.2.1 161 = .ok (.bipush 24, 2) := by decide +kernel
theorem dX11_copy_163 : decode m_X11_copy.2.1 163 = .ok (.iload_n 3, 1) := by decide +kernel
theorem dX11_copy_164 : decode m_X11_copy.2.1 164 = .ok (.imul, 1) := by decide +kernel
theorem dX11_copy_165 : decode m_X11_copy.2.1 165 = .ok (.iload 4, 2) := by decide +kernel
theorem dX11_copy_167 : decode m_X11_copy.2.1 167 = .ok (.iadd, 1) := by decide +kernel
theorem dX11_copy_168 : decode m_X11_copy.2.1 168 = .ok (.iload 6, 2) := by decide +kernel
theorem dX11_copy_170 : decode m_X11_copy.2.1 170 = .ok (.iadd, 1) := by decide +kernel
theorem dX11_copy_171 : decode m_X11_copy.2.1 171 = .ok (.aload_n 0, 1) := by decide +kernel
theorem dX11_copy_172 : decode m_X11_copy.2.1 172 = .ok (.getfield 68, 3) := by decide +kernel
theorem dX11_copy_175 : decode m_X11_copy.2.1 175 = .ok (.iload 6, 2) := by decide +kernel
theorem dX11_copy_177 : decode m_X11_copy.2.1 177 = .ok (.iaload, 1) := by decide +kernel
theorem dX11_copy_178 : decode m_X11_copy.2.1 178 = .ok (.iastore, 1) := by decide +kernel
theorem dX11_copy_179 : decode m_X11_copy.2.1 179 = .ok (.iinc 6 1, 3) := by decide +kernel
theorem dX11_copy_182 : decode m_X11_copy.2.1 182 = .ok (.goto (-32), 3) := by decide +kernel
theorem dX11_copy_185 : decode m_X11_copy.2.1 185 = .ok (.iload 5, 2) := by decide +kernel
theorem dX11_copy_187 : decode m_X11_copy.2.1 187 = .ok (.ireturn, 1) := by decide +kernel
theorem dX11_isSlot_0 : decode m_X11_isSlot.2.1 0 = .ok (.iload_n 0, 1) := by decide +kernel
theorem dX11_isSlot_1 : decode m_X11_isSlot.2.1 1 = .ok (.i2l, 1) := by decide +kernel
theorem dX11_isSlot_2 : decode m_X11_isSlot.2.1 2 = .ok (.lconst 0, 1) := by decide +kernel
theorem dX11_isSlot_3 : decode m_X11_isSlot.2.1 3 = .ok (.ldc2_w 185, 3) := by decide +kernel
theorem dX11_isSlot_6 : decode m_X11_isSlot.2.1 6 = .ok (.invokestatic 78, 3) := by decide +kernel
theorem dX11_isSlot_9 : decode m_X11_isSlot.2.1 9 = .ok (.ireturn, 1) := by decide +kernel
theorem dX11_lay_0 : decode m_X11_lay.2.1 0 = .ok (.iload_n 2, 1) := by decide +kernel
theorem dX11_lay_1 : decode m_X11_lay.2.1 1 = .ok (.ifCond .eq 33, 3) := by decide +kernel
theorem dX11_lay_4 : decode m_X11_lay.2.1 4 = .ok (.iload_n 2, 1) := by decide +kernel
theorem dX11_lay_5 : decode m_X11_lay.2.1 5 = .ok (.iconst 3, 1) := by decide +kernel
theorem dX11_lay_6 : decode m_X11_lay.2.1 6 = .ok (.if_icmp .eq 28, 3) := by decide +kernel
theorem dX11_lay_9 : decode m_X11_lay.2.1 9 = .ok (.iload_n 2, 1) := by decide +kernel
theorem dX11_lay_10 : decode m_X11_lay.2.1 10 = .ok (.iconst 1, 1) := by decide +kernel
theorem dX11_lay_11 : decode m_X11_lay.2.1 11 = .ok (.if_icmp .ne 11, 3) := by decide +kernel
theorem dX11_lay_14 : decode m_X11_lay.2.1 14 = .ok (.aload_n 0, 1) := by decide +kernel
theorem dX11_lay_15 : decode m_X11_lay.2.1 15 = .ok (.iload_n 3, 1) := by decide +kernel
theorem dX11_lay_16 : decode m_X11_lay.2.1 16 = .ok (.invokevirtual 102, 3) := by decide +kernel
theorem dX11_lay_19 : decode m_X11_lay.2.1 19 = .ok (.ifCond .ne 15, 3) := by decide +kernel
theorem dX11_lay_22 : decode m_X11_lay.2.1 22 = .ok (.iload_n 2, 1) := by decide +kernel
theorem dX11_lay_23 : decode m_X11_lay.2.1 23 = .ok (.iconst 2, 1) := by decide +kernel
theorem dX11_lay_24 : decode m_X11_lay.2.1 24 = .ok (.if_icmp .ne 14, 3) := by decide +kernel
theorem dX11_lay_27 : decode m_X11_lay.2.1 27 = .ok (.iload_n 3, 1) := by decide +kernel
theorem dX11_lay_28 : decode m_X11_lay.2.1 28 = .ok (.invokestatic 324, 3) := by decide +kernel
theorem dX11_lay_31 : decode m_X11_lay.2.1 31 = .ok (.ifCond .eq 7, 3) := by decide +kernel
theorem dX11_lay_34 : decode m_X11_lay.2.1 34 = .ok (.iconst 1, 1) := by decide +kernel
theorem dX11_lay_35 : decode m_X11_lay.2.1 35 = .ok (.goto 4, 3) := by decide +kernel
theorem dX11_lay_38 : decode m_X11_lay.2.1 38 = .ok (.iconst 0, 1) := by decide +kernel
theorem dX11_lay_39 : decode m_X11_lay.2.1 39 = .ok (.istore 4, 2) := by decide +kernel
theorem dX11_lay_41 : decode m_X11_lay.2.1 41 = .ok (.iload_n 1, 1) := by decide +kernel
theorem dX11_lay_42 : decode m_X11_lay.2.1 42 = .ok (.invokestatic 332, 3) := by decide +kernel
theorem dX11_lay_45 : decode m_X11_lay.2.1 45 = .ok (.ifCond .eq 8, 3) := by decide +kernel
theorem dX11_lay_48 : decode m_X11_lay.2.1 48 = .ok (.iload 4, 2) := by decide +kernel
theorem dX11_lay_50 : decode m_X11_lay.2.1 50 = .ok (.ifCond .ne 6, 3) := by decide +kernel
theorem dX11_lay_53 : decode m_X11_lay.2.1 53 = .ok (.ldc 100, 2) := by decide +kernel
theorem dX11_lay_55 : decode m_X11_lay.2.1 55 = .ok (.ireturn, 1) := by decide +kernel
theorem dX11_lay_56 : decode m_X11_lay.2.1 56 = .ok (.iload_n 2, 1) := by decide +kernel
theorem dX11_lay_57 : decode m_X11_lay.2.1 57 = .ok (.iconst 2, 1) := by decide +kernel
theorem dX11_lay_58 : decode m_X11_lay.2.1 58 = .ok (.if_icmp .ne 16, 3) := by decide +kernel
theorem dX11_lay_61 : decode m_X11_lay.2.1 61 = .ok (.aload_n 0, 1) := by decide +kernel
theorem dX11_lay_62 : decode m_X11_lay.2.1 62 = .ok (.getfield 19, 3) := by decide +kernel
theorem dX11_lay_65 : decode m_X11_lay.2.1 65 = .ok (.iload_n 3, 1) := by decide +kernel
theorem dX11_lay_66 : decode m_X11_lay.2.1 66 = .ok (.iaload, 1) := by decide +kernel
theorem dX11_lay_67 : decode m_X11_lay.2.1 67 = .ok (.ifCond .ge 7, 3) := by decide +kernel
theorem dX11_lay_70 : decode m_X11_lay.2.1 70 = .ok (.ldc_w 328, 3) := by decide +kernel
theorem dX11_lay_73 : decode m_X11_lay.2.1 73 = .ok (.ireturn, 1) := by decide +kernel
theorem dX11_lay_74 : decode m_X11_lay.2.1 74 = .ok (.aload_n 0, 1) := by decide +kernel
theorem dX11_lay_75 : decode m_X11_lay.2.1 75 = .ok (.getfield 28, 3) := by decide +kernel
theorem dX11_lay_78 : decode m_X11_lay.2.1 78 = .ok (.iload_n 1, 1) := by decide +kernel
theorem dX11_lay_79 : decode m_X11_lay.2.1 79 = .ok (.iaload, 1) := by decide +kernel
theorem dX11_lay_80 : decode m_X11_lay.2.1 80 = .ok (.istore 5, 2) := by decide +kernel
theorem dX11_lay_82 : decode m_X11_lay.2.1 82 = .ok (.aload_n 0, 1) := by decide +kernel
theorem dX11_lay_83 : decode m_X11_lay.2.1 83 = .ok (.getfield 28, 3) := by decide +kernel
theorem dX11_lay_86 : decode m_X11_lay.2.1 86 = .ok (.iload_n 1, 1) := by decide +kernel
theorem dX11_lay_87 : decode m_X11_lay.2.1 87 = .ok (.iload_n 2, 1) := by decide +kernel
theorem dX11_lay_88 : decode m_X11_lay.2.1 88 = .ok (.iastore, 1) := by decide +kernel
theorem dX11_lay_89 : decode m_X11_lay.2.1 89 = .ok (.aload_n 0, 1) := by decide +kernel
theorem dX11_lay_90 : decode m_X11_lay.2.1 90 = .ok (.getfield 31, 3) := by decide +kernel
theorem dX11_lay_93 : decode m_X11_lay.2.1 93 = .ok (.iload_n 1, 1) := by decide +kernel
theorem dX11_lay_94 : decode m_X11_lay.2.1 94 = .ok (.iload_n 2, 1) := by decide +kernel
theorem dX11_lay_95 : decode m_X11_lay.2.1 95 = .ok (.iconst 1, 1) := by decide +kernel
theorem dX11_lay_96 : decode m_X11_lay.2.1 96 = .ok (.if_icmp .ne 16, 3) := by decide +kernel
theorem dX11_lay_99 : decode m_X11_lay.2.1 99 = .ok (.aload_n 0, 1) := by decide +kernel
theorem dX11_lay_100 : decode m_X11_lay.2.1 100 = .ok (.getfield 7, 3) := by decide +kernel
theorem dX11_lay_103 : decode m_X11_lay.2.1 103 = .ok (.aload_n 0, 1) := by decide +kernel
theorem dX11_lay_104 : decode m_X11_lay.2.1 104 = .ok (.iload_n 3, 1) := by decide +kernel
theorem dX11_lay_105 : decode m_X11_lay.2.1 105 = .ok (.invokevirtual 86, 3) := by decide +kernel
theorem dX11_lay_108 : decode m_X11_lay.2.1 108 = .ok (.iaload, 1) := by decide +kernel
theorem dX11_lay_109 : decode m_X11_lay.2.1 109 = .ok (.goto 4, 3) := by decide +kernel
theorem dX11_lay_112 : decode m_X11_lay.2.1 112 = .ok (.iload_n 3, 1) := by decide +kernel
theorem dX11_lay_113 : decode m_X11_lay.2.1 113 = .ok (.iastore, 1) := by decide +kernel
theorem dX11_lay_114 : decode m_X11_lay.2.1 114 = .ok (.aload_n 0, 1) := by decide +kernel
theorem dX11_lay_115 : decode m_X11_lay.2.1 115 = .ok (.getfield 34, 3) := by decide +kernel
theorem dX11_lay_118 : decode m_X11_lay.2.1 118 = .ok (.iload_n 1, 1) := by decide +kernel
theorem dX11_lay_119 : decode m_X11_lay.2.1 119 = .ok (.iload_n 2, 1) := by decide +kernel
theorem dX11_lay_120 : decode m_X11_lay.2.1 120 = .ok (.iconst 1, 1) := by decide +kernel
theorem dX11_lay_121 : decode m_X11_lay.2.1 121 = .ok (.if_icmp .ne 18, 3) := by decide +kernel
theorem dX11_lay_124 : decode m_X11_lay.2.1 124 = .ok (.aload_n 0, 1) := by decide +kernel
theorem dX11_lay_125 : decode m_X11_lay.2.1 125 = .ok (.getfield 7, 3) := by decide +kernel
theorem dX11_lay_128 : decode m_X11_lay.2.1 128 = .ok (.aload_n 0, 1) := by decide +kernel
theorem dX11_lay_129 : decode m_X11_lay.2.1 129 = .ok (.iload_n 3, 1) := by decide +kernel
theorem dX11_lay_130 : decode m_X11_lay.2.1 130 = .ok (.invokevirtual 86, 3) := by decide +kernel
theorem dX11_lay_133 : decode m_X11_lay.2.1 133 = .ok (.iconst 1, 1) := by decide +kernel
theorem dX11_lay_134 : decode m_X11_lay.2.1 134 = .ok (.iadd, 1) := by decide +kernel
theorem dX11_lay_135 : decode m_X11_lay.2.1 135 = .ok (.iaload, 1) := by decide +kernel
theorem dX11_lay_136 : decode m_X11_lay.2.1 136 = .ok (.goto 4, 3) := by decide +kernel
theorem dX11_lay_139 : decode m_X11_lay.2.1 139 = .ok (.iconst 0, 1) := by decide +kernel
theorem dX11_lay_140 : decode m_X11_lay.2.1 140 = .ok (.iastore, 1) := by decide +kernel
theorem dX11_lay_141 : decode m_X11_lay.2.1 141 = .ok (.iload_n 2, 1) := by decide +kernel
theorem dX11_lay_142 : decode m_X11_lay.2.1 142 = .ok (.iconst 2, 1) := by decide +kernel
theorem dX11_lay_143 : decode m_X11_lay.2.1 143 = .ok (.if_icmp .ne 55, 3) := by decide +kernel
theorem dX11_lay_146 : decode m_X11_lay.2.1 146 = .ok (.aload_n 0, 1) := by decide +kernel
theorem dX11_lay_147 : decode m_X11_lay.2.1 147 = .ok (.getfield 37, 3) := by decide +kernel
theorem dX11_lay_150 : decode m_X11_lay.2.1 150 = .ok (.iload_n 1, 1) := by decide +kernel
theorem dX11_lay_151 : decode m_X11_lay.2.1 151 = .ok (.aload_n 0, 1) := by decide +kernel
theorem dX11_lay_152 : decode m_X11_lay.2.1 152 = .ok (.getfield 22, 3) := by decide +kernel
theorem dX11_lay_155 : decode m_X11_lay.2.1 155 = .ok (.iload_n 3, 1) := by decide +kernel
theorem dX11_lay_156 : decode m_X11_lay.2.1 156 = .ok (.iaload, 1) := by decide +kernel
theorem dX11_lay_157 : decode m_X11_lay.2.1 157 = .ok (.iastore, 1) := by decide +kernel
theorem dX11_lay_158 : decode m_X11_lay.2.1 158 = .ok (.iconst 0, 1) := by decide +kernel
theorem dX11_lay_159 : decode m_X11_lay.2.1 159 = .ok (.istore 6, 2) := by decide +kernel
theorem dX11_lay_161 : decode m_X11_lay.2.1 161 = .ok (.iload 6, 2) := by decide +kernel
theorem dX11_lay_163 : decode m_X11_lay.2.1 163 = .ok (.bipush 24, 2) := by decide +kernel
theorem dX11_lay_165 : decode m_X11_lay.2.1 165 = .ok (.if_icmp .ge 33, 3) := by decide +kernel
theorem dX11_lay_168 : decode m_X11_lay.2.1 168 = .ok (.aload_n 0, 1) := by decide +kernel
theorem dX11_lay_169 : decode m_X11_lay.2.1 169 = .ok (.getfield 40, 3) := by decide +kernel
theorem dX11_lay_172 : decode m_X11_lay.2.1 172 = .ok (.bipush 24, 2) := by decide +kernel
theorem dX11_lay_174 : decode m_X11_lay.2.1 174 = .ok (.iload_n 1, 1) := by decide +kernel
theorem dX11_lay_175 : decode m_X11_lay.2.1 175 = .ok (.imul, 1) := by decide +kernel
theorem dX11_lay_176 : decode m_X11_lay.2.1 176 = .ok (.iload 6, 2) := by decide +kernel
theorem dX11_lay_178 : decode m_X11_lay.2.1 178 = .ok (.iadd, 1) := by decide +kernel
theorem dX11_lay_179 : decode m_X11_lay.2.1 179 = .ok (.aload_n 0, 1) := by decide +kernel
theorem dX11_lay_180 : decode m_X11_lay.2.1 180 = .ok (.getfield 25, 3) := by decide +kernel
theorem dX11_lay_183 : decode m_X11_lay.2.1 183 = .ok (.bipush 24, 2) := by decide +kernel
theorem dX11_lay_185 : decode m_X11_lay.2.1 185 = .ok (.iload_n 3, 1) := by decide +kernel
theorem dX11_lay_186 : decode m_X11_lay.2.1 186 = .ok (.imul, 1) := by decide +kernel
theorem dX11_lay_187 : decode m_X11_lay.2.1 187 = .ok (.iload 6, 2) := by decide +kernel
theorem dX11_lay_189 : decode m_X11_lay.2.1 189 = .ok (.iadd, 1) := by decide +kernel
theorem dX11_lay_190 : decode m_X11_lay.2.1 190 = .ok (.iaload, 1) := by decide +kernel
theorem dX11_lay_191 : decode m_X11_lay.2.1 191 = .ok (.iastore, 1) := by decide +kernel
theorem dX11_lay_192 : decode m_X11_lay.2.1 192 = .ok (.iinc 6 1, 3) := by decide +kernel
theorem dX11_lay_195 : decode m_X11_lay.2.1 195 = .ok (.goto (-34), 3) := by decide +kernel
theorem dX11_lay_198 : decode m_X11_lay.2.1 198 = .ok (.iload 5, 2) := by decide +kernel
theorem dX11_lay_200 : decode m_X11_lay.2.1 200 = .ok (.ireturn, 1) := by decide +kernel
theorem dX11_ask_0 : decode m_X11_ask.2.1 0 = .ok (.iload_n 1, 1) := by decide +kernel
theorem dX11_ask_1 : decode m_X11_ask.2.1 1 = .ok (.invokestatic 332, 3) := by decide +kernel
theorem dX11_ask_4 : decode m_X11_ask.2.1 4 = .ok (.ifCond .eq 15, 3) := by decide +kernel
theorem dX11_ask_7 : decode m_X11_ask.2.1 7 = .ok (.iload_n 2, 1) := by decide +kernel
theorem dX11_ask_8 : decode m_X11_ask.2.1 8 = .ok (.i2l, 1) := by decide +kernel
theorem dX11_ask_9 : decode m_X11_ask.2.1 9 = .ok (.lconst 0, 1) := by decide +kernel
theorem dX11_ask_10 : decode m_X11_ask.2.1 10 = .ok (.ldc2_w 96, 3) := by decide +kernel
theorem dX11_ask_13 : decode m_X11_ask.2.1 13 = .ok (.invokestatic 78, 3) := by decide +kernel
theorem dX11_ask_16 : decode m_X11_ask.2.1 16 = .ok (.ifCond .ne 6, 3) := by decide +kernel
theorem dX11_ask_19 : decode m_X11_ask.2.1 19 = .ok (.ldc 100, 2) := by decide +kernel
theorem dX11_ask_21 : decode m_X11_ask.2.1 21 = .ok (.ireturn, 1) := by decide +kernel
theorem dX11_ask_22 : decode m_X11_ask.2.1 22 = .ok (.aload_n 0, 1) := by decide +kernel
theorem dX11_ask_23 : decode m_X11_ask.2.1 23 = .ok (.getfield 28, 3) := by decide +kernel
theorem dX11_ask_26 : decode m_X11_ask.2.1 26 = .ok (.iload_n 1, 1) := by decide +kernel
theorem dX11_ask_27 : decode m_X11_ask.2.1 27 = .ok (.iaload, 1) := by decide +kernel
theorem dX11_ask_28 : decode m_X11_ask.2.1 28 = .ok (.ifCond .ne 7, 3) := by decide +kernel
theorem dX11_ask_31 : decode m_X11_ask.2.1 31 = .ok (.ldc_w 328, 3) := by decide +kernel
theorem dX11_ask_34 : decode m_X11_ask.2.1 34 = .ok (.ireturn, 1) := by decide +kernel
theorem dX11_ask_35 : decode m_X11_ask.2.1 35 = .ok (.aload_n 0, 1) := by decide +kernel
theorem dX11_ask_36 : decode m_X11_ask.2.1 36 = .ok (.getfield 28, 3) := by decide +kernel
theorem dX11_ask_39 : decode m_X11_ask.2.1 39 = .ok (.iload_n 1, 1) := by decide +kernel
theorem dX11_ask_40 : decode m_X11_ask.2.1 40 = .ok (.iaload, 1) := by decide +kernel
theorem dX11_ask_41 : decode m_X11_ask.2.1 41 = .ok (.iconst 1, 1) := by decide +kernel
theorem dX11_ask_42 : decode m_X11_ask.2.1 42 = .ok (.if_icmp .ne 36, 3) := by decide +kernel
theorem dX11_ask_45 : decode m_X11_ask.2.1 45 = .ok (.aload_n 0, 1) := by decide +kernel
theorem dX11_ask_46 : decode m_X11_ask.2.1 46 = .ok (.getfield 31, 3) := by decide +kernel
theorem dX11_ask_49 : decode m_X11_ask.2.1 49 = .ok (.iload_n 1, 1) := by decide +kernel
theorem dX11_ask_50 : decode m_X11_ask.2.1 50 = .ok (.iaload, 1) := by decide +kernel
theorem dX11_ask_51 : decode m_X11_ask.2.1 51 = .ok (.iload_n 2, 1) := by decide +kernel
theorem dX11_ask_52 : decode m_X11_ask.2.1 52 = .ok (.invokestatic 120, 3) := by decide +kernel
theorem dX11_ask_55 : decode m_X11_ask.2.1 55 = .ok (.ifCond .eq 23, 3) := by decide +kernel
theorem dX11_ask_58 : decode m_X11_ask.2.1 58 = .ok (.aload_n 0, 1) := by decide +kernel
theorem dX11_ask_59 : decode m_X11_ask.2.1 59 = .ok (.getfield 31, 3) := by decide +kernel
theorem dX11_ask_62 : decode m_X11_ask.2.1 62 = .ok (.iload_n 1, 1) := by decide +kernel
theorem dX11_ask_63 : decode m_X11_ask.2.1 63 = .ok (.iaload, 1) := by decide +kernel
theorem dX11_ask_64 : decode m_X11_ask.2.1 64 = .ok (.aload_n 0, 1) := by decide +kernel
theorem dX11_ask_65 : decode m_X11_ask.2.1 65 = .ok (.getfield 34, 3) := by decide +kernel
theorem dX11_ask_68 : decode m_X11_ask.2.1 68 = .ok (.iload_n 1, 1) := by decide +kernel
theorem dX11_ask_69 : decode m_X11_ask.2.1 69 = .ok (.iaload, 1) := by decide +kernel
theorem dX11_ask_70 : decode m_X11_ask.2.1 70 = .ok (.bipush 100, 2) := by decide +kernel
theorem dX11_ask_72 : decode m_X11_ask.2.1 72 = .ok (.invokestatic 90, 3) := by decide +kernel
theorem dX11_ask_75 : decode m_X11_ask.2.1 75 = .ok (.goto 5, 3) := by decide +kernel
theorem dX11_ask_78 : decode m_X11_ask.2.1 78 = .ok (.ldc 124, 2) := by decide +kernel
theorem dX11_ask_80 : decode m_X11_ask.2.1 80 = .ok (.ireturn, 1) := by decide +kernel
theorem dX11_item_0 : decode m_X11_item.2.1 0 = .ok (.iload_n 1, 1) := by decide +kernel
theorem dX11_item_1 : decode m_X11_item.2.1 1 = .ok (.invokestatic 332, 3) := by decide +kernel
theorem dX11_item_4 : decode m_X11_item.2.1 4 = .ok (.ifCond .ne 6, 3) := by decide +kernel
theorem dX11_item_7 : decode m_X11_item.2.1 7 = .ok (.ldc 100, 2) := by decide +kernel
theorem dX11_item_9 : decode m_X11_item.2.1 9 = .ok (.ireturn, 1) := by decide +kernel
theorem dX11_item_10 : decode m_X11_item.2.1 10 = .ok (.aload_n 0, 1) := by decide +kernel
theorem dX11_item_11 : decode m_X11_item.2.1 11 = .ok (.getfield 28, 3) := by decide +kernel
theorem dX11_item_14 : decode m_X11_item.2.1 14 = .ok (.iload_n 1, 1) := by decide +kernel
theorem dX11_item_15 : decode m_X11_item.2.1 15 = .ok (.iaload, 1) := by decide +kernel
theorem dX11_item_16 : decode m_X11_item.2.1 16 = .ok (.iconst 2, 1) := by decide +kernel
theorem dX11_item_17 : decode m_X11_item.2.1 17 = .ok (.if_icmp .eq 21, 3) := by decide +kernel
theorem dX11_item_20 : decode m_X11_item.2.1 20 = .ok (.aload_n 0, 1) := by decide +kernel
theorem dX11_item_21 : decode m_X11_item.2.1 21 = .ok (.getfield 28, 3) := by decide +kernel
theorem dX11_item_24 : decode m_X11_item.2.1 24 = .ok (.iload_n 1, 1) := by decide +kernel
theorem dX11_item_25 : decode m_X11_item.2.1 25 = .ok (.iaload, 1) := by decide +kernel
theorem dX11_item_26 : decode m_X11_item.2.1 26 = .ok (.ifCond .ne 9, 3) := by decide +kernel
theorem dX11_item_29 : decode m_X11_item.2.1 29 = .ok (.ldc_w 328, 3) := by decide +kernel
theorem dX11_item_32 : decode m_X11_item.2.1 32 = .ok (.goto 5, 3) := by decide +kernel
theorem dX11_item_35 : decode m_X11_item.2.1 35 = .ok (.ldc 124, 2) := by decide +kernel
theorem dX11_item_37 : decode m_X11_item.2.1 37 = .ok (.ireturn, 1) := by decide +kernel
theorem dX11_item_38 : decode m_X11_item.2.1 38 = .ok (.iload_n 2, 1) := by decide +kernel
theorem dX11_item_39 : decode m_X11_item.2.1 39 = .ok (.i2l, 1) := by decide +kernel
theorem dX11_item_40 : decode m_X11_item.2.1 40 = .ok (.lconst 0, 1) := by decide +kernel
theorem dX11_item_41 : decode m_X11_item.2.1 41 = .ok (.aload_n 0, 1) := by decide +kernel
theorem dX11_item_42 : decode m_X11_item.2.1 42 = .ok (.getfield 37, 3) := by decide +kernel
theorem dX11_item_45 : decode m_X11_item.2.1 45 = .ok (.iload_n 1, 1) := by decide +kernel
theorem dX11_item_46 : decode m_X11_item.2.1 46 = .ok (.iaload, 1) := by decide +kernel
theorem dX11_item_47 : decode m_X11_item.2.1 47 = .ok (.iconst 1, 1) := by decide +kernel
theorem dX11_item_48 : decode m_X11_item.2.1 48 = .ok (.isub, 1) := by decide +kernel
theorem dX11_item_49 : decode m_X11_item.2.1 49 = .ok (.i2l, 1) := by decide +kernel
theorem dX11_item_50 : decode m_X11_item.2.1 50 = .ok (.invokestatic 78, 3) := by decide +kernel
theorem dX11_item_53 : decode m_X11_item.2.1 53 = .ok (.ifCond .ne 7, 3) := by decide +kernel
theorem dX11_item_56 : decode m_X11_item.2.1 56 = .ok (.ldc_w 329, 3) := by decide +kernel
theorem dX11_item_59 : decode m_X11_item.2.1 59 = .ok (.ireturn, 1) := by decide +kernel
theorem dX11_item_60 : decode m_X11_item.2.1 60 = .ok (.aload_n 0, 1) := by decide +kernel
theorem dX11_item_61 : decode m_X11_item.2.1 61 = .ok (.getfield 40, 3) := by decide +kernel
theorem dX11_item_64 : decode m_X11_item.2.1 64 = .ok (.bipush 24, 2) := by decide +kernel
theorem dX11_item_66 : decode m_X11_item.2.1 66 = .ok (.iload_n 1, 1) := by decide +kernel
theorem dX11_item_67 : decode m_X11_item.2.1 67 = .ok (.imul, 1) := by decide +kernel
theorem dX11_item_68 : decode m_X11_item.2.1 68 = .ok (.iload_n 2, 1) := by decide +kernel
theorem dX11_item_69 : decode m_X11_item.2.1 69 = .ok (.iadd, 1) := by decide +kernel
theorem dX11_item_70 : decode m_X11_item.2.1 70 = .ok (.iaload, 1) := by decide +kernel
theorem dX11_item_71 : decode m_X11_item.2.1 71 = .ok (.istore_n 3, 1) := by decide +kernel
theorem dX11_item_72 : decode m_X11_item.2.1 72 = .ok (.iload_n 3, 1) := by decide +kernel
theorem dX11_item_73 : decode m_X11_item.2.1 73 = .ok (.ldc 77, 2) := by decide +kernel
theorem dX11_item_75 : decode m_X11_item.2.1 75 = .ok (.if_icmp .ne 8, 3) := by decide +kernel
theorem dX11_item_78 : decode m_X11_item.2.1 78 = .ok (.ldc 124, 2) := by decide +kernel
theorem dX11_item_80 : decode m_X11_item.2.1 80 = .ok (.goto 4, 3) := by decide +kernel
theorem dX11_item_83 : decode m_X11_item.2.1 83 = .ok (.iload_n 3, 1) := by decide +kernel
theorem dX11_item_84 : decode m_X11_item.2.1 84 = .ok (.ireturn, 1) := by decide +kernel
theorem dX11_rest_0 : decode m_X11_rest.2.1 0 = .ok (.iload_n 1, 1) := by decide +kernel
theorem dX11_rest_1 : decode m_X11_rest.2.1 1 = .ok (.invokestatic 332, 3) := by decide +kernel
theorem dX11_rest_4 : decode m_X11_rest.2.1 4 = .ok (.ifCond .ne 6, 3) := by decide +kernel
theorem dX11_rest_7 : decode m_X11_rest.2.1 7 = .ok (.ldc 100, 2) := by decide +kernel
theorem dX11_rest_9 : decode m_X11_rest.2.1 9 = .ok (.ireturn, 1) := by decide +kernel
theorem dX11_rest_10 : decode m_X11_rest.2.1 10 = .ok (.aload_n 0, 1) := by decide +kernel
theorem dX11_rest_11 : decode m_X11_rest.2.1 11 = .ok (.getfield 28, 3) := by decide +kernel
theorem dX11_rest_14 : decode m_X11_rest.2.1 14 = .ok (.iload_n 1, 1) := by decide +kernel
theorem dX11_rest_15 : decode m_X11_rest.2.1 15 = .ok (.iaload, 1) := by decide +kernel
theorem dX11_rest_16 : decode m_X11_rest.2.1 16 = .ok (.iconst 3, 1) := by decide +kernel
theorem dX11_rest_17 : decode m_X11_rest.2.1 17 = .ok (.if_icmp .eq 21, 3) := by decide +kernel
theorem dX11_rest_20 : decode m_X11_rest.2.1 20 = .ok (.aload_n 0, 1) := by decide +kernel
theorem dX11_rest_21 : decode m_X11_rest.2.1 21 = .ok (.getfield 28, 3) := by decide +kernel
theorem dX11_rest_24 : decode m_X11_rest.2.1 24 = .ok (.iload_n 1, 1) := by decide +kernel
theorem dX11_rest_25 : decode m_X11_rest.2.1 25 = .ok (.iaload, 1) := by decide +kernel
theorem dX11_rest_26 : decode m_X11_rest.2.1 26 = .ok (.ifCond .ne 9, 3) := by decide +kernel
theorem dX11_rest_29 : decode m_X11_rest.2.1 29 = .ok (.ldc_w 328, 3) := by decide +kernel
theorem dX11_rest_32 : decode m_X11_rest.2.1 32 = .ok (.goto 5, 3) := by decide +kernel
theorem dX11_rest_35 : decode m_X11_rest.2.1 35 = .ok (.ldc 124, 2) := by decide +kernel
theorem dX11_rest_37 : decode m_X11_rest.2.1 37 = .ok (.ireturn, 1) := by decide +kernel
theorem dX11_rest_38 : decode m_X11_rest.2.1 38 = .ok (.iload_n 2, 1) := by decide +kernel
theorem dX11_rest_39 : decode m_X11_rest.2.1 39 = .ok (.ifCond .ne 8, 3) := by decide +kernel
theorem dX11_rest_42 : decode m_X11_rest.2.1 42 = .ok (.ldc 153, 2) := by decide +kernel
theorem dX11_rest_44 : decode m_X11_rest.2.1 44 = .ok (.goto 11, 3) := by decide +kernel
theorem dX11_rest_47 : decode m_X11_rest.2.1 47 = .ok (.aload_n 0, 1) := by decide +kernel
theorem dX11_rest_48 : decode m_X11_rest.2.1 48 = .ok (.getfield 31, 3) := by decide +kernel
theorem dX11_rest_51 : decode m_X11_rest.2.1 51 = .ok (.iload_n 1, 1) := by decide +kernel
theorem dX11_rest_52 : decode m_X11_rest.2.1 52 = .ok (.iaload, 1) := by decide +kernel
theorem dX11_rest_53 : decode m_X11_rest.2.1 53 = .ok (.iload_n 2, 1) := by decide +kernel
theorem dX11_rest_54 : decode m_X11_rest.2.1 54 = .ok (.irem, 1) := by decide +kernel
theorem dX11_rest_55 : decode m_X11_rest.2.1 55 = .ok (.ireturn, 1) := by decide +kernel
theorem dX11_tell_0 : decode m_X11_tell.2.1 0 = .ok (.aload_n 0, 1) := by decide +kernel
theorem dX11_tell_1 : decode m_X11_tell.2.1 1 = .ok (.getfield 335, 3) := by decide +kernel
theorem dX11_tell_4 : decode m_X11_tell.2.1 4 = .ok (.bipush 60, 2) := by decide +kernel
theorem dX11_tell_6 : decode m_X11_tell.2.1 6 = .ok (.if_icmp .ne 6, 3) := by decide +kernel
theorem dX11_tell_9 : decode m_X11_tell.2.1 9 = .ok (.ldc 101, 2) := by decide +kernel
theorem dX11_tell_11 : decode m_X11_tell.2.1 11 = .ok (.ireturn, 1) := by decide +kernel
theorem dX11_tell_12 : decode m_X11_tell.2.1 12 = .ok (.aload_n 0, 1) := by decide +kernel
theorem dX11_tell_13 : decode m_X11_tell.2.1 13 = .ok (.getfield 71, 3) := by decide +kernel
theorem dX11_tell_16 : decode m_X11_tell.2.1 16 = .ok (.aload_n 0, 1) := by decide +kernel
theorem dX11_tell_17 : decode m_X11_tell.2.1 17 = .ok (.getfield 335, 3) := by decide +kernel
theorem dX11_tell_20 : decode m_X11_tell.2.1 20 = .ok (.iload_n 1, 1) := by decide +kernel
theorem dX11_tell_21 : decode m_X11_tell.2.1 21 = .ok (.iastore, 1) := by decide +kernel
theorem dX11_tell_22 : decode m_X11_tell.2.1 22 = .ok (.aload_n 0, 1) := by decide +kernel
theorem dX11_tell_23 : decode m_X11_tell.2.1 23 = .ok (.dup, 1) := by decide +kernel
theorem dX11_tell_24 : decode m_X11_tell.2.1 24 = .ok (.getfield 335, 3) := by decide +kernel
theorem dX11_tell_27 : decode m_X11_tell.2.1 27 = .ok (.iconst 1, 1) := by decide +kernel
theorem dX11_tell_28 : decode m_X11_tell.2.1 28 = .ok (.iadd, 1) := by decide +kernel
theorem dX11_tell_29 : decode m_X11_tell.2.1 29 = .ok (.putfield 335, 3) := by decide +kernel
theorem dX11_tell_32 : decode m_X11_tell.2.1 32 = .ok (.aload_n 0, 1) := by decide +kernel
theorem dX11_tell_33 : decode m_X11_tell.2.1 33 = .ok (.getfield 335, 3) := by decide +kernel
theorem dX11_tell_36 : decode m_X11_tell.2.1 36 = .ok (.ireturn, 1) := by decide +kernel
theorem dX11_check_0 : decode m_X11_check.2.1 0 = .ok (.aload_n 0, 1) := by decide +kernel
theorem dX11_check_1 : decode m_X11_check.2.1 1 = .ok (.getfield 335, 3) := by decide +kernel
theorem dX11_check_4 : decode m_X11_check.2.1 4 = .ok (.istore_n 2, 1) := by decide +kernel
theorem dX11_check_5 : decode m_X11_check.2.1 5 = .ok (.aload_n 0, 1) := by decide +kernel
theorem dX11_check_6 : decode m_X11_check.2.1 6 = .ok (.iconst 0, 1) := by decide +kernel
theorem dX11_check_7 : decode m_X11_check.2.1 7 = .ok (.putfield 335, 3) := by decide +kernel
theorem dX11_check_10 : decode m_X11_check.2.1 10 = .ok (.iload_n 1, 1) := by decide +kernel
theorem dX11_check_11 : decode m_X11_check.2.1 11 = .ok (.i2l, 1) := by decide +kernel
theorem dX11_check_12 : decode m_X11_check.2.1 12 = .ok (.lconst 1, 1) := by decide +kernel
theorem dX11_check_13 : decode m_X11_check.2.1 13 = .ok (.ldc2_w 338, 3) := by decide +kernel
theorem dX11_check_16 : decode m_X11_check.2.1 16 = .ok (.invokestatic 78, 3) := by decide +kernel
theorem dX11_check_19 : decode m_X11_check.2.1 19 = .ok (.ifCond .ne 6, 3) := by decide +kernel
theorem dX11_check_22 : decode m_X11_check.2.1 22 = .ok (.ldc 100, 2) := by decide +kernel
theorem dX11_check_24 : decode m_X11_check.2.1 24 = .ok (.ireturn, 1) := by decide +kernel
theorem dX11_check_25 : decode m_X11_check.2.1 25 = .ok (.aload_n 0, 1) := by decide +kernel
theorem dX11_check_26 : decode m_X11_check.2.1 26 = .ok (.getfield 340, 3) := by decide +kernel
theorem dX11_check_29 : decode m_X11_check.2.1 29 = .ok (.ifCond .ne 6, 3) := by decide +kernel
theorem dX11_check_32 : decode m_X11_check.2.1 32 = .ok (.ldc 153, 2) := by decide +kernel
theorem dX11_check_34 : decode m_X11_check.2.1 34 = .ok (.ireturn, 1) := by decide +kernel
theorem dX11_check_35 : decode m_X11_check.2.1 35 = .ok (.aload_n 0, 1) := by decide +kernel
theorem dX11_check_36 : decode m_X11_check.2.1 36 = .ok (.aload_n 0, 1) := by decide +kernel
theorem dX11_check_37 : decode m_X11_check.2.1 37 = .ok (.getfield 7, 3) := by decide +kernel
theorem dX11_check_40 : decode m_X11_check.2.1 40 = .ok (.aload_n 0, 1) := by decide +kernel
theorem dX11_check_41 : decode m_X11_check.2.1 41 = .ok (.getfield 16, 3) := by decide +kernel
theorem dX11_check_44 : decode m_X11_check.2.1 44 = .ok (.invokevirtual 212, 3) := by decide +kernel
theorem dX11_check_47 : decode m_X11_check.2.1 47 = .ok (.aload_n 0, 1) := by decide +kernel
theorem dX11_check_48 : decode m_X11_check.2.1 48 = .ok (.aload_n 0, 1) := by decide +kernel
theorem dX11_check_49 : decode m_X11_check.2.1 49 = .ok (.getfield 13, 3) := by decide +kernel
theorem dX11_check_52 : decode m_X11_check.2.1 52 = .ok (.aload_n 0, 1) := by decide +kernel
theorem dX11_check_53 : decode m_X11_check.2.1 53 = .ok (.getfield 7, 3) := by decide +kernel
theorem dX11_check_56 : decode m_X11_check.2.1 56 = .ok (.invokevirtual 212, 3) := by decide +kernel
theorem dX11_check_59 : decode m_X11_check.2.1 59 = .ok (.iconst 0, 1) := by decide +kernel
theorem dX11_check_60 : decode m_X11_check.2.1 60 = .ok (.istore_n 3, 1) := by decide +kernel
theorem dX11_check_61 : decode m_X11_check.2.1 61 = .ok (.iload_n 3, 1) := by decide +kernel
theorem dX11_check_62 : decode m_X11_check.2.1 62 = .ok (.iload_n 1, 1) := by decide +kernel
theorem dX11_check_63 : decode m_X11_check.2.1 63 = .ok (.if_icmp .ge 42, 3) := by decide +kernel
theorem dX11_check_66 : decode m_X11_check.2.1 66 = .ok (.aload_n 0, 1) := by decide +kernel
theorem dX11_check_67 : decode m_X11_check.2.1 67 = .ok (.invokevirtual 203, 3) := by decide +kernel
theorem dX11_check_70 : decode m_X11_check.2.1 70 = .ok (.aload_n 0, 1) := by decide +kernel
theorem dX11_check_71 : decode m_X11_check.2.1 71 = .ok (.getfield 74, 3) := by decide +kernel
theorem dX11_check_74 : decode m_X11_check.2.1 74 = .ok (.iconst 2, 1) := by decide +kernel
theorem dX11_check_75 : decode m_X11_check.2.1 75 = .ok (.iload_n 3, 1) := by decide +kernel
theorem dX11_check_76 : decode m_X11_check.2.1 76 = .ok (.imul, 1) := by decide +kernel
theorem dX11_check_77 : decode m_X11_check.2.1 77 = .ok (.aload_n 0, 1) := by decide +kernel
theorem dX11_check_78 : decode m_X11_check.2.1 78 = .ok (.getfield 7, 3) := by decide +kernel
theorem dX11_check_81 : decode m_X11_check.2.1 81 = .ok (.bipush 9, 2) := by decide +kernel
theorem dX11_check_83 : decode m_X11_check.2.1 83 = .ok (.iaload, 1) := by decide +kernel
theorem dX11_check_84 : decode m_X11_check.2.1 84 = .ok (.iastore, 1) := by decide +kernel
theorem dX11_check_85 : decode m_X11_check.2.1 85 = .ok (.aload_n 0, 1) := by decide +kernel
theorem dX11_check_86 : decode m_X11_check.2.1 86 = .ok (.getfield 74, 3) := by decide +kernel
theorem dX11_check_89 : decode m_X11_check.2.1 89 = .ok (.iconst 2, 1) := by decide +kernel
theorem dX11_check_90 : decode m_X11_check.2.1 90 = .ok (.iload_n 3, 1) := by decide +kernel
theorem dX11_check_91 : decode m_X11_check.2.1 91 = .ok (.imul, 1) := by decide +kernel
theorem dX11_check_92 : decode m_X11_check.2.1 92 = .ok (.iconst 1, 1) := by decide +kernel
theorem dX11_check_93 : decode m_X11_check.2.1 93 = .ok (.iadd, 1) := by decide +kernel
theorem dX11_check_94 : decode m_X11_check.2.1 94 = .ok (.aload_n 0, 1) := by decide +kernel
theorem dX11_check_95 : decode m_X11_check.2.1 95 = .ok (.invokevirtual 344, 3) := by decide +kernel
theorem dX11_check_98 : decode m_X11_check.2.1 98 = .ok (.iastore, 1) := by decide +kernel
theorem dX11_check_99 : decode m_X11_check.2.1 99 = .ok (.iinc 3 1, 3) := by decide +kernel
theorem dX11_check_102 : decode m_X11_check.2.1 102 = .ok (.goto (-41), 3) := by decide +kernel
theorem dX11_check_105 : decode m_X11_check.2.1 105 = .ok (.aload_n 0, 1) := by decide +kernel
theorem dX11_check_106 : decode m_X11_check.2.1 106 = .ok (.aload_n 0, 1) := by decide +kernel
theorem dX11_check_107 : decode m_X11_check.2.1 107 = .ok (.getfield 16, 3) := by decide +kernel
theorem dX11_check_110 : decode m_X11_check.2.1 110 = .ok (.aload_n 0, 1) := by decide +kernel
theorem dX11_check_111 : decode m_X11_check.2.1 111 = .ok (.getfield 7, 3) := by decide +kernel
theorem dX11_check_114 : decode m_X11_check.2.1 114 = .ok (.invokevirtual 212, 3) := by decide +kernel
theorem dX11_check_117 : decode m_X11_check.2.1 117 = .ok (.iconst 0, 1) := by decide +kernel
theorem dX11_check_118 : decode m_X11_check.2.1 118 = .ok (.istore_n 3, 1) := by decide +kernel
theorem dX11_check_119 : decode m_X11_check.2.1 119 = .ok (.iload_n 3, 1) := by decide +kernel
theorem dX11_check_120 : decode m_X11_check.2.1 120 = .ok (.iload_n 2, 1) := by decide +kernel
theorem dX11_check_121 : decode m_X11_check.2.1 121 = .ok (.if_icmp .ge 31, 3) := by decide +kernel
theorem dX11_check_124 : decode m_X11_check.2.1 124 = .ok (.iload_n 3, 1) := by decide +kernel
theorem dX11_check_125 : decode m_X11_check.2.1 125 = .ok (.iconst 2, 1) := by decide +kernel
theorem dX11_check_126 : decode m_X11_check.2.1 126 = .ok (.iload_n 1, 1) := by decide +kernel
theorem dX11_check_127 : decode m_X11_check.2.1 127 = .ok (.imul, 1) := by decide +kernel
theorem dX11_check_128 : decode m_X11_check.2.1 128 = .ok (.if_icmp .ge 24, 3) := by decide +kernel
theorem dX11_check_131 : decode m_X11_check.2.1 131 = .ok (.aload_n 0, 1) := by decide +kernel
theorem dX11_check_132 : decode m_X11_check.2.1 132 = .ok (.getfield 71, 3) := by decide +kernel
theorem dX11_check_135 : decode m_X11_check.2.1 135 = .ok (.iload_n 3, 1) := by decide +kernel
theorem dX11_check_136 : decode m_X11_check.2.1 136 = .ok (.iaload, 1) := by decide +kernel
theorem dX11_check_137 : decode m_X11_check.2.1 137 = .ok (.aload_n 0, 1) := by decide +kernel
theorem dX11_check_138 : decode m_X11_check.2.1 138 = .ok (.getfield 74, 3) := by decide +kernel
theorem dX11_check_141 : decode m_X11_check.2.1 141 = .ok (.iload_n 3, 1) := by decide +kernel
theorem dX11_check_142 : decode m_X11_check.2.1 142 = .ok (.iaload, 1) := by decide +kernel
theorem dX11_check_143 : decode m_X11_check.2.1 143 = .ok (.if_icmp .ne 9, 3) := by decide +kernel
theorem dX11_check_146 : decode m_X11_check.2.1 146 = .ok (.iinc 3 1, 3) := by decide +kernel
theorem dX11_check_149 : decode m_X11_check.2.1 149 = .ok (.goto (-30), 3) := by decide +kernel
theorem dX11_check_152 : decode m_X11_check.2.1 152 = .ok (.iload_n 3, 1) := by decide +kernel
theorem dX11_check_153 : decode m_X11_check.2.1 153 = .ok (.iload_n 2, 1) := by decide +kernel
theorem dX11_check_154 : decode m_X11_check.2.1 154 = .ok (.if_icmp .ne 14, 3) := by decide +kernel
theorem dX11_check_157 : decode m_X11_check.2.1 157 = .ok (.iload_n 3, 1) := by decide +kernel
theorem dX11_check_158 : decode m_X11_check.2.1 158 = .ok (.iconst 2, 1) := by decide +kernel
theorem dX11_check_159 : decode m_X11_check.2.1 159 = .ok (.iload_n 1, 1) := by decide +kernel
theorem dX11_check_160 : decode m_X11_check.2.1 160 = .ok (.imul, 1) := by decide +kernel
theorem dX11_check_161 : decode m_X11_check.2.1 161 = .ok (.if_icmp .ne 7, 3) := by decide +kernel
theorem dX11_check_164 : decode m_X11_check.2.1 164 = .ok (.iconst 0, 1) := by decide +kernel
theorem dX11_check_165 : decode m_X11_check.2.1 165 = .ok (.goto 6, 3) := by decide +kernel
theorem dX11_check_168 : decode m_X11_check.2.1 168 = .ok (.iconst 1, 1) := by decide +kernel
theorem dX11_check_169 : decode m_X11_check.2.1 169 = .ok (.iload_n 3, 1) := by decide +kernel
theorem dX11_check_170 : decode m_X11_check.2.1 170 = .ok (.iadd, 1) := by decide +kernel
theorem dX11_check_171 : decode m_X11_check.2.1 171 = .ok (.ireturn, 1) := by decide +kernel
theorem dX11_keep_0 : decode m_X11_keep.2.1 0 = .ok (.aload_n 0, 1) := by decide +kernel
theorem dX11_keep_1 : decode m_X11_keep.2.1 1 = .ok (.iconst 1, 1) := by decide +kernel
theorem dX11_keep_2 : decode m_X11_keep.2.1 2 = .ok (.putfield 340, 3) := by decide +kernel
theorem dX11_keep_5 : decode m_X11_keep.2.1 5 = .ok (.aload_n 0, 1) := by decide +kernel
theorem dX11_keep_6 : decode m_X11_keep.2.1 6 = .ok (.aload_n 0, 1) := by decide +kernel
theorem dX11_keep_7 : decode m_X11_keep.2.1 7 = .ok (.getfield 7, 3) := by decide +kernel
theorem dX11_keep_10 : decode m_X11_keep.2.1 10 = .ok (.aload_n 0, 1) := by decide +kernel
theorem dX11_keep_11 : decode m_X11_keep.2.1 11 = .ok (.getfield 13, 3) := by decide +kernel
theorem dX11_keep_14 : decode m_X11_keep.2.1 14 = .ok (.invokevirtual 212, 3) := by decide +kernel
theorem dX11_keep_17 : decode m_X11_keep.2.1 17 = .ok (.aload_n 0, 1) := by decide +kernel
theorem dX11_keep_18 : decode m_X11_keep.2.1 18 = .ok (.getfield 7, 3) := by decide +kernel
theorem dX11_keep_21 : decode m_X11_keep.2.1 21 = .ok (.iconst 5, 1) := by decide +kernel
theorem dX11_keep_22 : decode m_X11_keep.2.1 22 = .ok (.iaload, 1) := by decide +kernel
theorem dX11_keep_23 : decode m_X11_keep.2.1 23 = .ok (.ireturn, 1) := by decide +kernel
theorem dX11_back_0 : decode m_X11_back.2.1 0 = .ok (.aload_n 0, 1) := by decide +kernel
theorem dX11_back_1 : decode m_X11_back.2.1 1 = .ok (.getfield 340, 3) := by decide +kernel
theorem dX11_back_4 : decode m_X11_back.2.1 4 = .ok (.ifCond .ne 6, 3) := by decide +kernel
theorem dX11_back_7 : decode m_X11_back.2.1 7 = .ok (.ldc 153, 2) := by decide +kernel
theorem dX11_back_9 : decode m_X11_back.2.1 9 = .ok (.ireturn, 1) := by decide +kernel
theorem dX11_back_10 : decode m_X11_back.2.1 10 = .ok (.aload_n 0, 1) := by decide +kernel
theorem dX11_back_11 : decode m_X11_back.2.1 11 = .ok (.aload_n 0, 1) := by decide +kernel
theorem dX11_back_12 : decode m_X11_back.2.1 12 = .ok (.getfield 13, 3) := by decide +kernel
theorem dX11_back_15 : decode m_X11_back.2.1 15 = .ok (.aload_n 0, 1) := by decide +kernel
theorem dX11_back_16 : decode m_X11_back.2.1 16 = .ok (.getfield 7, 3) := by decide +kernel
theorem dX11_back_19 : decode m_X11_back.2.1 19 = .ok (.invokevirtual 212, 3) := by decide +kernel
theorem dX11_back_22 : decode m_X11_back.2.1 22 = .ok (.aload_n 0, 1) := by decide +kernel
theorem dX11_back_23 : decode m_X11_back.2.1 23 = .ok (.getfield 7, 3) := by decide +kernel
theorem dX11_back_26 : decode m_X11_back.2.1 26 = .ok (.iconst 5, 1) := by decide +kernel
theorem dX11_back_27 : decode m_X11_back.2.1 27 = .ok (.iaload, 1) := by decide +kernel
theorem dX11_back_28 : decode m_X11_back.2.1 28 = .ok (.ireturn, 1) := by decide +kernel
theorem dX11_count_0 : decode m_X11_count.2.1 0 = .ok (.iload_n 1, 1) := by decide +kernel
theorem dX11_count_1 : decode m_X11_count.2.1 1 = .ok (.tableswitch 108 0 8 #[51, 58, 65, 70, 77, 84, 91, 98, 103], 51) := by decide +kernel
theorem dX11_count_52 : decode m_X11_count.2.1 52 = .ok (.aload_n 0, 1) := by decide +kernel
theorem dX11_count_53 : decode m_X11_count.2.1 53 = .ok (.getfield 7, 3) := by decide +kernel
theorem dX11_count_56 : decode m_X11_count.2.1 56 = .ok (.iconst 0, 1) := by decide +kernel
theorem dX11_count_57 : decode m_X11_count.2.1 57 = .ok (.iaload, 1) := by decide +kernel
theorem dX11_count_58 : decode m_X11_count.2.1 58 = .ok (.ireturn, 1) := by decide +kernel
theorem dX11_count_59 : decode m_X11_count.2.1 59 = .ok (.aload_n 0, 1) := by decide +kernel
theorem dX11_count_60 : decode m_X11_count.2.1 60 = .ok (.getfield 7, 3) := by decide +kernel
theorem dX11_count_63 : decode m_X11_count.2.1 63 = .ok (.iconst 1, 1) := by decide +kernel
theorem dX11_count_64 : decode m_X11_count.2.1 64 = .ok (.iaload, 1) := by decide +kernel
theorem dX11_count_65 : decode m_X11_count.2.1 65 = .ok (.ireturn, 1) := by decide +kernel
theorem dX11_count_66 : decode m_X11_count.2.1 66 = .ok (.aload_n 0, 1) := by decide +kernel
theorem dX11_count_67 : decode m_X11_count.2.1 67 = .ok (.invokevirtual 344, 3) := by decide +kernel
theorem dX11_count_70 : decode m_X11_count.2.1 70 = .ok (.ireturn, 1) := by decide +kernel
theorem dX11_count_71 : decode m_X11_count.2.1 71 = .ok (.aload_n 0, 1) := by decide +kernel
theorem dX11_count_72 : decode m_X11_count.2.1 72 = .ok (.getfield 7, 3) := by decide +kernel
theorem dX11_count_75 : decode m_X11_count.2.1 75 = .ok (.iconst 2, 1) := by decide +kernel
theorem dX11_count_76 : decode m_X11_count.2.1 76 = .ok (.iaload, 1) := by decide +kernel
theorem dX11_count_77 : decode m_X11_count.2.1 77 = .ok (.ireturn, 1) := by decide +kernel
theorem dX11_count_78 : decode m_X11_count.2.1 78 = .ok (.aload_n 0, 1) := by decide +kernel
theorem dX11_count_79 : decode m_X11_count.2.1 79 = .ok (.getfield 7, 3) := by decide +kernel
theorem dX11_count_82 : decode m_X11_count.2.1 82 = .ok (.iconst 3, 1) := by decide +kernel
theorem dX11_count_83 : decode m_X11_count.2.1 83 = .ok (.iaload, 1) := by decide +kernel
theorem dX11_count_84 : decode m_X11_count.2.1 84 = .ok (.ireturn, 1) := by decide +kernel
theorem dX11_count_85 : decode m_X11_count.2.1 85 = .ok (.aload_n 0, 1) := by decide +kernel
theorem dX11_count_86 : decode m_X11_count.2.1 86 = .ok (.getfield 7, 3) := by decide +kernel
theorem dX11_count_89 : decode m_X11_count.2.1 89 = .ok (.iconst 4, 1) := by decide +kernel
theorem dX11_count_90 : decode m_X11_count.2.1 90 = .ok (.iaload, 1) := by decide +kernel
theorem dX11_count_91 : decode m_X11_count.2.1 91 = .ok (.ireturn, 1) := by decide +kernel
theorem dX11_count_92 : decode m_X11_count.2.1 92 = .ok (.aload_n 0, 1) := by decide +kernel
theorem dX11_count_93 : decode m_X11_count.2.1 93 = .ok (.getfield 7, 3) := by decide +kernel
theorem dX11_count_96 : decode m_X11_count.2.1 96 = .ok (.iconst 5, 1) := by decide +kernel
theorem dX11_count_97 : decode m_X11_count.2.1 97 = .ok (.iaload, 1) := by decide +kernel
theorem dX11_count_98 : decode m_X11_count.2.1 98 = .ok (.ireturn, 1) := by decide +kernel
theorem dX11_count_99 : decode m_X11_count.2.1 99 = .ok (.aload_n 0, 1) := by decide +kernel
theorem dX11_count_100 : decode m_X11_count.2.1 100 = .ok (.getfield 335, 3) := by decide +kernel
theorem dX11_count_103 : decode m_X11_count.2.1 103 = .ok (.ireturn, 1) := by decide +kernel
theorem dX11_count_104 : decode m_X11_count.2.1 104 = .ok (.aload_n 0, 1) := by decide +kernel
theorem dX11_count_105 : decode m_X11_count.2.1 105 = .ok (.getfield 219, 3) := by decide +kernel
theorem dX11_count_108 : decode m_X11_count.2.1 108 = .ok (.ireturn, 1) := by decide +kernel
theorem dX11_count_109 : decode m_X11_count.2.1 109 = .ok (.ldc 100, 2) := by decide +kernel
theorem dX11_count_111 : decode m_X11_count.2.1 111 = .ok (.ireturn, 1) := by decide +kernel
