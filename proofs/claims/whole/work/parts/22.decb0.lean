theorem d_Mo_init_0 : decode b_Mo_init 0 = .ok (.aload_n 0, 1) := by decide +kernel
theorem d_Mo_init_1 : decode b_Mo_init 1 = .ok (.invokespecial 1, 3) := by decide +kernel
theorem d_Mo_init_4 : decode b_Mo_init 4 = .ok (.aload_n 0, 1) := by decide +kernel
theorem d_Mo_init_5 : decode b_Mo_init 5 = .ok (.bipush 80, 2) := by decide +kernel
theorem d_Mo_init_7 : decode b_Mo_init 7 = .ok (.newarray .int, 2) := by decide +kernel
theorem d_Mo_init_9 : decode b_Mo_init 9 = .ok (.putfield 7, 3) := by decide +kernel
theorem d_Mo_init_12 : decode b_Mo_init 12 = .ok (.aload_n 0, 1) := by decide +kernel
theorem d_Mo_init_13 : decode b_Mo_init 13 = .ok (.bipush 80, 2) := by decide +kernel
theorem d_Mo_init_15 : decode b_Mo_init 15 = .ok (.newarray .int, 2) := by decide +kernel
theorem d_Mo_init_17 : decode b_Mo_init 17 = .ok (.putfield 13, 3) := by decide +kernel
theorem d_Mo_init_20 : decode b_Mo_init 20 = .ok (.aload_n 0, 1) := by decide +kernel
theorem d_Mo_init_21 : decode b_Mo_init 21 = .ok (.bipush 80, 2) := by decide +kernel
theorem d_Mo_init_23 : decode b_Mo_init 23 = .ok (.newarray .long, 2) := by decide +kernel
theorem d_Mo_init_25 : decode b_Mo_init 25 = .ok (.putfield 16, 3) := by decide +kernel
theorem d_Mo_init_28 : decode b_Mo_init 28 = .ok (.aload_n 0, 1) := by decide +kernel
theorem d_Mo_init_29 : decode b_Mo_init 29 = .ok (.bipush 80, 2) := by decide +kernel
theorem d_Mo_init_31 : decode b_Mo_init 31 = .ok (.newarray .int, 2) := by decide +kernel
theorem d_Mo_init_33 : decode b_Mo_init 33 = .ok (.putfield 20, 3) := by decide +kernel
theorem d_Mo_init_36 : decode b_Mo_init 36 = .ok (.aload_n 0, 1) := by decide +kernel
theorem d_Mo_init_37 : decode b_Mo_init 37 = .ok (.sipush 2400, 3) := by decide +kernel
theorem d_Mo_init_40 : decode b_Mo_init 40 = .ok (.newarray .int, 2) := by decide +kernel
theorem d_Mo_init_42 : decode b_Mo_init 42 = .ok (.putfield 23, 3) := by decide +kernel
theorem d_Mo_init_45 : decode b_Mo_init 45 = .ok (.aload_n 0, 1) := by decide +kernel
theorem d_Mo_init_46 : decode b_Mo_init 46 = .ok (.sipush 192, 3) := by decide +kernel
theorem d_Mo_init_49 : decode b_Mo_init 49 = .ok (.newarray .boolean, 2) := by decide +kernel
theorem d_Mo_init_51 : decode b_Mo_init 51 = .ok (.putfield 26, 3) := by decide +kernel
theorem d_Mo_init_54 : decode b_Mo_init 54 = .ok (.aload_n 0, 1) := by decide +kernel
theorem d_Mo_init_55 : decode b_Mo_init 55 = .ok (.sipush 192, 3) := by decide +kernel
theorem d_Mo_init_58 : decode b_Mo_init 58 = .ok (.newarray .boolean, 2) := by decide +kernel
theorem d_Mo_init_60 : decode b_Mo_init 60 = .ok (.putfield 30, 3) := by decide +kernel
theorem d_Mo_init_63 : decode b_Mo_init 63 = .ok (.aload_n 0, 1) := by decide +kernel
theorem d_Mo_init_64 : decode b_Mo_init 64 = .ok (.sipush 192, 3) := by decide +kernel
theorem d_Mo_init_67 : decode b_Mo_init 67 = .ok (.newarray .int, 2) := by decide +kernel
theorem d_Mo_init_69 : decode b_Mo_init 69 = .ok (.putfield 33, 3) := by decide +kernel
theorem d_Mo_init_72 : decode b_Mo_init 72 = .ok (.aload_n 0, 1) := by decide +kernel
theorem d_Mo_init_73 : decode b_Mo_init 73 = .ok (.sipush 192, 3) := by decide +kernel
theorem d_Mo_init_76 : decode b_Mo_init 76 = .ok (.newarray .boolean, 2) := by decide +kernel
theorem d_Mo_init_78 : decode b_Mo_init 78 = .ok (.putfield 36, 3) := by decide +kernel
theorem d_Mo_init_81 : decode b_Mo_init 81 = .ok (.aload_n 0, 1) := by decide +kernel
theorem d_Mo_init_82 : decode b_Mo_init 82 = .ok (.sipush 192, 3) := by decide +kernel
theorem d_Mo_init_85 : decode b_Mo_init 85 = .ok (.newarray .boolean, 2) := by decide +kernel
theorem d_Mo_init_87 : decode b_Mo_init 87 = .ok (.putfield 39, 3) := by decide +kernel
theorem d_Mo_init_90 : decode b_Mo_init 90 = .ok (.aload_n 0, 1) := by decide +kernel
theorem d_Mo_init_91 : decode b_Mo_init 91 = .ok (.sipush 192, 3) := by decide +kernel
theorem d_Mo_init_94 : decode b_Mo_init 94 = .ok (.newarray .int, 2) := by decide +kernel
theorem d_Mo_init_96 : decode b_Mo_init 96 = .ok (.putfield 42, 3) := by decide +kernel
theorem d_Mo_init_99 : decode b_Mo_init 99 = .ok (.aload_n 0, 1) := by decide +kernel
theorem d_Mo_init_100 : decode b_Mo_init 100 = .ok (.sipush 768, 3) := by decide +kernel
theorem d_Mo_init_103 : decode b_Mo_init 103 = .ok (.newarray .int, 2) := by decide +kernel
theorem d_Mo_init_105 : decode b_Mo_init 105 = .ok (.putfield 45, 3) := by decide +kernel
theorem d_Mo_init_108 : decode b_Mo_init 108 = .ok (.aload_n 0, 1) := by decide +kernel
theorem d_Mo_init_109 : decode b_Mo_init 109 = .ok (.sipush 768, 3) := by decide +kernel
theorem d_Mo_init_112 : decode b_Mo_init 112 = .ok (.newarray .int, 2) := by decide +kernel
theorem d_Mo_init_114 : decode b_Mo_init 114 = .ok (.putfield 48, 3) := by decide +kernel
theorem d_Mo_init_117 : decode b_Mo_init 117 = .ok (.aload_n 0, 1) := by decide +kernel
theorem d_Mo_init_118 : decode b_Mo_init 118 = .ok (.iconst 4, 1) := by decide +kernel
theorem d_Mo_init_119 : decode b_Mo_init 119 = .ok (.newarray .int, 2) := by decide +kernel
theorem d_Mo_init_121 : decode b_Mo_init 121 = .ok (.putfield 51, 3) := by decide +kernel
theorem d_Mo_init_124 : decode b_Mo_init 124 = .ok (.aload_n 0, 1) := by decide +kernel
theorem d_Mo_init_125 : decode b_Mo_init 125 = .ok (.iconst 4, 1) := by decide +kernel
theorem d_Mo_init_126 : decode b_Mo_init 126 = .ok (.newarray .boolean, 2) := by decide +kernel
theorem d_Mo_init_128 : decode b_Mo_init 128 = .ok (.putfield 54, 3) := by decide +kernel
theorem d_Mo_init_131 : decode b_Mo_init 131 = .ok (.aload_n 0, 1) := by decide +kernel
theorem d_Mo_init_132 : decode b_Mo_init 132 = .ok (.iconst 4, 1) := by decide +kernel
theorem d_Mo_init_133 : decode b_Mo_init 133 = .ok (.newarray .int, 2) := by decide +kernel
theorem d_Mo_init_135 : decode b_Mo_init 135 = .ok (.putfield 57, 3) := by decide +kernel
theorem d_Mo_init_138 : decode b_Mo_init 138 = .ok (.aload_n 0, 1) := by decide +kernel
theorem d_Mo_init_139 : decode b_Mo_init 139 = .ok (.iconst 4, 1) := by decide +kernel
theorem d_Mo_init_140 : decode b_Mo_init 140 = .ok (.newarray .int, 2) := by decide +kernel
theorem d_Mo_init_142 : decode b_Mo_init 142 = .ok (.putfield 60, 3) := by decide +kernel
theorem d_Mo_init_145 : decode b_Mo_init 145 = .ok (.aload_n 0, 1) := by decide +kernel
theorem d_Mo_init_146 : decode b_Mo_init 146 = .ok (.bipush 16, 2) := by decide +kernel
theorem d_Mo_init_148 : decode b_Mo_init 148 = .ok (.newarray .int, 2) := by decide +kernel
theorem d_Mo_init_150 : decode b_Mo_init 150 = .ok (.putfield 63, 3) := by decide +kernel
theorem d_Mo_init_153 : decode b_Mo_init 153 = .ok (.aload_n 0, 1) := by decide +kernel
theorem d_Mo_init_154 : decode b_Mo_init 154 = .ok (.bipush 48, 2) := by decide +kernel
theorem d_Mo_init_156 : decode b_Mo_init 156 = .ok (.newarray .int, 2) := by decide +kernel
theorem d_Mo_init_158 : decode b_Mo_init 158 = .ok (.putfield 66, 3) := by decide +kernel
theorem d_Mo_init_161 : decode b_Mo_init 161 = .ok (.aload_n 0, 1) := by decide +kernel
theorem d_Mo_init_162 : decode b_Mo_init 162 = .ok (.iconst 4, 1) := by decide +kernel
theorem d_Mo_init_163 : decode b_Mo_init 163 = .ok (.newarray .int, 2) := by decide +kernel
theorem d_Mo_init_165 : decode b_Mo_init 165 = .ok (.putfield 69, 3) := by decide +kernel
theorem d_Mo_init_168 : decode b_Mo_init 168 = .ok (.aload_n 0, 1) := by decide +kernel
theorem d_Mo_init_169 : decode b_Mo_init 169 = .ok (.iconst 4, 1) := by decide +kernel
theorem d_Mo_init_170 : decode b_Mo_init 170 = .ok (.newarray .int, 2) := by decide +kernel
theorem d_Mo_init_172 : decode b_Mo_init 172 = .ok (.putfield 72, 3) := by decide +kernel
theorem d_Mo_init_175 : decode b_Mo_init 175 = .ok (.aload_n 0, 1) := by decide +kernel
theorem d_Mo_init_176 : decode b_Mo_init 176 = .ok (.iload_n 1, 1) := by decide +kernel
theorem d_Mo_init_177 : decode b_Mo_init 177 = .ok (.putfield 75, 3) := by decide +kernel
theorem d_Mo_init_180 : decode b_Mo_init 180 = .ok (.aload_n 0, 1) := by decide +kernel
theorem d_Mo_init_181 : decode b_Mo_init 181 = .ok (.iload_n 2, 1) := by decide +kernel
theorem d_Mo_init_182 : decode b_Mo_init 182 = .ok (.putfield 79, 3) := by decide +kernel
theorem d_Mo_init_185 : decode b_Mo_init 185 = .ok (.aload_n 0, 1) := by decide +kernel
theorem d_Mo_init_186 : decode b_Mo_init 186 = .ok (.iload_n 3, 1) := by decide +kernel
theorem d_Mo_init_187 : decode b_Mo_init 187 = .ok (.putfield 82, 3) := by decide +kernel
theorem d_Mo_init_190 : decode b_Mo_init 190 = .ok (.iconst 0, 1) := by decide +kernel
theorem d_Mo_init_191 : decode b_Mo_init 191 = .ok (.istore 4, 2) := by decide +kernel
theorem d_Mo_init_193 : decode b_Mo_init 193 = .ok (.iload 4, 2) := by decide +kernel
theorem d_Mo_init_195 : decode b_Mo_init 195 = .ok (.bipush 16, 2) := by decide +kernel
theorem d_Mo_init_197 : decode b_Mo_init 197 = .ok (.if_icmp .ge 18, 3) := by decide +kernel
theorem d_Mo_init_200 : decode b_Mo_init 200 = .ok (.aload_n 0, 1) := by decide +kernel
theorem d_Mo_init_201 : decode b_Mo_init 201 = .ok (.getfield 63, 3) := by decide +kernel
theorem d_Mo_init_204 : decode b_Mo_init 204 = .ok (.iload 4, 2) := by decide +kernel
theorem d_Mo_init_206 : decode b_Mo_init 206 = .ok (.bipush 100, 2) := by decide +kernel
theorem d_Mo_init_208 : decode b_Mo_init 208 = .ok (.iastore, 1) := by decide +kernel
theorem d_Mo_init_209 : decode b_Mo_init 209 = .ok (.iinc 4 1, 3) := by decide +kernel
theorem d_Mo_init_212 : decode b_Mo_init 212 = .ok (.goto (-19), 3) := by decide +kernel
theorem d_Mo_init_215 : decode b_Mo_init 215 = .ok (.return_, 1) := by decide +kernel
theorem d_Mo_thrown_0 : decode b_Mo_thrown 0 = .ok (.aload_n 0, 1) := by decide +kernel
theorem d_Mo_thrown_1 : decode b_Mo_thrown 1 = .ok (.getfield 85, 3) := by decide +kernel
theorem d_Mo_thrown_4 : decode b_Mo_thrown 4 = .ok (.ireturn, 1) := by decide +kernel
theorem d_Mo_refuse_0 : decode b_Mo_refuse 0 = .ok (.aload_n 0, 1) := by decide +kernel
theorem d_Mo_refuse_1 : decode b_Mo_refuse 1 = .ok (.iload_n 1, 1) := by decide +kernel
theorem d_Mo_refuse_2 : decode b_Mo_refuse 2 = .ok (.putfield 85, 3) := by decide +kernel
theorem d_Mo_refuse_5 : decode b_Mo_refuse 5 = .ok (.iconst 0, 1) := by decide +kernel
theorem d_Mo_refuse_6 : decode b_Mo_refuse 6 = .ok (.ireturn, 1) := by decide +kernel
theorem d_Mo_isNode_0 : decode b_Mo_isNode 0 = .ok (.iload_n 0, 1) := by decide +kernel
theorem d_Mo_isNode_1 : decode b_Mo_isNode 1 = .ok (.ifCond .lt 12, 3) := by decide +kernel
theorem d_Mo_isNode_4 : decode b_Mo_isNode 4 = .ok (.iload_n 0, 1) := by decide +kernel
theorem d_Mo_isNode_5 : decode b_Mo_isNode 5 = .ok (.iconst 3, 1) := by decide +kernel
theorem d_Mo_isNode_6 : decode b_Mo_isNode 6 = .ok (.if_icmp .gt 7, 3) := by decide +kernel
theorem d_Mo_isNode_9 : decode b_Mo_isNode 9 = .ok (.iconst 1, 1) := by decide +kernel
theorem d_Mo_isNode_10 : decode b_Mo_isNode 10 = .ok (.goto 4, 3) := by decide +kernel
theorem d_Mo_isNode_13 : decode b_Mo_isNode 13 = .ok (.iconst 0, 1) := by decide +kernel
theorem d_Mo_isNode_14 : decode b_Mo_isNode 14 = .ok (.ireturn, 1) := by decide +kernel
theorem d_Mo_isFaulty_0 : decode b_Mo_isFaulty 0 = .ok (.aload_n 0, 1) := by decide +kernel
theorem d_Mo_isFaulty_1 : decode b_Mo_isFaulty 1 = .ok (.getfield 82, 3) := by decide +kernel
theorem d_Mo_isFaulty_4 : decode b_Mo_isFaulty 4 = .ok (.invokestatic 88, 3) := by decide +kernel
theorem d_Mo_isFaulty_7 : decode b_Mo_isFaulty 7 = .ok (.ifCond .eq 15, 3) := by decide +kernel
theorem d_Mo_isFaulty_10 : decode b_Mo_isFaulty 10 = .ok (.iload_n 1, 1) := by decide +kernel
theorem d_Mo_isFaulty_11 : decode b_Mo_isFaulty 11 = .ok (.aload_n 0, 1) := by decide +kernel
theorem d_Mo_isFaulty_12 : decode b_Mo_isFaulty 12 = .ok (.getfield 82, 3) := by decide +kernel
theorem d_Mo_isFaulty_15 : decode b_Mo_isFaulty 15 = .ok (.if_icmp .ne 7, 3) := by decide +kernel
theorem d_Mo_isFaulty_18 : decode b_Mo_isFaulty 18 = .ok (.iconst 1, 1) := by decide +kernel
theorem d_Mo_isFaulty_19 : decode b_Mo_isFaulty 19 = .ok (.goto 4, 3) := by decide +kernel
theorem d_Mo_isFaulty_22 : decode b_Mo_isFaulty 22 = .ok (.iconst 0, 1) := by decide +kernel
theorem d_Mo_isFaulty_23 : decode b_Mo_isFaulty 23 = .ok (.ireturn, 1) := by decide +kernel
theorem d_Mo_draw_0 : decode b_Mo_draw 0 = .ok (.aload_n 0, 1) := by decide +kernel
theorem d_Mo_draw_1 : decode b_Mo_draw 1 = .ok (.aload_n 0, 1) := by decide +kernel
theorem d_Mo_draw_2 : decode b_Mo_draw 2 = .ok (.getfield 75, 3) := by decide +kernel
theorem d_Mo_draw_5 : decode b_Mo_draw 5 = .ok (.ldc 92, 2) := by decide +kernel
theorem d_Mo_draw_7 : decode b_Mo_draw 7 = .ok (.imul, 1) := by decide +kernel
theorem d_Mo_draw_8 : decode b_Mo_draw 8 = .ok (.sipush 12345, 3) := by decide +kernel
theorem d_Mo_draw_11 : decode b_Mo_draw 11 = .ok (.iadd, 1) := by decide +kernel
theorem d_Mo_draw_12 : decode b_Mo_draw 12 = .ok (.putfield 75, 3) := by decide +kernel
theorem d_Mo_draw_15 : decode b_Mo_draw 15 = .ok (.aload_n 0, 1) := by decide +kernel
theorem d_Mo_draw_16 : decode b_Mo_draw 16 = .ok (.getfield 75, 3) := by decide +kernel
theorem d_Mo_draw_19 : decode b_Mo_draw 19 = .ok (.bipush 16, 2) := by decide +kernel
theorem d_Mo_draw_21 : decode b_Mo_draw 21 = .ok (.iushr, 1) := by decide +kernel
theorem d_Mo_draw_22 : decode b_Mo_draw 22 = .ok (.iload_n 1, 1) := by decide +kernel
theorem d_Mo_draw_23 : decode b_Mo_draw 23 = .ok (.irem, 1) := by decide +kernel
theorem d_Mo_draw_24 : decode b_Mo_draw 24 = .ok (.ireturn, 1) := by decide +kernel
theorem d_Mo_sendOne_0 : decode b_Mo_sendOne 0 = .ok (.aload_n 0, 1) := by decide +kernel
theorem d_Mo_sendOne_1 : decode b_Mo_sendOne 1 = .ok (.iload_n 3, 1) := by decide +kernel
theorem d_Mo_sendOne_2 : decode b_Mo_sendOne 2 = .ok (.invokevirtual 93, 3) := by decide +kernel
theorem d_Mo_sendOne_5 : decode b_Mo_sendOne 5 = .ok (.ifCond .eq 4, 3) := by decide +kernel
theorem d_Mo_sendOne_8 : decode b_Mo_sendOne 8 = .ok (.return_, 1) := by decide +kernel
theorem d_Mo_sendOne_9 : decode b_Mo_sendOne 9 = .ok (.aload_n 0, 1) := by decide +kernel
theorem d_Mo_sendOne_10 : decode b_Mo_sendOne 10 = .ok (.getfield 23, 3) := by decide +kernel
theorem d_Mo_sendOne_13 : decode b_Mo_sendOne 13 = .ok (.aload_n 0, 1) := by decide +kernel
theorem d_Mo_sendOne_14 : decode b_Mo_sendOne 14 = .ok (.getfield 96, 3) := by decide +kernel
theorem d_Mo_sendOne_17 : decode b_Mo_sendOne 17 = .ok (.iload_n 1, 1) := by decide +kernel
theorem d_Mo_sendOne_18 : decode b_Mo_sendOne 18 = .ok (.iconst 4, 1) := by decide +kernel
theorem d_Mo_sendOne_19 : decode b_Mo_sendOne 19 = .ok (.imul, 1) := by decide +kernel
theorem d_Mo_sendOne_20 : decode b_Mo_sendOne 20 = .ok (.iload_n 2, 1) := by decide +kernel
theorem d_Mo_sendOne_21 : decode b_Mo_sendOne 21 = .ok (.iadd, 1) := by decide +kernel
theorem d_Mo_sendOne_22 : decode b_Mo_sendOne 22 = .ok (.iconst 4, 1) := by decide +kernel
theorem d_Mo_sendOne_23 : decode b_Mo_sendOne 23 = .ok (.imul, 1) := by decide +kernel
theorem d_Mo_sendOne_24 : decode b_Mo_sendOne 24 = .ok (.iload_n 3, 1) := by decide +kernel
theorem d_Mo_sendOne_25 : decode b_Mo_sendOne 25 = .ok (.iadd, 1) := by decide +kernel
theorem d_Mo_sendOne_26 : decode b_Mo_sendOne 26 = .ok (.bipush 80, 2) := by decide +kernel
theorem d_Mo_sendOne_28 : decode b_Mo_sendOne 28 = .ok (.imul, 1) := by decide +kernel
theorem d_Mo_sendOne_29 : decode b_Mo_sendOne 29 = .ok (.iload 4, 2) := by decide +kernel
theorem d_Mo_sendOne_31 : decode b_Mo_sendOne 31 = .ok (.iadd, 1) := by decide +kernel
theorem d_Mo_sendOne_32 : decode b_Mo_sendOne 32 = .ok (.iastore, 1) := by decide +kernel
theorem d_Mo_sendOne_33 : decode b_Mo_sendOne 33 = .ok (.aload_n 0, 1) := by decide +kernel
theorem d_Mo_sendOne_34 : decode b_Mo_sendOne 34 = .ok (.dup, 1) := by decide +kernel
theorem d_Mo_sendOne_35 : decode b_Mo_sendOne 35 = .ok (.getfield 96, 3) := by decide +kernel
theorem d_Mo_sendOne_38 : decode b_Mo_sendOne 38 = .ok (.iconst 1, 1) := by decide +kernel
theorem d_Mo_sendOne_39 : decode b_Mo_sendOne 39 = .ok (.iadd, 1) := by decide +kernel
theorem d_Mo_sendOne_40 : decode b_Mo_sendOne 40 = .ok (.putfield 96, 3) := by decide +kernel
theorem d_Mo_sendOne_43 : decode b_Mo_sendOne 43 = .ok (.return_, 1) := by decide +kernel
theorem d_Mo_broadcast_0 : decode b_Mo_broadcast 0 = .ok (.iconst 0, 1) := by decide +kernel
theorem d_Mo_broadcast_1 : decode b_Mo_broadcast 1 = .ok (.istore 4, 2) := by decide +kernel
theorem d_Mo_broadcast_3 : decode b_Mo_broadcast 3 = .ok (.iload 4, 2) := by decide +kernel
theorem d_Mo_broadcast_5 : decode b_Mo_broadcast 5 = .ok (.iconst 4, 1) := by decide +kernel
theorem d_Mo_broadcast_6 : decode b_Mo_broadcast 6 = .ok (.if_icmp .ge 18, 3) := by decide +kernel
theorem d_Mo_broadcast_9 : decode b_Mo_broadcast 9 = .ok (.aload_n 0, 1) := by decide +kernel
theorem d_Mo_broadcast_10 : decode b_Mo_broadcast 10 = .ok (.iload_n 1, 1) := by decide +kernel
theorem d_Mo_broadcast_11 : decode b_Mo_broadcast 11 = .ok (.iload_n 2, 1) := by decide +kernel
theorem d_Mo_broadcast_12 : decode b_Mo_broadcast 12 = .ok (.iload 4, 2) := by decide +kernel
theorem d_Mo_broadcast_14 : decode b_Mo_broadcast 14 = .ok (.iload_n 3, 1) := by decide +kernel
theorem d_Mo_broadcast_15 : decode b_Mo_broadcast 15 = .ok (.invokevirtual 99, 3) := by decide +kernel
theorem d_Mo_broadcast_18 : decode b_Mo_broadcast 18 = .ok (.iinc 4 1, 3) := by decide +kernel
theorem d_Mo_broadcast_21 : decode b_Mo_broadcast 21 = .ok (.goto (-18), 3) := by decide +kernel
theorem d_Mo_broadcast_24 : decode b_Mo_broadcast 24 = .ok (.return_, 1) := by decide +kernel
theorem d_Mo_comes_0 : decode b_Mo_comes 0 = .ok (.aload_n 0, 1) := by decide +kernel
theorem d_Mo_comes_1 : decode b_Mo_comes 1 = .ok (.getfield 23, 3) := by decide +kernel
theorem d_Mo_comes_4 : decode b_Mo_comes 4 = .ok (.iload_n 1, 1) := by decide +kernel
theorem d_Mo_comes_5 : decode b_Mo_comes 5 = .ok (.iaload, 1) := by decide +kernel
theorem d_Mo_comes_6 : decode b_Mo_comes 6 = .ok (.istore_n 2, 1) := by decide +kernel
theorem d_Mo_comes_7 : decode b_Mo_comes 7 = .ok (.aload_n 0, 1) := by decide +kernel
theorem d_Mo_comes_8 : decode b_Mo_comes 8 = .ok (.dup, 1) := by decide +kernel
theorem d_Mo_comes_9 : decode b_Mo_comes 9 = .ok (.getfield 96, 3) := by decide +kernel
theorem d_Mo_comes_12 : decode b_Mo_comes 12 = .ok (.iconst 1, 1) := by decide +kernel
theorem d_Mo_comes_13 : decode b_Mo_comes 13 = .ok (.isub, 1) := by decide +kernel
theorem d_Mo_comes_14 : decode b_Mo_comes 14 = .ok (.putfield 96, 3) := by decide +kernel
theorem d_Mo_comes_17 : decode b_Mo_comes 17 = .ok (.iload_n 1, 1) := by decide +kernel
theorem d_Mo_comes_18 : decode b_Mo_comes 18 = .ok (.istore_n 3, 1) := by decide +kernel
theorem d_Mo_comes_19 : decode b_Mo_comes 19 = .ok (.iload_n 3, 1) := by decide +kernel
theorem d_Mo_comes_20 : decode b_Mo_comes 20 = .ok (.aload_n 0, 1) := by decide +kernel
theorem d_Mo_comes_21 : decode b_Mo_comes 21 = .ok (.getfield 96, 3) := by decide +kernel
theorem d_Mo_comes_24 : decode b_Mo_comes 24 = .ok (.if_icmp .ge 23, 3) := by decide +kernel
theorem d_Mo_comes_27 : decode b_Mo_comes 27 = .ok (.aload_n 0, 1) := by decide +kernel
theorem d_Mo_comes_28 : decode b_Mo_comes 28 = .ok (.getfield 23, 3) := by decide +kernel
theorem d_Mo_comes_31 : decode b_Mo_comes 31 = .ok (.iload_n 3, 1) := by decide +kernel
theorem d_Mo_comes_32 : decode b_Mo_comes 32 = .ok (.aload_n 0, 1) := by decide +kernel
theorem d_Mo_comes_33 : decode b_Mo_comes 33 = .ok (.getfield 23, 3) := by decide +kernel
theorem d_Mo_comes_36 : decode b_Mo_comes 36 = .ok (.iload_n 3, 1) := by decide +kernel
theorem d_Mo_comes_37 : decode b_Mo_comes 37 = .ok (.iconst 1, 1) := by decide +kernel
theorem d_Mo_comes_38 : decode b_Mo_comes 38 = .ok (.iadd, 1) := by decide +kernel
theorem d_Mo_comes_39 : decode b_Mo_comes 39 = .ok (.iaload, 1) := by decide +kernel
theorem d_Mo_comes_40 : decode b_Mo_comes 40 = .ok (.iastore, 1) := by decide +kernel
theorem d_Mo_comes_41 : decode b_Mo_comes 41 = .ok (.iinc 3 1, 3) := by decide +kernel
theorem d_Mo_comes_44 : decode b_Mo_comes 44 = .ok (.goto (-25), 3) := by decide +kernel
theorem d_Mo_comes_47 : decode b_Mo_comes 47 = .ok (.iload_n 2, 1) := by decide +kernel
theorem d_Mo_comes_48 : decode b_Mo_comes 48 = .ok (.bipush 80, 2) := by decide +kernel
theorem d_Mo_comes_50 : decode b_Mo_comes 50 = .ok (.irem, 1) := by decide +kernel
theorem d_Mo_comes_51 : decode b_Mo_comes 51 = .ok (.istore_n 3, 1) := by decide +kernel
theorem d_Mo_comes_52 : decode b_Mo_comes 52 = .ok (.iload_n 2, 1) := by decide +kernel
theorem d_Mo_comes_53 : decode b_Mo_comes 53 = .ok (.bipush 80, 2) := by decide +kernel
theorem d_Mo_comes_55 : decode b_Mo_comes 55 = .ok (.idiv, 1) := by decide +kernel
theorem d_Mo_comes_56 : decode b_Mo_comes 56 = .ok (.iconst 4, 1) := by decide +kernel
theorem d_Mo_comes_57 : decode b_Mo_comes 57 = .ok (.irem, 1) := by decide +kernel
theorem d_Mo_comes_58 : decode b_Mo_comes 58 = .ok (.istore 4, 2) := by decide +kernel
theorem d_Mo_comes_60 : decode b_Mo_comes 60 = .ok (.iload_n 2, 1) := by decide +kernel
theorem d_Mo_comes_61 : decode b_Mo_comes 61 = .ok (.sipush 320, 3) := by decide +kernel
theorem d_Mo_comes_64 : decode b_Mo_comes 64 = .ok (.idiv, 1) := by decide +kernel
theorem d_Mo_comes_65 : decode b_Mo_comes 65 = .ok (.iconst 4, 1) := by decide +kernel
theorem d_Mo_comes_66 : decode b_Mo_comes 66 = .ok (.irem, 1) := by decide +kernel
theorem d_Mo_comes_67 : decode b_Mo_comes 67 = .ok (.istore 5, 2) := by decide +kernel
theorem d_Mo_comes_69 : decode b_Mo_comes 69 = .ok (.iload_n 2, 1) := by decide +kernel
theorem d_Mo_comes_70 : decode b_Mo_comes 70 = .ok (.sipush 1280, 3) := by decide +kernel
theorem d_Mo_comes_73 : decode b_Mo_comes 73 = .ok (.idiv, 1) := by decide +kernel
theorem d_Mo_comes_74 : decode b_Mo_comes 74 = .ok (.istore 6, 2) := by decide +kernel
theorem d_Mo_comes_76 : decode b_Mo_comes 76 = .ok (.bipush 48, 2) := by decide +kernel
theorem d_Mo_comes_78 : decode b_Mo_comes 78 = .ok (.iload 4, 2) := by decide +kernel
theorem d_Mo_comes_80 : decode b_Mo_comes 80 = .ok (.imul, 1) := by decide +kernel
theorem d_Mo_comes_81 : decode b_Mo_comes 81 = .ok (.aload_n 0, 1) := by decide +kernel
theorem d_Mo_comes_82 : decode b_Mo_comes 82 = .ok (.getfield 7, 3) := by decide +kernel
theorem d_Mo_comes_85 : decode b_Mo_comes 85 = .ok (.iload_n 3, 1) := by decide +kernel
theorem d_Mo_comes_86 : decode b_Mo_comes 86 = .ok (.iaload, 1) := by decide +kernel
theorem d_Mo_comes_87 : decode b_Mo_comes 87 = .ok (.iadd, 1) := by decide +kernel
theorem d_Mo_comes_88 : decode b_Mo_comes 88 = .ok (.istore 7, 2) := by decide +kernel
theorem d_Mo_comes_90 : decode b_Mo_comes 90 = .ok (.iload 6, 2) := by decide +kernel
theorem d_Mo_comes_92 : decode b_Mo_comes 92 = .ok (.ifCond .ne 17, 3) := by decide +kernel
theorem d_Mo_comes_95 : decode b_Mo_comes 95 = .ok (.aload_n 0, 1) := by decide +kernel
theorem d_Mo_comes_96 : decode b_Mo_comes 96 = .ok (.iload 5, 2) := by decide +kernel
theorem d_Mo_comes_98 : decode b_Mo_comes 98 = .ok (.iload 4, 2) := by decide +kernel
theorem d_Mo_comes_100 : decode b_Mo_comes 100 = .ok (.iload_n 3, 1) := by decide +kernel
theorem d_Mo_comes_101 : decode b_Mo_comes 101 = .ok (.iload 7, 2) := by decide +kernel
theorem d_Mo_comes_103 : decode b_Mo_comes 103 = .ok (.invokevirtual 103, 3) := by decide +kernel
theorem d_Mo_comes_106 : decode b_Mo_comes 106 = .ok (.goto 34, 3) := by decide +kernel
theorem d_Mo_comes_109 : decode b_Mo_comes 109 = .ok (.iload 6, 2) := by decide +kernel
theorem d_Mo_comes_111 : decode b_Mo_comes 111 = .ok (.iconst 1, 1) := by decide +kernel
theorem d_Mo_comes_112 : decode b_Mo_comes 112 = .ok (.if_icmp .ne 17, 3) := by decide +kernel
theorem d_Mo_comes_115 : decode b_Mo_comes 115 = .ok (.aload_n 0, 1) := by decide +kernel
theorem d_Mo_comes_116 : decode b_Mo_comes 116 = .ok (.iload 5, 2) := by decide +kernel
theorem d_Mo_comes_118 : decode b_Mo_comes 118 = .ok (.iload 4, 2) := by decide +kernel
theorem d_Mo_comes_120 : decode b_Mo_comes 120 = .ok (.iload_n 3, 1) := by decide +kernel
theorem d_Mo_comes_121 : decode b_Mo_comes 121 = .ok (.iload 7, 2) := by decide +kernel
theorem d_Mo_comes_123 : decode b_Mo_comes 123 = .ok (.invokevirtual 106, 3) := by decide +kernel
theorem d_Mo_comes_126 : decode b_Mo_comes 126 = .ok (.goto 14, 3) := by decide +kernel
theorem d_Mo_comes_129 : decode b_Mo_comes 129 = .ok (.aload_n 0, 1) := by decide +kernel
theorem d_Mo_comes_130 : decode b_Mo_comes 130 = .ok (.iload 5, 2) := by decide +kernel
theorem d_Mo_comes_132 : decode b_Mo_comes 132 = .ok (.iload 4, 2) := by decide +kernel
theorem d_Mo_comes_134 : decode b_Mo_comes 134 = .ok (.iload_n 3, 1) := by decide +kernel
theorem d_Mo_comes_135 : decode b_Mo_comes 135 = .ok (.iload 7, 2) := by decide +kernel
theorem d_Mo_comes_137 : decode b_Mo_comes 137 = .ok (.invokevirtual 109, 3) := by decide +kernel
theorem d_Mo_comes_140 : decode b_Mo_comes 140 = .ok (.aload_n 0, 1) := by decide +kernel
theorem d_Mo_comes_141 : decode b_Mo_comes 141 = .ok (.getfield 112, 3) := by decide +kernel
theorem d_Mo_comes_144 : decode b_Mo_comes 144 = .ok (.ifCond .eq 9, 3) := by decide +kernel
theorem d_Mo_comes_147 : decode b_Mo_comes 147 = .ok (.aload_n 0, 1) := by decide +kernel
theorem d_Mo_comes_148 : decode b_Mo_comes 148 = .ok (.iload 4, 2) := by decide +kernel
theorem d_Mo_comes_150 : decode b_Mo_comes 150 = .ok (.invokevirtual 116, 3) := by decide +kernel
theorem d_Mo_comes_153 : decode b_Mo_comes 153 = .ok (.return_, 1) := by decide +kernel
theorem d_Mo_sendComes_0 : decode b_Mo_sendComes 0 = .ok (.iload_n 1, 1) := by decide +kernel
theorem d_Mo_sendComes_1 : decode b_Mo_sendComes 1 = .ok (.aload_n 0, 1) := by decide +kernel
theorem d_Mo_sendComes_2 : decode b_Mo_sendComes 2 = .ok (.getfield 7, 3) := by decide +kernel
theorem d_Mo_sendComes_5 : decode b_Mo_sendComes 5 = .ok (.iload_n 3, 1) := by decide +kernel
theorem d_Mo_sendComes_6 : decode b_Mo_sendComes 6 = .ok (.iaload, 1) := by decide +kernel
theorem d_Mo_sendComes_7 : decode b_Mo_sendComes 7 = .ok (.iconst 4, 1) := by decide +kernel
theorem d_Mo_sendComes_8 : decode b_Mo_sendComes 8 = .ok (.irem, 1) := by decide +kernel
theorem d_Mo_sendComes_9 : decode b_Mo_sendComes 9 = .ok (.if_icmp .ne 13, 3) := by decide +kernel
theorem d_Mo_sendComes_12 : decode b_Mo_sendComes 12 = .ok (.aload_n 0, 1) := by decide +kernel
theorem d_Mo_sendComes_13 : decode b_Mo_sendComes 13 = .ok (.getfield 26, 3) := by decide +kernel
theorem d_Mo_sendComes_16 : decode b_Mo_sendComes 16 = .ok (.iload 4, 2) := by decide +kernel
theorem d_Mo_sendComes_18 : decode b_Mo_sendComes 18 = .ok (.baload, 1) := by decide +kernel
theorem d_Mo_sendComes_19 : decode b_Mo_sendComes 19 = .ok (.ifCond .eq 4, 3) := by decide +kernel
theorem d_Mo_sendComes_22 : decode b_Mo_sendComes 22 = .ok (.return_, 1) := by decide +kernel
theorem d_Mo_sendComes_23 : decode b_Mo_sendComes 23 = .ok (.aload_n 0, 1) := by decide +kernel
theorem d_Mo_sendComes_24 : decode b_Mo_sendComes 24 = .ok (.getfield 26, 3) := by decide +kernel
theorem d_Mo_sendComes_27 : decode b_Mo_sendComes 27 = .ok (.iload 4, 2) := by decide +kernel
theorem d_Mo_sendComes_29 : decode b_Mo_sendComes 29 = .ok (.iconst 1, 1) := by decide +kernel
theorem d_Mo_sendComes_30 : decode b_Mo_sendComes 30 = .ok (.bastore, 1) := by decide +kernel
theorem d_Mo_sendComes_31 : decode b_Mo_sendComes 31 = .ok (.aload_n 0, 1) := by decide +kernel
theorem d_Mo_sendComes_32 : decode b_Mo_sendComes 32 = .ok (.iconst 1, 1) := by decide +kernel
theorem d_Mo_sendComes_33 : decode b_Mo_sendComes 33 = .ok (.iload_n 2, 1) := by decide +kernel
theorem d_Mo_sendComes_34 : decode b_Mo_sendComes 34 = .ok (.iload_n 3, 1) := by decide +kernel
theorem d_Mo_sendComes_35 : decode b_Mo_sendComes 35 = .ok (.invokevirtual 120, 3) := by decide +kernel
theorem d_Mo_sendComes_38 : decode b_Mo_sendComes 38 = .ok (.return_, 1) := by decide +kernel
theorem d_Mo_noted_0 : decode b_Mo_noted 0 = .ok (.iconst 0, 1) := by decide +kernel
theorem d_Mo_noted_1 : decode b_Mo_noted 1 = .ok (.istore_n 3, 1) := by decide +kernel
theorem d_Mo_noted_2 : decode b_Mo_noted 2 = .ok (.iconst 0, 1) := by decide +kernel
theorem d_Mo_noted_3 : decode b_Mo_noted 3 = .ok (.istore 4, 2) := by decide +kernel
theorem d_Mo_noted_5 : decode b_Mo_noted 5 = .ok (.iload 4, 2) := by decide +kernel
theorem d_Mo_noted_7 : decode b_Mo_noted 7 = .ok (.iconst 4, 1) := by decide +kernel
theorem d_Mo_noted_8 : decode b_Mo_noted 8 = .ok (.if_icmp .ge 29, 3) := by decide +kernel
theorem d_Mo_noted_11 : decode b_Mo_noted 11 = .ok (.iload_n 3, 1) := by decide +kernel
theorem d_Mo_noted_12 : decode b_Mo_noted 12 = .ok (.aload_n 0, 1) := by decide +kernel
theorem d_Mo_noted_13 : decode b_Mo_noted 13 = .ok (.iconst 4, 1) := by decide +kernel
theorem d_Mo_noted_14 : decode b_Mo_noted 14 = .ok (.iload_n 1, 1) := by decide +kernel
theorem d_Mo_noted_15 : decode b_Mo_noted 15 = .ok (.imul, 1) := by decide +kernel
theorem d_Mo_noted_16 : decode b_Mo_noted 16 = .ok (.iload 4, 2) := by decide +kernel
theorem d_Mo_noted_18 : decode b_Mo_noted 18 = .ok (.iadd, 1) := by decide +kernel
theorem d_Mo_noted_19 : decode b_Mo_noted 19 = .ok (.iaload, 1) := by decide +kernel
theorem d_Mo_noted_20 : decode b_Mo_noted 20 = .ok (.iload_n 2, 1) := by decide +kernel
theorem d_Mo_noted_21 : decode b_Mo_noted 21 = .ok (.if_icmp .ne 7, 3) := by decide +kernel
theorem d_Mo_noted_24 : decode b_Mo_noted 24 = .ok (.iconst 1, 1) := by decide +kernel
theorem d_Mo_noted_25 : decode b_Mo_noted 25 = .ok (.goto 4, 3) := by decide +kernel
theorem d_Mo_noted_28 : decode b_Mo_noted 28 = .ok (.iconst 0, 1) := by decide +kernel
theorem d_Mo_noted_29 : decode b_Mo_noted 29 = .ok (.iadd, 1) := by decide +kernel
theorem d_Mo_noted_30 : decode b_Mo_noted 30 = .ok (.istore_n 3, 1) := by decide +kernel
theorem d_Mo_noted_31 : decode b_Mo_noted 31 = .ok (.iinc 4 1, 3) := by decide +kernel
theorem d_Mo_noted_34 : decode b_Mo_noted 34 = .ok (.goto (-29), 3) := by decide +kernel
theorem d_Mo_noted_37 : decode b_Mo_noted 37 = .ok (.iload_n 3, 1) := by decide +kernel
theorem d_Mo_noted_38 : decode b_Mo_noted 38 = .ok (.ireturn, 1) := by decide +kernel
theorem d_Mo_ready_0 : decode b_Mo_ready 0 = .ok (.aload_n 0, 1) := by decide +kernel
theorem d_Mo_ready_1 : decode b_Mo_ready 1 = .ok (.getfield 30, 3) := by decide +kernel
theorem d_Mo_ready_4 : decode b_Mo_ready 4 = .ok (.iload_n 3, 1) := by decide +kernel
theorem d_Mo_ready_5 : decode b_Mo_ready 5 = .ok (.baload, 1) := by decide +kernel
theorem d_Mo_ready_6 : decode b_Mo_ready 6 = .ok (.ifCond .eq 4, 3) := by decide +kernel
theorem d_Mo_ready_9 : decode b_Mo_ready 9 = .ok (.return_, 1) := by decide +kernel
theorem d_Mo_ready_10 : decode b_Mo_ready 10 = .ok (.aload_n 0, 1) := by decide +kernel
theorem d_Mo_ready_11 : decode b_Mo_ready 11 = .ok (.getfield 30, 3) := by decide +kernel
theorem d_Mo_ready_14 : decode b_Mo_ready 14 = .ok (.iload_n 3, 1) := by decide +kernel
theorem d_Mo_ready_15 : decode b_Mo_ready 15 = .ok (.iconst 1, 1) := by decide +kernel
theorem d_Mo_ready_16 : decode b_Mo_ready 16 = .ok (.bastore, 1) := by decide +kernel
theorem d_Mo_ready_17 : decode b_Mo_ready 17 = .ok (.aload_n 0, 1) := by decide +kernel
theorem d_Mo_ready_18 : decode b_Mo_ready 18 = .ok (.iconst 2, 1) := by decide +kernel
theorem d_Mo_ready_19 : decode b_Mo_ready 19 = .ok (.iload_n 1, 1) := by decide +kernel
theorem d_Mo_ready_20 : decode b_Mo_ready 20 = .ok (.iload_n 2, 1) := by decide +kernel
theorem d_Mo_ready_21 : decode b_Mo_ready 21 = .ok (.invokevirtual 120, 3) := by decide +kernel
theorem d_Mo_ready_24 : decode b_Mo_ready 24 = .ok (.return_, 1) := by decide +kernel
theorem d_Mo_echoComes_0 : decode b_Mo_echoComes 0 = .ok (.aload_n 0, 1) := by decide +kernel
theorem d_Mo_echoComes_1 : decode b_Mo_echoComes 1 = .ok (.getfield 45, 3) := by decide +kernel
theorem d_Mo_echoComes_4 : decode b_Mo_echoComes 4 = .ok (.iconst 4, 1) := by decide +kernel
theorem d_Mo_echoComes_5 : decode b_Mo_echoComes 5 = .ok (.iload 4, 2) := by decide +kernel
theorem d_Mo_echoComes_7 : decode b_Mo_echoComes 7 = .ok (.imul, 1) := by decide +kernel
theorem d_Mo_echoComes_8 : decode b_Mo_echoComes 8 = .ok (.iload_n 1, 1) := by decide +kernel
theorem d_Mo_echoComes_9 : decode b_Mo_echoComes 9 = .ok (.iadd, 1) := by decide +kernel
theorem d_Mo_echoComes_10 : decode b_Mo_echoComes 10 = .ok (.iaload, 1) := by decide +kernel
theorem d_Mo_echoComes_11 : decode b_Mo_echoComes 11 = .ok (.ifCond .eq 4, 3) := by decide +kernel
theorem d_Mo_echoComes_14 : decode b_Mo_echoComes 14 = .ok (.return_, 1) := by decide +kernel
theorem d_Mo_echoComes_15 : decode b_Mo_echoComes 15 = .ok (.aload_n 0, 1) := by decide +kernel
theorem d_Mo_echoComes_16 : decode b_Mo_echoComes 16 = .ok (.getfield 45, 3) := by decide +kernel
theorem d_Mo_echoComes_19 : decode b_Mo_echoComes 19 = .ok (.iconst 4, 1) := by decide +kernel
theorem d_Mo_echoComes_20 : decode b_Mo_echoComes 20 = .ok (.iload 4, 2) := by decide +kernel
theorem d_Mo_echoComes_22 : decode b_Mo_echoComes 22 = .ok (.imul, 1) := by decide +kernel
theorem d_Mo_echoComes_23 : decode b_Mo_echoComes 23 = .ok (.iload_n 1, 1) := by decide +kernel
theorem d_Mo_echoComes_24 : decode b_Mo_echoComes 24 = .ok (.iadd, 1) := by decide +kernel
theorem d_Mo_echoComes_25 : decode b_Mo_echoComes 25 = .ok (.iload_n 3, 1) := by decide +kernel
theorem d_Mo_echoComes_26 : decode b_Mo_echoComes 26 = .ok (.iastore, 1) := by decide +kernel
theorem d_Mo_echoComes_27 : decode b_Mo_echoComes 27 = .ok (.aload_n 0, 1) := by decide +kernel
theorem d_Mo_echoComes_28 : decode b_Mo_echoComes 28 = .ok (.getfield 45, 3) := by decide +kernel
theorem d_Mo_echoComes_31 : decode b_Mo_echoComes 31 = .ok (.iload 4, 2) := by decide +kernel
theorem d_Mo_echoComes_33 : decode b_Mo_echoComes 33 = .ok (.iload_n 3, 1) := by decide +kernel
theorem d_Mo_echoComes_34 : decode b_Mo_echoComes 34 = .ok (.invokestatic 124, 3) := by decide +kernel
theorem d_Mo_echoComes_37 : decode b_Mo_echoComes 37 = .ok (.iconst 3, 1) := by decide +kernel
theorem d_Mo_echoComes_38 : decode b_Mo_echoComes 38 = .ok (.if_icmp .lt 11, 3) := by decide +kernel
theorem d_Mo_echoComes_41 : decode b_Mo_echoComes 41 = .ok (.aload_n 0, 1) := by decide +kernel
theorem d_Mo_echoComes_42 : decode b_Mo_echoComes 42 = .ok (.iload_n 2, 1) := by decide +kernel
theorem d_Mo_echoComes_43 : decode b_Mo_echoComes 43 = .ok (.iload_n 3, 1) := by decide +kernel
theorem d_Mo_echoComes_44 : decode b_Mo_echoComes 44 = .ok (.iload 4, 2) := by decide +kernel
theorem d_Mo_echoComes_46 : decode b_Mo_echoComes 46 = .ok (.invokevirtual 128, 3) := by decide +kernel
theorem d_Mo_echoComes_49 : decode b_Mo_echoComes 49 = .ok (.return_, 1) := by decide +kernel
theorem d_Mo_readyComes_0 : decode b_Mo_readyComes 0 = .ok (.aload_n 0, 1) := by decide +kernel
theorem d_Mo_readyComes_1 : decode b_Mo_readyComes 1 = .ok (.getfield 48, 3) := by decide +kernel
theorem d_Mo_readyComes_4 : decode b_Mo_readyComes 4 = .ok (.iconst 4, 1) := by decide +kernel
theorem d_Mo_readyComes_5 : decode b_Mo_readyComes 5 = .ok (.iload 4, 2) := by decide +kernel
theorem d_Mo_readyComes_7 : decode b_Mo_readyComes 7 = .ok (.imul, 1) := by decide +kernel
theorem d_Mo_readyComes_8 : decode b_Mo_readyComes 8 = .ok (.iload_n 1, 1) := by decide +kernel
theorem d_Mo_readyComes_9 : decode b_Mo_readyComes 9 = .ok (.iadd, 1) := by decide +kernel
theorem d_Mo_readyComes_10 : decode b_Mo_readyComes 10 = .ok (.iaload, 1) := by decide +kernel
theorem d_Mo_readyComes_11 : decode b_Mo_readyComes 11 = .ok (.ifCond .eq 4, 3) := by decide +kernel
theorem d_Mo_readyComes_14 : decode b_Mo_readyComes 14 = .ok (.return_, 1) := by decide +kernel
theorem d_Mo_readyComes_15 : decode b_Mo_readyComes 15 = .ok (.aload_n 0, 1) := by decide +kernel
theorem d_Mo_readyComes_16 : decode b_Mo_readyComes 16 = .ok (.getfield 48, 3) := by decide +kernel
theorem d_Mo_readyComes_19 : decode b_Mo_readyComes 19 = .ok (.iconst 4, 1) := by decide +kernel
theorem d_Mo_readyComes_20 : decode b_Mo_readyComes 20 = .ok (.iload 4, 2) := by decide +kernel
theorem d_Mo_readyComes_22 : decode b_Mo_readyComes 22 = .ok (.imul, 1) := by decide +kernel
theorem d_Mo_readyComes_23 : decode b_Mo_readyComes 23 = .ok (.iload_n 1, 1) := by decide +kernel
theorem d_Mo_readyComes_24 : decode b_Mo_readyComes 24 = .ok (.iadd, 1) := by decide +kernel
theorem d_Mo_readyComes_25 : decode b_Mo_readyComes 25 = .ok (.iload_n 3, 1) := by decide +kernel
theorem d_Mo_readyComes_26 : decode b_Mo_readyComes 26 = .ok (.iastore, 1) := by decide +kernel
theorem d_Mo_readyComes_27 : decode b_Mo_readyComes 27 = .ok (.aload_n 0, 1) := by decide +kernel
theorem d_Mo_readyComes_28 : decode b_Mo_readyComes 28 = .ok (.getfield 48, 3) := by decide +kernel
theorem d_Mo_readyComes_31 : decode b_Mo_readyComes 31 = .ok (.iload 4, 2) := by decide +kernel
theorem d_Mo_readyComes_33 : decode b_Mo_readyComes 33 = .ok (.iload_n 3, 1) := by decide +kernel
theorem d_Mo_readyComes_34 : decode b_Mo_readyComes 34 = .ok (.invokestatic 124, 3) := by decide +kernel
theorem d_Mo_readyComes_37 : decode b_Mo_readyComes 37 = .ok (.istore 5, 2) := by decide +kernel
theorem d_Mo_readyComes_39 : decode b_Mo_readyComes 39 = .ok (.iload 5, 2) := by decide +kernel
theorem d_Mo_readyComes_41 : decode b_Mo_readyComes 41 = .ok (.iconst 2, 1) := by decide +kernel
theorem d_Mo_readyComes_42 : decode b_Mo_readyComes 42 = .ok (.if_icmp .lt 11, 3) := by decide +kernel
theorem d_Mo_readyComes_45 : decode b_Mo_readyComes 45 = .ok (.aload_n 0, 1) := by decide +kernel
theorem d_Mo_readyComes_46 : decode b_Mo_readyComes 46 = .ok (.iload_n 2, 1) := by decide +kernel
theorem d_Mo_readyComes_47 : decode b_Mo_readyComes 47 = .ok (.iload_n 3, 1) := by decide +kernel
theorem d_Mo_readyComes_48 : decode b_Mo_readyComes 48 = .ok (.iload 4, 2) := by decide +kernel
theorem d_Mo_readyComes_50 : decode b_Mo_readyComes 50 = .ok (.invokevirtual 128, 3) := by decide +kernel
theorem d_Mo_readyComes_53 : decode b_Mo_readyComes 53 = .ok (.iload 5, 2) := by decide +kernel
theorem d_Mo_readyComes_55 : decode b_Mo_readyComes 55 = .ok (.iconst 3, 1) := by decide +kernel
theorem d_Mo_readyComes_56 : decode b_Mo_readyComes 56 = .ok (.if_icmp .lt 26, 3) := by decide +kernel
theorem d_Mo_readyComes_59 : decode b_Mo_readyComes 59 = .ok (.aload_n 0, 1) := by decide +kernel
theorem d_Mo_readyComes_60 : decode b_Mo_readyComes 60 = .ok (.getfield 33, 3) := by decide +kernel
theorem d_Mo_readyComes_63 : decode b_Mo_readyComes 63 = .ok (.iload 4, 2) := by decide +kernel
theorem d_Mo_readyComes_65 : decode b_Mo_readyComes 65 = .ok (.iaload, 1) := by decide +kernel
theorem d_Mo_readyComes_66 : decode b_Mo_readyComes 66 = .ok (.ifCond .ne 16, 3) := by decide +kernel
theorem d_Mo_readyComes_69 : decode b_Mo_readyComes 69 = .ok (.aload_n 0, 1) := by decide +kernel
theorem d_Mo_readyComes_70 : decode b_Mo_readyComes 70 = .ok (.getfield 33, 3) := by decide +kernel
theorem d_Mo_readyComes_73 : decode b_Mo_readyComes 73 = .ok (.iload 4, 2) := by decide +kernel
theorem d_Mo_readyComes_75 : decode b_Mo_readyComes 75 = .ok (.iload_n 3, 1) := by decide +kernel
theorem d_Mo_readyComes_76 : decode b_Mo_readyComes 76 = .ok (.iastore, 1) := by decide +kernel
theorem d_Mo_readyComes_77 : decode b_Mo_readyComes 77 = .ok (.aload_n 0, 1) := by decide +kernel
theorem d_Mo_readyComes_78 : decode b_Mo_readyComes 78 = .ok (.iload_n 2, 1) := by decide +kernel
theorem d_Mo_readyComes_79 : decode b_Mo_readyComes 79 = .ok (.invokevirtual 131, 3) := by decide +kernel
theorem d_Mo_readyComes_82 : decode b_Mo_readyComes 82 = .ok (.return_, 1) := by decide +kernel
theorem d_Mo_bits_0 : decode b_Mo_bits 0 = .ok (.iload_n 0, 1) := by decide +kernel
theorem d_Mo_bits_1 : decode b_Mo_bits 1 = .ok (.iconst 1, 1) := by decide +kernel
theorem d_Mo_bits_2 : decode b_Mo_bits 2 = .ok (.iand, 1) := by decide +kernel
theorem d_Mo_bits_3 : decode b_Mo_bits 3 = .ok (.iload_n 0, 1) := by decide +kernel
theorem d_Mo_bits_4 : decode b_Mo_bits 4 = .ok (.iconst 1, 1) := by decide +kernel
theorem d_Mo_bits_5 : decode b_Mo_bits 5 = .ok (.ishr, 1) := by decide +kernel
theorem d_Mo_bits_6 : decode b_Mo_bits 6 = .ok (.iconst 1, 1) := by decide +kernel
theorem d_Mo_bits_7 : decode b_Mo_bits 7 = .ok (.iand, 1) := by decide +kernel
theorem d_Mo_bits_8 : decode b_Mo_bits 8 = .ok (.iadd, 1) := by decide +kernel
theorem d_Mo_bits_9 : decode b_Mo_bits 9 = .ok (.iload_n 0, 1) := by decide +kernel
theorem d_Mo_bits_10 : decode b_Mo_bits 10 = .ok (.iconst 2, 1) := by decide +kernel
theorem d_Mo_bits_11 : decode b_Mo_bits 11 = .ok (.ishr, 1) := by decide +kernel
theorem d_Mo_bits_12 : decode b_Mo_bits 12 = .ok (.iconst 1, 1) := by decide +kernel
theorem d_Mo_bits_13 : decode b_Mo_bits 13 = .ok (.iand, 1) := by decide +kernel
theorem d_Mo_bits_14 : decode b_Mo_bits 14 = .ok (.iadd, 1) := by decide +kernel
theorem d_Mo_bits_15 : decode b_Mo_bits 15 = .ok (.iload_n 0, 1) := by decide +kernel
theorem d_Mo_bits_16 : decode b_Mo_bits 16 = .ok (.iconst 3, 1) := by decide +kernel
theorem d_Mo_bits_17 : decode b_Mo_bits 17 = .ok (.ishr, 1) := by decide +kernel
theorem d_Mo_bits_18 : decode b_Mo_bits 18 = .ok (.iconst 1, 1) := by decide +kernel
theorem d_Mo_bits_19 : decode b_Mo_bits 19 = .ok (.iand, 1) := by decide +kernel
theorem d_Mo_bits_20 : decode b_Mo_bits 20 = .ok (.iadd, 1) := by decide +kernel
theorem d_Mo_bits_21 : decode b_Mo_bits 21 = .ok (.ireturn, 1) := by decide +kernel
theorem d_Mo_isRight_0 : decode b_Mo_isRight 0 = .ok (.aload_n 0, 1) := by decide +kernel
theorem d_Mo_isRight_1 : decode b_Mo_isRight 1 = .ok (.getfield 7, 3) := by decide +kernel
theorem d_Mo_isRight_4 : decode b_Mo_isRight 4 = .ok (.iload_n 1, 1) := by decide +kernel
theorem d_Mo_isRight_5 : decode b_Mo_isRight 5 = .ok (.iaload, 1) := by decide +kernel
theorem d_Mo_isRight_6 : decode b_Mo_isRight 6 = .ok (.iconst 4, 1) := by decide +kernel
theorem d_Mo_isRight_7 : decode b_Mo_isRight 7 = .ok (.idiv, 1) := by decide +kernel
theorem d_Mo_isRight_8 : decode b_Mo_isRight 8 = .ok (.iconst 1, 1) := by decide +kernel
theorem d_Mo_isRight_9 : decode b_Mo_isRight 9 = .ok (.iadd, 1) := by decide +kernel
theorem d_Mo_isRight_10 : decode b_Mo_isRight 10 = .ok (.istore_n 2, 1) := by decide +kernel
theorem d_Mo_isRight_11 : decode b_Mo_isRight 11 = .ok (.iload_n 2, 1) := by decide +kernel
theorem d_Mo_isRight_12 : decode b_Mo_isRight 12 = .ok (.iconst 1, 1) := by decide +kernel
theorem d_Mo_isRight_13 : decode b_Mo_isRight 13 = .ok (.if_icmp .ne 29, 3) := by decide +kernel
theorem d_Mo_isRight_16 : decode b_Mo_isRight 16 = .ok (.aload_n 0, 1) := by decide +kernel
theorem d_Mo_isRight_17 : decode b_Mo_isRight 17 = .ok (.getfield 13, 3) := by decide +kernel
theorem d_Mo_isRight_20 : decode b_Mo_isRight 20 = .ok (.iload_n 1, 1) := by decide +kernel
theorem d_Mo_isRight_21 : decode b_Mo_isRight 21 = .ok (.iaload, 1) := by decide +kernel
theorem d_Mo_isRight_22 : decode b_Mo_isRight 22 = .ok (.ifCond .ne 18, 3) := by decide +kernel
theorem d_Mo_isRight_25 : decode b_Mo_isRight 25 = .ok (.aload_n 0, 1) := by decide +kernel
theorem d_Mo_isRight_26 : decode b_Mo_isRight 26 = .ok (.getfield 16, 3) := by decide +kernel
theorem d_Mo_isRight_29 : decode b_Mo_isRight 29 = .ok (.iload_n 1, 1) := by decide +kernel
theorem d_Mo_isRight_30 : decode b_Mo_isRight 30 = .ok (.laload, 1) := by decide +kernel
theorem d_Mo_isRight_31 : decode b_Mo_isRight 31 = .ok (.lconst 0, 1) := by decide +kernel
theorem d_Mo_isRight_32 : decode b_Mo_isRight 32 = .ok (.lcmp, 1) := by decide +kernel
theorem d_Mo_isRight_33 : decode b_Mo_isRight 33 = .ok (.ifCond .ne 7, 3) := by decide +kernel
theorem d_Mo_isRight_36 : decode b_Mo_isRight 36 = .ok (.iconst 1, 1) := by decide +kernel
theorem d_Mo_isRight_37 : decode b_Mo_isRight 37 = .ok (.goto 4, 3) := by decide +kernel
theorem d_Mo_isRight_40 : decode b_Mo_isRight 40 = .ok (.iconst 0, 1) := by decide +kernel
theorem d_Mo_isRight_41 : decode b_Mo_isRight 41 = .ok (.ireturn, 1) := by decide +kernel
theorem d_Mo_isRight_42 : decode b_Mo_isRight 42 = .ok (.iload_n 2, 1) := by decide +kernel
theorem d_Mo_isRight_43 : decode b_Mo_isRight 43 = .ok (.iconst 3, 1) := by decide +kernel
theorem d_Mo_isRight_44 : decode b_Mo_isRight 44 = .ok (.if_icmp .ge 7, 3) := by decide +kernel
theorem d_Mo_isRight_47 : decode b_Mo_isRight 47 = .ok (.lconst 0, 1) := by decide +kernel
theorem d_Mo_isRight_48 : decode b_Mo_isRight 48 = .ok (.goto 12, 3) := by decide +kernel
theorem d_Mo_isRight_51 : decode b_Mo_isRight 51 = .ok (.lconst 1, 1) := by decide +kernel
theorem d_Mo_isRight_52 : decode b_Mo_isRight 52 = .ok (.iconst 4, 1) := by decide +kernel
theorem d_Mo_isRight_53 : decode b_Mo_isRight 53 = .ok (.iload_n 2, 1) := by decide +kernel
theorem d_Mo_isRight_54 : decode b_Mo_isRight 54 = .ok (.iconst 2, 1) := by decide +kernel
theorem d_Mo_isRight_55 : decode b_Mo_isRight 55 = .ok (.isub, 1) := by decide +kernel
theorem d_Mo_isRight_56 : decode b_Mo_isRight 56 = .ok (.imul, 1) := by decide +kernel
theorem d_Mo_isRight_57 : decode b_Mo_isRight 57 = .ok (.lshl, 1) := by decide +kernel
theorem d_Mo_isRight_58 : decode b_Mo_isRight 58 = .ok (.lconst 1, 1) := by decide +kernel
theorem d_Mo_isRight_59 : decode b_Mo_isRight 59 = .ok (.lsub, 1) := by decide +kernel
theorem d_Mo_isRight_60 : decode b_Mo_isRight 60 = .ok (.lstore_n 3, 1) := by decide +kernel
theorem d_Mo_isRight_61 : decode b_Mo_isRight 61 = .ok (.aload_n 0, 1) := by decide +kernel
theorem d_Mo_isRight_62 : decode b_Mo_isRight 62 = .ok (.getfield 13, 3) := by decide +kernel
theorem d_Mo_isRight_65 : decode b_Mo_isRight 65 = .ok (.iload_n 1, 1) := by decide +kernel
theorem d_Mo_isRight_66 : decode b_Mo_isRight 66 = .ok (.iaload, 1) := by decide +kernel
theorem d_Mo_isRight_67 : decode b_Mo_isRight 67 = .ok (.invokestatic 134, 3) := by decide +kernel
theorem d_Mo_isRight_70 : decode b_Mo_isRight 70 = .ok (.iconst 3, 1) := by decide +kernel
theorem d_Mo_isRight_71 : decode b_Mo_isRight 71 = .ok (.if_icmp .lt 24, 3) := by decide +kernel
theorem d_Mo_isRight_74 : decode b_Mo_isRight 74 = .ok (.aload_n 0, 1) := by decide +kernel
theorem d_Mo_isRight_75 : decode b_Mo_isRight 75 = .ok (.getfield 16, 3) := by decide +kernel
theorem d_Mo_isRight_78 : decode b_Mo_isRight 78 = .ok (.iload_n 1, 1) := by decide +kernel
theorem d_Mo_isRight_79 : decode b_Mo_isRight 79 = .ok (.laload, 1) := by decide +kernel
theorem d_Mo_isRight_80 : decode b_Mo_isRight 80 = .ok (.lload_n 3, 1) := by decide +kernel
theorem d_Mo_isRight_81 : decode b_Mo_isRight 81 = .ok (.ldc2_w 138, 3) := by decide +kernel
theorem d_Mo_isRight_84 : decode b_Mo_isRight 84 = .ok (.lxor, 1) := by decide +kernel
theorem d_Mo_isRight_85 : decode b_Mo_isRight 85 = .ok (.land, 1) := by decide +kernel
theorem d_Mo_isRight_86 : decode b_Mo_isRight 86 = .ok (.lconst 0, 1) := by decide +kernel
theorem d_Mo_isRight_87 : decode b_Mo_isRight 87 = .ok (.lcmp, 1) := by decide +kernel
theorem d_Mo_isRight_88 : decode b_Mo_isRight 88 = .ok (.ifCond .ne 7, 3) := by decide +kernel
theorem d_Mo_isRight_91 : decode b_Mo_isRight 91 = .ok (.iconst 1, 1) := by decide +kernel
theorem d_Mo_isRight_92 : decode b_Mo_isRight 92 = .ok (.goto 4, 3) := by decide +kernel
theorem d_Mo_isRight_95 : decode b_Mo_isRight 95 = .ok (.iconst 0, 1) := by decide +kernel
theorem d_Mo_isRight_96 : decode b_Mo_isRight 96 = .ok (.ireturn, 1) := by decide +kernel
theorem d_Mo_points_0 : decode b_Mo_points 0 = .ok (.aload_n 0, 1) := by decide +kernel
theorem d_Mo_points_1 : decode b_Mo_points 1 = .ok (.getfield 7, 3) := by decide +kernel
theorem d_Mo_points_4 : decode b_Mo_points 4 = .ok (.iload_n 1, 1) := by decide +kernel
theorem d_Mo_points_5 : decode b_Mo_points 5 = .ok (.iaload, 1) := by decide +kernel
theorem d_Mo_points_6 : decode b_Mo_points 6 = .ok (.iconst 4, 1) := by decide +kernel
theorem d_Mo_points_7 : decode b_Mo_points 7 = .ok (.idiv, 1) := by decide +kernel
theorem d_Mo_points_8 : decode b_Mo_points 8 = .ok (.iconst 1, 1) := by decide +kernel
theorem d_Mo_points_9 : decode b_Mo_points 9 = .ok (.iadd, 1) := by decide +kernel
theorem d_Mo_points_10 : decode b_Mo_points 10 = .ok (.istore_n 3, 1) := by decide +kernel
theorem d_Mo_points_11 : decode b_Mo_points 11 = .ok (.iload_n 3, 1) := by decide +kernel
theorem d_Mo_points_12 : decode b_Mo_points 12 = .ok (.iconst 1, 1) := by decide +kernel
theorem d_Mo_points_13 : decode b_Mo_points 13 = .ok (.if_icmp .ne 7, 3) := by decide +kernel
theorem d_Mo_points_16 : decode b_Mo_points 16 = .ok (.lconst 0, 1) := by decide +kernel
theorem d_Mo_points_17 : decode b_Mo_points 17 = .ok (.goto 16, 3) := by decide +kernel
theorem d_Mo_points_20 : decode b_Mo_points 20 = .ok (.aload_n 0, 1) := by decide +kernel
theorem d_Mo_points_21 : decode b_Mo_points 21 = .ok (.getfield 13, 3) := by decide +kernel
theorem d_Mo_points_24 : decode b_Mo_points 24 = .ok (.iload_n 1, 1) := by decide +kernel
theorem d_Mo_points_25 : decode b_Mo_points 25 = .ok (.iaload, 1) := by decide +kernel
theorem d_Mo_points_26 : decode b_Mo_points 26 = .ok (.i2l, 1) := by decide +kernel
theorem d_Mo_points_27 : decode b_Mo_points 27 = .ok (.iconst 4, 1) := by decide +kernel
theorem d_Mo_points_28 : decode b_Mo_points 28 = .ok (.iload_n 3, 1) := by decide +kernel
theorem d_Mo_points_29 : decode b_Mo_points 29 = .ok (.iconst 2, 1) := by decide +kernel
theorem d_Mo_points_30 : decode b_Mo_points 30 = .ok (.isub, 1) := by decide +kernel
theorem d_Mo_points_31 : decode b_Mo_points 31 = .ok (.imul, 1) := by decide +kernel
theorem d_Mo_points_32 : decode b_Mo_points 32 = .ok (.lshl, 1) := by decide +kernel
theorem d_Mo_points_33 : decode b_Mo_points 33 = .ok (.lstore 4, 2) := by decide +kernel
theorem d_Mo_points_35 : decode b_Mo_points 35 = .ok (.iload_n 2, 1) := by decide +kernel
theorem d_Mo_points_36 : decode b_Mo_points 36 = .ok (.ifCond .eq 8, 3) := by decide +kernel
theorem d_Mo_points_39 : decode b_Mo_points 39 = .ok (.lload 4, 2) := by decide +kernel
theorem d_Mo_points_41 : decode b_Mo_points 41 = .ok (.goto 12, 3) := by decide +kernel
theorem d_Mo_points_44 : decode b_Mo_points 44 = .ok (.lload 4, 2) := by decide +kernel
theorem d_Mo_points_46 : decode b_Mo_points 46 = .ok (.aload_n 0, 1) := by decide +kernel
theorem d_Mo_points_47 : decode b_Mo_points 47 = .ok (.getfield 16, 3) := by decide +kernel
theorem d_Mo_points_50 : decode b_Mo_points 50 = .ok (.iload_n 1, 1) := by decide +kernel
theorem d_Mo_points_51 : decode b_Mo_points 51 = .ok (.laload, 1) := by decide +kernel
theorem d_Mo_points_52 : decode b_Mo_points 52 = .ok (.lor, 1) := by decide +kernel
theorem d_Mo_points_53 : decode b_Mo_points 53 = .ok (.lreturn, 1) := by decide +kernel
theorem d_Mo_graphOf_0 : decode b_Mo_graphOf 0 = .ok (.lconst 0, 1) := by decide +kernel
theorem d_Mo_graphOf_1 : decode b_Mo_graphOf 1 = .ok (.lstore_n 2, 1) := by decide +kernel
theorem d_Mo_graphOf_2 : decode b_Mo_graphOf 2 = .ok (.iconst 0, 1) := by decide +kernel
theorem d_Mo_graphOf_3 : decode b_Mo_graphOf 3 = .ok (.istore 4, 2) := by decide +kernel
theorem d_Mo_graphOf_5 : decode b_Mo_graphOf 5 = .ok (.iload 4, 2) := by decide +kernel
theorem d_Mo_graphOf_7 : decode b_Mo_graphOf 7 = .ok (.bipush 48, 2) := by decide +kernel
theorem d_Mo_graphOf_9 : decode b_Mo_graphOf 9 = .ok (.if_icmp .ge 35, 3) := by decide +kernel
theorem d_Mo_graphOf_12 : decode b_Mo_graphOf 12 = .ok (.aload_n 0, 1) := by decide +kernel
theorem d_Mo_graphOf_13 : decode b_Mo_graphOf 13 = .ok (.getfield 36, 3) := by decide +kernel
theorem d_Mo_graphOf_16 : decode b_Mo_graphOf 16 = .ok (.bipush 48, 2) := by decide +kernel
theorem d_Mo_graphOf_18 : decode b_Mo_graphOf 18 = .ok (.iload_n 1, 1) := by decide +kernel
theorem d_Mo_graphOf_19 : decode b_Mo_graphOf 19 = .ok (.imul, 1) := by decide +kernel
theorem d_Mo_graphOf_20 : decode b_Mo_graphOf 20 = .ok (.iload 4, 2) := by decide +kernel
theorem d_Mo_graphOf_22 : decode b_Mo_graphOf 22 = .ok (.iadd, 1) := by decide +kernel
theorem d_Mo_graphOf_23 : decode b_Mo_graphOf 23 = .ok (.baload, 1) := by decide +kernel
theorem d_Mo_graphOf_24 : decode b_Mo_graphOf 24 = .ok (.ifCond .eq 12, 3) := by decide +kernel
theorem d_Mo_graphOf_27 : decode b_Mo_graphOf 27 = .ok (.lload_n 2, 1) := by decide +kernel
theorem d_Mo_graphOf_28 : decode b_Mo_graphOf 28 = .ok (.lconst 1, 1) := by decide +kernel
theorem d_Mo_graphOf_29 : decode b_Mo_graphOf 29 = .ok (.iload 4, 2) := by decide +kernel
theorem d_Mo_graphOf_31 : decode b_Mo_graphOf 31 = .ok (.lshl, 1) := by decide +kernel
theorem d_Mo_graphOf_32 : decode b_Mo_graphOf 32 = .ok (.lor, 1) := by decide +kernel
theorem d_Mo_graphOf_33 : decode b_Mo_graphOf 33 = .ok (.goto 4, 3) := by decide +kernel
theorem d_Mo_graphOf_36 : decode b_Mo_graphOf 36 = .ok (.lload_n 2, 1) := by decide +kernel
theorem d_Mo_graphOf_37 : decode b_Mo_graphOf 37 = .ok (.lstore_n 2, 1) := by decide +kernel
theorem d_Mo_graphOf_38 : decode b_Mo_graphOf 38 = .ok (.iinc 4 1, 3) := by decide +kernel
theorem d_Mo_graphOf_41 : decode b_Mo_graphOf 41 = .ok (.goto (-36), 3) := by decide +kernel
theorem d_Mo_graphOf_44 : decode b_Mo_graphOf 44 = .ok (.lload_n 2, 1) := by decide +kernel
theorem d_Mo_graphOf_45 : decode b_Mo_graphOf 45 = .ok (.lreturn, 1) := by decide +kernel
theorem d_Mo_addAll_0 : decode b_Mo_addAll 0 = .ok (.iconst 1, 1) := by decide +kernel
theorem d_Mo_addAll_1 : decode b_Mo_addAll 1 = .ok (.istore_n 2, 1) := by decide +kernel
theorem d_Mo_addAll_2 : decode b_Mo_addAll 2 = .ok (.iload_n 2, 1) := by decide +kernel
theorem d_Mo_addAll_3 : decode b_Mo_addAll 3 = .ok (.ifCond .eq 110, 3) := by decide +kernel
theorem d_Mo_addAll_6 : decode b_Mo_addAll 6 = .ok (.iconst 0, 1) := by decide +kernel
theorem d_Mo_addAll_7 : decode b_Mo_addAll 7 = .ok (.istore_n 2, 1) := by decide +kernel
theorem d_Mo_addAll_8 : decode b_Mo_addAll 8 = .ok (.aload_n 0, 1) := by decide +kernel
theorem d_Mo_addAll_9 : decode b_Mo_addAll 9 = .ok (.iload_n 1, 1) := by decide +kernel
theorem d_Mo_addAll_10 : decode b_Mo_addAll 10 = .ok (.invokevirtual 140, 3) := by decide +kernel
theorem d_Mo_addAll_13 : decode b_Mo_addAll 13 = .ok (.lstore_n 3, 1) := by decide +kernel
theorem d_Mo_addAll_14 : decode b_Mo_addAll 14 = .ok (.iconst 0, 1) := by decide +kernel
theorem d_Mo_addAll_15 : decode b_Mo_addAll 15 = .ok (.istore 5, 2) := by decide +kernel
