theorem d_Law_ship_0 : decode b_Law_ship 0 = .ok (.aload_n 2, 1) := by decide +kernel
theorem d_Law_ship_1 : decode b_Law_ship 1 = .ok (.iconst 0, 1) := by decide +kernel
theorem d_Law_ship_2 : decode b_Law_ship 2 = .ok (.aload_n 0, 1) := by decide +kernel
theorem d_Law_ship_3 : decode b_Law_ship 3 = .ok (.iload_n 1, 1) := by decide +kernel
theorem d_Law_ship_4 : decode b_Law_ship 4 = .ok (.invokevirtual 7, 3) := by decide +kernel
theorem d_Law_ship_7 : decode b_Law_ship 7 = .ok (.i2l, 1) := by decide +kernel
theorem d_Law_ship_8 : decode b_Law_ship 8 = .ok (.lastore, 1) := by decide +kernel
theorem d_Law_ship_9 : decode b_Law_ship 9 = .ok (.goto 9, 3) := by decide +kernel
theorem d_Law_ship_12 : decode b_Law_ship 12 = .ok (.astore_n 3, 1) := by decide +kernel
theorem d_Law_ship_13 : decode b_Law_ship 13 = .ok (.iconst 1, 1) := by decide +kernel
theorem d_Law_ship_14 : decode b_Law_ship 14 = .ok (.ireturn, 1) := by decide +kernel
theorem d_Law_ship_15 : decode b_Law_ship 15 = .ok (.astore_n 3, 1) := by decide +kernel
theorem d_Law_ship_16 : decode b_Law_ship 16 = .ok (.iconst 2, 1) := by decide +kernel
theorem d_Law_ship_17 : decode b_Law_ship 17 = .ok (.ireturn, 1) := by decide +kernel
theorem d_Law_ship_18 : decode b_Law_ship 18 = .ok (.iconst 0, 1) := by decide +kernel
theorem d_Law_ship_19 : decode b_Law_ship 19 = .ok (.ireturn, 1) := by decide +kernel
theorem d_Law_finish_0 : decode b_Law_finish 0 = .ok (.aload_n 1, 1) := by decide +kernel
theorem d_Law_finish_1 : decode b_Law_finish 1 = .ok (.iconst 0, 1) := by decide +kernel
theorem d_Law_finish_2 : decode b_Law_finish 2 = .ok (.aload_n 0, 1) := by decide +kernel
theorem d_Law_finish_3 : decode b_Law_finish 3 = .ok (.invokevirtual 17, 3) := by decide +kernel
theorem d_Law_finish_6 : decode b_Law_finish 6 = .ok (.i2l, 1) := by decide +kernel
theorem d_Law_finish_7 : decode b_Law_finish 7 = .ok (.lastore, 1) := by decide +kernel
theorem d_Law_finish_8 : decode b_Law_finish 8 = .ok (.goto 6, 3) := by decide +kernel
theorem d_Law_finish_11 : decode b_Law_finish 11 = .ok (.astore_n 2, 1) := by decide +kernel
theorem d_Law_finish_12 : decode b_Law_finish 12 = .ok (.iconst 1, 1) := by decide +kernel
theorem d_Law_finish_13 : decode b_Law_finish 13 = .ok (.ireturn, 1) := by decide +kernel
theorem d_Law_finish_14 : decode b_Law_finish 14 = .ok (.iconst 0, 1) := by decide +kernel
theorem d_Law_finish_15 : decode b_Law_finish 15 = .ok (.ireturn, 1) := by decide +kernel
theorem d_Law_law_0 : decode b_Law_law 0 = .ok (.new 8, 3) := by decide +kernel
theorem d_Law_law_3 : decode b_Law_law 3 = .ok (.dup, 1) := by decide +kernel
theorem d_Law_law_4 : decode b_Law_law 4 = .ok (.invokespecial 21, 3) := by decide +kernel
theorem d_Law_law_7 : decode b_Law_law 7 = .ok (.astore_n 1, 1) := by decide +kernel
theorem d_Law_law_8 : decode b_Law_law 8 = .ok (.new 22, 3) := by decide +kernel
theorem d_Law_law_11 : decode b_Law_law 11 = .ok (.dup, 1) := by decide +kernel
theorem d_Law_law_12 : decode b_Law_law 12 = .ok (.invokespecial 24, 3) := by decide +kernel
theorem d_Law_law_15 : decode b_Law_law 15 = .ok (.astore_n 2, 1) := by decide +kernel
theorem d_Law_law_16 : decode b_Law_law 16 = .ok (.iconst 1, 1) := by decide +kernel
theorem d_Law_law_17 : decode b_Law_law 17 = .ok (.newarray .long, 2) := by decide +kernel
theorem d_Law_law_19 : decode b_Law_law 19 = .ok (.astore_n 3, 1) := by decide +kernel
theorem d_Law_law_20 : decode b_Law_law 20 = .ok (.iconst 0, 1) := by decide +kernel
theorem d_Law_law_21 : decode b_Law_law 21 = .ok (.istore 4, 2) := by decide +kernel
theorem d_Law_law_23 : decode b_Law_law 23 = .ok (.iload 4, 2) := by decide +kernel
theorem d_Law_law_25 : decode b_Law_law 25 = .ok (.aload_n 0, 1) := by decide +kernel
theorem d_Law_law_26 : decode b_Law_law 26 = .ok (.arraylength, 1) := by decide +kernel
theorem d_Law_law_27 : decode b_Law_law 27 = .ok (.bipush 6, 2) := by decide +kernel
theorem d_Law_law_29 : decode b_Law_law 29 = .ok (.isub, 1) := by decide +kernel
theorem d_Law_law_30 : decode b_Law_law 30 = .ok (.if_icmp .gt 606, 3) := by decide +kernel
theorem d_Law_law_33 : decode b_Law_law 33 = .ok (.aload_n 0, 1) := by decide +kernel
theorem d_Law_law_34 : decode b_Law_law 34 = .ok (.iload 4, 2) := by decide +kernel
theorem d_Law_law_36 : decode b_Law_law 36 = .ok (.iaload, 1) := by decide +kernel
theorem d_Law_law_37 : decode b_Law_law 37 = .ok (.bipush 15, 2) := by decide +kernel
theorem d_Law_law_39 : decode b_Law_law 39 = .ok (.iand, 1) := by decide +kernel
theorem d_Law_law_40 : decode b_Law_law 40 = .ok (.tableswitch 590 0 11 #[64, 113, 154, 227, 288, 313, 338, 403, 459, 503, 528, 553], 64) := by decide +kernel
theorem d_Law_law_104 : decode b_Law_law 104 = .ok (.aload_n 1, 1) := by decide +kernel
theorem d_Law_law_105 : decode b_Law_law 105 = .ok (.aload_n 0, 1) := by decide +kernel
theorem d_Law_law_106 : decode b_Law_law 106 = .ok (.iload 4, 2) := by decide +kernel
theorem d_Law_law_108 : decode b_Law_law 108 = .ok (.iconst 1, 1) := by decide +kernel
theorem d_Law_law_109 : decode b_Law_law 109 = .ok (.iadd, 1) := by decide +kernel
theorem d_Law_law_110 : decode b_Law_law 110 = .ok (.iaload, 1) := by decide +kernel
theorem d_Law_law_111 : decode b_Law_law 111 = .ok (.aload_n 0, 1) := by decide +kernel
theorem d_Law_law_112 : decode b_Law_law 112 = .ok (.iload 4, 2) := by decide +kernel
theorem d_Law_law_114 : decode b_Law_law 114 = .ok (.iconst 2, 1) := by decide +kernel
theorem d_Law_law_115 : decode b_Law_law 115 = .ok (.iadd, 1) := by decide +kernel
theorem d_Law_law_116 : decode b_Law_law 116 = .ok (.iaload, 1) := by decide +kernel
theorem d_Law_law_117 : decode b_Law_law 117 = .ok (.aload_n 0, 1) := by decide +kernel
theorem d_Law_law_118 : decode b_Law_law 118 = .ok (.iload 4, 2) := by decide +kernel
theorem d_Law_law_120 : decode b_Law_law 120 = .ok (.iconst 3, 1) := by decide +kernel
theorem d_Law_law_121 : decode b_Law_law 121 = .ok (.iadd, 1) := by decide +kernel
theorem d_Law_law_122 : decode b_Law_law 122 = .ok (.iaload, 1) := by decide +kernel
theorem d_Law_law_123 : decode b_Law_law 123 = .ok (.invokevirtual 25, 3) := by decide +kernel
theorem d_Law_law_126 : decode b_Law_law 126 = .ok (.aload_n 2, 1) := by decide +kernel
theorem d_Law_law_127 : decode b_Law_law 127 = .ok (.aload_n 0, 1) := by decide +kernel
theorem d_Law_law_128 : decode b_Law_law 128 = .ok (.iload 4, 2) := by decide +kernel
theorem d_Law_law_130 : decode b_Law_law 130 = .ok (.iconst 1, 1) := by decide +kernel
theorem d_Law_law_131 : decode b_Law_law 131 = .ok (.iadd, 1) := by decide +kernel
theorem d_Law_law_132 : decode b_Law_law 132 = .ok (.iaload, 1) := by decide +kernel
theorem d_Law_law_133 : decode b_Law_law 133 = .ok (.aload_n 0, 1) := by decide +kernel
theorem d_Law_law_134 : decode b_Law_law 134 = .ok (.iload 4, 2) := by decide +kernel
theorem d_Law_law_136 : decode b_Law_law 136 = .ok (.iconst 2, 1) := by decide +kernel
theorem d_Law_law_137 : decode b_Law_law 137 = .ok (.iadd, 1) := by decide +kernel
theorem d_Law_law_138 : decode b_Law_law 138 = .ok (.iaload, 1) := by decide +kernel
theorem d_Law_law_139 : decode b_Law_law 139 = .ok (.aload_n 0, 1) := by decide +kernel
theorem d_Law_law_140 : decode b_Law_law 140 = .ok (.iload 4, 2) := by decide +kernel
theorem d_Law_law_142 : decode b_Law_law 142 = .ok (.iconst 3, 1) := by decide +kernel
theorem d_Law_law_143 : decode b_Law_law 143 = .ok (.iadd, 1) := by decide +kernel
theorem d_Law_law_144 : decode b_Law_law 144 = .ok (.iaload, 1) := by decide +kernel
theorem d_Law_law_145 : decode b_Law_law 145 = .ok (.invokevirtual 29, 3) := by decide +kernel
theorem d_Law_law_148 : decode b_Law_law 148 = .ok (.if_icmp .eq 482, 3) := by decide +kernel
theorem d_Law_law_151 : decode b_Law_law 151 = .ok (.iconst 0, 1) := by decide +kernel
theorem d_Law_law_152 : decode b_Law_law 152 = .ok (.ireturn, 1) := by decide +kernel
theorem d_Law_law_153 : decode b_Law_law 153 = .ok (.aload_n 1, 1) := by decide +kernel
theorem d_Law_law_154 : decode b_Law_law 154 = .ok (.aload_n 0, 1) := by decide +kernel
theorem d_Law_law_155 : decode b_Law_law 155 = .ok (.iload 4, 2) := by decide +kernel
theorem d_Law_law_157 : decode b_Law_law 157 = .ok (.iconst 1, 1) := by decide +kernel
theorem d_Law_law_158 : decode b_Law_law 158 = .ok (.iadd, 1) := by decide +kernel
theorem d_Law_law_159 : decode b_Law_law 159 = .ok (.iaload, 1) := by decide +kernel
theorem d_Law_law_160 : decode b_Law_law 160 = .ok (.ifCond .eq 7, 3) := by decide +kernel
theorem d_Law_law_163 : decode b_Law_law 163 = .ok (.iconst 1, 1) := by decide +kernel
theorem d_Law_law_164 : decode b_Law_law 164 = .ok (.goto 4, 3) := by decide +kernel
theorem d_Law_law_167 : decode b_Law_law 167 = .ok (.iconst 0, 1) := by decide +kernel
