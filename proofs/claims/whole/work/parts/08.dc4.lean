theorem d_PF_writePage_96 : decode b_PF_writePage 96 = .ok (.invokevirtual 195, 3) := by decide +kernel
theorem d_PF_writePage_99 : decode b_PF_writePage 99 = .ok (.ifCond .ne 21, 3) := by decide +kernel
theorem d_PF_writePage_102 : decode b_PF_writePage 102 = .ok (.aload_n 0, 1) := by decide +kernel
theorem d_PF_writePage_103 : decode b_PF_writePage 103 = .ok (.getfield 26, 3) := by decide +kernel
theorem d_PF_writePage_106 : decode b_PF_writePage 106 = .ok (.iload_n 2, 1) := by decide +kernel
theorem d_PF_writePage_107 : decode b_PF_writePage 107 = .ok (.invokevirtual 198, 3) := by decide +kernel
theorem d_PF_writePage_110 : decode b_PF_writePage 110 = .ok (.aload_n 0, 1) := by decide +kernel
theorem d_PF_writePage_111 : decode b_PF_writePage 111 = .ok (.getfield 31, 3) := by decide +kernel
theorem d_PF_writePage_114 : decode b_PF_writePage 114 = .ok (.iload_n 3, 1) := by decide +kernel
theorem d_PF_writePage_115 : decode b_PF_writePage 115 = .ok (.putfield 192, 3) := by decide +kernel
theorem d_PF_writePage_118 : decode b_PF_writePage 118 = .ok (.iconst 0, 1) := by decide +kernel
theorem d_PF_writePage_119 : decode b_PF_writePage 119 = .ok (.ireturn, 1) := by decide +kernel
theorem d_PF_writePage_120 : decode b_PF_writePage 120 = .ok (.aload_n 0, 1) := by decide +kernel
theorem d_PF_writePage_121 : decode b_PF_writePage 121 = .ok (.getfield 26, 3) := by decide +kernel
theorem d_PF_writePage_124 : decode b_PF_writePage 124 = .ok (.sipush 140, 3) := by decide +kernel
theorem d_PF_writePage_127 : decode b_PF_writePage 127 = .ok (.iconst 1, 1) := by decide +kernel
theorem d_PF_writePage_128 : decode b_PF_writePage 128 = .ok (.invokevirtual 158, 3) := by decide +kernel
theorem d_PF_writePage_131 : decode b_PF_writePage 131 = .ok (.aload_n 0, 1) := by decide +kernel
theorem d_PF_writePage_132 : decode b_PF_writePage 132 = .ok (.dup, 1) := by decide +kernel
theorem d_PF_writePage_133 : decode b_PF_writePage 133 = .ok (.getfield 174, 3) := by decide +kernel
theorem d_PF_writePage_136 : decode b_PF_writePage 136 = .ok (.iconst 1, 1) := by decide +kernel
theorem d_PF_writePage_137 : decode b_PF_writePage 137 = .ok (.iadd, 1) := by decide +kernel
theorem d_PF_writePage_138 : decode b_PF_writePage 138 = .ok (.putfield 174, 3) := by decide +kernel
theorem d_PF_writePage_141 : decode b_PF_writePage 141 = .ok (.aload_n 0, 1) := by decide +kernel
theorem d_PF_writePage_142 : decode b_PF_writePage 142 = .ok (.iload 4, 2) := by decide +kernel
theorem d_PF_writePage_144 : decode b_PF_writePage 144 = .ok (.putfield 32, 3) := by decide +kernel
theorem d_PF_writePage_147 : decode b_PF_writePage 147 = .ok (.aload_n 0, 1) := by decide +kernel
theorem d_PF_writePage_148 : decode b_PF_writePage 148 = .ok (.aload_n 0, 1) := by decide +kernel
theorem d_PF_writePage_149 : decode b_PF_writePage 149 = .ok (.getfield 165, 3) := by decide +kernel
theorem d_PF_writePage_152 : decode b_PF_writePage 152 = .ok (.aload_n 1, 1) := by decide +kernel
theorem d_PF_writePage_153 : decode b_PF_writePage 153 = .ok (.getfield 113, 3) := by decide +kernel
theorem d_PF_writePage_156 : decode b_PF_writePage 156 = .ok (.aload_n 1, 1) := by decide +kernel
theorem d_PF_writePage_157 : decode b_PF_writePage 157 = .ok (.getfield 116, 3) := by decide +kernel
theorem d_PF_writePage_160 : decode b_PF_writePage 160 = .ok (.iadd, 1) := by decide +kernel
theorem d_PF_writePage_161 : decode b_PF_writePage 161 = .ok (.invokestatic 201, 3) := by decide +kernel
theorem d_PF_writePage_164 : decode b_PF_writePage 164 = .ok (.putfield 165, 3) := by decide +kernel
theorem d_PF_writePage_167 : decode b_PF_writePage 167 = .ok (.aload_n 0, 1) := by decide +kernel
theorem d_PF_writePage_168 : decode b_PF_writePage 168 = .ok (.aload_n 0, 1) := by decide +kernel
theorem d_PF_writePage_169 : decode b_PF_writePage 169 = .ok (.getfield 168, 3) := by decide +kernel
theorem d_PF_writePage_172 : decode b_PF_writePage 172 = .ok (.aload_n 1, 1) := by decide +kernel
theorem d_PF_writePage_173 : decode b_PF_writePage 173 = .ok (.getfield 110, 3) := by decide +kernel
theorem d_PF_writePage_176 : decode b_PF_writePage 176 = .ok (.invokestatic 201, 3) := by decide +kernel
theorem d_PF_writePage_179 : decode b_PF_writePage 179 = .ok (.putfield 168, 3) := by decide +kernel
theorem d_PF_writePage_182 : decode b_PF_writePage 182 = .ok (.aload_n 0, 1) := by decide +kernel
theorem d_PF_writePage_183 : decode b_PF_writePage 183 = .ok (.aload_n 0, 1) := by decide +kernel
theorem d_PF_writePage_184 : decode b_PF_writePage 184 = .ok (.getfield 171, 3) := by decide +kernel
theorem d_PF_writePage_187 : decode b_PF_writePage 187 = .ok (.aload_n 0, 1) := by decide +kernel
theorem d_PF_writePage_188 : decode b_PF_writePage 188 = .ok (.getfield 18, 3) := by decide +kernel
theorem d_PF_writePage_191 : decode b_PF_writePage 191 = .ok (.getfield 207, 3) := by decide +kernel
theorem d_PF_writePage_194 : decode b_PF_writePage 194 = .ok (.invokestatic 201, 3) := by decide +kernel
theorem d_PF_writePage_197 : decode b_PF_writePage 197 = .ok (.putfield 171, 3) := by decide +kernel
theorem d_PF_writePage_200 : decode b_PF_writePage 200 = .ok (.iconst 1, 1) := by decide +kernel
theorem d_PF_writePage_201 : decode b_PF_writePage 201 = .ok (.ireturn, 1) := by decide +kernel
theorem d_PF_writeBeginning_0 : decode b_PF_writeBeginning 0 = .ok (.aload_n 0, 1) := by decide +kernel
theorem d_PF_writeBeginning_1 : decode b_PF_writeBeginning 1 = .ok (.getfield 26, 3) := by decide +kernel
theorem d_PF_writeBeginning_4 : decode b_PF_writeBeginning 4 = .ok (.getfield 136, 3) := by decide +kernel
theorem d_PF_writeBeginning_7 : decode b_PF_writeBeginning 7 = .ok (.ifCond .le 4, 3) := by decide +kernel
theorem d_PF_writeBeginning_10 : decode b_PF_writeBeginning 10 = .ok (.return_, 1) := by decide +kernel
theorem d_PF_writeBeginning_11 : decode b_PF_writeBeginning 11 = .ok (.aload_n 0, 1) := by decide +kernel
theorem d_PF_writeBeginning_12 : decode b_PF_writeBeginning 12 = .ok (.getfield 26, 3) := by decide +kernel
theorem d_PF_writeBeginning_15 : decode b_PF_writeBeginning 15 = .ok (.sipush 247, 3) := by decide +kernel
theorem d_PF_writeBeginning_18 : decode b_PF_writeBeginning 18 = .ok (.iconst 1, 1) := by decide +kernel
theorem d_PF_writeBeginning_19 : decode b_PF_writeBeginning 19 = .ok (.invokevirtual 158, 3) := by decide +kernel
theorem d_PF_writeBeginning_22 : decode b_PF_writeBeginning 22 = .ok (.aload_n 0, 1) := by decide +kernel
theorem d_PF_writeBeginning_23 : decode b_PF_writeBeginning 23 = .ok (.getfield 26, 3) := by decide +kernel
theorem d_PF_writeBeginning_26 : decode b_PF_writeBeginning 26 = .ok (.iconst 2, 1) := by decide +kernel
theorem d_PF_writeBeginning_27 : decode b_PF_writeBeginning 27 = .ok (.iconst 1, 1) := by decide +kernel
theorem d_PF_writeBeginning_28 : decode b_PF_writeBeginning 28 = .ok (.invokevirtual 158, 3) := by decide +kernel
theorem d_PF_writeBeginning_31 : decode b_PF_writeBeginning 31 = .ok (.aload_n 0, 1) := by decide +kernel
theorem d_PF_writeBeginning_32 : decode b_PF_writeBeginning 32 = .ok (.invokevirtual 162, 3) := by decide +kernel
theorem d_PF_writeBeginning_35 : decode b_PF_writeBeginning 35 = .ok (.aload_n 0, 1) := by decide +kernel
theorem d_PF_writeBeginning_36 : decode b_PF_writeBeginning 36 = .ok (.getfield 26, 3) := by decide +kernel
theorem d_PF_writeBeginning_39 : decode b_PF_writeBeginning 39 = .ok (.iconst 0, 1) := by decide +kernel
theorem d_PF_writeBeginning_40 : decode b_PF_writeBeginning 40 = .ok (.iconst 1, 1) := by decide +kernel
theorem d_PF_writeBeginning_41 : decode b_PF_writeBeginning 41 = .ok (.invokevirtual 158, 3) := by decide +kernel
theorem d_PF_writeBeginning_44 : decode b_PF_writeBeginning 44 = .ok (.return_, 1) := by decide +kernel
theorem d_PF_writeUnits_0 : decode b_PF_writeUnits 0 = .ok (.aload_n 0, 1) := by decide +kernel
theorem d_PF_writeUnits_1 : decode b_PF_writeUnits 1 = .ok (.getfield 26, 3) := by decide +kernel
theorem d_PF_writeUnits_4 : decode b_PF_writeUnits 4 = .ok (.ldc 208, 2) := by decide +kernel
theorem d_PF_writeUnits_6 : decode b_PF_writeUnits 6 = .ok (.iconst 4, 1) := by decide +kernel
theorem d_PF_writeUnits_7 : decode b_PF_writeUnits 7 = .ok (.invokevirtual 158, 3) := by decide +kernel
theorem d_PF_writeUnits_10 : decode b_PF_writeUnits 10 = .ok (.aload_n 0, 1) := by decide +kernel
theorem d_PF_writeUnits_11 : decode b_PF_writeUnits 11 = .ok (.getfield 26, 3) := by decide +kernel
theorem d_PF_writeUnits_14 : decode b_PF_writeUnits 14 = .ok (.ldc 209, 2) := by decide +kernel
theorem d_PF_writeUnits_16 : decode b_PF_writeUnits 16 = .ok (.iconst 4, 1) := by decide +kernel
theorem d_PF_writeUnits_17 : decode b_PF_writeUnits 17 = .ok (.invokevirtual 158, 3) := by decide +kernel
theorem d_PF_writeUnits_20 : decode b_PF_writeUnits 20 = .ok (.aload_n 0, 1) := by decide +kernel
theorem d_PF_writeUnits_21 : decode b_PF_writeUnits 21 = .ok (.getfield 26, 3) := by decide +kernel
theorem d_PF_writeUnits_24 : decode b_PF_writeUnits 24 = .ok (.sipush 1000, 3) := by decide +kernel
theorem d_PF_writeUnits_27 : decode b_PF_writeUnits 27 = .ok (.iconst 4, 1) := by decide +kernel
theorem d_PF_writeUnits_28 : decode b_PF_writeUnits 28 = .ok (.invokevirtual 158, 3) := by decide +kernel
theorem d_PF_writeUnits_31 : decode b_PF_writeUnits 31 = .ok (.return_, 1) := by decide +kernel
