theorem dX11_done_106 : decode cX11_done 106 = .ok (.ladd, 1) := by decide +kernel
theorem dX11_done_107 : decode cX11_done 107 = .ok (.lreturn, 1) := by decide +kernel
theorem dX11_done_108 : decode cX11_done 108 = .ok (.lload_n 1, 1) := by decide +kernel
theorem dX11_done_109 : decode cX11_done 109 = .ok (.lload_n 3, 1) := by decide +kernel
theorem dX11_done_110 : decode cX11_done 110 = .ok (.lsub, 1) := by decide +kernel
theorem dX11_done_111 : decode cX11_done 111 = .ok (.lreturn, 1) := by decide +kernel
theorem dX11_done_112 : decode cX11_done 112 = .ok (.lload_n 1, 1) := by decide +kernel
theorem dX11_done_113 : decode cX11_done 113 = .ok (.lload_n 3, 1) := by decide +kernel
theorem dX11_done_114 : decode cX11_done 114 = .ok (.lmul, 1) := by decide +kernel
theorem dX11_done_115 : decode cX11_done 115 = .ok (.lreturn, 1) := by decide +kernel
theorem dX11_done_116 : decode cX11_done 116 = .ok (.lload_n 3, 1) := by decide +kernel
theorem dX11_done_117 : decode cX11_done 117 = .ok (.lconst 0, 1) := by decide +kernel
theorem dX11_done_118 : decode cX11_done 118 = .ok (.lcmp, 1) := by decide +kernel
theorem dX11_done_119 : decode cX11_done 119 = .ok (.ifCond .ne 7, 3) := by decide +kernel
theorem dX11_done_122 : decode cX11_done 122 = .ok (.lconst 0, 1) := by decide +kernel
theorem dX11_done_123 : decode cX11_done 123 = .ok (.goto 6, 3) := by decide +kernel
theorem dX11_done_126 : decode cX11_done 126 = .ok (.lload_n 1, 1) := by decide +kernel
theorem dX11_done_127 : decode cX11_done 127 = .ok (.lload_n 3, 1) := by decide +kernel
theorem dX11_done_128 : decode cX11_done 128 = .ok (.ldiv, 1) := by decide +kernel
theorem dX11_done_129 : decode cX11_done 129 = .ok (.lreturn, 1) := by decide +kernel
theorem dX11_worked_0 : decode cX11_worked 0 = .ok (.iload_n 1, 1) := by decide +kernel
theorem dX11_worked_1 : decode cX11_worked 1 = .ok (.istore 4, 2) := by decide +kernel
theorem dX11_worked_3 : decode cX11_worked 3 = .ok (.iload_n 2, 1) := by decide +kernel
theorem dX11_worked_4 : decode cX11_worked 4 = .ok (.istore 5, 2) := by decide +kernel
theorem dX11_worked_6 : decode cX11_worked 6 = .ok (.iload 5, 2) := by decide +kernel
theorem dX11_worked_8 : decode cX11_worked 8 = .ok (.ifCond .le 31, 3) := by decide +kernel
theorem dX11_worked_11 : decode cX11_worked 11 = .ok (.iload 5, 2) := by decide +kernel
theorem dX11_worked_13 : decode cX11_worked 13 = .ok (.aload_n 0, 1) := by decide +kernel
theorem dX11_worked_14 : decode cX11_worked 14 = .ok (.getfield 19, 3) := by decide +kernel
theorem dX11_worked_17 : decode cX11_worked 17 = .ok (.iload 4, 2) := by decide +kernel
theorem dX11_worked_19 : decode cX11_worked 19 = .ok (.iaload, 1) := by decide +kernel
theorem dX11_worked_20 : decode cX11_worked 20 = .ok (.ldc 249, 2) := by decide +kernel
theorem dX11_worked_22 : decode cX11_worked 22 = .ok (.if_icmp .ne 7, 3) := by decide +kernel
theorem dX11_worked_25 : decode cX11_worked 25 = .ok (.iconst 1, 1) := by decide +kernel
theorem dX11_worked_26 : decode cX11_worked 26 = .ok (.goto 4, 3) := by decide +kernel
theorem dX11_worked_29 : decode cX11_worked 29 = .ok (.iconst 0, 1) := by decide +kernel
theorem dX11_worked_30 : decode cX11_worked 30 = .ok (.isub, 1) := by decide +kernel
theorem dX11_worked_31 : decode cX11_worked 31 = .ok (.istore 5, 2) := by decide +kernel
theorem dX11_worked_33 : decode cX11_worked 33 = .ok (.iinc 4 1, 3) := by decide +kernel
theorem dX11_worked_36 : decode cX11_worked 36 = .ok (.goto (-30), 3) := by decide +kernel
theorem dX11_worked_39 : decode cX11_worked 39 = .ok (.iconst 0, 1) := by decide +kernel
theorem dX11_worked_40 : decode cX11_worked 40 = .ok (.istore 5, 2) := by decide +kernel
theorem dX11_worked_42 : decode cX11_worked 42 = .ok (.aload_n 0, 1) := by decide +kernel
theorem dX11_worked_43 : decode cX11_worked 43 = .ok (.getfield 19, 3) := by decide +kernel
theorem dX11_worked_46 : decode cX11_worked 46 = .ok (.iload 4, 2) := by decide +kernel
theorem dX11_worked_48 : decode cX11_worked 48 = .ok (.iaload, 1) := by decide +kernel
theorem dX11_worked_49 : decode cX11_worked 49 = .ok (.ldc 249, 2) := by decide +kernel
theorem dX11_worked_51 : decode cX11_worked 51 = .ok (.if_icmp .eq 135, 3) := by decide +kernel
theorem dX11_worked_54 : decode cX11_worked 54 = .ok (.aload_n 0, 1) := by decide +kernel
theorem dX11_worked_55 : decode cX11_worked 55 = .ok (.getfield 19, 3) := by decide +kernel
theorem dX11_worked_58 : decode cX11_worked 58 = .ok (.iload 4, 2) := by decide +kernel
theorem dX11_worked_60 : decode cX11_worked 60 = .ok (.iaload, 1) := by decide +kernel
theorem dX11_worked_61 : decode cX11_worked 61 = .ok (.istore 6, 2) := by decide +kernel
theorem dX11_worked_63 : decode cX11_worked 63 = .ok (.iload 6, 2) := by decide +kernel
theorem dX11_worked_65 : decode cX11_worked 65 = .ok (.ldc 211, 2) := by decide +kernel
theorem dX11_worked_67 : decode cX11_worked 67 = .ok (.if_icmp .ge 39, 3) := by decide +kernel
theorem dX11_worked_70 : decode cX11_worked 70 = .ok (.aload_n 0, 1) := by decide +kernel
theorem dX11_worked_71 : decode cX11_worked 71 = .ok (.getfield 41, 3) := by decide +kernel
theorem dX11_worked_74 : decode cX11_worked 74 = .ok (.iload 5, 2) := by decide +kernel
theorem dX11_worked_76 : decode cX11_worked 76 = .ok (.iload 6, 2) := by decide +kernel
theorem dX11_worked_78 : decode cX11_worked 78 = .ok (.ldc 248, 2) := by decide +kernel
theorem dX11_worked_80 : decode cX11_worked 80 = .ok (.if_icmp .ge 9, 3) := by decide +kernel
theorem dX11_worked_83 : decode cX11_worked 83 = .ok (.iload 6, 2) := by decide +kernel
theorem dX11_worked_85 : decode cX11_worked 85 = .ok (.i2l, 1) := by decide +kernel
theorem dX11_worked_86 : decode cX11_worked 86 = .ok (.goto 13, 3) := by decide +kernel
theorem dX11_worked_89 : decode cX11_worked 89 = .ok (.aload_n 0, 1) := by decide +kernel
theorem dX11_worked_90 : decode cX11_worked 90 = .ok (.iload 6, 2) := by decide +kernel
theorem dX11_worked_92 : decode cX11_worked 92 = .ok (.ldc 248, 2) := by decide +kernel
theorem dX11_worked_94 : decode cX11_worked 94 = .ok (.isub, 1) := by decide +kernel
theorem dX11_worked_95 : decode cX11_worked 95 = .ok (.iload_n 3, 1) := by decide +kernel
theorem dX11_worked_96 : decode cX11_worked 96 = .ok (.invokevirtual 255, 3) := by decide +kernel
theorem dX11_worked_99 : decode cX11_worked 99 = .ok (.lastore, 1) := by decide +kernel
theorem dX11_worked_100 : decode cX11_worked 100 = .ok (.iinc 5 1, 3) := by decide +kernel
theorem dX11_worked_103 : decode cX11_worked 103 = .ok (.goto 77, 3) := by decide +kernel
theorem dX11_worked_106 : decode cX11_worked 106 = .ok (.iload 6, 2) := by decide +kernel
theorem dX11_worked_108 : decode cX11_worked 108 = .ok (.ldc 226, 2) := by decide +kernel
theorem dX11_worked_110 : decode cX11_worked 110 = .ok (.if_icmp .ne 34, 3) := by decide +kernel
theorem dX11_worked_113 : decode cX11_worked 113 = .ok (.aload_n 0, 1) := by decide +kernel
theorem dX11_worked_114 : decode cX11_worked 114 = .ok (.getfield 41, 3) := by decide +kernel
theorem dX11_worked_117 : decode cX11_worked 117 = .ok (.iload 5, 2) := by decide +kernel
theorem dX11_worked_119 : decode cX11_worked 119 = .ok (.iconst 1, 1) := by decide +kernel
theorem dX11_worked_120 : decode cX11_worked 120 = .ok (.isub, 1) := by decide +kernel
theorem dX11_worked_121 : decode cX11_worked 121 = .ok (.aload_n 0, 1) := by decide +kernel
theorem dX11_worked_122 : decode cX11_worked 122 = .ok (.getfield 41, 3) := by decide +kernel
theorem dX11_worked_125 : decode cX11_worked 125 = .ok (.iload 5, 2) := by decide +kernel
theorem dX11_worked_127 : decode cX11_worked 127 = .ok (.iconst 1, 1) := by decide +kernel
theorem dX11_worked_128 : decode cX11_worked 128 = .ok (.isub, 1) := by decide +kernel
theorem dX11_worked_129 : decode cX11_worked 129 = .ok (.laload, 1) := by decide +kernel
theorem dX11_worked_130 : decode cX11_worked 130 = .ok (.lconst 0, 1) := by decide +kernel
theorem dX11_worked_131 : decode cX11_worked 131 = .ok (.lcmp, 1) := by decide +kernel
theorem dX11_worked_132 : decode cX11_worked 132 = .ok (.ifCond .ne 7, 3) := by decide +kernel
theorem dX11_worked_135 : decode cX11_worked 135 = .ok (.lconst 1, 1) := by decide +kernel
theorem dX11_worked_136 : decode cX11_worked 136 = .ok (.goto 4, 3) := by decide +kernel
theorem dX11_worked_139 : decode cX11_worked 139 = .ok (.lconst 0, 1) := by decide +kernel
theorem dX11_worked_140 : decode cX11_worked 140 = .ok (.lastore, 1) := by decide +kernel
theorem dX11_worked_141 : decode cX11_worked 141 = .ok (.goto 39, 3) := by decide +kernel
theorem dX11_worked_144 : decode cX11_worked 144 = .ok (.iinc 5 (-1), 3) := by decide +kernel
theorem dX11_worked_147 : decode cX11_worked 147 = .ok (.aload_n 0, 1) := by decide +kernel
theorem dX11_worked_148 : decode cX11_worked 148 = .ok (.getfield 41, 3) := by decide +kernel
theorem dX11_worked_151 : decode cX11_worked 151 = .ok (.iload 5, 2) := by decide +kernel
theorem dX11_worked_153 : decode cX11_worked 153 = .ok (.iconst 1, 1) := by decide +kernel
theorem dX11_worked_154 : decode cX11_worked 154 = .ok (.isub, 1) := by decide +kernel
theorem dX11_worked_155 : decode cX11_worked 155 = .ok (.iload 6, 2) := by decide +kernel
theorem dX11_worked_157 : decode cX11_worked 157 = .ok (.ldc 211, 2) := by decide +kernel
theorem dX11_worked_159 : decode cX11_worked 159 = .ok (.isub, 1) := by decide +kernel
theorem dX11_worked_160 : decode cX11_worked 160 = .ok (.aload_n 0, 1) := by decide +kernel
theorem dX11_worked_161 : decode cX11_worked 161 = .ok (.getfield 41, 3) := by decide +kernel
theorem dX11_worked_164 : decode cX11_worked 164 = .ok (.iload 5, 2) := by decide +kernel
theorem dX11_worked_166 : decode cX11_worked 166 = .ok (.iconst 1, 1) := by decide +kernel
theorem dX11_worked_167 : decode cX11_worked 167 = .ok (.isub, 1) := by decide +kernel
theorem dX11_worked_168 : decode cX11_worked 168 = .ok (.laload, 1) := by decide +kernel
theorem dX11_worked_169 : decode cX11_worked 169 = .ok (.aload_n 0, 1) := by decide +kernel
theorem dX11_worked_170 : decode cX11_worked 170 = .ok (.getfield 41, 3) := by decide +kernel
theorem dX11_worked_173 : decode cX11_worked 173 = .ok (.iload 5, 2) := by decide +kernel
theorem dX11_worked_175 : decode cX11_worked 175 = .ok (.laload, 1) := by decide +kernel
theorem dX11_worked_176 : decode cX11_worked 176 = .ok (.invokestatic 258, 3) := by decide +kernel
theorem dX11_worked_179 : decode cX11_worked 179 = .ok (.lastore, 1) := by decide +kernel
theorem dX11_worked_180 : decode cX11_worked 180 = .ok (.iinc 4 1, 3) := by decide +kernel
theorem dX11_worked_183 : decode cX11_worked 183 = .ok (.goto (-141), 3) := by decide +kernel
theorem dX11_worked_186 : decode cX11_worked 186 = .ok (.aload_n 0, 1) := by decide +kernel
theorem dX11_worked_187 : decode cX11_worked 187 = .ok (.getfield 41, 3) := by decide +kernel
theorem dX11_worked_190 : decode cX11_worked 190 = .ok (.iconst 0, 1) := by decide +kernel
theorem dX11_worked_191 : decode cX11_worked 191 = .ok (.laload, 1) := by decide +kernel
theorem dX11_worked_192 : decode cX11_worked 192 = .ok (.lreturn, 1) := by decide +kernel
theorem dX11_force_0 : decode cX11_force 0 = .ok (.iload_n 1, 1) := by decide +kernel
theorem dX11_force_1 : decode cX11_force 1 = .ok (.i2l, 1) := by decide +kernel
theorem dX11_force_2 : decode cX11_force 2 = .ok (.lconst 0, 1) := by decide +kernel
theorem dX11_force_3 : decode cX11_force 3 = .ok (.ldc2_w 103, 3) := by decide +kernel
theorem dX11_force_6 : decode cX11_force 6 = .ok (.invokestatic 57, 3) := by decide +kernel
theorem dX11_force_9 : decode cX11_force 9 = .ok (.ifCond .eq 25, 3) := by decide +kernel
theorem dX11_force_12 : decode cX11_force 12 = .ok (.iload_n 2, 1) := by decide +kernel
theorem dX11_force_13 : decode cX11_force 13 = .ok (.i2l, 1) := by decide +kernel
theorem dX11_force_14 : decode cX11_force 14 = .ok (.lconst 0, 1) := by decide +kernel
theorem dX11_force_15 : decode cX11_force 15 = .ok (.lconst 1, 1) := by decide +kernel
theorem dX11_force_16 : decode cX11_force 16 = .ok (.invokestatic 57, 3) := by decide +kernel
theorem dX11_force_19 : decode cX11_force 19 = .ok (.ifCond .eq 15, 3) := by decide +kernel
theorem dX11_force_22 : decode cX11_force 22 = .ok (.iload_n 3, 1) := by decide +kernel
theorem dX11_force_23 : decode cX11_force 23 = .ok (.i2l, 1) := by decide +kernel
theorem dX11_force_24 : decode cX11_force 24 = .ok (.lconst 0, 1) := by decide +kernel
theorem dX11_force_25 : decode cX11_force 25 = .ok (.ldc2_w 91, 3) := by decide +kernel
theorem dX11_force_28 : decode cX11_force 28 = .ok (.invokestatic 57, 3) := by decide +kernel
theorem dX11_force_31 : decode cX11_force 31 = .ok (.ifCond .ne 11, 3) := by decide +kernel
theorem dX11_force_34 : decode cX11_force 34 = .ok (.aload_n 0, 1) := by decide +kernel
theorem dX11_force_35 : decode cX11_force 35 = .ok (.ldc 67, 2) := by decide +kernel
theorem dX11_force_37 : decode cX11_force 37 = .ok (.invokevirtual 68, 3) := by decide +kernel
theorem dX11_force_40 : decode cX11_force 40 = .ok (.i2l, 1) := by decide +kernel
theorem dX11_force_41 : decode cX11_force 41 = .ok (.lreturn, 1) := by decide +kernel
theorem dX11_force_42 : decode cX11_force 42 = .ok (.aload_n 0, 1) := by decide +kernel
theorem dX11_force_43 : decode cX11_force 43 = .ok (.getfield 9, 3) := by decide +kernel
theorem dX11_force_46 : decode cX11_force 46 = .ok (.sipush 302, 3) := by decide +kernel
theorem dX11_force_49 : decode cX11_force 49 = .ok (.iload_n 1, 1) := by decide +kernel
theorem dX11_force_50 : decode cX11_force 50 = .ok (.iadd, 1) := by decide +kernel
theorem dX11_force_51 : decode cX11_force 51 = .ok (.laload, 1) := by decide +kernel
theorem dX11_force_52 : decode cX11_force 52 = .ok (.lconst 0, 1) := by decide +kernel
theorem dX11_force_53 : decode cX11_force 53 = .ok (.lcmp, 1) := by decide +kernel
theorem dX11_force_54 : decode cX11_force 54 = .ok (.ifCond .ne 11, 3) := by decide +kernel
theorem dX11_force_57 : decode cX11_force 57 = .ok (.aload_n 0, 1) := by decide +kernel
theorem dX11_force_58 : decode cX11_force 58 = .ok (.ldc 139, 2) := by decide +kernel
theorem dX11_force_60 : decode cX11_force 60 = .ok (.invokevirtual 68, 3) := by decide +kernel
theorem dX11_force_63 : decode cX11_force 63 = .ok (.i2l, 1) := by decide +kernel
theorem dX11_force_64 : decode cX11_force 64 = .ok (.lreturn, 1) := by decide +kernel
theorem dX11_force_65 : decode cX11_force 65 = .ok (.aload_n 0, 1) := by decide +kernel
theorem dX11_force_66 : decode cX11_force 66 = .ok (.getfield 9, 3) := by decide +kernel
theorem dX11_force_69 : decode cX11_force 69 = .ok (.bipush 6, 2) := by decide +kernel
theorem dX11_force_71 : decode cX11_force 71 = .ok (.laload, 1) := by decide +kernel
theorem dX11_force_72 : decode cX11_force 72 = .ok (.l2i, 1) := by decide +kernel
theorem dX11_force_73 : decode cX11_force 73 = .ok (.istore 4, 2) := by decide +kernel
theorem dX11_force_75 : decode cX11_force 75 = .ok (.iload 4, 2) := by decide +kernel
theorem dX11_force_77 : decode cX11_force 77 = .ok (.bipush 12, 2) := by decide +kernel
theorem dX11_force_79 : decode cX11_force 79 = .ok (.if_icmp .ne 11, 3) := by decide +kernel
theorem dX11_force_82 : decode cX11_force 82 = .ok (.aload_n 0, 1) := by decide +kernel
theorem dX11_force_83 : decode cX11_force 83 = .ok (.ldc 72, 2) := by decide +kernel
theorem dX11_force_85 : decode cX11_force 85 = .ok (.invokevirtual 68, 3) := by decide +kernel
theorem dX11_force_88 : decode cX11_force 88 = .ok (.i2l, 1) := by decide +kernel
theorem dX11_force_89 : decode cX11_force 89 = .ok (.lreturn, 1) := by decide +kernel
theorem dX11_force_90 : decode cX11_force 90 = .ok (.aload_n 0, 1) := by decide +kernel
theorem dX11_force_91 : decode cX11_force 91 = .ok (.getfield 9, 3) := by decide +kernel
theorem dX11_force_94 : decode cX11_force 94 = .ok (.sipush 278, 3) := by decide +kernel
theorem dX11_force_97 : decode cX11_force 97 = .ok (.iconst 2, 1) := by decide +kernel
theorem dX11_force_98 : decode cX11_force 98 = .ok (.iload 4, 2) := by decide +kernel
theorem dX11_force_100 : decode cX11_force 100 = .ok (.imul, 1) := by decide +kernel
theorem dX11_force_101 : decode cX11_force 101 = .ok (.iadd, 1) := by decide +kernel
theorem dX11_force_102 : decode cX11_force 102 = .ok (.iload_n 2, 1) := by decide +kernel
theorem dX11_force_103 : decode cX11_force 103 = .ok (.i2l, 1) := by decide +kernel
theorem dX11_force_104 : decode cX11_force 104 = .ok (.lastore, 1) := by decide +kernel
theorem dX11_force_105 : decode cX11_force 105 = .ok (.aload_n 0, 1) := by decide +kernel
theorem dX11_force_106 : decode cX11_force 106 = .ok (.getfield 9, 3) := by decide +kernel
theorem dX11_force_109 : decode cX11_force 109 = .ok (.sipush 278, 3) := by decide +kernel
theorem dX11_force_112 : decode cX11_force 112 = .ok (.iconst 2, 1) := by decide +kernel
theorem dX11_force_113 : decode cX11_force 113 = .ok (.iload 4, 2) := by decide +kernel
theorem dX11_force_115 : decode cX11_force 115 = .ok (.imul, 1) := by decide +kernel
theorem dX11_force_116 : decode cX11_force 116 = .ok (.iadd, 1) := by decide +kernel
theorem dX11_force_117 : decode cX11_force 117 = .ok (.iconst 1, 1) := by decide +kernel
theorem dX11_force_118 : decode cX11_force 118 = .ok (.iadd, 1) := by decide +kernel
theorem dX11_force_119 : decode cX11_force 119 = .ok (.iload_n 3, 1) := by decide +kernel
theorem dX11_force_120 : decode cX11_force 120 = .ok (.i2l, 1) := by decide +kernel
theorem dX11_force_121 : decode cX11_force 121 = .ok (.lastore, 1) := by decide +kernel
theorem dX11_force_122 : decode cX11_force 122 = .ok (.iconst 0, 1) := by decide +kernel
theorem dX11_force_123 : decode cX11_force 123 = .ok (.istore 5, 2) := by decide +kernel
theorem dX11_force_125 : decode cX11_force 125 = .ok (.iload 5, 2) := by decide +kernel
theorem dX11_force_127 : decode cX11_force 127 = .ok (.sipush 168, 3) := by decide +kernel
theorem dX11_force_130 : decode cX11_force 130 = .ok (.if_icmp .ge 38, 3) := by decide +kernel
theorem dX11_force_133 : decode cX11_force 133 = .ok (.aload_n 0, 1) := by decide +kernel
theorem dX11_force_134 : decode cX11_force 134 = .ok (.getfield 19, 3) := by decide +kernel
theorem dX11_force_137 : decode cX11_force 137 = .ok (.sipush 168, 3) := by decide +kernel
theorem dX11_force_140 : decode cX11_force 140 = .ok (.iconst 5, 1) := by decide +kernel
theorem dX11_force_141 : decode cX11_force 141 = .ok (.iload 4, 2) := by decide +kernel
theorem dX11_force_143 : decode cX11_force 143 = .ok (.iadd, 1) := by decide +kernel
theorem dX11_force_144 : decode cX11_force 144 = .ok (.imul, 1) := by decide +kernel
theorem dX11_force_145 : decode cX11_force 145 = .ok (.iload 5, 2) := by decide +kernel
theorem dX11_force_147 : decode cX11_force 147 = .ok (.iadd, 1) := by decide +kernel
theorem dX11_force_148 : decode cX11_force 148 = .ok (.aload_n 0, 1) := by decide +kernel
theorem dX11_force_149 : decode cX11_force 149 = .ok (.getfield 19, 3) := by decide +kernel
theorem dX11_force_152 : decode cX11_force 152 = .ok (.sipush 168, 3) := by decide +kernel
theorem dX11_force_155 : decode cX11_force 155 = .ok (.iload_n 1, 1) := by decide +kernel
theorem dX11_force_156 : decode cX11_force 156 = .ok (.imul, 1) := by decide +kernel
theorem dX11_force_157 : decode cX11_force 157 = .ok (.iload 5, 2) := by decide +kernel
theorem dX11_force_159 : decode cX11_force 159 = .ok (.iadd, 1) := by decide +kernel
theorem dX11_force_160 : decode cX11_force 160 = .ok (.iaload, 1) := by decide +kernel
theorem dX11_force_161 : decode cX11_force 161 = .ok (.iastore, 1) := by decide +kernel
theorem dX11_force_162 : decode cX11_force 162 = .ok (.iinc 5 1, 3) := by decide +kernel
theorem dX11_force_165 : decode cX11_force 165 = .ok (.goto (-40), 3) := by decide +kernel
theorem dX11_force_168 : decode cX11_force 168 = .ok (.aload_n 0, 1) := by decide +kernel
theorem dX11_force_169 : decode cX11_force 169 = .ok (.getfield 9, 3) := by decide +kernel
theorem dX11_force_172 : decode cX11_force 172 = .ok (.bipush 6, 2) := by decide +kernel
theorem dX11_force_174 : decode cX11_force 174 = .ok (.dup2, 1) := by decide +kernel
theorem dX11_force_175 : decode cX11_force 175 = .ok (.laload, 1) := by decide +kernel
theorem dX11_force_176 : decode cX11_force 176 = .ok (.lconst 1, 1) := by decide +kernel
theorem dX11_force_177 : decode cX11_force 177 = .ok (.ladd, 1) := by decide +kernel
theorem dX11_force_178 : decode cX11_force 178 = .ok (.lastore, 1) := by decide +kernel
theorem dX11_force_179 : decode cX11_force 179 = .ok (.iload 4, 2) := by decide +kernel
theorem dX11_force_181 : decode cX11_force 181 = .ok (.i2l, 1) := by decide +kernel
theorem dX11_force_182 : decode cX11_force 182 = .ok (.lreturn, 1) := by decide +kernel
theorem dX11_law_0 : decode cX11_law 0 = .ok (.iload_n 1, 1) := by decide +kernel
theorem dX11_law_1 : decode cX11_law 1 = .ok (.i2l, 1) := by decide +kernel
theorem dX11_law_2 : decode cX11_law 2 = .ok (.lconst 0, 1) := by decide +kernel
theorem dX11_law_3 : decode cX11_law 3 = .ok (.lconst 1, 1) := by decide +kernel
theorem dX11_law_4 : decode cX11_law 4 = .ok (.invokestatic 57, 3) := by decide +kernel
theorem dX11_law_7 : decode cX11_law 7 = .ok (.ifCond .eq 15, 3) := by decide +kernel
theorem dX11_law_10 : decode cX11_law 10 = .ok (.iload_n 2, 1) := by decide +kernel
theorem dX11_law_11 : decode cX11_law 11 = .ok (.i2l, 1) := by decide +kernel
theorem dX11_law_12 : decode cX11_law 12 = .ok (.lconst 0, 1) := by decide +kernel
theorem dX11_law_13 : decode cX11_law 13 = .ok (.ldc2_w 91, 3) := by decide +kernel
theorem dX11_law_16 : decode cX11_law 16 = .ok (.invokestatic 57, 3) := by decide +kernel
theorem dX11_law_19 : decode cX11_law 19 = .ok (.ifCond .ne 11, 3) := by decide +kernel
theorem dX11_law_22 : decode cX11_law 22 = .ok (.aload_n 0, 1) := by decide +kernel
theorem dX11_law_23 : decode cX11_law 23 = .ok (.ldc 67, 2) := by decide +kernel
theorem dX11_law_25 : decode cX11_law 25 = .ok (.invokevirtual 68, 3) := by decide +kernel
theorem dX11_law_28 : decode cX11_law 28 = .ok (.i2l, 1) := by decide +kernel
theorem dX11_law_29 : decode cX11_law 29 = .ok (.lreturn, 1) := by decide +kernel
theorem dX11_law_30 : decode cX11_law 30 = .ok (.aload_n 0, 1) := by decide +kernel
theorem dX11_law_31 : decode cX11_law 31 = .ok (.iload_n 1, 1) := by decide +kernel
theorem dX11_law_32 : decode cX11_law 32 = .ok (.iload_n 2, 1) := by decide +kernel
theorem dX11_law_33 : decode cX11_law 33 = .ok (.invokevirtual 116, 3) := by decide +kernel
theorem dX11_law_36 : decode cX11_law 36 = .ok (.istore_n 3, 1) := by decide +kernel
theorem dX11_law_37 : decode cX11_law 37 = .ok (.iload_n 3, 1) := by decide +kernel
theorem dX11_law_38 : decode cX11_law 38 = .ok (.ifCond .ge 13, 3) := by decide +kernel
theorem dX11_law_41 : decode cX11_law 41 = .ok (.aload_n 0, 1) := by decide +kernel
theorem dX11_law_42 : decode cX11_law 42 = .ok (.ldc 139, 2) := by decide +kernel
theorem dX11_law_44 : decode cX11_law 44 = .ok (.invokevirtual 68, 3) := by decide +kernel
theorem dX11_law_47 : decode cX11_law 47 = .ok (.i2l, 1) := by decide +kernel
theorem dX11_law_48 : decode cX11_law 48 = .ok (.goto 5, 3) := by decide +kernel
theorem dX11_law_51 : decode cX11_law 51 = .ok (.iload_n 3, 1) := by decide +kernel
theorem dX11_law_52 : decode cX11_law 52 = .ok (.i2l, 1) := by decide +kernel
theorem dX11_law_53 : decode cX11_law 53 = .ok (.lreturn, 1) := by decide +kernel
theorem dX11_unlike_0 : decode cX11_unlike 0 = .ok (.iconst 0, 1) := by decide +kernel
theorem dX11_unlike_1 : decode cX11_unlike 1 = .ok (.istore_n 1, 1) := by decide +kernel
theorem dX11_unlike_2 : decode cX11_unlike 2 = .ok (.iload_n 1, 1) := by decide +kernel
theorem dX11_unlike_3 : decode cX11_unlike 3 = .ok (.i2l, 1) := by decide +kernel
theorem dX11_unlike_4 : decode cX11_unlike 4 = .ok (.aload_n 0, 1) := by decide +kernel
theorem dX11_unlike_5 : decode cX11_unlike 5 = .ok (.getfield 9, 3) := by decide +kernel
theorem dX11_unlike_8 : decode cX11_unlike 8 = .ok (.iconst 5, 1) := by decide +kernel
theorem dX11_unlike_9 : decode cX11_unlike 9 = .ok (.laload, 1) := by decide +kernel
theorem dX11_unlike_10 : decode cX11_unlike 10 = .ok (.lcmp, 1) := by decide +kernel
theorem dX11_unlike_11 : decode cX11_unlike 11 = .ok (.ifCond .ge 36, 3) := by decide +kernel
theorem dX11_unlike_14 : decode cX11_unlike 14 = .ok (.aload_n 0, 1) := by decide +kernel
theorem dX11_unlike_15 : decode cX11_unlike 15 = .ok (.iload_n 1, 1) := by decide +kernel
theorem dX11_unlike_16 : decode cX11_unlike 16 = .ok (.invokevirtual 132, 3) := by decide +kernel
theorem dX11_unlike_19 : decode cX11_unlike 19 = .ok (.ifCond .eq 22, 3) := by decide +kernel
theorem dX11_unlike_22 : decode cX11_unlike 22 = .ok (.aload_n 0, 1) := by decide +kernel
theorem dX11_unlike_23 : decode cX11_unlike 23 = .ok (.iload_n 1, 1) := by decide +kernel
theorem dX11_unlike_24 : decode cX11_unlike 24 = .ok (.iconst 0, 1) := by decide +kernel
theorem dX11_unlike_25 : decode cX11_unlike 25 = .ok (.invokevirtual 135, 3) := by decide +kernel
theorem dX11_unlike_28 : decode cX11_unlike 28 = .ok (.aload_n 0, 1) := by decide +kernel
theorem dX11_unlike_29 : decode cX11_unlike 29 = .ok (.iload_n 1, 1) := by decide +kernel
theorem dX11_unlike_30 : decode cX11_unlike 30 = .ok (.iconst 1, 1) := by decide +kernel
theorem dX11_unlike_31 : decode cX11_unlike 31 = .ok (.invokevirtual 135, 3) := by decide +kernel
theorem dX11_unlike_34 : decode cX11_unlike 34 = .ok (.lcmp, 1) := by decide +kernel
theorem dX11_unlike_35 : decode cX11_unlike 35 = .ok (.ifCond .eq 6, 3) := by decide +kernel
theorem dX11_unlike_38 : decode cX11_unlike 38 = .ok (.iload_n 1, 1) := by decide +kernel
theorem dX11_unlike_39 : decode cX11_unlike 39 = .ok (.i2l, 1) := by decide +kernel
theorem dX11_unlike_40 : decode cX11_unlike 40 = .ok (.lreturn, 1) := by decide +kernel
theorem dX11_unlike_41 : decode cX11_unlike 41 = .ok (.iinc 1 1, 3) := by decide +kernel
theorem dX11_unlike_44 : decode cX11_unlike 44 = .ok (.goto (-42), 3) := by decide +kernel
theorem dX11_unlike_47 : decode cX11_unlike 47 = .ok (.aload_n 0, 1) := by decide +kernel
theorem dX11_unlike_48 : decode cX11_unlike 48 = .ok (.ldc 139, 2) := by decide +kernel
theorem dX11_unlike_50 : decode cX11_unlike 50 = .ok (.invokevirtual 68, 3) := by decide +kernel
theorem dX11_unlike_53 : decode cX11_unlike 53 = .ok (.i2l, 1) := by decide +kernel
theorem dX11_unlike_54 : decode cX11_unlike 54 = .ok (.lreturn, 1) := by decide +kernel
theorem dX11_payWages_0 : decode cX11_payWages 0 = .ok (.iconst 0, 1) := by decide +kernel
theorem dX11_payWages_1 : decode cX11_payWages 1 = .ok (.istore_n 1, 1) := by decide +kernel
theorem dX11_payWages_2 : decode cX11_payWages 2 = .ok (.iload_n 1, 1) := by decide +kernel
theorem dX11_payWages_3 : decode cX11_payWages 3 = .ok (.i2l, 1) := by decide +kernel
theorem dX11_payWages_4 : decode cX11_payWages 4 = .ok (.aload_n 0, 1) := by decide +kernel
theorem dX11_payWages_5 : decode cX11_payWages 5 = .ok (.getfield 9, 3) := by decide +kernel
theorem dX11_payWages_8 : decode cX11_payWages 8 = .ok (.iconst 5, 1) := by decide +kernel
theorem dX11_payWages_9 : decode cX11_payWages 9 = .ok (.laload, 1) := by decide +kernel
theorem dX11_payWages_10 : decode cX11_payWages 10 = .ok (.lcmp, 1) := by decide +kernel
theorem dX11_payWages_11 : decode cX11_payWages 11 = .ok (.ifCond .ge 99, 3) := by decide +kernel
theorem dX11_payWages_14 : decode cX11_payWages 14 = .ok (.aload_n 0, 1) := by decide +kernel
theorem dX11_payWages_15 : decode cX11_payWages 15 = .ok (.iload_n 1, 1) := by decide +kernel
theorem dX11_payWages_16 : decode cX11_payWages 16 = .ok (.invokevirtual 132, 3) := by decide +kernel
theorem dX11_payWages_19 : decode cX11_payWages 19 = .ok (.ifCond .eq 85, 3) := by decide +kernel
theorem dX11_payWages_22 : decode cX11_payWages 22 = .ok (.aload_n 0, 1) := by decide +kernel
theorem dX11_payWages_23 : decode cX11_payWages 23 = .ok (.getfield 9, 3) := by decide +kernel
theorem dX11_payWages_26 : decode cX11_payWages 26 = .ok (.iload_n 1, 1) := by decide +kernel
theorem dX11_payWages_27 : decode cX11_payWages 27 = .ok (.iconst 0, 1) := by decide +kernel
theorem dX11_payWages_28 : decode cX11_payWages 28 = .ok (.invokestatic 94, 3) := by decide +kernel
theorem dX11_payWages_31 : decode cX11_payWages 31 = .ok (.laload, 1) := by decide +kernel
theorem dX11_payWages_32 : decode cX11_payWages 32 = .ok (.ldc2_w 103, 3) := by decide +kernel
theorem dX11_payWages_35 : decode cX11_payWages 35 = .ok (.lcmp, 1) := by decide +kernel
theorem dX11_payWages_36 : decode cX11_payWages 36 = .ok (.ifCond .ne 68, 3) := by decide +kernel
theorem dX11_payWages_39 : decode cX11_payWages 39 = .ok (.aload_n 0, 1) := by decide +kernel
theorem dX11_payWages_40 : decode cX11_payWages 40 = .ok (.iload_n 1, 1) := by decide +kernel
theorem dX11_payWages_41 : decode cX11_payWages 41 = .ok (.iconst 0, 1) := by decide +kernel
theorem dX11_payWages_42 : decode cX11_payWages 42 = .ok (.invokevirtual 135, 3) := by decide +kernel
theorem dX11_payWages_45 : decode cX11_payWages 45 = .ok (.lstore_n 2, 1) := by decide +kernel
theorem dX11_payWages_46 : decode cX11_payWages 46 = .ok (.lconst 0, 1) := by decide +kernel
theorem dX11_payWages_47 : decode cX11_payWages 47 = .ok (.lload_n 2, 1) := by decide +kernel
theorem dX11_payWages_48 : decode cX11_payWages 48 = .ok (.aload_n 0, 1) := by decide +kernel
theorem dX11_payWages_49 : decode cX11_payWages 49 = .ok (.getfield 9, 3) := by decide +kernel
theorem dX11_payWages_52 : decode cX11_payWages 52 = .ok (.iconst 1, 1) := by decide +kernel
theorem dX11_payWages_53 : decode cX11_payWages 53 = .ok (.laload, 1) := by decide +kernel
theorem dX11_payWages_54 : decode cX11_payWages 54 = .ok (.lsub, 1) := by decide +kernel
theorem dX11_payWages_55 : decode cX11_payWages 55 = .ok (.invokestatic 129, 3) := by decide +kernel
theorem dX11_payWages_58 : decode cX11_payWages 58 = .ok (.lstore 4, 2) := by decide +kernel
theorem dX11_payWages_60 : decode cX11_payWages 60 = .ok (.aload_n 0, 1) := by decide +kernel
theorem dX11_payWages_61 : decode cX11_payWages 61 = .ok (.getfield 9, 3) := by decide +kernel
theorem dX11_payWages_64 : decode cX11_payWages 64 = .ok (.iconst 2, 1) := by decide +kernel
theorem dX11_payWages_65 : decode cX11_payWages 65 = .ok (.dup2, 1) := by decide +kernel
theorem dX11_payWages_66 : decode cX11_payWages 66 = .ok (.laload, 1) := by decide +kernel
theorem dX11_payWages_67 : decode cX11_payWages 67 = .ok (.lload 4, 2) := by decide +kernel
theorem dX11_payWages_69 : decode cX11_payWages 69 = .ok (.ladd, 1) := by decide +kernel
theorem dX11_payWages_70 : decode cX11_payWages 70 = .ok (.lastore, 1) := by decide +kernel
theorem dX11_payWages_71 : decode cX11_payWages 71 = .ok (.aload_n 0, 1) := by decide +kernel
theorem dX11_payWages_72 : decode cX11_payWages 72 = .ok (.getfield 9, 3) := by decide +kernel
theorem dX11_payWages_75 : decode cX11_payWages 75 = .ok (.iconst 1, 1) := by decide +kernel
theorem dX11_payWages_76 : decode cX11_payWages 76 = .ok (.dup2, 1) := by decide +kernel
theorem dX11_payWages_77 : decode cX11_payWages 77 = .ok (.laload, 1) := by decide +kernel
theorem dX11_payWages_78 : decode cX11_payWages 78 = .ok (.lload 4, 2) := by decide +kernel
theorem dX11_payWages_80 : decode cX11_payWages 80 = .ok (.lload_n 2, 1) := by decide +kernel
theorem dX11_payWages_81 : decode cX11_payWages 81 = .ok (.lsub, 1) := by decide +kernel
theorem dX11_payWages_82 : decode cX11_payWages 82 = .ok (.ladd, 1) := by decide +kernel
theorem dX11_payWages_83 : decode cX11_payWages 83 = .ok (.lastore, 1) := by decide +kernel
theorem dX11_payWages_84 : decode cX11_payWages 84 = .ok (.aload_n 0, 1) := by decide +kernel
theorem dX11_payWages_85 : decode cX11_payWages 85 = .ok (.aload_n 0, 1) := by decide +kernel
theorem dX11_payWages_86 : decode cX11_payWages 86 = .ok (.getfield 9, 3) := by decide +kernel
theorem dX11_payWages_89 : decode cX11_payWages 89 = .ok (.iload_n 1, 1) := by decide +kernel
theorem dX11_payWages_90 : decode cX11_payWages 90 = .ok (.iconst 2, 1) := by decide +kernel
theorem dX11_payWages_91 : decode cX11_payWages 91 = .ok (.invokestatic 94, 3) := by decide +kernel
theorem dX11_payWages_94 : decode cX11_payWages 94 = .ok (.laload, 1) := by decide +kernel
theorem dX11_payWages_95 : decode cX11_payWages 95 = .ok (.l2i, 1) := by decide +kernel
theorem dX11_payWages_96 : decode cX11_payWages 96 = .ok (.iconst 0, 1) := by decide +kernel
theorem dX11_payWages_97 : decode cX11_payWages 97 = .ok (.invokestatic 73, 3) := by decide +kernel
theorem dX11_payWages_100 : decode cX11_payWages 100 = .ok (.lload_n 2, 1) := by decide +kernel
theorem dX11_payWages_101 : decode cX11_payWages 101 = .ok (.invokevirtual 140, 3) := by decide +kernel
theorem dX11_payWages_104 : decode cX11_payWages 104 = .ok (.iinc 1 1, 3) := by decide +kernel
theorem dX11_payWages_107 : decode cX11_payWages 107 = .ok (.goto (-105), 3) := by decide +kernel
theorem dX11_payWages_110 : decode cX11_payWages 110 = .ok (.return_, 1) := by decide +kernel
theorem dX11_askAndOffer_0 : decode cX11_askAndOffer 0 = .ok (.aload_n 0, 1) := by decide +kernel
theorem dX11_askAndOffer_1 : decode cX11_askAndOffer 1 = .ok (.invokevirtual 108, 3) := by decide +kernel
theorem dX11_askAndOffer_4 : decode cX11_askAndOffer 4 = .ok (.istore_n 1, 1) := by decide +kernel
theorem dX11_askAndOffer_5 : decode cX11_askAndOffer 5 = .ok (.iconst 0, 1) := by decide +kernel
theorem dX11_askAndOffer_6 : decode cX11_askAndOffer 6 = .ok (.istore_n 2, 1) := by decide +kernel
theorem dX11_askAndOffer_7 : decode cX11_askAndOffer 7 = .ok (.iload_n 2, 1) := by decide +kernel
theorem dX11_askAndOffer_8 : decode cX11_askAndOffer 8 = .ok (.i2l, 1) := by decide +kernel
theorem dX11_askAndOffer_9 : decode cX11_askAndOffer 9 = .ok (.aload_n 0, 1) := by decide +kernel
theorem dX11_askAndOffer_10 : decode cX11_askAndOffer 10 = .ok (.getfield 9, 3) := by decide +kernel
theorem dX11_askAndOffer_13 : decode cX11_askAndOffer 13 = .ok (.iconst 4, 1) := by decide +kernel
theorem dX11_askAndOffer_14 : decode cX11_askAndOffer 14 = .ok (.laload, 1) := by decide +kernel
theorem dX11_askAndOffer_15 : decode cX11_askAndOffer 15 = .ok (.lcmp, 1) := by decide +kernel
theorem dX11_askAndOffer_16 : decode cX11_askAndOffer 16 = .ok (.ifCond .ge 115, 3) := by decide +kernel
theorem dX11_askAndOffer_19 : decode cX11_askAndOffer 19 = .ok (.aload_n 0, 1) := by decide +kernel
theorem dX11_askAndOffer_20 : decode cX11_askAndOffer 20 = .ok (.getfield 44, 3) := by decide +kernel
theorem dX11_askAndOffer_23 : decode cX11_askAndOffer 23 = .ok (.iload_n 2, 1) := by decide +kernel
theorem dX11_askAndOffer_24 : decode cX11_askAndOffer 24 = .ok (.aload_n 0, 1) := by decide +kernel
theorem dX11_askAndOffer_25 : decode cX11_askAndOffer 25 = .ok (.getfield 9, 3) := by decide +kernel
theorem dX11_askAndOffer_28 : decode cX11_askAndOffer 28 = .ok (.iload_n 2, 1) := by decide +kernel
theorem dX11_askAndOffer_29 : decode cX11_askAndOffer 29 = .ok (.iconst 0, 1) := by decide +kernel
theorem dX11_askAndOffer_30 : decode cX11_askAndOffer 30 = .ok (.invokestatic 73, 3) := by decide +kernel
theorem dX11_askAndOffer_33 : decode cX11_askAndOffer 33 = .ok (.laload, 1) := by decide +kernel
theorem dX11_askAndOffer_34 : decode cX11_askAndOffer 34 = .ok (.aload_n 0, 1) := by decide +kernel
theorem dX11_askAndOffer_35 : decode cX11_askAndOffer 35 = .ok (.getfield 9, 3) := by decide +kernel
theorem dX11_askAndOffer_38 : decode cX11_askAndOffer 38 = .ok (.iload_n 2, 1) := by decide +kernel
theorem dX11_askAndOffer_39 : decode cX11_askAndOffer 39 = .ok (.iconst 3, 1) := by decide +kernel
theorem dX11_askAndOffer_40 : decode cX11_askAndOffer 40 = .ok (.invokestatic 73, 3) := by decide +kernel
theorem dX11_askAndOffer_43 : decode cX11_askAndOffer 43 = .ok (.laload, 1) := by decide +kernel
theorem dX11_askAndOffer_44 : decode cX11_askAndOffer 44 = .ok (.lmul, 1) := by decide +kernel
theorem dX11_askAndOffer_45 : decode cX11_askAndOffer 45 = .ok (.ldc2_w 87, 3) := by decide +kernel
theorem dX11_askAndOffer_48 : decode cX11_askAndOffer 48 = .ok (.ldiv, 1) := by decide +kernel
theorem dX11_askAndOffer_49 : decode cX11_askAndOffer 49 = .ok (.lastore, 1) := by decide +kernel
theorem dX11_askAndOffer_50 : decode cX11_askAndOffer 50 = .ok (.iload_n 1, 1) := by decide +kernel
theorem dX11_askAndOffer_51 : decode cX11_askAndOffer 51 = .ok (.ifCond .le 42, 3) := by decide +kernel
theorem dX11_askAndOffer_54 : decode cX11_askAndOffer 54 = .ok (.ldc2_w 262, 3) := by decide +kernel
theorem dX11_askAndOffer_57 : decode cX11_askAndOffer 57 = .ok (.aload_n 0, 1) := by decide +kernel
theorem dX11_askAndOffer_58 : decode cX11_askAndOffer 58 = .ok (.iload_n 1, 1) := by decide +kernel
theorem dX11_askAndOffer_59 : decode cX11_askAndOffer 59 = .ok (.invokevirtual 112, 3) := by decide +kernel
theorem dX11_askAndOffer_62 : decode cX11_askAndOffer 62 = .ok (.lmul, 1) := by decide +kernel
theorem dX11_askAndOffer_63 : decode cX11_askAndOffer 63 = .ok (.ldc2_w 262, 3) := by decide +kernel
theorem dX11_askAndOffer_66 : decode cX11_askAndOffer 66 = .ok (.aload_n 0, 1) := by decide +kernel
theorem dX11_askAndOffer_67 : decode cX11_askAndOffer 67 = .ok (.getfield 9, 3) := by decide +kernel
theorem dX11_askAndOffer_70 : decode cX11_askAndOffer 70 = .ok (.iload_n 2, 1) := by decide +kernel
theorem dX11_askAndOffer_71 : decode cX11_askAndOffer 71 = .ok (.iconst 4, 1) := by decide +kernel
theorem dX11_askAndOffer_72 : decode cX11_askAndOffer 72 = .ok (.invokestatic 73, 3) := by decide +kernel
theorem dX11_askAndOffer_75 : decode cX11_askAndOffer 75 = .ok (.laload, 1) := by decide +kernel
theorem dX11_askAndOffer_76 : decode cX11_askAndOffer 76 = .ok (.ladd, 1) := by decide +kernel
theorem dX11_askAndOffer_77 : decode cX11_askAndOffer 77 = .ok (.aload_n 0, 1) := by decide +kernel
theorem dX11_askAndOffer_78 : decode cX11_askAndOffer 78 = .ok (.iload_n 1, 1) := by decide +kernel
theorem dX11_askAndOffer_79 : decode cX11_askAndOffer 79 = .ok (.iconst 1, 1) := by decide +kernel
theorem dX11_askAndOffer_80 : decode cX11_askAndOffer 80 = .ok (.isub, 1) := by decide +kernel
theorem dX11_askAndOffer_81 : decode cX11_askAndOffer 81 = .ok (.invokevirtual 112, 3) := by decide +kernel
theorem dX11_askAndOffer_84 : decode cX11_askAndOffer 84 = .ok (.lmul, 1) := by decide +kernel
theorem dX11_askAndOffer_85 : decode cX11_askAndOffer 85 = .ok (.lcmp, 1) := by decide +kernel
theorem dX11_askAndOffer_86 : decode cX11_askAndOffer 86 = .ok (.ifCond .lt 7, 3) := by decide +kernel
theorem dX11_askAndOffer_89 : decode cX11_askAndOffer 89 = .ok (.iconst 1, 1) := by decide +kernel
theorem dX11_askAndOffer_90 : decode cX11_askAndOffer 90 = .ok (.goto 4, 3) := by decide +kernel
theorem dX11_askAndOffer_93 : decode cX11_askAndOffer 93 = .ok (.iconst 0, 1) := by decide +kernel
theorem dX11_askAndOffer_94 : decode cX11_askAndOffer 94 = .ok (.istore_n 3, 1) := by decide +kernel
theorem dX11_askAndOffer_95 : decode cX11_askAndOffer 95 = .ok (.aload_n 0, 1) := by decide +kernel
theorem dX11_askAndOffer_96 : decode cX11_askAndOffer 96 = .ok (.getfield 47, 3) := by decide +kernel
theorem dX11_askAndOffer_99 : decode cX11_askAndOffer 99 = .ok (.iload_n 2, 1) := by decide +kernel
theorem dX11_askAndOffer_100 : decode cX11_askAndOffer 100 = .ok (.iload_n 3, 1) := by decide +kernel
theorem dX11_askAndOffer_101 : decode cX11_askAndOffer 101 = .ok (.ifCond .eq 7, 3) := by decide +kernel
theorem dX11_askAndOffer_104 : decode cX11_askAndOffer 104 = .ok (.lconst 0, 1) := by decide +kernel
theorem dX11_askAndOffer_105 : decode cX11_askAndOffer 105 = .ok (.goto 19, 3) := by decide +kernel
theorem dX11_askAndOffer_108 : decode cX11_askAndOffer 108 = .ok (.lconst 0, 1) := by decide +kernel
theorem dX11_askAndOffer_109 : decode cX11_askAndOffer 109 = .ok (.aload_n 0, 1) := by decide +kernel
theorem dX11_askAndOffer_110 : decode cX11_askAndOffer 110 = .ok (.getfield 9, 3) := by decide +kernel
theorem dX11_askAndOffer_113 : decode cX11_askAndOffer 113 = .ok (.iload_n 2, 1) := by decide +kernel
theorem dX11_askAndOffer_114 : decode cX11_askAndOffer 114 = .ok (.iconst 1, 1) := by decide +kernel
theorem dX11_askAndOffer_115 : decode cX11_askAndOffer 115 = .ok (.invokestatic 73, 3) := by decide +kernel
theorem dX11_askAndOffer_118 : decode cX11_askAndOffer 118 = .ok (.laload, 1) := by decide +kernel
theorem dX11_askAndOffer_119 : decode cX11_askAndOffer 119 = .ok (.lconst 1, 1) := by decide +kernel
theorem dX11_askAndOffer_120 : decode cX11_askAndOffer 120 = .ok (.lsub, 1) := by decide +kernel
theorem dX11_askAndOffer_121 : decode cX11_askAndOffer 121 = .ok (.invokestatic 129, 3) := by decide +kernel
theorem dX11_askAndOffer_124 : decode cX11_askAndOffer 124 = .ok (.lastore, 1) := by decide +kernel
theorem dX11_askAndOffer_125 : decode cX11_askAndOffer 125 = .ok (.iinc 2 1, 3) := by decide +kernel
theorem dX11_askAndOffer_128 : decode cX11_askAndOffer 128 = .ok (.goto (-121), 3) := by decide +kernel
theorem dX11_askAndOffer_131 : decode cX11_askAndOffer 131 = .ok (.return_, 1) := by decide +kernel
theorem dX11_priceMade_0 : decode cX11_priceMade 0 = .ok (.lconst 0, 1) := by decide +kernel
theorem dX11_priceMade_1 : decode cX11_priceMade 1 = .ok (.lstore_n 1, 1) := by decide +kernel
theorem dX11_priceMade_2 : decode cX11_priceMade 2 = .ok (.lconst 0, 1) := by decide +kernel
theorem dX11_priceMade_3 : decode cX11_priceMade 3 = .ok (.lstore_n 3, 1) := by decide +kernel
theorem dX11_priceMade_4 : decode cX11_priceMade 4 = .ok (.iconst 0, 1) := by decide +kernel
theorem dX11_priceMade_5 : decode cX11_priceMade 5 = .ok (.istore 5, 2) := by decide +kernel
theorem dX11_priceMade_7 : decode cX11_priceMade 7 = .ok (.iload 5, 2) := by decide +kernel
theorem dX11_priceMade_9 : decode cX11_priceMade 9 = .ok (.i2l, 1) := by decide +kernel
theorem dX11_priceMade_10 : decode cX11_priceMade 10 = .ok (.aload_n 0, 1) := by decide +kernel
theorem dX11_priceMade_11 : decode cX11_priceMade 11 = .ok (.getfield 9, 3) := by decide +kernel
theorem dX11_priceMade_14 : decode cX11_priceMade 14 = .ok (.iconst 4, 1) := by decide +kernel
theorem dX11_priceMade_15 : decode cX11_priceMade 15 = .ok (.laload, 1) := by decide +kernel
theorem dX11_priceMade_16 : decode cX11_priceMade 16 = .ok (.lcmp, 1) := by decide +kernel
theorem dX11_priceMade_17 : decode cX11_priceMade 17 = .ok (.ifCond .ge 29, 3) := by decide +kernel
theorem dX11_priceMade_20 : decode cX11_priceMade 20 = .ok (.lload_n 1, 1) := by decide +kernel
theorem dX11_priceMade_21 : decode cX11_priceMade 21 = .ok (.aload_n 0, 1) := by decide +kernel
theorem dX11_priceMade_22 : decode cX11_priceMade 22 = .ok (.getfield 44, 3) := by decide +kernel
theorem dX11_priceMade_25 : decode cX11_priceMade 25 = .ok (.iload 5, 2) := by decide +kernel
theorem dX11_priceMade_27 : decode cX11_priceMade 27 = .ok (.laload, 1) := by decide +kernel
theorem dX11_priceMade_28 : decode cX11_priceMade 28 = .ok (.ladd, 1) := by decide +kernel
theorem dX11_priceMade_29 : decode cX11_priceMade 29 = .ok (.lstore_n 1, 1) := by decide +kernel
theorem dX11_priceMade_30 : decode cX11_priceMade 30 = .ok (.lload_n 3, 1) := by decide +kernel
theorem dX11_priceMade_31 : decode cX11_priceMade 31 = .ok (.aload_n 0, 1) := by decide +kernel
theorem dX11_priceMade_32 : decode cX11_priceMade 32 = .ok (.getfield 47, 3) := by decide +kernel
theorem dX11_priceMade_35 : decode cX11_priceMade 35 = .ok (.iload 5, 2) := by decide +kernel
theorem dX11_priceMade_37 : decode cX11_priceMade 37 = .ok (.laload, 1) := by decide +kernel
theorem dX11_priceMade_38 : decode cX11_priceMade 38 = .ok (.ladd, 1) := by decide +kernel
theorem dX11_priceMade_39 : decode cX11_priceMade 39 = .ok (.lstore_n 3, 1) := by decide +kernel
theorem dX11_priceMade_40 : decode cX11_priceMade 40 = .ok (.iinc 5 1, 3) := by decide +kernel
theorem dX11_priceMade_43 : decode cX11_priceMade 43 = .ok (.goto (-36), 3) := by decide +kernel
theorem dX11_priceMade_46 : decode cX11_priceMade 46 = .ok (.lload_n 3, 1) := by decide +kernel
theorem dX11_priceMade_47 : decode cX11_priceMade 47 = .ok (.lconst 0, 1) := by decide +kernel
theorem dX11_priceMade_48 : decode cX11_priceMade 48 = .ok (.lcmp, 1) := by decide +kernel
theorem dX11_priceMade_49 : decode cX11_priceMade 49 = .ok (.ifCond .ne 14, 3) := by decide +kernel
theorem dX11_priceMade_52 : decode cX11_priceMade 52 = .ok (.aload_n 0, 1) := by decide +kernel
theorem dX11_priceMade_53 : decode cX11_priceMade 53 = .ok (.aload_n 0, 1) := by decide +kernel
theorem dX11_priceMade_54 : decode cX11_priceMade 54 = .ok (.invokevirtual 108, 3) := by decide +kernel
theorem dX11_priceMade_57 : decode cX11_priceMade 57 = .ok (.invokevirtual 112, 3) := by decide +kernel
theorem dX11_priceMade_60 : decode cX11_priceMade 60 = .ok (.goto 16, 3) := by decide +kernel
theorem dX11_priceMade_63 : decode cX11_priceMade 63 = .ok (.lconst 1, 1) := by decide +kernel
theorem dX11_priceMade_64 : decode cX11_priceMade 64 = .ok (.ldc2_w 61, 3) := by decide +kernel
theorem dX11_priceMade_67 : decode cX11_priceMade 67 = .ok (.lload_n 1, 1) := by decide +kernel
theorem dX11_priceMade_68 : decode cX11_priceMade 68 = .ok (.lload_n 3, 1) := by decide +kernel
theorem dX11_priceMade_69 : decode cX11_priceMade 69 = .ok (.ldiv, 1) := by decide +kernel
theorem dX11_priceMade_70 : decode cX11_priceMade 70 = .ok (.invokestatic 123, 3) := by decide +kernel
theorem dX11_priceMade_73 : decode cX11_priceMade 73 = .ok (.invokestatic 129, 3) := by decide +kernel
theorem dX11_priceMade_76 : decode cX11_priceMade 76 = .ok (.lreturn, 1) := by decide +kernel
theorem dX11_buys_0 : decode cX11_buys 0 = .ok (.aload_n 0, 1) := by decide +kernel
theorem dX11_buys_1 : decode cX11_buys 1 = .ok (.getfield 44, 3) := by decide +kernel
theorem dX11_buys_4 : decode cX11_buys 4 = .ok (.iload_n 1, 1) := by decide +kernel
theorem dX11_buys_5 : decode cX11_buys 5 = .ok (.laload, 1) := by decide +kernel
theorem dX11_buys_6 : decode cX11_buys 6 = .ok (.lload_n 2, 1) := by decide +kernel
theorem dX11_buys_7 : decode cX11_buys 7 = .ok (.ldiv, 1) := by decide +kernel
theorem dX11_buys_8 : decode cX11_buys 8 = .ok (.ldc2_w 63, 3) := by decide +kernel
theorem dX11_buys_11 : decode cX11_buys 11 = .ok (.aload_n 0, 1) := by decide +kernel
theorem dX11_buys_12 : decode cX11_buys 12 = .ok (.getfield 9, 3) := by decide +kernel
theorem dX11_buys_15 : decode cX11_buys 15 = .ok (.iload_n 1, 1) := by decide +kernel
theorem dX11_buys_16 : decode cX11_buys 16 = .ok (.iconst 1, 1) := by decide +kernel
theorem dX11_buys_17 : decode cX11_buys 17 = .ok (.invokestatic 73, 3) := by decide +kernel
theorem dX11_buys_20 : decode cX11_buys 20 = .ok (.laload, 1) := by decide +kernel
theorem dX11_buys_21 : decode cX11_buys 21 = .ok (.lsub, 1) := by decide +kernel
theorem dX11_buys_22 : decode cX11_buys 22 = .ok (.invokestatic 123, 3) := by decide +kernel
theorem dX11_buys_25 : decode cX11_buys 25 = .ok (.lstore 4, 2) := by decide +kernel
theorem dX11_buys_27 : decode cX11_buys 27 = .ok (.iconst 0, 1) := by decide +kernel
theorem dX11_buys_28 : decode cX11_buys 28 = .ok (.istore 6, 2) := by decide +kernel
theorem dX11_buys_30 : decode cX11_buys 30 = .ok (.iload 6, 2) := by decide +kernel
theorem dX11_buys_32 : decode cX11_buys 32 = .ok (.i2l, 1) := by decide +kernel
theorem dX11_buys_33 : decode cX11_buys 33 = .ok (.aload_n 0, 1) := by decide +kernel
theorem dX11_buys_34 : decode cX11_buys 34 = .ok (.getfield 9, 3) := by decide +kernel
theorem dX11_buys_37 : decode cX11_buys 37 = .ok (.iconst 4, 1) := by decide +kernel
theorem dX11_buys_38 : decode cX11_buys 38 = .ok (.laload, 1) := by decide +kernel
theorem dX11_buys_39 : decode cX11_buys 39 = .ok (.lcmp, 1) := by decide +kernel
theorem dX11_buys_40 : decode cX11_buys 40 = .ok (.ifCond .ge 147, 3) := by decide +kernel
theorem dX11_buys_43 : decode cX11_buys 43 = .ok (.iload 6, 2) := by decide +kernel
theorem dX11_buys_45 : decode cX11_buys 45 = .ok (.iload_n 1, 1) := by decide +kernel
theorem dX11_buys_46 : decode cX11_buys 46 = .ok (.if_icmp .ne 7, 3) := by decide +kernel
theorem dX11_buys_49 : decode cX11_buys 49 = .ok (.lconst 0, 1) := by decide +kernel
theorem dX11_buys_50 : decode cX11_buys 50 = .ok (.goto 15, 3) := by decide +kernel
theorem dX11_buys_53 : decode cX11_buys 53 = .ok (.lload 4, 2) := by decide +kernel
theorem dX11_buys_55 : decode cX11_buys 55 = .ok (.aload_n 0, 1) := by decide +kernel
theorem dX11_buys_56 : decode cX11_buys 56 = .ok (.getfield 47, 3) := by decide +kernel
theorem dX11_buys_59 : decode cX11_buys 59 = .ok (.iload 6, 2) := by decide +kernel
theorem dX11_buys_61 : decode cX11_buys 61 = .ok (.laload, 1) := by decide +kernel
theorem dX11_buys_62 : decode cX11_buys 62 = .ok (.invokestatic 123, 3) := by decide +kernel
theorem dX11_buys_65 : decode cX11_buys 65 = .ok (.lstore 7, 2) := by decide +kernel
theorem dX11_buys_67 : decode cX11_buys 67 = .ok (.lload 4, 2) := by decide +kernel
theorem dX11_buys_69 : decode cX11_buys 69 = .ok (.lload 7, 2) := by decide +kernel
theorem dX11_buys_71 : decode cX11_buys 71 = .ok (.lsub, 1) := by decide +kernel
theorem dX11_buys_72 : decode cX11_buys 72 = .ok (.lstore 4, 2) := by decide +kernel
theorem dX11_buys_74 : decode cX11_buys 74 = .ok (.aload_n 0, 1) := by decide +kernel
theorem dX11_buys_75 : decode cX11_buys 75 = .ok (.getfield 47, 3) := by decide +kernel
theorem dX11_buys_78 : decode cX11_buys 78 = .ok (.iload 6, 2) := by decide +kernel
theorem dX11_buys_80 : decode cX11_buys 80 = .ok (.dup2, 1) := by decide +kernel
theorem dX11_buys_81 : decode cX11_buys 81 = .ok (.laload, 1) := by decide +kernel
theorem dX11_buys_82 : decode cX11_buys 82 = .ok (.lload 7, 2) := by decide +kernel
theorem dX11_buys_84 : decode cX11_buys 84 = .ok (.lsub, 1) := by decide +kernel
theorem dX11_buys_85 : decode cX11_buys 85 = .ok (.lastore, 1) := by decide +kernel
theorem dX11_buys_86 : decode cX11_buys 86 = .ok (.aload_n 0, 1) := by decide +kernel
theorem dX11_buys_87 : decode cX11_buys 87 = .ok (.getfield 9, 3) := by decide +kernel
theorem dX11_buys_90 : decode cX11_buys 90 = .ok (.iload 6, 2) := by decide +kernel
theorem dX11_buys_92 : decode cX11_buys 92 = .ok (.iconst 1, 1) := by decide +kernel
theorem dX11_buys_93 : decode cX11_buys 93 = .ok (.invokestatic 73, 3) := by decide +kernel
theorem dX11_buys_96 : decode cX11_buys 96 = .ok (.dup2, 1) := by decide +kernel
theorem dX11_buys_97 : decode cX11_buys 97 = .ok (.laload, 1) := by decide +kernel
theorem dX11_buys_98 : decode cX11_buys 98 = .ok (.lload 7, 2) := by decide +kernel
theorem dX11_buys_100 : decode cX11_buys 100 = .ok (.lsub, 1) := by decide +kernel
theorem dX11_buys_101 : decode cX11_buys 101 = .ok (.lastore, 1) := by decide +kernel
theorem dX11_buys_102 : decode cX11_buys 102 = .ok (.aload_n 0, 1) := by decide +kernel
theorem dX11_buys_103 : decode cX11_buys 103 = .ok (.getfield 9, 3) := by decide +kernel
theorem dX11_buys_106 : decode cX11_buys 106 = .ok (.iload 6, 2) := by decide +kernel
theorem dX11_buys_108 : decode cX11_buys 108 = .ok (.bipush 6, 2) := by decide +kernel
theorem dX11_buys_110 : decode cX11_buys 110 = .ok (.invokestatic 73, 3) := by decide +kernel
theorem dX11_buys_113 : decode cX11_buys 113 = .ok (.dup2, 1) := by decide +kernel
theorem dX11_buys_114 : decode cX11_buys 114 = .ok (.laload, 1) := by decide +kernel
theorem dX11_buys_115 : decode cX11_buys 115 = .ok (.lload 7, 2) := by decide +kernel
theorem dX11_buys_117 : decode cX11_buys 117 = .ok (.ladd, 1) := by decide +kernel
theorem dX11_buys_118 : decode cX11_buys 118 = .ok (.lastore, 1) := by decide +kernel
theorem dX11_buys_119 : decode cX11_buys 119 = .ok (.aload_n 0, 1) := by decide +kernel
theorem dX11_buys_120 : decode cX11_buys 120 = .ok (.getfield 9, 3) := by decide +kernel
theorem dX11_buys_123 : decode cX11_buys 123 = .ok (.iload_n 1, 1) := by decide +kernel
theorem dX11_buys_124 : decode cX11_buys 124 = .ok (.iconst 1, 1) := by decide +kernel
theorem dX11_buys_125 : decode cX11_buys 125 = .ok (.invokestatic 73, 3) := by decide +kernel
theorem dX11_buys_128 : decode cX11_buys 128 = .ok (.dup2, 1) := by decide +kernel
theorem dX11_buys_129 : decode cX11_buys 129 = .ok (.laload, 1) := by decide +kernel
theorem dX11_buys_130 : decode cX11_buys 130 = .ok (.lload 7, 2) := by decide +kernel
theorem dX11_buys_132 : decode cX11_buys 132 = .ok (.ladd, 1) := by decide +kernel
theorem dX11_buys_133 : decode cX11_buys 133 = .ok (.lastore, 1) := by decide +kernel
theorem dX11_buys_134 : decode cX11_buys 134 = .ok (.aload_n 0, 1) := by decide +kernel
theorem dX11_buys_135 : decode cX11_buys 135 = .ok (.getfield 9, 3) := by decide +kernel
theorem dX11_buys_138 : decode cX11_buys 138 = .ok (.iload_n 1, 1) := by decide +kernel
theorem dX11_buys_139 : decode cX11_buys 139 = .ok (.bipush 7, 2) := by decide +kernel
theorem dX11_buys_141 : decode cX11_buys 141 = .ok (.invokestatic 73, 3) := by decide +kernel
theorem dX11_buys_144 : decode cX11_buys 144 = .ok (.dup2, 1) := by decide +kernel
theorem dX11_buys_145 : decode cX11_buys 145 = .ok (.laload, 1) := by decide +kernel
theorem dX11_buys_146 : decode cX11_buys 146 = .ok (.lload 7, 2) := by decide +kernel
theorem dX11_buys_148 : decode cX11_buys 148 = .ok (.ladd, 1) := by decide +kernel
theorem dX11_buys_149 : decode cX11_buys 149 = .ok (.lastore, 1) := by decide +kernel
theorem dX11_buys_150 : decode cX11_buys 150 = .ok (.aload_n 0, 1) := by decide +kernel
theorem dX11_buys_151 : decode cX11_buys 151 = .ok (.getfield 9, 3) := by decide +kernel
theorem dX11_buys_154 : decode cX11_buys 154 = .ok (.iload_n 1, 1) := by decide +kernel
theorem dX11_buys_155 : decode cX11_buys 155 = .ok (.iconst 0, 1) := by decide +kernel
theorem dX11_buys_156 : decode cX11_buys 156 = .ok (.invokestatic 73, 3) := by decide +kernel
theorem dX11_buys_159 : decode cX11_buys 159 = .ok (.dup2, 1) := by decide +kernel
theorem dX11_buys_160 : decode cX11_buys 160 = .ok (.laload, 1) := by decide +kernel
theorem dX11_buys_161 : decode cX11_buys 161 = .ok (.lload 7, 2) := by decide +kernel
theorem dX11_buys_163 : decode cX11_buys 163 = .ok (.lload_n 2, 1) := by decide +kernel
theorem dX11_buys_164 : decode cX11_buys 164 = .ok (.lmul, 1) := by decide +kernel
theorem dX11_buys_165 : decode cX11_buys 165 = .ok (.lsub, 1) := by decide +kernel
theorem dX11_buys_166 : decode cX11_buys 166 = .ok (.lastore, 1) := by decide +kernel
theorem dX11_buys_167 : decode cX11_buys 167 = .ok (.aload_n 0, 1) := by decide +kernel
theorem dX11_buys_168 : decode cX11_buys 168 = .ok (.iload 6, 2) := by decide +kernel
theorem dX11_buys_170 : decode cX11_buys 170 = .ok (.iconst 0, 1) := by decide +kernel
theorem dX11_buys_171 : decode cX11_buys 171 = .ok (.invokestatic 73, 3) := by decide +kernel
theorem dX11_buys_174 : decode cX11_buys 174 = .ok (.lload 7, 2) := by decide +kernel
theorem dX11_buys_176 : decode cX11_buys 176 = .ok (.lload_n 2, 1) := by decide +kernel
theorem dX11_buys_177 : decode cX11_buys 177 = .ok (.lmul, 1) := by decide +kernel
theorem dX11_buys_178 : decode cX11_buys 178 = .ok (.invokevirtual 140, 3) := by decide +kernel
theorem dX11_buys_181 : decode cX11_buys 181 = .ok (.iinc 6 1, 3) := by decide +kernel
theorem dX11_buys_184 : decode cX11_buys 184 = .ok (.goto (-154), 3) := by decide +kernel
theorem dX11_buys_187 : decode cX11_buys 187 = .ok (.return_, 1) := by decide +kernel
theorem dX11_eat_0 : decode cX11_eat 0 = .ok (.iconst 0, 1) := by decide +kernel
theorem dX11_eat_1 : decode cX11_eat 1 = .ok (.istore_n 1, 1) := by decide +kernel
theorem dX11_eat_2 : decode cX11_eat 2 = .ok (.iload_n 1, 1) := by decide +kernel
theorem dX11_eat_3 : decode cX11_eat 3 = .ok (.i2l, 1) := by decide +kernel
theorem dX11_eat_4 : decode cX11_eat 4 = .ok (.aload_n 0, 1) := by decide +kernel
theorem dX11_eat_5 : decode cX11_eat 5 = .ok (.getfield 9, 3) := by decide +kernel
theorem dX11_eat_8 : decode cX11_eat 8 = .ok (.iconst 4, 1) := by decide +kernel
theorem dX11_eat_9 : decode cX11_eat 9 = .ok (.laload, 1) := by decide +kernel
theorem dX11_eat_10 : decode cX11_eat 10 = .ok (.lcmp, 1) := by decide +kernel
theorem dX11_eat_11 : decode cX11_eat 11 = .ok (.ifCond .ge 59, 3) := by decide +kernel
theorem dX11_eat_14 : decode cX11_eat 14 = .ok (.iload_n 1, 1) := by decide +kernel
theorem dX11_eat_15 : decode cX11_eat 15 = .ok (.aload_n 0, 1) := by decide +kernel
theorem dX11_eat_16 : decode cX11_eat 16 = .ok (.getfield 9, 3) := by decide +kernel
theorem dX11_eat_19 : decode cX11_eat 19 = .ok (.iload_n 1, 1) := by decide +kernel
theorem dX11_eat_20 : decode cX11_eat 20 = .ok (.iconst 1, 1) := by decide +kernel
theorem dX11_eat_21 : decode cX11_eat 21 = .ok (.invokestatic 73, 3) := by decide +kernel
theorem dX11_eat_24 : decode cX11_eat 24 = .ok (.laload, 1) := by decide +kernel
theorem dX11_eat_25 : decode cX11_eat 25 = .ok (.lconst 0, 1) := by decide +kernel
theorem dX11_eat_26 : decode cX11_eat 26 = .ok (.lcmp, 1) := by decide +kernel
theorem dX11_eat_27 : decode cX11_eat 27 = .ok (.ifCond .le 7, 3) := by decide +kernel
theorem dX11_eat_30 : decode cX11_eat 30 = .ok (.iconst 1, 1) := by decide +kernel
theorem dX11_eat_31 : decode cX11_eat 31 = .ok (.goto 4, 3) := by decide +kernel
theorem dX11_eat_34 : decode cX11_eat 34 = .ok (.iconst 5, 1) := by decide +kernel
theorem dX11_eat_35 : decode cX11_eat 35 = .ok (.invokestatic 73, 3) := by decide +kernel
theorem dX11_eat_38 : decode cX11_eat 38 = .ok (.istore_n 2, 1) := by decide +kernel
theorem dX11_eat_39 : decode cX11_eat 39 = .ok (.aload_n 0, 1) := by decide +kernel
theorem dX11_eat_40 : decode cX11_eat 40 = .ok (.getfield 9, 3) := by decide +kernel
theorem dX11_eat_43 : decode cX11_eat 43 = .ok (.iload_n 2, 1) := by decide +kernel
theorem dX11_eat_44 : decode cX11_eat 44 = .ok (.dup2, 1) := by decide +kernel
theorem dX11_eat_45 : decode cX11_eat 45 = .ok (.laload, 1) := by decide +kernel
theorem dX11_eat_46 : decode cX11_eat 46 = .ok (.iload_n 2, 1) := by decide +kernel
theorem dX11_eat_47 : decode cX11_eat 47 = .ok (.iload_n 1, 1) := by decide +kernel
theorem dX11_eat_48 : decode cX11_eat 48 = .ok (.iconst 1, 1) := by decide +kernel
theorem dX11_eat_49 : decode cX11_eat 49 = .ok (.invokestatic 73, 3) := by decide +kernel
theorem dX11_eat_52 : decode cX11_eat 52 = .ok (.if_icmp .ne 9, 3) := by decide +kernel
theorem dX11_eat_55 : decode cX11_eat 55 = .ok (.ldc2_w 97, 3) := by decide +kernel
theorem dX11_eat_58 : decode cX11_eat 58 = .ok (.goto 4, 3) := by decide +kernel
theorem dX11_eat_61 : decode cX11_eat 61 = .ok (.lconst 1, 1) := by decide +kernel
theorem dX11_eat_62 : decode cX11_eat 62 = .ok (.ladd, 1) := by decide +kernel
theorem dX11_eat_63 : decode cX11_eat 63 = .ok (.lastore, 1) := by decide +kernel
theorem dX11_eat_64 : decode cX11_eat 64 = .ok (.iinc 1 1, 3) := by decide +kernel
theorem dX11_eat_67 : decode cX11_eat 67 = .ok (.goto (-65), 3) := by decide +kernel
theorem dX11_eat_70 : decode cX11_eat 70 = .ok (.return_, 1) := by decide +kernel
theorem dX11_payDebts_0 : decode cX11_payDebts 0 = .ok (.aload_n 0, 1) := by decide +kernel
theorem dX11_payDebts_1 : decode cX11_payDebts 1 = .ok (.invokevirtual 108, 3) := by decide +kernel
theorem dX11_payDebts_4 : decode cX11_payDebts 4 = .ok (.istore_n 1, 1) := by decide +kernel
theorem dX11_payDebts_5 : decode cX11_payDebts 5 = .ok (.iconst 0, 1) := by decide +kernel
theorem dX11_payDebts_6 : decode cX11_payDebts 6 = .ok (.istore_n 2, 1) := by decide +kernel
theorem dX11_payDebts_7 : decode cX11_payDebts 7 = .ok (.iload_n 2, 1) := by decide +kernel
theorem dX11_payDebts_8 : decode cX11_payDebts 8 = .ok (.i2l, 1) := by decide +kernel
theorem dX11_payDebts_9 : decode cX11_payDebts 9 = .ok (.aload_n 0, 1) := by decide +kernel
theorem dX11_payDebts_10 : decode cX11_payDebts 10 = .ok (.getfield 9, 3) := by decide +kernel
theorem dX11_payDebts_13 : decode cX11_payDebts 13 = .ok (.iconst 5, 1) := by decide +kernel
theorem dX11_payDebts_14 : decode cX11_payDebts 14 = .ok (.laload, 1) := by decide +kernel
theorem dX11_payDebts_15 : decode cX11_payDebts 15 = .ok (.lcmp, 1) := by decide +kernel
theorem dX11_payDebts_16 : decode cX11_payDebts 16 = .ok (.ifCond .ge 198, 3) := by decide +kernel
theorem dX11_payDebts_19 : decode cX11_payDebts 19 = .ok (.aload_n 0, 1) := by decide +kernel
theorem dX11_payDebts_20 : decode cX11_payDebts 20 = .ok (.getfield 9, 3) := by decide +kernel
theorem dX11_payDebts_23 : decode cX11_payDebts 23 = .ok (.iload_n 2, 1) := by decide +kernel
theorem dX11_payDebts_24 : decode cX11_payDebts 24 = .ok (.iconst 0, 1) := by decide +kernel
theorem dX11_payDebts_25 : decode cX11_payDebts 25 = .ok (.invokestatic 94, 3) := by decide +kernel
theorem dX11_payDebts_28 : decode cX11_payDebts 28 = .ok (.laload, 1) := by decide +kernel
theorem dX11_payDebts_29 : decode cX11_payDebts 29 = .ok (.lstore_n 3, 1) := by decide +kernel
theorem dX11_payDebts_30 : decode cX11_payDebts 30 = .ok (.aload_n 0, 1) := by decide +kernel
theorem dX11_payDebts_31 : decode cX11_payDebts 31 = .ok (.getfield 9, 3) := by decide +kernel
theorem dX11_payDebts_34 : decode cX11_payDebts 34 = .ok (.iload_n 2, 1) := by decide +kernel
theorem dX11_payDebts_35 : decode cX11_payDebts 35 = .ok (.iconst 5, 1) := by decide +kernel
theorem dX11_payDebts_36 : decode cX11_payDebts 36 = .ok (.invokestatic 94, 3) := by decide +kernel
theorem dX11_payDebts_39 : decode cX11_payDebts 39 = .ok (.laload, 1) := by decide +kernel
theorem dX11_payDebts_40 : decode cX11_payDebts 40 = .ok (.lstore 5, 2) := by decide +kernel
theorem dX11_payDebts_42 : decode cX11_payDebts 42 = .ok (.lload_n 3, 1) := by decide +kernel
theorem dX11_payDebts_43 : decode cX11_payDebts 43 = .ok (.lconst 1, 1) := by decide +kernel
theorem dX11_payDebts_44 : decode cX11_payDebts 44 = .ok (.lcmp, 1) := by decide +kernel
theorem dX11_payDebts_45 : decode cX11_payDebts 45 = .ok (.ifCond .eq 11, 3) := by decide +kernel
theorem dX11_payDebts_48 : decode cX11_payDebts 48 = .ok (.lload_n 3, 1) := by decide +kernel
theorem dX11_payDebts_49 : decode cX11_payDebts 49 = .ok (.ldc2_w 85, 3) := by decide +kernel
theorem dX11_payDebts_52 : decode cX11_payDebts 52 = .ok (.lcmp, 1) := by decide +kernel
theorem dX11_payDebts_53 : decode cX11_payDebts 53 = .ok (.ifCond .ne 11, 3) := by decide +kernel
theorem dX11_payDebts_56 : decode cX11_payDebts 56 = .ok (.lload 5, 2) := by decide +kernel
theorem dX11_payDebts_58 : decode cX11_payDebts 58 = .ok (.iload_n 1, 1) := by decide +kernel
theorem dX11_payDebts_59 : decode cX11_payDebts 59 = .ok (.i2l, 1) := by decide +kernel
theorem dX11_payDebts_60 : decode cX11_payDebts 60 = .ok (.lcmp, 1) := by decide +kernel
theorem dX11_payDebts_61 : decode cX11_payDebts 61 = .ok (.ifCond .le 18, 3) := by decide +kernel
theorem dX11_payDebts_64 : decode cX11_payDebts 64 = .ok (.lload_n 3, 1) := by decide +kernel
theorem dX11_payDebts_65 : decode cX11_payDebts 65 = .ok (.ldc2_w 144, 3) := by decide +kernel
theorem dX11_payDebts_68 : decode cX11_payDebts 68 = .ok (.lcmp, 1) := by decide +kernel
theorem dX11_payDebts_69 : decode cX11_payDebts 69 = .ok (.ifCond .ne 14, 3) := by decide +kernel
theorem dX11_payDebts_72 : decode cX11_payDebts 72 = .ok (.iload_n 1, 1) := by decide +kernel
theorem dX11_payDebts_73 : decode cX11_payDebts 73 = .ok (.bipush 10, 2) := by decide +kernel
theorem dX11_payDebts_75 : decode cX11_payDebts 75 = .ok (.irem, 1) := by decide +kernel
theorem dX11_payDebts_76 : decode cX11_payDebts 76 = .ok (.ifCond .ne 7, 3) := by decide +kernel
theorem dX11_payDebts_79 : decode cX11_payDebts 79 = .ok (.iconst 1, 1) := by decide +kernel
theorem dX11_payDebts_80 : decode cX11_payDebts 80 = .ok (.goto 4, 3) := by decide +kernel
theorem dX11_payDebts_83 : decode cX11_payDebts 83 = .ok (.iconst 0, 1) := by decide +kernel
theorem dX11_payDebts_84 : decode cX11_payDebts 84 = .ok (.istore 7, 2) := by decide +kernel
theorem dX11_payDebts_86 : decode cX11_payDebts 86 = .ok (.aload_n 0, 1) := by decide +kernel
theorem dX11_payDebts_87 : decode cX11_payDebts 87 = .ok (.iload_n 2, 1) := by decide +kernel
theorem dX11_payDebts_88 : decode cX11_payDebts 88 = .ok (.invokevirtual 132, 3) := by decide +kernel
theorem dX11_payDebts_91 : decode cX11_payDebts 91 = .ok (.ifCond .eq 73, 3) := by decide +kernel
theorem dX11_payDebts_94 : decode cX11_payDebts 94 = .ok (.iload 7, 2) := by decide +kernel
theorem dX11_payDebts_96 : decode cX11_payDebts 96 = .ok (.ifCond .eq 68, 3) := by decide +kernel
theorem dX11_payDebts_99 : decode cX11_payDebts 99 = .ok (.aload_n 0, 1) := by decide +kernel
theorem dX11_payDebts_100 : decode cX11_payDebts 100 = .ok (.iload_n 2, 1) := by decide +kernel
theorem dX11_payDebts_101 : decode cX11_payDebts 101 = .ok (.iconst 0, 1) := by decide +kernel
theorem dX11_payDebts_102 : decode cX11_payDebts 102 = .ok (.invokevirtual 135, 3) := by decide +kernel
theorem dX11_payDebts_105 : decode cX11_payDebts 105 = .ok (.lstore 8, 2) := by decide +kernel
theorem dX11_payDebts_107 : decode cX11_payDebts 107 = .ok (.lload 8, 2) := by decide +kernel
theorem dX11_payDebts_109 : decode cX11_payDebts 109 = .ok (.aload_n 0, 1) := by decide +kernel
theorem dX11_payDebts_110 : decode cX11_payDebts 110 = .ok (.getfield 9, 3) := by decide +kernel
theorem dX11_payDebts_113 : decode cX11_payDebts 113 = .ok (.aload_n 0, 1) := by decide +kernel
theorem dX11_payDebts_114 : decode cX11_payDebts 114 = .ok (.getfield 9, 3) := by decide +kernel
theorem dX11_payDebts_117 : decode cX11_payDebts 117 = .ok (.iload_n 2, 1) := by decide +kernel
theorem dX11_payDebts_118 : decode cX11_payDebts 118 = .ok (.iconst 1, 1) := by decide +kernel
theorem dX11_payDebts_119 : decode cX11_payDebts 119 = .ok (.invokestatic 94, 3) := by decide +kernel
theorem dX11_payDebts_122 : decode cX11_payDebts 122 = .ok (.laload, 1) := by decide +kernel
theorem dX11_payDebts_123 : decode cX11_payDebts 123 = .ok (.l2i, 1) := by decide +kernel
theorem dX11_payDebts_124 : decode cX11_payDebts 124 = .ok (.iconst 0, 1) := by decide +kernel
theorem dX11_payDebts_125 : decode cX11_payDebts 125 = .ok (.invokestatic 73, 3) := by decide +kernel
theorem dX11_payDebts_128 : decode cX11_payDebts 128 = .ok (.laload, 1) := by decide +kernel
theorem dX11_payDebts_129 : decode cX11_payDebts 129 = .ok (.invokestatic 123, 3) := by decide +kernel
theorem dX11_payDebts_132 : decode cX11_payDebts 132 = .ok (.lstore 10, 2) := by decide +kernel
theorem dX11_payDebts_134 : decode cX11_payDebts 134 = .ok (.aload_n 0, 1) := by decide +kernel
theorem dX11_payDebts_135 : decode cX11_payDebts 135 = .ok (.iload_n 2, 1) := by decide +kernel
theorem dX11_payDebts_136 : decode cX11_payDebts 136 = .ok (.lload 10, 2) := by decide +kernel
theorem dX11_payDebts_138 : decode cX11_payDebts 138 = .ok (.invokevirtual 147, 3) := by decide +kernel
theorem dX11_payDebts_141 : decode cX11_payDebts 141 = .ok (.lload_n 3, 1) := by decide +kernel
theorem dX11_payDebts_142 : decode cX11_payDebts 142 = .ok (.ldc2_w 144, 3) := by decide +kernel
theorem dX11_payDebts_145 : decode cX11_payDebts 145 = .ok (.lcmp, 1) := by decide +kernel
theorem dX11_payDebts_146 : decode cX11_payDebts 146 = .ok (.ifCond .eq 18, 3) := by decide +kernel
theorem dX11_payDebts_149 : decode cX11_payDebts 149 = .ok (.lload 10, 2) := by decide +kernel
theorem dX11_payDebts_151 : decode cX11_payDebts 151 = .ok (.lload 8, 2) := by decide +kernel
theorem dX11_payDebts_153 : decode cX11_payDebts 153 = .ok (.lcmp, 1) := by decide +kernel
theorem dX11_payDebts_154 : decode cX11_payDebts 154 = .ok (.ifCond .ne 10, 3) := by decide +kernel
theorem dX11_payDebts_157 : decode cX11_payDebts 157 = .ok (.aload_n 0, 1) := by decide +kernel
theorem dX11_payDebts_158 : decode cX11_payDebts 158 = .ok (.iload_n 2, 1) := by decide +kernel
theorem dX11_payDebts_159 : decode cX11_payDebts 159 = .ok (.lload 10, 2) := by decide +kernel
theorem dX11_payDebts_161 : decode cX11_payDebts 161 = .ok (.invokevirtual 150, 3) := by decide +kernel
theorem dX11_payDebts_164 : decode cX11_payDebts 164 = .ok (.aload_n 0, 1) := by decide +kernel
theorem dX11_payDebts_165 : decode cX11_payDebts 165 = .ok (.iload_n 2, 1) := by decide +kernel
theorem dX11_payDebts_166 : decode cX11_payDebts 166 = .ok (.invokevirtual 132, 3) := by decide +kernel
theorem dX11_payDebts_169 : decode cX11_payDebts 169 = .ok (.ifCond .eq 39, 3) := by decide +kernel
theorem dX11_payDebts_172 : decode cX11_payDebts 172 = .ok (.lload_n 3, 1) := by decide +kernel
theorem dX11_payDebts_173 : decode cX11_payDebts 173 = .ok (.ldc2_w 144, 3) := by decide +kernel
theorem dX11_payDebts_176 : decode cX11_payDebts 176 = .ok (.lcmp, 1) := by decide +kernel
theorem dX11_payDebts_177 : decode cX11_payDebts 177 = .ok (.ifCond .eq 11, 3) := by decide +kernel
theorem dX11_payDebts_180 : decode cX11_payDebts 180 = .ok (.lload_n 3, 1) := by decide +kernel
theorem dX11_payDebts_181 : decode cX11_payDebts 181 = .ok (.ldc2_w 103, 3) := by decide +kernel
theorem dX11_payDebts_184 : decode cX11_payDebts 184 = .ok (.lcmp, 1) := by decide +kernel
theorem dX11_payDebts_185 : decode cX11_payDebts 185 = .ok (.ifCond .ne 23, 3) := by decide +kernel
theorem dX11_payDebts_188 : decode cX11_payDebts 188 = .ok (.lload 5, 2) := by decide +kernel
theorem dX11_payDebts_190 : decode cX11_payDebts 190 = .ok (.iload_n 1, 1) := by decide +kernel
theorem dX11_payDebts_191 : decode cX11_payDebts 191 = .ok (.i2l, 1) := by decide +kernel
theorem dX11_payDebts_192 : decode cX11_payDebts 192 = .ok (.lcmp, 1) := by decide +kernel
theorem dX11_payDebts_193 : decode cX11_payDebts 193 = .ok (.ifCond .ne 15, 3) := by decide +kernel
theorem dX11_payDebts_196 : decode cX11_payDebts 196 = .ok (.aload_n 0, 1) := by decide +kernel
theorem dX11_payDebts_197 : decode cX11_payDebts 197 = .ok (.getfield 9, 3) := by decide +kernel
theorem dX11_payDebts_200 : decode cX11_payDebts 200 = .ok (.iload_n 2, 1) := by decide +kernel
theorem dX11_payDebts_201 : decode cX11_payDebts 201 = .ok (.bipush 6, 2) := by decide +kernel
theorem dX11_payDebts_203 : decode cX11_payDebts 203 = .ok (.invokestatic 94, 3) := by decide +kernel
theorem dX11_payDebts_206 : decode cX11_payDebts 206 = .ok (.lconst 1, 1) := by decide +kernel
theorem dX11_payDebts_207 : decode cX11_payDebts 207 = .ok (.lastore, 1) := by decide +kernel
theorem dX11_payDebts_208 : decode cX11_payDebts 208 = .ok (.iinc 2 1, 3) := by decide +kernel
theorem dX11_payDebts_211 : decode cX11_payDebts 211 = .ok (.goto (-204), 3) := by decide +kernel
theorem dX11_payDebts_214 : decode cX11_payDebts 214 = .ok (.return_, 1) := by decide +kernel
theorem dX11_goesBy_0 : decode cX11_goesBy 0 = .ok (.iconst 0, 1) := by decide +kernel
theorem dX11_goesBy_1 : decode cX11_goesBy 1 = .ok (.istore_n 1, 1) := by decide +kernel
theorem dX11_goesBy_2 : decode cX11_goesBy 2 = .ok (.iload_n 1, 1) := by decide +kernel
theorem dX11_goesBy_3 : decode cX11_goesBy 3 = .ok (.i2l, 1) := by decide +kernel
theorem dX11_goesBy_4 : decode cX11_goesBy 4 = .ok (.aload_n 0, 1) := by decide +kernel
theorem dX11_goesBy_5 : decode cX11_goesBy 5 = .ok (.getfield 9, 3) := by decide +kernel
theorem dX11_goesBy_8 : decode cX11_goesBy 8 = .ok (.iconst 4, 1) := by decide +kernel
theorem dX11_goesBy_9 : decode cX11_goesBy 9 = .ok (.laload, 1) := by decide +kernel
theorem dX11_goesBy_10 : decode cX11_goesBy 10 = .ok (.lcmp, 1) := by decide +kernel
theorem dX11_goesBy_11 : decode cX11_goesBy 11 = .ok (.ifCond .ge 46, 3) := by decide +kernel
theorem dX11_goesBy_14 : decode cX11_goesBy 14 = .ok (.aload_n 0, 1) := by decide +kernel
theorem dX11_goesBy_15 : decode cX11_goesBy 15 = .ok (.getfield 9, 3) := by decide +kernel
theorem dX11_goesBy_18 : decode cX11_goesBy 18 = .ok (.iload_n 1, 1) := by decide +kernel
theorem dX11_goesBy_19 : decode cX11_goesBy 19 = .ok (.iconst 1, 1) := by decide +kernel
theorem dX11_goesBy_20 : decode cX11_goesBy 20 = .ok (.invokestatic 73, 3) := by decide +kernel
theorem dX11_goesBy_23 : decode cX11_goesBy 23 = .ok (.ldc2_w 63, 3) := by decide +kernel
theorem dX11_goesBy_26 : decode cX11_goesBy 26 = .ok (.aload_n 0, 1) := by decide +kernel
theorem dX11_goesBy_27 : decode cX11_goesBy 27 = .ok (.getfield 9, 3) := by decide +kernel
theorem dX11_goesBy_30 : decode cX11_goesBy 30 = .ok (.iload_n 1, 1) := by decide +kernel
theorem dX11_goesBy_31 : decode cX11_goesBy 31 = .ok (.iconst 1, 1) := by decide +kernel
theorem dX11_goesBy_32 : decode cX11_goesBy 32 = .ok (.invokestatic 73, 3) := by decide +kernel
theorem dX11_goesBy_35 : decode cX11_goesBy 35 = .ok (.laload, 1) := by decide +kernel
theorem dX11_goesBy_36 : decode cX11_goesBy 36 = .ok (.aload_n 0, 1) := by decide +kernel
theorem dX11_goesBy_37 : decode cX11_goesBy 37 = .ok (.getfield 9, 3) := by decide +kernel
theorem dX11_goesBy_40 : decode cX11_goesBy 40 = .ok (.iload_n 1, 1) := by decide +kernel
theorem dX11_goesBy_41 : decode cX11_goesBy 41 = .ok (.iconst 2, 1) := by decide +kernel
theorem dX11_goesBy_42 : decode cX11_goesBy 42 = .ok (.invokestatic 73, 3) := by decide +kernel
theorem dX11_goesBy_45 : decode cX11_goesBy 45 = .ok (.laload, 1) := by decide +kernel
theorem dX11_goesBy_46 : decode cX11_goesBy 46 = .ok (.ladd, 1) := by decide +kernel
theorem dX11_goesBy_47 : decode cX11_goesBy 47 = .ok (.invokestatic 123, 3) := by decide +kernel
theorem dX11_goesBy_50 : decode cX11_goesBy 50 = .ok (.lastore, 1) := by decide +kernel
theorem dX11_goesBy_51 : decode cX11_goesBy 51 = .ok (.iinc 1 1, 3) := by decide +kernel
theorem dX11_goesBy_54 : decode cX11_goesBy 54 = .ok (.goto (-52), 3) := by decide +kernel
theorem dX11_goesBy_57 : decode cX11_goesBy 57 = .ok (.aload_n 0, 1) := by decide +kernel
theorem dX11_goesBy_58 : decode cX11_goesBy 58 = .ok (.invokevirtual 264, 3) := by decide +kernel
theorem dX11_goesBy_61 : decode cX11_goesBy 61 = .ok (.aload_n 0, 1) := by decide +kernel
theorem dX11_goesBy_62 : decode cX11_goesBy 62 = .ok (.invokevirtual 267, 3) := by decide +kernel
theorem dX11_goesBy_65 : decode cX11_goesBy 65 = .ok (.aload_n 0, 1) := by decide +kernel
theorem dX11_goesBy_66 : decode cX11_goesBy 66 = .ok (.invokevirtual 270, 3) := by decide +kernel
theorem dX11_goesBy_69 : decode cX11_goesBy 69 = .ok (.lstore_n 1, 1) := by decide +kernel
theorem dX11_goesBy_70 : decode cX11_goesBy 70 = .ok (.iconst 0, 1) := by decide +kernel
theorem dX11_goesBy_71 : decode cX11_goesBy 71 = .ok (.istore_n 3, 1) := by decide +kernel
theorem dX11_goesBy_72 : decode cX11_goesBy 72 = .ok (.iload_n 3, 1) := by decide +kernel
theorem dX11_goesBy_73 : decode cX11_goesBy 73 = .ok (.i2l, 1) := by decide +kernel
theorem dX11_goesBy_74 : decode cX11_goesBy 74 = .ok (.aload_n 0, 1) := by decide +kernel
theorem dX11_goesBy_75 : decode cX11_goesBy 75 = .ok (.getfield 9, 3) := by decide +kernel
theorem dX11_goesBy_78 : decode cX11_goesBy 78 = .ok (.iconst 4, 1) := by decide +kernel
theorem dX11_goesBy_79 : decode cX11_goesBy 79 = .ok (.laload, 1) := by decide +kernel
theorem dX11_goesBy_80 : decode cX11_goesBy 80 = .ok (.lcmp, 1) := by decide +kernel
theorem dX11_goesBy_81 : decode cX11_goesBy 81 = .ok (.ifCond .ge 15, 3) := by decide +kernel
theorem dX11_goesBy_84 : decode cX11_goesBy 84 = .ok (.aload_n 0, 1) := by decide +kernel
theorem dX11_goesBy_85 : decode cX11_goesBy 85 = .ok (.iload_n 3, 1) := by decide +kernel
theorem dX11_goesBy_86 : decode cX11_goesBy 86 = .ok (.lload_n 1, 1) := by decide +kernel
theorem dX11_goesBy_87 : decode cX11_goesBy 87 = .ok (.invokevirtual 274, 3) := by decide +kernel
theorem dX11_goesBy_90 : decode cX11_goesBy 90 = .ok (.iinc 3 1, 3) := by decide +kernel
theorem dX11_goesBy_93 : decode cX11_goesBy 93 = .ok (.goto (-21), 3) := by decide +kernel
theorem dX11_goesBy_96 : decode cX11_goesBy 96 = .ok (.aload_n 0, 1) := by decide +kernel
theorem dX11_goesBy_97 : decode cX11_goesBy 97 = .ok (.invokevirtual 277, 3) := by decide +kernel
theorem dX11_goesBy_100 : decode cX11_goesBy 100 = .ok (.aload_n 0, 1) := by decide +kernel
theorem dX11_goesBy_101 : decode cX11_goesBy 101 = .ok (.invokevirtual 280, 3) := by decide +kernel
theorem dX11_goesBy_104 : decode cX11_goesBy 104 = .ok (.aload_n 0, 1) := by decide +kernel
theorem dX11_goesBy_105 : decode cX11_goesBy 105 = .ok (.getfield 9, 3) := by decide +kernel
theorem dX11_goesBy_108 : decode cX11_goesBy 108 = .ok (.sipush 310, 3) := by decide +kernel
theorem dX11_goesBy_111 : decode cX11_goesBy 111 = .ok (.aload_n 0, 1) := by decide +kernel
theorem dX11_goesBy_112 : decode cX11_goesBy 112 = .ok (.invokevirtual 108, 3) := by decide +kernel
theorem dX11_goesBy_115 : decode cX11_goesBy 115 = .ok (.iadd, 1) := by decide +kernel
theorem dX11_goesBy_116 : decode cX11_goesBy 116 = .ok (.iconst 1, 1) := by decide +kernel
theorem dX11_goesBy_117 : decode cX11_goesBy 117 = .ok (.iadd, 1) := by decide +kernel
theorem dX11_goesBy_118 : decode cX11_goesBy 118 = .ok (.lload_n 1, 1) := by decide +kernel
theorem dX11_goesBy_119 : decode cX11_goesBy 119 = .ok (.lastore, 1) := by decide +kernel
theorem dX11_goesBy_120 : decode cX11_goesBy 120 = .ok (.aload_n 0, 1) := by decide +kernel
theorem dX11_goesBy_121 : decode cX11_goesBy 121 = .ok (.getfield 9, 3) := by decide +kernel
theorem dX11_goesBy_124 : decode cX11_goesBy 124 = .ok (.iconst 0, 1) := by decide +kernel
theorem dX11_goesBy_125 : decode cX11_goesBy 125 = .ok (.dup2, 1) := by decide +kernel
theorem dX11_goesBy_126 : decode cX11_goesBy 126 = .ok (.laload, 1) := by decide +kernel
theorem dX11_goesBy_127 : decode cX11_goesBy 127 = .ok (.lconst 1, 1) := by decide +kernel
theorem dX11_goesBy_128 : decode cX11_goesBy 128 = .ok (.ladd, 1) := by decide +kernel
theorem dX11_goesBy_129 : decode cX11_goesBy 129 = .ok (.lastore, 1) := by decide +kernel
theorem dX11_goesBy_130 : decode cX11_goesBy 130 = .ok (.return_, 1) := by decide +kernel
theorem dX11_days_0 : decode cX11_days 0 = .ok (.iload_n 1, 1) := by decide +kernel
theorem dX11_days_1 : decode cX11_days 1 = .ok (.i2l, 1) := by decide +kernel
theorem dX11_days_2 : decode cX11_days 2 = .ok (.lconst 1, 1) := by decide +kernel
theorem dX11_days_3 : decode cX11_days 3 = .ok (.ldc2_w 283, 3) := by decide +kernel
theorem dX11_days_6 : decode cX11_days 6 = .ok (.invokestatic 57, 3) := by decide +kernel
theorem dX11_days_9 : decode cX11_days 9 = .ok (.ifCond .ne 11, 3) := by decide +kernel
theorem dX11_days_12 : decode cX11_days 12 = .ok (.aload_n 0, 1) := by decide +kernel
theorem dX11_days_13 : decode cX11_days 13 = .ok (.ldc 67, 2) := by decide +kernel
theorem dX11_days_15 : decode cX11_days 15 = .ok (.invokevirtual 68, 3) := by decide +kernel
theorem dX11_days_18 : decode cX11_days 18 = .ok (.i2l, 1) := by decide +kernel
theorem dX11_days_19 : decode cX11_days 19 = .ok (.lreturn, 1) := by decide +kernel
theorem dX11_days_20 : decode cX11_days 20 = .ok (.aload_n 0, 1) := by decide +kernel
theorem dX11_days_21 : decode cX11_days 21 = .ok (.getfield 9, 3) := by decide +kernel
theorem dX11_days_24 : decode cX11_days 24 = .ok (.iconst 0, 1) := by decide +kernel
theorem dX11_days_25 : decode cX11_days 25 = .ok (.laload, 1) := by decide +kernel
theorem dX11_days_26 : decode cX11_days 26 = .ok (.iload_n 1, 1) := by decide +kernel
theorem dX11_days_27 : decode cX11_days 27 = .ok (.i2l, 1) := by decide +kernel
theorem dX11_days_28 : decode cX11_days 28 = .ok (.ladd, 1) := by decide +kernel
theorem dX11_days_29 : decode cX11_days 29 = .ok (.ldc2_w 91, 3) := by decide +kernel
theorem dX11_days_32 : decode cX11_days 32 = .ok (.lcmp, 1) := by decide +kernel
theorem dX11_days_33 : decode cX11_days 33 = .ok (.ifCond .le 11, 3) := by decide +kernel
theorem dX11_days_36 : decode cX11_days 36 = .ok (.aload_n 0, 1) := by decide +kernel
theorem dX11_days_37 : decode cX11_days 37 = .ok (.ldc 72, 2) := by decide +kernel
theorem dX11_days_39 : decode cX11_days 39 = .ok (.invokevirtual 68, 3) := by decide +kernel
theorem dX11_days_42 : decode cX11_days 42 = .ok (.i2l, 1) := by decide +kernel
theorem dX11_days_43 : decode cX11_days 43 = .ok (.lreturn, 1) := by decide +kernel
theorem dX11_days_44 : decode cX11_days 44 = .ok (.iconst 0, 1) := by decide +kernel
theorem dX11_days_45 : decode cX11_days 45 = .ok (.istore_n 2, 1) := by decide +kernel
theorem dX11_days_46 : decode cX11_days 46 = .ok (.iload_n 2, 1) := by decide +kernel
theorem dX11_days_47 : decode cX11_days 47 = .ok (.iload_n 1, 1) := by decide +kernel
theorem dX11_days_48 : decode cX11_days 48 = .ok (.if_icmp .ge 13, 3) := by decide +kernel
theorem dX11_days_51 : decode cX11_days 51 = .ok (.aload_n 0, 1) := by decide +kernel
theorem dX11_days_52 : decode cX11_days 52 = .ok (.invokevirtual 285, 3) := by decide +kernel
theorem dX11_days_55 : decode cX11_days 55 = .ok (.iinc 2 1, 3) := by decide +kernel
theorem dX11_days_58 : decode cX11_days 58 = .ok (.goto (-12), 3) := by decide +kernel
theorem dX11_days_61 : decode cX11_days 61 = .ok (.aload_n 0, 1) := by decide +kernel
theorem dX11_days_62 : decode cX11_days 62 = .ok (.aload_n 0, 1) := by decide +kernel
theorem dX11_days_63 : decode cX11_days 63 = .ok (.invokevirtual 108, 3) := by decide +kernel
theorem dX11_days_66 : decode cX11_days 66 = .ok (.invokevirtual 112, 3) := by decide +kernel
theorem dX11_days_69 : decode cX11_days 69 = .ok (.lreturn, 1) := by decide +kernel
theorem dX11_isDay_0 : decode cX11_isDay 0 = .ok (.iload_n 1, 1) := by decide +kernel
theorem dX11_isDay_1 : decode cX11_isDay 1 = .ok (.i2l, 1) := by decide +kernel
theorem dX11_isDay_2 : decode cX11_isDay 2 = .ok (.lconst 0, 1) := by decide +kernel
theorem dX11_isDay_3 : decode cX11_isDay 3 = .ok (.aload_n 0, 1) := by decide +kernel
theorem dX11_isDay_4 : decode cX11_isDay 4 = .ok (.getfield 9, 3) := by decide +kernel
theorem dX11_isDay_7 : decode cX11_isDay 7 = .ok (.iconst 0, 1) := by decide +kernel
theorem dX11_isDay_8 : decode cX11_isDay 8 = .ok (.laload, 1) := by decide +kernel
theorem dX11_isDay_9 : decode cX11_isDay 9 = .ok (.invokestatic 57, 3) := by decide +kernel
theorem dX11_isDay_12 : decode cX11_isDay 12 = .ok (.ireturn, 1) := by decide +kernel
theorem dX11_price_0 : decode cX11_price 0 = .ok (.aload_n 0, 1) := by decide +kernel
theorem dX11_price_1 : decode cX11_price 1 = .ok (.iload_n 1, 1) := by decide +kernel
theorem dX11_price_2 : decode cX11_price 2 = .ok (.invokevirtual 288, 3) := by decide +kernel
theorem dX11_price_5 : decode cX11_price 5 = .ok (.ifCond .eq 11, 3) := by decide +kernel
theorem dX11_price_8 : decode cX11_price 8 = .ok (.aload_n 0, 1) := by decide +kernel
theorem dX11_price_9 : decode cX11_price 9 = .ok (.iload_n 1, 1) := by decide +kernel
theorem dX11_price_10 : decode cX11_price 10 = .ok (.invokevirtual 112, 3) := by decide +kernel
theorem dX11_price_13 : decode cX11_price 13 = .ok (.goto 10, 3) := by decide +kernel
theorem dX11_price_16 : decode cX11_price 16 = .ok (.aload_n 0, 1) := by decide +kernel
theorem dX11_price_17 : decode cX11_price 17 = .ok (.ldc 67, 2) := by decide +kernel
theorem dX11_price_19 : decode cX11_price 19 = .ok (.invokevirtual 68, 3) := by decide +kernel
theorem dX11_price_22 : decode cX11_price 22 = .ok (.i2l, 1) := by decide +kernel
theorem dX11_price_23 : decode cX11_price 23 = .ok (.lreturn, 1) := by decide +kernel
theorem dX11_index_0 : decode cX11_index 0 = .ok (.aload_n 0, 1) := by decide +kernel
theorem dX11_index_1 : decode cX11_index 1 = .ok (.iload_n 1, 1) := by decide +kernel
theorem dX11_index_2 : decode cX11_index 2 = .ok (.invokevirtual 288, 3) := by decide +kernel
theorem dX11_index_5 : decode cX11_index 5 = .ok (.ifCond .eq 35, 3) := by decide +kernel
theorem dX11_index_8 : decode cX11_index 8 = .ok (.aload_n 0, 1) := by decide +kernel
theorem dX11_index_9 : decode cX11_index 9 = .ok (.iload_n 2, 1) := by decide +kernel
theorem dX11_index_10 : decode cX11_index 10 = .ok (.invokevirtual 288, 3) := by decide +kernel
theorem dX11_index_13 : decode cX11_index 13 = .ok (.ifCond .eq 27, 3) := by decide +kernel
theorem dX11_index_16 : decode cX11_index 16 = .ok (.ldc2_w 61, 3) := by decide +kernel
theorem dX11_index_19 : decode cX11_index 19 = .ok (.ldc2_w 262, 3) := by decide +kernel
theorem dX11_index_22 : decode cX11_index 22 = .ok (.aload_n 0, 1) := by decide +kernel
theorem dX11_index_23 : decode cX11_index 23 = .ok (.iload_n 1, 1) := by decide +kernel
theorem dX11_index_24 : decode cX11_index 24 = .ok (.invokevirtual 112, 3) := by decide +kernel
theorem dX11_index_27 : decode cX11_index 27 = .ok (.lmul, 1) := by decide +kernel
theorem dX11_index_28 : decode cX11_index 28 = .ok (.aload_n 0, 1) := by decide +kernel
theorem dX11_index_29 : decode cX11_index 29 = .ok (.iload_n 2, 1) := by decide +kernel
theorem dX11_index_30 : decode cX11_index 30 = .ok (.invokevirtual 112, 3) := by decide +kernel
theorem dX11_index_33 : decode cX11_index 33 = .ok (.ldiv, 1) := by decide +kernel
theorem dX11_index_34 : decode cX11_index 34 = .ok (.invokestatic 123, 3) := by decide +kernel
theorem dX11_index_37 : decode cX11_index 37 = .ok (.goto 10, 3) := by decide +kernel
theorem dX11_index_40 : decode cX11_index 40 = .ok (.aload_n 0, 1) := by decide +kernel
theorem dX11_index_41 : decode cX11_index 41 = .ok (.ldc 67, 2) := by decide +kernel
theorem dX11_index_43 : decode cX11_index 43 = .ok (.invokevirtual 68, 3) := by decide +kernel
theorem dX11_index_46 : decode cX11_index 46 = .ok (.i2l, 1) := by decide +kernel
theorem dX11_index_47 : decode cX11_index 47 = .ok (.lreturn, 1) := by decide +kernel
theorem dX11_press_0 : decode cX11_press 0 = .ok (.lload_n 1, 1) := by decide +kernel
theorem dX11_press_1 : decode cX11_press 1 = .ok (.lconst 0, 1) := by decide +kernel
theorem dX11_press_2 : decode cX11_press 2 = .ok (.ldc2_w 61, 3) := by decide +kernel
theorem dX11_press_5 : decode cX11_press 5 = .ok (.invokestatic 57, 3) := by decide +kernel
theorem dX11_press_8 : decode cX11_press 8 = .ok (.ifCond .ne 11, 3) := by decide +kernel
theorem dX11_press_11 : decode cX11_press 11 = .ok (.aload_n 0, 1) := by decide +kernel
theorem dX11_press_12 : decode cX11_press 12 = .ok (.ldc 67, 2) := by decide +kernel
theorem dX11_press_14 : decode cX11_press 14 = .ok (.invokevirtual 68, 3) := by decide +kernel
theorem dX11_press_17 : decode cX11_press 17 = .ok (.i2l, 1) := by decide +kernel
theorem dX11_press_18 : decode cX11_press 18 = .ok (.lreturn, 1) := by decide +kernel
theorem dX11_press_19 : decode cX11_press 19 = .ok (.aload_n 0, 1) := by decide +kernel
theorem dX11_press_20 : decode cX11_press 20 = .ok (.getfield 9, 3) := by decide +kernel
theorem dX11_press_23 : decode cX11_press 23 = .ok (.iconst 2, 1) := by decide +kernel
theorem dX11_press_24 : decode cX11_press 24 = .ok (.dup2, 1) := by decide +kernel
theorem dX11_press_25 : decode cX11_press 25 = .ok (.laload, 1) := by decide +kernel
theorem dX11_press_26 : decode cX11_press 26 = .ok (.lload_n 1, 1) := by decide +kernel
theorem dX11_press_27 : decode cX11_press 27 = .ok (.ladd, 1) := by decide +kernel
theorem dX11_press_28 : decode cX11_press 28 = .ok (.lastore, 1) := by decide +kernel
theorem dX11_press_29 : decode cX11_press 29 = .ok (.aload_n 0, 1) := by decide +kernel
theorem dX11_press_30 : decode cX11_press 30 = .ok (.iconst 1, 1) := by decide +kernel
theorem dX11_press_31 : decode cX11_press 31 = .ok (.lload_n 1, 1) := by decide +kernel
theorem dX11_press_32 : decode cX11_press 32 = .ok (.invokevirtual 140, 3) := by decide +kernel
theorem dX11_press_35 : decode cX11_press 35 = .ok (.aload_n 0, 1) := by decide +kernel
theorem dX11_press_36 : decode cX11_press 36 = .ok (.getfield 9, 3) := by decide +kernel
theorem dX11_press_39 : decode cX11_press 39 = .ok (.iconst 1, 1) := by decide +kernel
theorem dX11_press_40 : decode cX11_press 40 = .ok (.laload, 1) := by decide +kernel
theorem dX11_press_41 : decode cX11_press 41 = .ok (.lreturn, 1) := by decide +kernel
theorem dX11_give_0 : decode cX11_give 0 = .ok (.aload_n 0, 1) := by decide +kernel
theorem dX11_give_1 : decode cX11_give 1 = .ok (.iload_n 1, 1) := by decide +kernel
theorem dX11_give_2 : decode cX11_give 2 = .ok (.i2l, 1) := by decide +kernel
theorem dX11_give_3 : decode cX11_give 3 = .ok (.invokevirtual 81, 3) := by decide +kernel
theorem dX11_give_6 : decode cX11_give 6 = .ok (.ifCond .eq 14, 3) := by decide +kernel
theorem dX11_give_9 : decode cX11_give 9 = .ok (.lload_n 2, 1) := by decide +kernel
theorem dX11_give_10 : decode cX11_give 10 = .ok (.lconst 1, 1) := by decide +kernel
theorem dX11_give_11 : decode cX11_give 11 = .ok (.ldc2_w 61, 3) := by decide +kernel
theorem dX11_give_14 : decode cX11_give 14 = .ok (.invokestatic 57, 3) := by decide +kernel
theorem dX11_give_17 : decode cX11_give 17 = .ok (.ifCond .ne 11, 3) := by decide +kernel
theorem dX11_give_20 : decode cX11_give 20 = .ok (.aload_n 0, 1) := by decide +kernel
theorem dX11_give_21 : decode cX11_give 21 = .ok (.ldc 67, 2) := by decide +kernel
theorem dX11_give_23 : decode cX11_give 23 = .ok (.invokevirtual 68, 3) := by decide +kernel
theorem dX11_give_26 : decode cX11_give 26 = .ok (.i2l, 1) := by decide +kernel
theorem dX11_give_27 : decode cX11_give 27 = .ok (.lreturn, 1) := by decide +kernel
theorem dX11_give_28 : decode cX11_give 28 = .ok (.aload_n 0, 1) := by decide +kernel
theorem dX11_give_29 : decode cX11_give 29 = .ok (.getfield 9, 3) := by decide +kernel
theorem dX11_give_32 : decode cX11_give 32 = .ok (.iconst 1, 1) := by decide +kernel
theorem dX11_give_33 : decode cX11_give 33 = .ok (.laload, 1) := by decide +kernel
theorem dX11_give_34 : decode cX11_give 34 = .ok (.lload_n 2, 1) := by decide +kernel
theorem dX11_give_35 : decode cX11_give 35 = .ok (.lcmp, 1) := by decide +kernel
theorem dX11_give_36 : decode cX11_give 36 = .ok (.ifCond .ge 11, 3) := by decide +kernel
theorem dX11_give_39 : decode cX11_give 39 = .ok (.aload_n 0, 1) := by decide +kernel
theorem dX11_give_40 : decode cX11_give 40 = .ok (.ldc 146, 2) := by decide +kernel
theorem dX11_give_42 : decode cX11_give 42 = .ok (.invokevirtual 68, 3) := by decide +kernel
theorem dX11_give_45 : decode cX11_give 45 = .ok (.i2l, 1) := by decide +kernel
theorem dX11_give_46 : decode cX11_give 46 = .ok (.lreturn, 1) := by decide +kernel
theorem dX11_give_47 : decode cX11_give 47 = .ok (.aload_n 0, 1) := by decide +kernel
theorem dX11_give_48 : decode cX11_give 48 = .ok (.getfield 9, 3) := by decide +kernel
theorem dX11_give_51 : decode cX11_give 51 = .ok (.iconst 1, 1) := by decide +kernel
theorem dX11_give_52 : decode cX11_give 52 = .ok (.dup2, 1) := by decide +kernel
theorem dX11_give_53 : decode cX11_give 53 = .ok (.laload, 1) := by decide +kernel
theorem dX11_give_54 : decode cX11_give 54 = .ok (.lload_n 2, 1) := by decide +kernel
theorem dX11_give_55 : decode cX11_give 55 = .ok (.lsub, 1) := by decide +kernel
theorem dX11_give_56 : decode cX11_give 56 = .ok (.lastore, 1) := by decide +kernel
theorem dX11_give_57 : decode cX11_give 57 = .ok (.aload_n 0, 1) := by decide +kernel
theorem dX11_give_58 : decode cX11_give 58 = .ok (.iload_n 1, 1) := by decide +kernel
theorem dX11_give_59 : decode cX11_give 59 = .ok (.iconst 0, 1) := by decide +kernel
theorem dX11_give_60 : decode cX11_give 60 = .ok (.invokestatic 73, 3) := by decide +kernel
theorem dX11_give_63 : decode cX11_give 63 = .ok (.lload_n 2, 1) := by decide +kernel
theorem dX11_give_64 : decode cX11_give 64 = .ok (.invokevirtual 140, 3) := by decide +kernel
theorem dX11_give_67 : decode cX11_give 67 = .ok (.aload_n 0, 1) := by decide +kernel
theorem dX11_give_68 : decode cX11_give 68 = .ok (.getfield 9, 3) := by decide +kernel
theorem dX11_give_71 : decode cX11_give 71 = .ok (.iload_n 1, 1) := by decide +kernel
theorem dX11_give_72 : decode cX11_give 72 = .ok (.iconst 0, 1) := by decide +kernel
theorem dX11_give_73 : decode cX11_give 73 = .ok (.invokestatic 73, 3) := by decide +kernel
theorem dX11_give_76 : decode cX11_give 76 = .ok (.laload, 1) := by decide +kernel
theorem dX11_give_77 : decode cX11_give 77 = .ok (.lreturn, 1) := by decide +kernel
theorem dX11_taxes_0 : decode cX11_taxes 0 = .ok (.lconst 0, 1) := by decide +kernel
theorem dX11_taxes_1 : decode cX11_taxes 1 = .ok (.lstore_n 1, 1) := by decide +kernel
theorem dX11_taxes_2 : decode cX11_taxes 2 = .ok (.iconst 0, 1) := by decide +kernel
theorem dX11_taxes_3 : decode cX11_taxes 3 = .ok (.istore_n 3, 1) := by decide +kernel
theorem dX11_taxes_4 : decode cX11_taxes 4 = .ok (.iload_n 3, 1) := by decide +kernel
theorem dX11_taxes_5 : decode cX11_taxes 5 = .ok (.i2l, 1) := by decide +kernel
theorem dX11_taxes_6 : decode cX11_taxes 6 = .ok (.aload_n 0, 1) := by decide +kernel
theorem dX11_taxes_7 : decode cX11_taxes 7 = .ok (.getfield 9, 3) := by decide +kernel
theorem dX11_taxes_10 : decode cX11_taxes 10 = .ok (.iconst 4, 1) := by decide +kernel
theorem dX11_taxes_11 : decode cX11_taxes 11 = .ok (.laload, 1) := by decide +kernel
theorem dX11_taxes_12 : decode cX11_taxes 12 = .ok (.lcmp, 1) := by decide +kernel
theorem dX11_taxes_13 : decode cX11_taxes 13 = .ok (.ifCond .ge 45, 3) := by decide +kernel
theorem dX11_taxes_16 : decode cX11_taxes 16 = .ok (.aload_n 0, 1) := by decide +kernel
theorem dX11_taxes_17 : decode cX11_taxes 17 = .ok (.getfield 9, 3) := by decide +kernel
theorem dX11_taxes_20 : decode cX11_taxes 20 = .ok (.iload_n 3, 1) := by decide +kernel
theorem dX11_taxes_21 : decode cX11_taxes 21 = .ok (.iconst 0, 1) := by decide +kernel
theorem dX11_taxes_22 : decode cX11_taxes 22 = .ok (.invokestatic 73, 3) := by decide +kernel
theorem dX11_taxes_25 : decode cX11_taxes 25 = .ok (.laload, 1) := by decide +kernel
theorem dX11_taxes_26 : decode cX11_taxes 26 = .ok (.ldc2_w 87, 3) := by decide +kernel
theorem dX11_taxes_29 : decode cX11_taxes 29 = .ok (.ldiv, 1) := by decide +kernel
theorem dX11_taxes_30 : decode cX11_taxes 30 = .ok (.lstore 4, 2) := by decide +kernel
theorem dX11_taxes_32 : decode cX11_taxes 32 = .ok (.aload_n 0, 1) := by decide +kernel
theorem dX11_taxes_33 : decode cX11_taxes 33 = .ok (.getfield 9, 3) := by decide +kernel
theorem dX11_taxes_36 : decode cX11_taxes 36 = .ok (.iload_n 3, 1) := by decide +kernel
theorem dX11_taxes_37 : decode cX11_taxes 37 = .ok (.iconst 0, 1) := by decide +kernel
theorem dX11_taxes_38 : decode cX11_taxes 38 = .ok (.invokestatic 73, 3) := by decide +kernel
theorem dX11_taxes_41 : decode cX11_taxes 41 = .ok (.dup2, 1) := by decide +kernel
theorem dX11_taxes_42 : decode cX11_taxes 42 = .ok (.laload, 1) := by decide +kernel
theorem dX11_taxes_43 : decode cX11_taxes 43 = .ok (.lload 4, 2) := by decide +kernel
theorem dX11_taxes_45 : decode cX11_taxes 45 = .ok (.lsub, 1) := by decide +kernel
theorem dX11_taxes_46 : decode cX11_taxes 46 = .ok (.lastore, 1) := by decide +kernel
theorem dX11_taxes_47 : decode cX11_taxes 47 = .ok (.lload_n 1, 1) := by decide +kernel
theorem dX11_taxes_48 : decode cX11_taxes 48 = .ok (.lload 4, 2) := by decide +kernel
theorem dX11_taxes_50 : decode cX11_taxes 50 = .ok (.ladd, 1) := by decide +kernel
theorem dX11_taxes_51 : decode cX11_taxes 51 = .ok (.lstore_n 1, 1) := by decide +kernel
theorem dX11_taxes_52 : decode cX11_taxes 52 = .ok (.iinc 3 1, 3) := by decide +kernel
theorem dX11_taxes_55 : decode cX11_taxes 55 = .ok (.goto (-51), 3) := by decide +kernel
theorem dX11_taxes_58 : decode cX11_taxes 58 = .ok (.aload_n 0, 1) := by decide +kernel
theorem dX11_taxes_59 : decode cX11_taxes 59 = .ok (.iconst 1, 1) := by decide +kernel
theorem dX11_taxes_60 : decode cX11_taxes 60 = .ok (.lload_n 1, 1) := by decide +kernel
theorem dX11_taxes_61 : decode cX11_taxes 61 = .ok (.invokevirtual 140, 3) := by decide +kernel
theorem dX11_taxes_64 : decode cX11_taxes 64 = .ok (.lload_n 1, 1) := by decide +kernel
theorem dX11_taxes_65 : decode cX11_taxes 65 = .ok (.lreturn, 1) := by decide +kernel
theorem dX11_tax_0 : decode cX11_tax 0 = .ok (.aload_n 0, 1) := by decide +kernel
theorem dX11_tax_1 : decode cX11_tax 1 = .ok (.invokevirtual 291, 3) := by decide +kernel
theorem dX11_tax_4 : decode cX11_tax 4 = .ok (.lreturn, 1) := by decide +kernel
theorem dX11_cutBy_0 : decode cX11_cutBy 0 = .ok (.aload_n 0, 1) := by decide +kernel
theorem dX11_cutBy_1 : decode cX11_cutBy 1 = .ok (.getfield 9, 3) := by decide +kernel
theorem dX11_cutBy_4 : decode cX11_cutBy 4 = .ok (.iload_n 1, 1) := by decide +kernel
theorem dX11_cutBy_5 : decode cX11_cutBy 5 = .ok (.laload, 1) := by decide +kernel
theorem dX11_cutBy_6 : decode cX11_cutBy 6 = .ok (.lstore 4, 2) := by decide +kernel
theorem dX11_cutBy_8 : decode cX11_cutBy 8 = .ok (.aload_n 0, 1) := by decide +kernel
theorem dX11_cutBy_9 : decode cX11_cutBy 9 = .ok (.getfield 9, 3) := by decide +kernel
theorem dX11_cutBy_12 : decode cX11_cutBy 12 = .ok (.iload_n 1, 1) := by decide +kernel
theorem dX11_cutBy_13 : decode cX11_cutBy 13 = .ok (.lload 4, 2) := by decide +kernel
theorem dX11_cutBy_15 : decode cX11_cutBy 15 = .ok (.lload_n 2, 1) := by decide +kernel
theorem dX11_cutBy_16 : decode cX11_cutBy 16 = .ok (.ldiv, 1) := by decide +kernel
theorem dX11_cutBy_17 : decode cX11_cutBy 17 = .ok (.lastore, 1) := by decide +kernel
theorem dX11_cutBy_18 : decode cX11_cutBy 18 = .ok (.lload 4, 2) := by decide +kernel
theorem dX11_cutBy_20 : decode cX11_cutBy 20 = .ok (.aload_n 0, 1) := by decide +kernel
theorem dX11_cutBy_21 : decode cX11_cutBy 21 = .ok (.getfield 9, 3) := by decide +kernel
theorem dX11_cutBy_24 : decode cX11_cutBy 24 = .ok (.iload_n 1, 1) := by decide +kernel
theorem dX11_cutBy_25 : decode cX11_cutBy 25 = .ok (.laload, 1) := by decide +kernel
theorem dX11_cutBy_26 : decode cX11_cutBy 26 = .ok (.lsub, 1) := by decide +kernel
theorem dX11_cutBy_27 : decode cX11_cutBy 27 = .ok (.lreturn, 1) := by decide +kernel
theorem dX11_swap_0 : decode cX11_swap 0 = .ok (.iload_n 1, 1) := by decide +kernel
theorem dX11_swap_1 : decode cX11_swap 1 = .ok (.i2l, 1) := by decide +kernel
theorem dX11_swap_2 : decode cX11_swap 2 = .ok (.lconst 1, 1) := by decide +kernel
theorem dX11_swap_3 : decode cX11_swap 3 = .ok (.ldc2_w 294, 3) := by decide +kernel
theorem dX11_swap_6 : decode cX11_swap 6 = .ok (.invokestatic 57, 3) := by decide +kernel
theorem dX11_swap_9 : decode cX11_swap 9 = .ok (.ifCond .ne 11, 3) := by decide +kernel
theorem dX11_swap_12 : decode cX11_swap 12 = .ok (.aload_n 0, 1) := by decide +kernel
theorem dX11_swap_13 : decode cX11_swap 13 = .ok (.ldc 67, 2) := by decide +kernel
theorem dX11_swap_15 : decode cX11_swap 15 = .ok (.invokevirtual 68, 3) := by decide +kernel
theorem dX11_swap_18 : decode cX11_swap 18 = .ok (.i2l, 1) := by decide +kernel
theorem dX11_swap_19 : decode cX11_swap 19 = .ok (.lreturn, 1) := by decide +kernel
theorem dX11_swap_20 : decode cX11_swap 20 = .ok (.lconst 1, 1) := by decide +kernel
theorem dX11_swap_21 : decode cX11_swap 21 = .ok (.lstore_n 2, 1) := by decide +kernel
theorem dX11_swap_22 : decode cX11_swap 22 = .ok (.iconst 0, 1) := by decide +kernel
theorem dX11_swap_23 : decode cX11_swap 23 = .ok (.istore 4, 2) := by decide +kernel
theorem dX11_swap_25 : decode cX11_swap 25 = .ok (.iload 4, 2) := by decide +kernel
theorem dX11_swap_27 : decode cX11_swap 27 = .ok (.iload_n 1, 1) := by decide +kernel
theorem dX11_swap_28 : decode cX11_swap 28 = .ok (.if_icmp .ge 15, 3) := by decide +kernel
theorem dX11_swap_31 : decode cX11_swap 31 = .ok (.lload_n 2, 1) := by decide +kernel
theorem dX11_swap_32 : decode cX11_swap 32 = .ok (.ldc2_w 87, 3) := by decide +kernel
theorem dX11_swap_35 : decode cX11_swap 35 = .ok (.lmul, 1) := by decide +kernel
theorem dX11_swap_36 : decode cX11_swap 36 = .ok (.lstore_n 2, 1) := by decide +kernel
theorem dX11_swap_37 : decode cX11_swap 37 = .ok (.iinc 4 1, 3) := by decide +kernel
theorem dX11_swap_40 : decode cX11_swap 40 = .ok (.goto (-15), 3) := by decide +kernel
theorem dX11_swap_43 : decode cX11_swap 43 = .ok (.aload_n 0, 1) := by decide +kernel
theorem dX11_swap_44 : decode cX11_swap 44 = .ok (.getfield 9, 3) := by decide +kernel
theorem dX11_swap_47 : decode cX11_swap 47 = .ok (.iconst 3, 1) := by decide +kernel
theorem dX11_swap_48 : decode cX11_swap 48 = .ok (.dup2, 1) := by decide +kernel
theorem dX11_swap_49 : decode cX11_swap 49 = .ok (.laload, 1) := by decide +kernel
theorem dX11_swap_50 : decode cX11_swap 50 = .ok (.aload_n 0, 1) := by decide +kernel
theorem dX11_swap_51 : decode cX11_swap 51 = .ok (.iconst 1, 1) := by decide +kernel
theorem dX11_swap_52 : decode cX11_swap 52 = .ok (.lload_n 2, 1) := by decide +kernel
theorem dX11_swap_53 : decode cX11_swap 53 = .ok (.invokevirtual 296, 3) := by decide +kernel
theorem dX11_swap_56 : decode cX11_swap 56 = .ok (.ladd, 1) := by decide +kernel
theorem dX11_swap_57 : decode cX11_swap 57 = .ok (.lastore, 1) := by decide +kernel
theorem dX11_swap_58 : decode cX11_swap 58 = .ok (.iconst 0, 1) := by decide +kernel
theorem dX11_swap_59 : decode cX11_swap 59 = .ok (.istore 4, 2) := by decide +kernel
theorem dX11_swap_61 : decode cX11_swap 61 = .ok (.iload 4, 2) := by decide +kernel
theorem dX11_swap_63 : decode cX11_swap 63 = .ok (.i2l, 1) := by decide +kernel
theorem dX11_swap_64 : decode cX11_swap 64 = .ok (.aload_n 0, 1) := by decide +kernel
theorem dX11_swap_65 : decode cX11_swap 65 = .ok (.getfield 9, 3) := by decide +kernel
theorem dX11_swap_68 : decode cX11_swap 68 = .ok (.iconst 4, 1) := by decide +kernel
theorem dX11_swap_69 : decode cX11_swap 69 = .ok (.laload, 1) := by decide +kernel
theorem dX11_swap_70 : decode cX11_swap 70 = .ok (.lcmp, 1) := by decide +kernel
theorem dX11_swap_71 : decode cX11_swap 71 = .ok (.ifCond .ge 29, 3) := by decide +kernel
theorem dX11_swap_74 : decode cX11_swap 74 = .ok (.aload_n 0, 1) := by decide +kernel
theorem dX11_swap_75 : decode cX11_swap 75 = .ok (.getfield 9, 3) := by decide +kernel
theorem dX11_swap_78 : decode cX11_swap 78 = .ok (.iconst 3, 1) := by decide +kernel
theorem dX11_swap_79 : decode cX11_swap 79 = .ok (.dup2, 1) := by decide +kernel
theorem dX11_swap_80 : decode cX11_swap 80 = .ok (.laload, 1) := by decide +kernel
theorem dX11_swap_81 : decode cX11_swap 81 = .ok (.aload_n 0, 1) := by decide +kernel
theorem dX11_swap_82 : decode cX11_swap 82 = .ok (.iload 4, 2) := by decide +kernel
theorem dX11_swap_84 : decode cX11_swap 84 = .ok (.iconst 0, 1) := by decide +kernel
theorem dX11_swap_85 : decode cX11_swap 85 = .ok (.invokestatic 73, 3) := by decide +kernel
theorem dX11_swap_88 : decode cX11_swap 88 = .ok (.lload_n 2, 1) := by decide +kernel
theorem dX11_swap_89 : decode cX11_swap 89 = .ok (.invokevirtual 296, 3) := by decide +kernel
theorem dX11_swap_92 : decode cX11_swap 92 = .ok (.ladd, 1) := by decide +kernel
theorem dX11_swap_93 : decode cX11_swap 93 = .ok (.lastore, 1) := by decide +kernel
theorem dX11_swap_94 : decode cX11_swap 94 = .ok (.iinc 4 1, 3) := by decide +kernel
theorem dX11_swap_97 : decode cX11_swap 97 = .ok (.goto (-36), 3) := by decide +kernel
theorem dX11_swap_100 : decode cX11_swap 100 = .ok (.iconst 0, 1) := by decide +kernel
theorem dX11_swap_101 : decode cX11_swap 101 = .ok (.istore 4, 2) := by decide +kernel
theorem dX11_swap_103 : decode cX11_swap 103 = .ok (.iload 4, 2) := by decide +kernel
theorem dX11_swap_105 : decode cX11_swap 105 = .ok (.i2l, 1) := by decide +kernel
theorem dX11_swap_106 : decode cX11_swap 106 = .ok (.aload_n 0, 1) := by decide +kernel
theorem dX11_swap_107 : decode cX11_swap 107 = .ok (.getfield 9, 3) := by decide +kernel
theorem dX11_swap_110 : decode cX11_swap 110 = .ok (.iconst 5, 1) := by decide +kernel
theorem dX11_swap_111 : decode cX11_swap 111 = .ok (.laload, 1) := by decide +kernel
theorem dX11_swap_112 : decode cX11_swap 112 = .ok (.lcmp, 1) := by decide +kernel
theorem dX11_swap_113 : decode cX11_swap 113 = .ok (.ifCond .ge 33, 3) := by decide +kernel
theorem dX11_swap_116 : decode cX11_swap 116 = .ok (.aload_n 0, 1) := by decide +kernel
theorem dX11_swap_117 : decode cX11_swap 117 = .ok (.iload 4, 2) := by decide +kernel
theorem dX11_swap_119 : decode cX11_swap 119 = .ok (.invokevirtual 132, 3) := by decide +kernel
theorem dX11_swap_122 : decode cX11_swap 122 = .ok (.ifCond .eq 18, 3) := by decide +kernel
theorem dX11_swap_125 : decode cX11_swap 125 = .ok (.aload_n 0, 1) := by decide +kernel
theorem dX11_swap_126 : decode cX11_swap 126 = .ok (.getfield 9, 3) := by decide +kernel
theorem dX11_swap_129 : decode cX11_swap 129 = .ok (.iload 4, 2) := by decide +kernel
theorem dX11_swap_131 : decode cX11_swap 131 = .ok (.iconst 3, 1) := by decide +kernel
theorem dX11_swap_132 : decode cX11_swap 132 = .ok (.invokestatic 94, 3) := by decide +kernel
theorem dX11_swap_135 : decode cX11_swap 135 = .ok (.dup2, 1) := by decide +kernel
theorem dX11_swap_136 : decode cX11_swap 136 = .ok (.laload, 1) := by decide +kernel
theorem dX11_swap_137 : decode cX11_swap 137 = .ok (.lload_n 2, 1) := by decide +kernel
theorem dX11_swap_138 : decode cX11_swap 138 = .ok (.ldiv, 1) := by decide +kernel
theorem dX11_swap_139 : decode cX11_swap 139 = .ok (.lastore, 1) := by decide +kernel
theorem dX11_swap_140 : decode cX11_swap 140 = .ok (.iinc 4 1, 3) := by decide +kernel
theorem dX11_swap_143 : decode cX11_swap 143 = .ok (.goto (-40), 3) := by decide +kernel
theorem dX11_swap_146 : decode cX11_swap 146 = .ok (.iconst 0, 1) := by decide +kernel
theorem dX11_swap_147 : decode cX11_swap 147 = .ok (.istore 4, 2) := by decide +kernel
theorem dX11_swap_149 : decode cX11_swap 149 = .ok (.iload 4, 2) := by decide +kernel
theorem dX11_swap_151 : decode cX11_swap 151 = .ok (.aload_n 0, 1) := by decide +kernel
theorem dX11_swap_152 : decode cX11_swap 152 = .ok (.invokevirtual 108, 3) := by decide +kernel
theorem dX11_swap_155 : decode cX11_swap 155 = .ok (.if_icmp .gt 37, 3) := by decide +kernel
theorem dX11_swap_158 : decode cX11_swap 158 = .ok (.aload_n 0, 1) := by decide +kernel
theorem dX11_swap_159 : decode cX11_swap 159 = .ok (.getfield 9, 3) := by decide +kernel
theorem dX11_swap_162 : decode cX11_swap 162 = .ok (.sipush 310, 3) := by decide +kernel
theorem dX11_swap_165 : decode cX11_swap 165 = .ok (.iload 4, 2) := by decide +kernel
theorem dX11_swap_167 : decode cX11_swap 167 = .ok (.iadd, 1) := by decide +kernel
theorem dX11_swap_168 : decode cX11_swap 168 = .ok (.lconst 1, 1) := by decide +kernel
theorem dX11_swap_169 : decode cX11_swap 169 = .ok (.aload_n 0, 1) := by decide +kernel
theorem dX11_swap_170 : decode cX11_swap 170 = .ok (.getfield 9, 3) := by decide +kernel
theorem dX11_swap_173 : decode cX11_swap 173 = .ok (.sipush 310, 3) := by decide +kernel
theorem dX11_swap_176 : decode cX11_swap 176 = .ok (.iload 4, 2) := by decide +kernel
theorem dX11_swap_178 : decode cX11_swap 178 = .ok (.iadd, 1) := by decide +kernel
theorem dX11_swap_179 : decode cX11_swap 179 = .ok (.laload, 1) := by decide +kernel
theorem dX11_swap_180 : decode cX11_swap 180 = .ok (.lload_n 2, 1) := by decide +kernel
theorem dX11_swap_181 : decode cX11_swap 181 = .ok (.ldiv, 1) := by decide +kernel
theorem dX11_swap_182 : decode cX11_swap 182 = .ok (.invokestatic 129, 3) := by decide +kernel
theorem dX11_swap_185 : decode cX11_swap 185 = .ok (.lastore, 1) := by decide +kernel
theorem dX11_swap_186 : decode cX11_swap 186 = .ok (.iinc 4 1, 3) := by decide +kernel
theorem dX11_swap_189 : decode cX11_swap 189 = .ok (.goto (-40), 3) := by decide +kernel
theorem dX11_swap_192 : decode cX11_swap 192 = .ok (.aload_n 0, 1) := by decide +kernel
theorem dX11_swap_193 : decode cX11_swap 193 = .ok (.aload_n 0, 1) := by decide +kernel
theorem dX11_swap_194 : decode cX11_swap 194 = .ok (.invokevirtual 108, 3) := by decide +kernel
theorem dX11_swap_197 : decode cX11_swap 197 = .ok (.invokevirtual 112, 3) := by decide +kernel
theorem dX11_swap_200 : decode cX11_swap 200 = .ok (.lreturn, 1) := by decide +kernel
theorem dX11_putAside_0 : decode cX11_putAside 0 = .ok (.iconst 0, 1) := by decide +kernel
theorem dX11_putAside_1 : decode cX11_putAside 1 = .ok (.istore_n 1, 1) := by decide +kernel
theorem dX11_putAside_2 : decode cX11_putAside 2 = .ok (.iload_n 1, 1) := by decide +kernel
theorem dX11_putAside_3 : decode cX11_putAside 3 = .ok (.sipush 611, 3) := by decide +kernel
theorem dX11_putAside_6 : decode cX11_putAside 6 = .ok (.if_icmp .ge 21, 3) := by decide +kernel
theorem dX11_putAside_9 : decode cX11_putAside 9 = .ok (.aload_n 0, 1) := by decide +kernel
theorem dX11_putAside_10 : decode cX11_putAside 10 = .ok (.getfield 13, 3) := by decide +kernel
theorem dX11_putAside_13 : decode cX11_putAside 13 = .ok (.iload_n 1, 1) := by decide +kernel
theorem dX11_putAside_14 : decode cX11_putAside 14 = .ok (.aload_n 0, 1) := by decide +kernel
theorem dX11_putAside_15 : decode cX11_putAside 15 = .ok (.getfield 9, 3) := by decide +kernel
theorem dX11_putAside_18 : decode cX11_putAside 18 = .ok (.iload_n 1, 1) := by decide +kernel
theorem dX11_putAside_19 : decode cX11_putAside 19 = .ok (.laload, 1) := by decide +kernel
theorem dX11_putAside_20 : decode cX11_putAside 20 = .ok (.lastore, 1) := by decide +kernel
theorem dX11_putAside_21 : decode cX11_putAside 21 = .ok (.iinc 1 1, 3) := by decide +kernel
theorem dX11_putAside_24 : decode cX11_putAside 24 = .ok (.goto (-22), 3) := by decide +kernel
