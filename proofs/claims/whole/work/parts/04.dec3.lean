theorem dX13_lotFor_72 : decode cX13_lotFor 72 = .ok (.iconst 1, 1) := by decide +kernel
theorem dX13_lotFor_73 : decode cX13_lotFor 73 = .ok (.goto 4, 3) := by decide +kernel
theorem dX13_lotFor_76 : decode cX13_lotFor 76 = .ok (.iconst 0, 1) := by decide +kernel
theorem dX13_lotFor_77 : decode cX13_lotFor 77 = .ok (.istore 6, 2) := by decide +kernel
theorem dX13_lotFor_79 : decode cX13_lotFor 79 = .ok (.iload 6, 2) := by decide +kernel
theorem dX13_lotFor_81 : decode cX13_lotFor 81 = .ok (.ifCond .eq 91, 3) := by decide +kernel
theorem dX13_lotFor_84 : decode cX13_lotFor 84 = .ok (.iload 4, 2) := by decide +kernel
theorem dX13_lotFor_86 : decode cX13_lotFor 86 = .ok (.iconst (-1), 1) := by decide +kernel
theorem dX13_lotFor_87 : decode cX13_lotFor 87 = .ok (.if_icmp .eq 81, 3) := by decide +kernel
theorem dX13_lotFor_90 : decode cX13_lotFor 90 = .ok (.aload_n 0, 1) := by decide +kernel
theorem dX13_lotFor_91 : decode cX13_lotFor 91 = .ok (.getfield 7, 3) := by decide +kernel
theorem dX13_lotFor_94 : decode cX13_lotFor 94 = .ok (.sipush 1050, 3) := by decide +kernel
theorem dX13_lotFor_97 : decode cX13_lotFor 97 = .ok (.iload 5, 2) := by decide +kernel
theorem dX13_lotFor_99 : decode cX13_lotFor 99 = .ok (.iadd, 1) := by decide +kernel
theorem dX13_lotFor_100 : decode cX13_lotFor 100 = .ok (.laload, 1) := by decide +kernel
theorem dX13_lotFor_101 : decode cX13_lotFor 101 = .ok (.aload_n 0, 1) := by decide +kernel
theorem dX13_lotFor_102 : decode cX13_lotFor 102 = .ok (.getfield 7, 3) := by decide +kernel
theorem dX13_lotFor_105 : decode cX13_lotFor 105 = .ok (.sipush 1050, 3) := by decide +kernel
theorem dX13_lotFor_108 : decode cX13_lotFor 108 = .ok (.iload 4, 2) := by decide +kernel
theorem dX13_lotFor_110 : decode cX13_lotFor 110 = .ok (.iadd, 1) := by decide +kernel
theorem dX13_lotFor_111 : decode cX13_lotFor 111 = .ok (.laload, 1) := by decide +kernel
theorem dX13_lotFor_112 : decode cX13_lotFor 112 = .ok (.lcmp, 1) := by decide +kernel
theorem dX13_lotFor_113 : decode cX13_lotFor 113 = .ok (.ifCond .lt 55, 3) := by decide +kernel
theorem dX13_lotFor_116 : decode cX13_lotFor 116 = .ok (.aload_n 0, 1) := by decide +kernel
theorem dX13_lotFor_117 : decode cX13_lotFor 117 = .ok (.getfield 7, 3) := by decide +kernel
theorem dX13_lotFor_120 : decode cX13_lotFor 120 = .ok (.sipush 1050, 3) := by decide +kernel
theorem dX13_lotFor_123 : decode cX13_lotFor 123 = .ok (.iload 5, 2) := by decide +kernel
theorem dX13_lotFor_125 : decode cX13_lotFor 125 = .ok (.iadd, 1) := by decide +kernel
theorem dX13_lotFor_126 : decode cX13_lotFor 126 = .ok (.laload, 1) := by decide +kernel
theorem dX13_lotFor_127 : decode cX13_lotFor 127 = .ok (.aload_n 0, 1) := by decide +kernel
theorem dX13_lotFor_128 : decode cX13_lotFor 128 = .ok (.getfield 7, 3) := by decide +kernel
theorem dX13_lotFor_131 : decode cX13_lotFor 131 = .ok (.sipush 1050, 3) := by decide +kernel
theorem dX13_lotFor_134 : decode cX13_lotFor 134 = .ok (.iload 4, 2) := by decide +kernel
theorem dX13_lotFor_136 : decode cX13_lotFor 136 = .ok (.iadd, 1) := by decide +kernel
theorem dX13_lotFor_137 : decode cX13_lotFor 137 = .ok (.laload, 1) := by decide +kernel
theorem dX13_lotFor_138 : decode cX13_lotFor 138 = .ok (.lcmp, 1) := by decide +kernel
theorem dX13_lotFor_139 : decode cX13_lotFor 139 = .ok (.ifCond .ne 33, 3) := by decide +kernel
theorem dX13_lotFor_142 : decode cX13_lotFor 142 = .ok (.aload_n 0, 1) := by decide +kernel
theorem dX13_lotFor_143 : decode cX13_lotFor 143 = .ok (.getfield 7, 3) := by decide +kernel
theorem dX13_lotFor_146 : decode cX13_lotFor 146 = .ok (.sipush 570, 3) := by decide +kernel
theorem dX13_lotFor_149 : decode cX13_lotFor 149 = .ok (.iload 5, 2) := by decide +kernel
theorem dX13_lotFor_151 : decode cX13_lotFor 151 = .ok (.iadd, 1) := by decide +kernel
theorem dX13_lotFor_152 : decode cX13_lotFor 152 = .ok (.laload, 1) := by decide +kernel
theorem dX13_lotFor_153 : decode cX13_lotFor 153 = .ok (.aload_n 0, 1) := by decide +kernel
theorem dX13_lotFor_154 : decode cX13_lotFor 154 = .ok (.getfield 7, 3) := by decide +kernel
theorem dX13_lotFor_157 : decode cX13_lotFor 157 = .ok (.sipush 570, 3) := by decide +kernel
theorem dX13_lotFor_160 : decode cX13_lotFor 160 = .ok (.iload 4, 2) := by decide +kernel
theorem dX13_lotFor_162 : decode cX13_lotFor 162 = .ok (.iadd, 1) := by decide +kernel
theorem dX13_lotFor_163 : decode cX13_lotFor 163 = .ok (.laload, 1) := by decide +kernel
theorem dX13_lotFor_164 : decode cX13_lotFor 164 = .ok (.lcmp, 1) := by decide +kernel
theorem dX13_lotFor_165 : decode cX13_lotFor 165 = .ok (.ifCond .ge 7, 3) := by decide +kernel
theorem dX13_lotFor_168 : decode cX13_lotFor 168 = .ok (.iload 5, 2) := by decide +kernel
theorem dX13_lotFor_170 : decode cX13_lotFor 170 = .ok (.istore 4, 2) := by decide +kernel
theorem dX13_lotFor_172 : decode cX13_lotFor 172 = .ok (.iinc 5 1, 3) := by decide +kernel
theorem dX13_lotFor_175 : decode cX13_lotFor 175 = .ok (.goto (-169), 3) := by decide +kernel
theorem dX13_lotFor_178 : decode cX13_lotFor 178 = .ok (.iload 4, 2) := by decide +kernel
theorem dX13_lotFor_180 : decode cX13_lotFor 180 = .ok (.ireturn, 1) := by decide +kernel
theorem dX13_isGrade_0 : decode cX13_isGrade 0 = .ok (.iload_n 0, 1) := by decide +kernel
theorem dX13_isGrade_1 : decode cX13_isGrade 1 = .ok (.i2l, 1) := by decide +kernel
theorem dX13_isGrade_2 : decode cX13_isGrade 2 = .ok (.lconst 1, 1) := by decide +kernel
theorem dX13_isGrade_3 : decode cX13_isGrade 3 = .ok (.ldc2_w 41, 3) := by decide +kernel
theorem dX13_isGrade_6 : decode cX13_isGrade 6 = .ok (.invokestatic 37, 3) := by decide +kernel
theorem dX13_isGrade_9 : decode cX13_isGrade 9 = .ok (.ireturn, 1) := by decide +kernel
theorem dX13_isMany_0 : decode cX13_isMany 0 = .ok (.iload_n 0, 1) := by decide +kernel
theorem dX13_isMany_1 : decode cX13_isMany 1 = .ok (.i2l, 1) := by decide +kernel
theorem dX13_isMany_2 : decode cX13_isMany 2 = .ok (.lconst 1, 1) := by decide +kernel
theorem dX13_isMany_3 : decode cX13_isMany 3 = .ok (.ldc2_w 142, 3) := by decide +kernel
theorem dX13_isMany_6 : decode cX13_isMany 6 = .ok (.invokestatic 37, 3) := by decide +kernel
theorem dX13_isMany_9 : decode cX13_isMany 9 = .ok (.ireturn, 1) := by decide +kernel
theorem dX13_deliverThrows_0 : decode cX13_deliverThrows 0 = .ok (.iload_n 1, 1) := by decide +kernel
theorem dX13_deliverThrows_1 : decode cX13_deliverThrows 1 = .ok (.invokestatic 50, 3) := by decide +kernel
theorem dX13_deliverThrows_4 : decode cX13_deliverThrows 4 = .ok (.ifCond .ne 5, 3) := by decide +kernel
theorem dX13_deliverThrows_7 : decode cX13_deliverThrows 7 = .ok (.iconst 1, 1) := by decide +kernel
theorem dX13_deliverThrows_8 : decode cX13_deliverThrows 8 = .ok (.ireturn, 1) := by decide +kernel
theorem dX13_deliverThrows_9 : decode cX13_deliverThrows 9 = .ok (.iload_n 2, 1) := by decide +kernel
theorem dX13_deliverThrows_10 : decode cX13_deliverThrows 10 = .ok (.invokestatic 144, 3) := by decide +kernel
theorem dX13_deliverThrows_13 : decode cX13_deliverThrows 13 = .ok (.ifCond .eq 10, 3) := by decide +kernel
theorem dX13_deliverThrows_16 : decode cX13_deliverThrows 16 = .ok (.iload_n 3, 1) := by decide +kernel
theorem dX13_deliverThrows_17 : decode cX13_deliverThrows 17 = .ok (.invokestatic 147, 3) := by decide +kernel
theorem dX13_deliverThrows_20 : decode cX13_deliverThrows 20 = .ok (.ifCond .ne 5, 3) := by decide +kernel
theorem dX13_deliverThrows_23 : decode cX13_deliverThrows 23 = .ok (.iconst 2, 1) := by decide +kernel
theorem dX13_deliverThrows_24 : decode cX13_deliverThrows 24 = .ok (.ireturn, 1) := by decide +kernel
theorem dX13_deliverThrows_25 : decode cX13_deliverThrows 25 = .ok (.aload_n 0, 1) := by decide +kernel
theorem dX13_deliverThrows_26 : decode cX13_deliverThrows 26 = .ok (.getfield 7, 3) := by decide +kernel
theorem dX13_deliverThrows_29 : decode cX13_deliverThrows 29 = .ok (.sipush 1615, 3) := by decide +kernel
theorem dX13_deliverThrows_32 : decode cX13_deliverThrows 32 = .ok (.laload, 1) := by decide +kernel
theorem dX13_deliverThrows_33 : decode cX13_deliverThrows 33 = .ok (.ldc2_w 73, 3) := by decide +kernel
theorem dX13_deliverThrows_36 : decode cX13_deliverThrows 36 = .ok (.lcmp, 1) := by decide +kernel
theorem dX13_deliverThrows_37 : decode cX13_deliverThrows 37 = .ok (.ifCond .eq 14, 3) := by decide +kernel
theorem dX13_deliverThrows_40 : decode cX13_deliverThrows 40 = .ok (.aload_n 0, 1) := by decide +kernel
theorem dX13_deliverThrows_41 : decode cX13_deliverThrows 41 = .ok (.iload_n 1, 1) := by decide +kernel
theorem dX13_deliverThrows_42 : decode cX13_deliverThrows 42 = .ok (.iload_n 2, 1) := by decide +kernel
theorem dX13_deliverThrows_43 : decode cX13_deliverThrows 43 = .ok (.iload_n 3, 1) := by decide +kernel
theorem dX13_deliverThrows_44 : decode cX13_deliverThrows 44 = .ok (.invokevirtual 150, 3) := by decide +kernel
theorem dX13_deliverThrows_47 : decode cX13_deliverThrows 47 = .ok (.iconst (-1), 1) := by decide +kernel
theorem dX13_deliverThrows_48 : decode cX13_deliverThrows 48 = .ok (.if_icmp .ne 7, 3) := by decide +kernel
theorem dX13_deliverThrows_51 : decode cX13_deliverThrows 51 = .ok (.iconst 3, 1) := by decide +kernel
theorem dX13_deliverThrows_52 : decode cX13_deliverThrows 52 = .ok (.goto 4, 3) := by decide +kernel
theorem dX13_deliverThrows_55 : decode cX13_deliverThrows 55 = .ok (.iconst 0, 1) := by decide +kernel
theorem dX13_deliverThrows_56 : decode cX13_deliverThrows 56 = .ok (.ireturn, 1) := by decide +kernel
theorem dX13_doDeliver_0 : decode cX13_doDeliver 0 = .ok (.aload_n 0, 1) := by decide +kernel
theorem dX13_doDeliver_1 : decode cX13_doDeliver 1 = .ok (.iload_n 1, 1) := by decide +kernel
theorem dX13_doDeliver_2 : decode cX13_doDeliver 2 = .ok (.iload_n 2, 1) := by decide +kernel
theorem dX13_doDeliver_3 : decode cX13_doDeliver 3 = .ok (.iload_n 3, 1) := by decide +kernel
theorem dX13_doDeliver_4 : decode cX13_doDeliver 4 = .ok (.invokevirtual 150, 3) := by decide +kernel
theorem dX13_doDeliver_7 : decode cX13_doDeliver 7 = .ok (.istore 4, 2) := by decide +kernel
theorem dX13_doDeliver_9 : decode cX13_doDeliver 9 = .ok (.aload_n 0, 1) := by decide +kernel
theorem dX13_doDeliver_10 : decode cX13_doDeliver 10 = .ok (.getfield 7, 3) := by decide +kernel
theorem dX13_doDeliver_13 : decode cX13_doDeliver 13 = .ok (.sipush 1615, 3) := by decide +kernel
theorem dX13_doDeliver_16 : decode cX13_doDeliver 16 = .ok (.laload, 1) := by decide +kernel
theorem dX13_doDeliver_17 : decode cX13_doDeliver 17 = .ok (.l2i, 1) := by decide +kernel
theorem dX13_doDeliver_18 : decode cX13_doDeliver 18 = .ok (.istore 5, 2) := by decide +kernel
theorem dX13_doDeliver_20 : decode cX13_doDeliver 20 = .ok (.iload_n 3, 1) := by decide +kernel
theorem dX13_doDeliver_21 : decode cX13_doDeliver 21 = .ok (.i2l, 1) := by decide +kernel
theorem dX13_doDeliver_22 : decode cX13_doDeliver 22 = .ok (.aload_n 0, 1) := by decide +kernel
theorem dX13_doDeliver_23 : decode cX13_doDeliver 23 = .ok (.getfield 7, 3) := by decide +kernel
theorem dX13_doDeliver_26 : decode cX13_doDeliver 26 = .ok (.bipush 89, 2) := by decide +kernel
theorem dX13_doDeliver_28 : decode cX13_doDeliver 28 = .ok (.laload, 1) := by decide +kernel
theorem dX13_doDeliver_29 : decode cX13_doDeliver 29 = .ok (.lmul, 1) := by decide +kernel
theorem dX13_doDeliver_30 : decode cX13_doDeliver 30 = .ok (.lstore 6, 2) := by decide +kernel
theorem dX13_doDeliver_32 : decode cX13_doDeliver 32 = .ok (.aload_n 0, 1) := by decide +kernel
theorem dX13_doDeliver_33 : decode cX13_doDeliver 33 = .ok (.getfield 7, 3) := by decide +kernel
theorem dX13_doDeliver_36 : decode cX13_doDeliver 36 = .ok (.sipush 1210, 3) := by decide +kernel
theorem dX13_doDeliver_39 : decode cX13_doDeliver 39 = .ok (.iload 4, 2) := by decide +kernel
theorem dX13_doDeliver_41 : decode cX13_doDeliver 41 = .ok (.iadd, 1) := by decide +kernel
theorem dX13_doDeliver_42 : decode cX13_doDeliver 42 = .ok (.laload, 1) := by decide +kernel
theorem dX13_doDeliver_43 : decode cX13_doDeliver 43 = .ok (.lload 6, 2) := by decide +kernel
theorem dX13_doDeliver_45 : decode cX13_doDeliver 45 = .ok (.lmul, 1) := by decide +kernel
theorem dX13_doDeliver_46 : decode cX13_doDeliver 46 = .ok (.aload_n 0, 1) := by decide +kernel
theorem dX13_doDeliver_47 : decode cX13_doDeliver 47 = .ok (.iload 4, 2) := by decide +kernel
theorem dX13_doDeliver_49 : decode cX13_doDeliver 49 = .ok (.invokevirtual 138, 3) := by decide +kernel
theorem dX13_doDeliver_52 : decode cX13_doDeliver 52 = .ok (.ldiv, 1) := by decide +kernel
theorem dX13_doDeliver_53 : decode cX13_doDeliver 53 = .ok (.lstore 8, 2) := by decide +kernel
theorem dX13_doDeliver_55 : decode cX13_doDeliver 55 = .ok (.aload_n 0, 1) := by decide +kernel
theorem dX13_doDeliver_56 : decode cX13_doDeliver 56 = .ok (.getfield 7, 3) := by decide +kernel
theorem dX13_doDeliver_59 : decode cX13_doDeliver 59 = .ok (.sipush 1615, 3) := by decide +kernel
theorem dX13_doDeliver_62 : decode cX13_doDeliver 62 = .ok (.dup2, 1) := by decide +kernel
theorem dX13_doDeliver_63 : decode cX13_doDeliver 63 = .ok (.laload, 1) := by decide +kernel
theorem dX13_doDeliver_64 : decode cX13_doDeliver 64 = .ok (.lconst 1, 1) := by decide +kernel
theorem dX13_doDeliver_65 : decode cX13_doDeliver 65 = .ok (.ladd, 1) := by decide +kernel
theorem dX13_doDeliver_66 : decode cX13_doDeliver 66 = .ok (.lastore, 1) := by decide +kernel
theorem dX13_doDeliver_67 : decode cX13_doDeliver 67 = .ok (.aload_n 0, 1) := by decide +kernel
theorem dX13_doDeliver_68 : decode cX13_doDeliver 68 = .ok (.getfield 7, 3) := by decide +kernel
theorem dX13_doDeliver_71 : decode cX13_doDeliver 71 = .ok (.sipush 1370, 3) := by decide +kernel
theorem dX13_doDeliver_74 : decode cX13_doDeliver 74 = .ok (.iload 5, 2) := by decide +kernel
theorem dX13_doDeliver_76 : decode cX13_doDeliver 76 = .ok (.iadd, 1) := by decide +kernel
theorem dX13_doDeliver_77 : decode cX13_doDeliver 77 = .ok (.iload 4, 2) := by decide +kernel
theorem dX13_doDeliver_79 : decode cX13_doDeliver 79 = .ok (.i2l, 1) := by decide +kernel
theorem dX13_doDeliver_80 : decode cX13_doDeliver 80 = .ok (.lastore, 1) := by decide +kernel
theorem dX13_doDeliver_81 : decode cX13_doDeliver 81 = .ok (.aload_n 0, 1) := by decide +kernel
theorem dX13_doDeliver_82 : decode cX13_doDeliver 82 = .ok (.getfield 7, 3) := by decide +kernel
theorem dX13_doDeliver_85 : decode cX13_doDeliver 85 = .ok (.sipush 1410, 3) := by decide +kernel
theorem dX13_doDeliver_88 : decode cX13_doDeliver 88 = .ok (.iload 5, 2) := by decide +kernel
theorem dX13_doDeliver_90 : decode cX13_doDeliver 90 = .ok (.iadd, 1) := by decide +kernel
theorem dX13_doDeliver_91 : decode cX13_doDeliver 91 = .ok (.iload_n 3, 1) := by decide +kernel
theorem dX13_doDeliver_92 : decode cX13_doDeliver 92 = .ok (.i2l, 1) := by decide +kernel
theorem dX13_doDeliver_93 : decode cX13_doDeliver 93 = .ok (.lastore, 1) := by decide +kernel
theorem dX13_doDeliver_94 : decode cX13_doDeliver 94 = .ok (.aload_n 0, 1) := by decide +kernel
theorem dX13_doDeliver_95 : decode cX13_doDeliver 95 = .ok (.getfield 7, 3) := by decide +kernel
theorem dX13_doDeliver_98 : decode cX13_doDeliver 98 = .ok (.sipush 1450, 3) := by decide +kernel
theorem dX13_doDeliver_101 : decode cX13_doDeliver 101 = .ok (.iload 5, 2) := by decide +kernel
theorem dX13_doDeliver_103 : decode cX13_doDeliver 103 = .ok (.iadd, 1) := by decide +kernel
theorem dX13_doDeliver_104 : decode cX13_doDeliver 104 = .ok (.iload_n 3, 1) := by decide +kernel
theorem dX13_doDeliver_105 : decode cX13_doDeliver 105 = .ok (.i2l, 1) := by decide +kernel
theorem dX13_doDeliver_106 : decode cX13_doDeliver 106 = .ok (.lastore, 1) := by decide +kernel
theorem dX13_doDeliver_107 : decode cX13_doDeliver 107 = .ok (.aload_n 0, 1) := by decide +kernel
theorem dX13_doDeliver_108 : decode cX13_doDeliver 108 = .ok (.getfield 7, 3) := by decide +kernel
theorem dX13_doDeliver_111 : decode cX13_doDeliver 111 = .ok (.sipush 1490, 3) := by decide +kernel
theorem dX13_doDeliver_114 : decode cX13_doDeliver 114 = .ok (.iload 5, 2) := by decide +kernel
theorem dX13_doDeliver_116 : decode cX13_doDeliver 116 = .ok (.iadd, 1) := by decide +kernel
theorem dX13_doDeliver_117 : decode cX13_doDeliver 117 = .ok (.lload 8, 2) := by decide +kernel
theorem dX13_doDeliver_119 : decode cX13_doDeliver 119 = .ok (.lastore, 1) := by decide +kernel
theorem dX13_doDeliver_120 : decode cX13_doDeliver 120 = .ok (.aload_n 0, 1) := by decide +kernel
theorem dX13_doDeliver_121 : decode cX13_doDeliver 121 = .ok (.getfield 7, 3) := by decide +kernel
theorem dX13_doDeliver_124 : decode cX13_doDeliver 124 = .ok (.sipush 1530, 3) := by decide +kernel
theorem dX13_doDeliver_127 : decode cX13_doDeliver 127 = .ok (.iload 5, 2) := by decide +kernel
theorem dX13_doDeliver_129 : decode cX13_doDeliver 129 = .ok (.iadd, 1) := by decide +kernel
theorem dX13_doDeliver_130 : decode cX13_doDeliver 130 = .ok (.lload 6, 2) := by decide +kernel
theorem dX13_doDeliver_132 : decode cX13_doDeliver 132 = .ok (.aload_n 0, 1) := by decide +kernel
theorem dX13_doDeliver_133 : decode cX13_doDeliver 133 = .ok (.iload 4, 2) := by decide +kernel
theorem dX13_doDeliver_135 : decode cX13_doDeliver 135 = .ok (.invokevirtual 153, 3) := by decide +kernel
theorem dX13_doDeliver_138 : decode cX13_doDeliver 138 = .ok (.lmul, 1) := by decide +kernel
theorem dX13_doDeliver_139 : decode cX13_doDeliver 139 = .ok (.lastore, 1) := by decide +kernel
theorem dX13_doDeliver_140 : decode cX13_doDeliver 140 = .ok (.aload_n 0, 1) := by decide +kernel
theorem dX13_doDeliver_141 : decode cX13_doDeliver 141 = .ok (.getfield 7, 3) := by decide +kernel
theorem dX13_doDeliver_144 : decode cX13_doDeliver 144 = .ok (.sipush 1617, 3) := by decide +kernel
theorem dX13_doDeliver_147 : decode cX13_doDeliver 147 = .ok (.dup2, 1) := by decide +kernel
theorem dX13_doDeliver_148 : decode cX13_doDeliver 148 = .ok (.laload, 1) := by decide +kernel
theorem dX13_doDeliver_149 : decode cX13_doDeliver 149 = .ok (.lload 6, 2) := by decide +kernel
theorem dX13_doDeliver_151 : decode cX13_doDeliver 151 = .ok (.aload_n 0, 1) := by decide +kernel
theorem dX13_doDeliver_152 : decode cX13_doDeliver 152 = .ok (.iload 4, 2) := by decide +kernel
theorem dX13_doDeliver_154 : decode cX13_doDeliver 154 = .ok (.invokevirtual 153, 3) := by decide +kernel
theorem dX13_doDeliver_157 : decode cX13_doDeliver 157 = .ok (.lmul, 1) := by decide +kernel
theorem dX13_doDeliver_158 : decode cX13_doDeliver 158 = .ok (.ladd, 1) := by decide +kernel
theorem dX13_doDeliver_159 : decode cX13_doDeliver 159 = .ok (.lastore, 1) := by decide +kernel
theorem dX13_doDeliver_160 : decode cX13_doDeliver 160 = .ok (.aload_n 0, 1) := by decide +kernel
theorem dX13_doDeliver_161 : decode cX13_doDeliver 161 = .ok (.getfield 7, 3) := by decide +kernel
theorem dX13_doDeliver_164 : decode cX13_doDeliver 164 = .ok (.sipush 1210, 3) := by decide +kernel
theorem dX13_doDeliver_167 : decode cX13_doDeliver 167 = .ok (.iload 4, 2) := by decide +kernel
theorem dX13_doDeliver_169 : decode cX13_doDeliver 169 = .ok (.iadd, 1) := by decide +kernel
theorem dX13_doDeliver_170 : decode cX13_doDeliver 170 = .ok (.dup2, 1) := by decide +kernel
theorem dX13_doDeliver_171 : decode cX13_doDeliver 171 = .ok (.laload, 1) := by decide +kernel
theorem dX13_doDeliver_172 : decode cX13_doDeliver 172 = .ok (.lload 8, 2) := by decide +kernel
theorem dX13_doDeliver_174 : decode cX13_doDeliver 174 = .ok (.lsub, 1) := by decide +kernel
theorem dX13_doDeliver_175 : decode cX13_doDeliver 175 = .ok (.lastore, 1) := by decide +kernel
theorem dX13_doDeliver_176 : decode cX13_doDeliver 176 = .ok (.aload_n 0, 1) := by decide +kernel
theorem dX13_doDeliver_177 : decode cX13_doDeliver 177 = .ok (.getfield 7, 3) := by decide +kernel
theorem dX13_doDeliver_180 : decode cX13_doDeliver 180 = .ok (.sipush 1050, 3) := by decide +kernel
theorem dX13_doDeliver_183 : decode cX13_doDeliver 183 = .ok (.iload 4, 2) := by decide +kernel
theorem dX13_doDeliver_185 : decode cX13_doDeliver 185 = .ok (.iadd, 1) := by decide +kernel
theorem dX13_doDeliver_186 : decode cX13_doDeliver 186 = .ok (.dup2, 1) := by decide +kernel
theorem dX13_doDeliver_187 : decode cX13_doDeliver 187 = .ok (.laload, 1) := by decide +kernel
theorem dX13_doDeliver_188 : decode cX13_doDeliver 188 = .ok (.iload_n 3, 1) := by decide +kernel
theorem dX13_doDeliver_189 : decode cX13_doDeliver 189 = .ok (.i2l, 1) := by decide +kernel
theorem dX13_doDeliver_190 : decode cX13_doDeliver 190 = .ok (.lsub, 1) := by decide +kernel
theorem dX13_doDeliver_191 : decode cX13_doDeliver 191 = .ok (.lastore, 1) := by decide +kernel
theorem dX13_doDeliver_192 : decode cX13_doDeliver 192 = .ok (.aload_n 0, 1) := by decide +kernel
theorem dX13_doDeliver_193 : decode cX13_doDeliver 193 = .ok (.iload 4, 2) := by decide +kernel
theorem dX13_doDeliver_195 : decode cX13_doDeliver 195 = .ok (.invokevirtual 156, 3) := by decide +kernel
theorem dX13_doDeliver_198 : decode cX13_doDeliver 198 = .ok (.aload_n 0, 1) := by decide +kernel
theorem dX13_doDeliver_199 : decode cX13_doDeliver 199 = .ok (.iconst 3, 1) := by decide +kernel
theorem dX13_doDeliver_200 : decode cX13_doDeliver 200 = .ok (.iload 5, 2) := by decide +kernel
theorem dX13_doDeliver_202 : decode cX13_doDeliver 202 = .ok (.i2l, 1) := by decide +kernel
theorem dX13_doDeliver_203 : decode cX13_doDeliver 203 = .ok (.invokevirtual 104, 3) := by decide +kernel
theorem dX13_doDeliver_206 : decode cX13_doDeliver 206 = .ok (.iload 5, 2) := by decide +kernel
theorem dX13_doDeliver_208 : decode cX13_doDeliver 208 = .ok (.ireturn, 1) := by decide +kernel
theorem dX13_deliver_0 : decode cX13_deliver 0 = .ok (.aload_n 0, 1) := by decide +kernel
theorem dX13_deliver_1 : decode cX13_deliver 1 = .ok (.iconst 0, 1) := by decide +kernel
theorem dX13_deliver_2 : decode cX13_deliver 2 = .ok (.putfield 31, 3) := by decide +kernel
theorem dX13_deliver_5 : decode cX13_deliver 5 = .ok (.aload_n 0, 1) := by decide +kernel
theorem dX13_deliver_6 : decode cX13_deliver 6 = .ok (.iload_n 1, 1) := by decide +kernel
theorem dX13_deliver_7 : decode cX13_deliver 7 = .ok (.iload_n 2, 1) := by decide +kernel
theorem dX13_deliver_8 : decode cX13_deliver 8 = .ok (.iload_n 3, 1) := by decide +kernel
theorem dX13_deliver_9 : decode cX13_deliver 9 = .ok (.invokevirtual 160, 3) := by decide +kernel
theorem dX13_deliver_12 : decode cX13_deliver 12 = .ok (.istore 4, 2) := by decide +kernel
theorem dX13_deliver_14 : decode cX13_deliver 14 = .ok (.iload 4, 2) := by decide +kernel
theorem dX13_deliver_16 : decode cX13_deliver 16 = .ok (.ifCond .le 10, 3) := by decide +kernel
theorem dX13_deliver_19 : decode cX13_deliver 19 = .ok (.aload_n 0, 1) := by decide +kernel
theorem dX13_deliver_20 : decode cX13_deliver 20 = .ok (.iload 4, 2) := by decide +kernel
theorem dX13_deliver_22 : decode cX13_deliver 22 = .ok (.invokevirtual 54, 3) := by decide +kernel
theorem dX13_deliver_25 : decode cX13_deliver 25 = .ok (.ireturn, 1) := by decide +kernel
theorem dX13_deliver_26 : decode cX13_deliver 26 = .ok (.aload_n 0, 1) := by decide +kernel
theorem dX13_deliver_27 : decode cX13_deliver 27 = .ok (.invokevirtual 60, 3) := by decide +kernel
theorem dX13_deliver_30 : decode cX13_deliver 30 = .ok (.aload_n 0, 1) := by decide +kernel
theorem dX13_deliver_31 : decode cX13_deliver 31 = .ok (.iload_n 1, 1) := by decide +kernel
theorem dX13_deliver_32 : decode cX13_deliver 32 = .ok (.iload_n 2, 1) := by decide +kernel
theorem dX13_deliver_33 : decode cX13_deliver 33 = .ok (.iload_n 3, 1) := by decide +kernel
theorem dX13_deliver_34 : decode cX13_deliver 34 = .ok (.invokevirtual 163, 3) := by decide +kernel
theorem dX13_deliver_37 : decode cX13_deliver 37 = .ok (.ireturn, 1) := by decide +kernel
theorem dX13_breaks_0 : decode cX13_breaks 0 = .ok (.aload_n 0, 1) := by decide +kernel
theorem dX13_breaks_1 : decode cX13_breaks 1 = .ok (.getfield 7, 3) := by decide +kernel
theorem dX13_breaks_4 : decode cX13_breaks 4 = .ok (.sipush 1612, 3) := by decide +kernel
theorem dX13_breaks_7 : decode cX13_breaks 7 = .ok (.dup2, 1) := by decide +kernel
theorem dX13_breaks_8 : decode cX13_breaks 8 = .ok (.laload, 1) := by decide +kernel
theorem dX13_breaks_9 : decode cX13_breaks 9 = .ok (.lload_n 1, 1) := by decide +kernel
theorem dX13_breaks_10 : decode cX13_breaks 10 = .ok (.ladd, 1) := by decide +kernel
theorem dX13_breaks_11 : decode cX13_breaks 11 = .ok (.lastore, 1) := by decide +kernel
theorem dX13_breaks_12 : decode cX13_breaks 12 = .ok (.lload_n 1, 1) := by decide +kernel
theorem dX13_breaks_13 : decode cX13_breaks 13 = .ok (.lconst 0, 1) := by decide +kernel
theorem dX13_breaks_14 : decode cX13_breaks 14 = .ok (.lcmp, 1) := by decide +kernel
theorem dX13_breaks_15 : decode cX13_breaks 15 = .ok (.ifCond .le 9, 3) := by decide +kernel
theorem dX13_breaks_18 : decode cX13_breaks 18 = .ok (.aload_n 0, 1) := by decide +kernel
theorem dX13_breaks_19 : decode cX13_breaks 19 = .ok (.iconst 4, 1) := by decide +kernel
theorem dX13_breaks_20 : decode cX13_breaks 20 = .ok (.lload_n 1, 1) := by decide +kernel
theorem dX13_breaks_21 : decode cX13_breaks 21 = .ok (.invokevirtual 104, 3) := by decide +kernel
theorem dX13_breaks_24 : decode cX13_breaks 24 = .ok (.return_, 1) := by decide +kernel
theorem dX13_dropThrows_0 : decode cX13_dropThrows 0 = .ok (.aload_n 0, 1) := by decide +kernel
theorem dX13_dropThrows_1 : decode cX13_dropThrows 1 = .ok (.iload_n 1, 1) := by decide +kernel
theorem dX13_dropThrows_2 : decode cX13_dropThrows 2 = .ok (.iload_n 2, 1) := by decide +kernel
theorem dX13_dropThrows_3 : decode cX13_dropThrows 3 = .ok (.iload_n 3, 1) := by decide +kernel
theorem dX13_dropThrows_4 : decode cX13_dropThrows 4 = .ok (.invokevirtual 114, 3) := by decide +kernel
theorem dX13_dropThrows_7 : decode cX13_dropThrows 7 = .ok (.istore 5, 2) := by decide +kernel
theorem dX13_dropThrows_9 : decode cX13_dropThrows 9 = .ok (.iload 5, 2) := by decide +kernel
theorem dX13_dropThrows_11 : decode cX13_dropThrows 11 = .ok (.iconst (-1), 1) := by decide +kernel
theorem dX13_dropThrows_12 : decode cX13_dropThrows 12 = .ok (.if_icmp .ne 5, 3) := by decide +kernel
theorem dX13_dropThrows_15 : decode cX13_dropThrows 15 = .ok (.iconst 1, 1) := by decide +kernel
theorem dX13_dropThrows_16 : decode cX13_dropThrows 16 = .ok (.ireturn, 1) := by decide +kernel
theorem dX13_dropThrows_17 : decode cX13_dropThrows 17 = .ok (.iload 4, 2) := by decide +kernel
theorem dX13_dropThrows_19 : decode cX13_dropThrows 19 = .ok (.i2l, 1) := by decide +kernel
theorem dX13_dropThrows_20 : decode cX13_dropThrows 20 = .ok (.lconst 0, 1) := by decide +kernel
theorem dX13_dropThrows_21 : decode cX13_dropThrows 21 = .ok (.aload_n 0, 1) := by decide +kernel
theorem dX13_dropThrows_22 : decode cX13_dropThrows 22 = .ok (.getfield 7, 3) := by decide +kernel
theorem dX13_dropThrows_25 : decode cX13_dropThrows 25 = .ok (.bipush 89, 2) := by decide +kernel
theorem dX13_dropThrows_27 : decode cX13_dropThrows 27 = .ok (.laload, 1) := by decide +kernel
theorem dX13_dropThrows_28 : decode cX13_dropThrows 28 = .ok (.invokestatic 37, 3) := by decide +kernel
theorem dX13_dropThrows_31 : decode cX13_dropThrows 31 = .ok (.ifCond .ne 7, 3) := by decide +kernel
theorem dX13_dropThrows_34 : decode cX13_dropThrows 34 = .ok (.iconst 2, 1) := by decide +kernel
theorem dX13_dropThrows_35 : decode cX13_dropThrows 35 = .ok (.goto 24, 3) := by decide +kernel
theorem dX13_dropThrows_38 : decode cX13_dropThrows 38 = .ok (.aload_n 0, 1) := by decide +kernel
theorem dX13_dropThrows_39 : decode cX13_dropThrows 39 = .ok (.getfield 7, 3) := by decide +kernel
theorem dX13_dropThrows_42 : decode cX13_dropThrows 42 = .ok (.sipush 1050, 3) := by decide +kernel
theorem dX13_dropThrows_45 : decode cX13_dropThrows 45 = .ok (.iload 5, 2) := by decide +kernel
theorem dX13_dropThrows_47 : decode cX13_dropThrows 47 = .ok (.iadd, 1) := by decide +kernel
theorem dX13_dropThrows_48 : decode cX13_dropThrows 48 = .ok (.laload, 1) := by decide +kernel
theorem dX13_dropThrows_49 : decode cX13_dropThrows 49 = .ok (.lconst 0, 1) := by decide +kernel
theorem dX13_dropThrows_50 : decode cX13_dropThrows 50 = .ok (.lcmp, 1) := by decide +kernel
theorem dX13_dropThrows_51 : decode cX13_dropThrows 51 = .ok (.ifCond .ne 7, 3) := by decide +kernel
theorem dX13_dropThrows_54 : decode cX13_dropThrows 54 = .ok (.iconst 3, 1) := by decide +kernel
theorem dX13_dropThrows_55 : decode cX13_dropThrows 55 = .ok (.goto 4, 3) := by decide +kernel
theorem dX13_dropThrows_58 : decode cX13_dropThrows 58 = .ok (.iconst 0, 1) := by decide +kernel
theorem dX13_dropThrows_59 : decode cX13_dropThrows 59 = .ok (.ireturn, 1) := by decide +kernel
theorem dX13_doDrop_0 : decode cX13_doDrop 0 = .ok (.aload_n 0, 1) := by decide +kernel
theorem dX13_doDrop_1 : decode cX13_doDrop 1 = .ok (.iload_n 1, 1) := by decide +kernel
theorem dX13_doDrop_2 : decode cX13_doDrop 2 = .ok (.iload_n 2, 1) := by decide +kernel
theorem dX13_doDrop_3 : decode cX13_doDrop 3 = .ok (.iload_n 3, 1) := by decide +kernel
theorem dX13_doDrop_4 : decode cX13_doDrop 4 = .ok (.invokevirtual 114, 3) := by decide +kernel
theorem dX13_doDrop_7 : decode cX13_doDrop 7 = .ok (.istore 5, 2) := by decide +kernel
theorem dX13_doDrop_9 : decode cX13_doDrop 9 = .ok (.aload_n 0, 1) := by decide +kernel
theorem dX13_doDrop_10 : decode cX13_doDrop 10 = .ok (.getfield 7, 3) := by decide +kernel
theorem dX13_doDrop_13 : decode cX13_doDrop 13 = .ok (.sipush 1050, 3) := by decide +kernel
theorem dX13_doDrop_16 : decode cX13_doDrop 16 = .ok (.iload 5, 2) := by decide +kernel
theorem dX13_doDrop_18 : decode cX13_doDrop 18 = .ok (.iadd, 1) := by decide +kernel
theorem dX13_doDrop_19 : decode cX13_doDrop 19 = .ok (.dup2, 1) := by decide +kernel
theorem dX13_doDrop_20 : decode cX13_doDrop 20 = .ok (.laload, 1) := by decide +kernel
theorem dX13_doDrop_21 : decode cX13_doDrop 21 = .ok (.lconst 1, 1) := by decide +kernel
theorem dX13_doDrop_22 : decode cX13_doDrop 22 = .ok (.lsub, 1) := by decide +kernel
theorem dX13_doDrop_23 : decode cX13_doDrop 23 = .ok (.lastore, 1) := by decide +kernel
theorem dX13_doDrop_24 : decode cX13_doDrop 24 = .ok (.aload_n 0, 1) := by decide +kernel
theorem dX13_doDrop_25 : decode cX13_doDrop 25 = .ok (.getfield 7, 3) := by decide +kernel
theorem dX13_doDrop_28 : decode cX13_doDrop 28 = .ok (.sipush 890, 3) := by decide +kernel
theorem dX13_doDrop_31 : decode cX13_doDrop 31 = .ok (.iload 5, 2) := by decide +kernel
theorem dX13_doDrop_33 : decode cX13_doDrop 33 = .ok (.iadd, 1) := by decide +kernel
theorem dX13_doDrop_34 : decode cX13_doDrop 34 = .ok (.dup2, 1) := by decide +kernel
theorem dX13_doDrop_35 : decode cX13_doDrop 35 = .ok (.laload, 1) := by decide +kernel
theorem dX13_doDrop_36 : decode cX13_doDrop 36 = .ok (.aload_n 0, 1) := by decide +kernel
theorem dX13_doDrop_37 : decode cX13_doDrop 37 = .ok (.getfield 7, 3) := by decide +kernel
theorem dX13_doDrop_40 : decode cX13_doDrop 40 = .ok (.bipush 89, 2) := by decide +kernel
theorem dX13_doDrop_42 : decode cX13_doDrop 42 = .ok (.laload, 1) := by decide +kernel
theorem dX13_doDrop_43 : decode cX13_doDrop 43 = .ok (.iload 4, 2) := by decide +kernel
theorem dX13_doDrop_45 : decode cX13_doDrop 45 = .ok (.i2l, 1) := by decide +kernel
theorem dX13_doDrop_46 : decode cX13_doDrop 46 = .ok (.lsub, 1) := by decide +kernel
theorem dX13_doDrop_47 : decode cX13_doDrop 47 = .ok (.ladd, 1) := by decide +kernel
theorem dX13_doDrop_48 : decode cX13_doDrop 48 = .ok (.lastore, 1) := by decide +kernel
theorem dX13_doDrop_49 : decode cX13_doDrop 49 = .ok (.aload_n 0, 1) := by decide +kernel
theorem dX13_doDrop_50 : decode cX13_doDrop 50 = .ok (.iload 5, 2) := by decide +kernel
theorem dX13_doDrop_52 : decode cX13_doDrop 52 = .ok (.invokevirtual 156, 3) := by decide +kernel
theorem dX13_doDrop_55 : decode cX13_doDrop 55 = .ok (.aload_n 0, 1) := by decide +kernel
theorem dX13_doDrop_56 : decode cX13_doDrop 56 = .ok (.iload 4, 2) := by decide +kernel
theorem dX13_doDrop_58 : decode cX13_doDrop 58 = .ok (.i2l, 1) := by decide +kernel
theorem dX13_doDrop_59 : decode cX13_doDrop 59 = .ok (.invokevirtual 166, 3) := by decide +kernel
theorem dX13_doDrop_62 : decode cX13_doDrop 62 = .ok (.aload_n 0, 1) := by decide +kernel
theorem dX13_doDrop_63 : decode cX13_doDrop 63 = .ok (.getfield 7, 3) := by decide +kernel
theorem dX13_doDrop_66 : decode cX13_doDrop 66 = .ok (.sipush 1050, 3) := by decide +kernel
theorem dX13_doDrop_69 : decode cX13_doDrop 69 = .ok (.iload 5, 2) := by decide +kernel
theorem dX13_doDrop_71 : decode cX13_doDrop 71 = .ok (.iadd, 1) := by decide +kernel
theorem dX13_doDrop_72 : decode cX13_doDrop 72 = .ok (.laload, 1) := by decide +kernel
theorem dX13_doDrop_73 : decode cX13_doDrop 73 = .ok (.l2i, 1) := by decide +kernel
theorem dX13_doDrop_74 : decode cX13_doDrop 74 = .ok (.ireturn, 1) := by decide +kernel
theorem dX13_drop_0 : decode cX13_drop 0 = .ok (.aload_n 0, 1) := by decide +kernel
theorem dX13_drop_1 : decode cX13_drop 1 = .ok (.iconst 0, 1) := by decide +kernel
theorem dX13_drop_2 : decode cX13_drop 2 = .ok (.putfield 31, 3) := by decide +kernel
theorem dX13_drop_5 : decode cX13_drop 5 = .ok (.aload_n 0, 1) := by decide +kernel
theorem dX13_drop_6 : decode cX13_drop 6 = .ok (.iload_n 1, 1) := by decide +kernel
theorem dX13_drop_7 : decode cX13_drop 7 = .ok (.iload_n 2, 1) := by decide +kernel
theorem dX13_drop_8 : decode cX13_drop 8 = .ok (.iload_n 3, 1) := by decide +kernel
theorem dX13_drop_9 : decode cX13_drop 9 = .ok (.iload 4, 2) := by decide +kernel
theorem dX13_drop_11 : decode cX13_drop 11 = .ok (.invokevirtual 170, 3) := by decide +kernel
theorem dX13_drop_14 : decode cX13_drop 14 = .ok (.istore 5, 2) := by decide +kernel
theorem dX13_drop_16 : decode cX13_drop 16 = .ok (.iload 5, 2) := by decide +kernel
theorem dX13_drop_18 : decode cX13_drop 18 = .ok (.ifCond .le 10, 3) := by decide +kernel
theorem dX13_drop_21 : decode cX13_drop 21 = .ok (.aload_n 0, 1) := by decide +kernel
theorem dX13_drop_22 : decode cX13_drop 22 = .ok (.iload 5, 2) := by decide +kernel
theorem dX13_drop_24 : decode cX13_drop 24 = .ok (.invokevirtual 54, 3) := by decide +kernel
theorem dX13_drop_27 : decode cX13_drop 27 = .ok (.ireturn, 1) := by decide +kernel
theorem dX13_drop_28 : decode cX13_drop 28 = .ok (.aload_n 0, 1) := by decide +kernel
theorem dX13_drop_29 : decode cX13_drop 29 = .ok (.invokevirtual 60, 3) := by decide +kernel
theorem dX13_drop_32 : decode cX13_drop 32 = .ok (.aload_n 0, 1) := by decide +kernel
theorem dX13_drop_33 : decode cX13_drop 33 = .ok (.iload_n 1, 1) := by decide +kernel
theorem dX13_drop_34 : decode cX13_drop 34 = .ok (.iload_n 2, 1) := by decide +kernel
theorem dX13_drop_35 : decode cX13_drop 35 = .ok (.iload_n 3, 1) := by decide +kernel
theorem dX13_drop_36 : decode cX13_drop 36 = .ok (.iload 4, 2) := by decide +kernel
theorem dX13_drop_38 : decode cX13_drop 38 = .ok (.invokevirtual 173, 3) := by decide +kernel
theorem dX13_drop_41 : decode cX13_drop 41 = .ok (.ireturn, 1) := by decide +kernel
theorem dX13_isDelivery_0 : decode cX13_isDelivery 0 = .ok (.iload_n 1, 1) := by decide +kernel
theorem dX13_isDelivery_1 : decode cX13_isDelivery 1 = .ok (.i2l, 1) := by decide +kernel
theorem dX13_isDelivery_2 : decode cX13_isDelivery 2 = .ok (.lconst 0, 1) := by decide +kernel
theorem dX13_isDelivery_3 : decode cX13_isDelivery 3 = .ok (.aload_n 0, 1) := by decide +kernel
theorem dX13_isDelivery_4 : decode cX13_isDelivery 4 = .ok (.getfield 7, 3) := by decide +kernel
theorem dX13_isDelivery_7 : decode cX13_isDelivery 7 = .ok (.sipush 1615, 3) := by decide +kernel
theorem dX13_isDelivery_10 : decode cX13_isDelivery 10 = .ok (.laload, 1) := by decide +kernel
theorem dX13_isDelivery_11 : decode cX13_isDelivery 11 = .ok (.lconst 1, 1) := by decide +kernel
theorem dX13_isDelivery_12 : decode cX13_isDelivery 12 = .ok (.lsub, 1) := by decide +kernel
theorem dX13_isDelivery_13 : decode cX13_isDelivery 13 = .ok (.invokestatic 37, 3) := by decide +kernel
theorem dX13_isDelivery_16 : decode cX13_isDelivery 16 = .ok (.ireturn, 1) := by decide +kernel
theorem dX13_takeBack_0 : decode cX13_takeBack 0 = .ok (.aload_n 0, 1) := by decide +kernel
theorem dX13_takeBack_1 : decode cX13_takeBack 1 = .ok (.iconst 0, 1) := by decide +kernel
theorem dX13_takeBack_2 : decode cX13_takeBack 2 = .ok (.putfield 31, 3) := by decide +kernel
theorem dX13_takeBack_5 : decode cX13_takeBack 5 = .ok (.aload_n 0, 1) := by decide +kernel
theorem dX13_takeBack_6 : decode cX13_takeBack 6 = .ok (.iload_n 1, 1) := by decide +kernel
theorem dX13_takeBack_7 : decode cX13_takeBack 7 = .ok (.invokevirtual 176, 3) := by decide +kernel
theorem dX13_takeBack_10 : decode cX13_takeBack 10 = .ok (.ifCond .ne 9, 3) := by decide +kernel
theorem dX13_takeBack_13 : decode cX13_takeBack 13 = .ok (.aload_n 0, 1) := by decide +kernel
theorem dX13_takeBack_14 : decode cX13_takeBack 14 = .ok (.iconst 1, 1) := by decide +kernel
theorem dX13_takeBack_15 : decode cX13_takeBack 15 = .ok (.invokevirtual 54, 3) := by decide +kernel
theorem dX13_takeBack_18 : decode cX13_takeBack 18 = .ok (.ireturn, 1) := by decide +kernel
theorem dX13_takeBack_19 : decode cX13_takeBack 19 = .ok (.iload_n 2, 1) := by decide +kernel
theorem dX13_takeBack_20 : decode cX13_takeBack 20 = .ok (.invokestatic 147, 3) := by decide +kernel
theorem dX13_takeBack_23 : decode cX13_takeBack 23 = .ok (.ifCond .eq 22, 3) := by decide +kernel
theorem dX13_takeBack_26 : decode cX13_takeBack 26 = .ok (.iload_n 3, 1) := by decide +kernel
theorem dX13_takeBack_27 : decode cX13_takeBack 27 = .ok (.i2l, 1) := by decide +kernel
theorem dX13_takeBack_28 : decode cX13_takeBack 28 = .ok (.lconst 0, 1) := by decide +kernel
theorem dX13_takeBack_29 : decode cX13_takeBack 29 = .ok (.iload_n 2, 1) := by decide +kernel
theorem dX13_takeBack_30 : decode cX13_takeBack 30 = .ok (.i2l, 1) := by decide +kernel
theorem dX13_takeBack_31 : decode cX13_takeBack 31 = .ok (.aload_n 0, 1) := by decide +kernel
theorem dX13_takeBack_32 : decode cX13_takeBack 32 = .ok (.getfield 7, 3) := by decide +kernel
theorem dX13_takeBack_35 : decode cX13_takeBack 35 = .ok (.bipush 89, 2) := by decide +kernel
theorem dX13_takeBack_37 : decode cX13_takeBack 37 = .ok (.laload, 1) := by decide +kernel
theorem dX13_takeBack_38 : decode cX13_takeBack 38 = .ok (.lmul, 1) := by decide +kernel
theorem dX13_takeBack_39 : decode cX13_takeBack 39 = .ok (.invokestatic 37, 3) := by decide +kernel
theorem dX13_takeBack_42 : decode cX13_takeBack 42 = .ok (.ifCond .ne 9, 3) := by decide +kernel
theorem dX13_takeBack_45 : decode cX13_takeBack 45 = .ok (.aload_n 0, 1) := by decide +kernel
theorem dX13_takeBack_46 : decode cX13_takeBack 46 = .ok (.iconst 2, 1) := by decide +kernel
theorem dX13_takeBack_47 : decode cX13_takeBack 47 = .ok (.invokevirtual 54, 3) := by decide +kernel
theorem dX13_takeBack_50 : decode cX13_takeBack 50 = .ok (.ireturn, 1) := by decide +kernel
theorem dX13_takeBack_51 : decode cX13_takeBack 51 = .ok (.aload_n 0, 1) := by decide +kernel
theorem dX13_takeBack_52 : decode cX13_takeBack 52 = .ok (.getfield 7, 3) := by decide +kernel
theorem dX13_takeBack_55 : decode cX13_takeBack 55 = .ok (.sipush 1450, 3) := by decide +kernel
theorem dX13_takeBack_58 : decode cX13_takeBack 58 = .ok (.iload_n 1, 1) := by decide +kernel
theorem dX13_takeBack_59 : decode cX13_takeBack 59 = .ok (.iadd, 1) := by decide +kernel
theorem dX13_takeBack_60 : decode cX13_takeBack 60 = .ok (.laload, 1) := by decide +kernel
theorem dX13_takeBack_61 : decode cX13_takeBack 61 = .ok (.iload_n 2, 1) := by decide +kernel
theorem dX13_takeBack_62 : decode cX13_takeBack 62 = .ok (.i2l, 1) := by decide +kernel
theorem dX13_takeBack_63 : decode cX13_takeBack 63 = .ok (.lcmp, 1) := by decide +kernel
theorem dX13_takeBack_64 : decode cX13_takeBack 64 = .ok (.ifCond .ge 9, 3) := by decide +kernel
theorem dX13_takeBack_67 : decode cX13_takeBack 67 = .ok (.aload_n 0, 1) := by decide +kernel
theorem dX13_takeBack_68 : decode cX13_takeBack 68 = .ok (.iconst 3, 1) := by decide +kernel
theorem dX13_takeBack_69 : decode cX13_takeBack 69 = .ok (.invokevirtual 54, 3) := by decide +kernel
theorem dX13_takeBack_72 : decode cX13_takeBack 72 = .ok (.ireturn, 1) := by decide +kernel
theorem dX13_takeBack_73 : decode cX13_takeBack 73 = .ok (.aload_n 0, 1) := by decide +kernel
theorem dX13_takeBack_74 : decode cX13_takeBack 74 = .ok (.invokevirtual 60, 3) := by decide +kernel
theorem dX13_takeBack_77 : decode cX13_takeBack 77 = .ok (.aload_n 0, 1) := by decide +kernel
theorem dX13_takeBack_78 : decode cX13_takeBack 78 = .ok (.getfield 7, 3) := by decide +kernel
theorem dX13_takeBack_81 : decode cX13_takeBack 81 = .ok (.sipush 1370, 3) := by decide +kernel
theorem dX13_takeBack_84 : decode cX13_takeBack 84 = .ok (.iload_n 1, 1) := by decide +kernel
theorem dX13_takeBack_85 : decode cX13_takeBack 85 = .ok (.iadd, 1) := by decide +kernel
theorem dX13_takeBack_86 : decode cX13_takeBack 86 = .ok (.laload, 1) := by decide +kernel
theorem dX13_takeBack_87 : decode cX13_takeBack 87 = .ok (.l2i, 1) := by decide +kernel
theorem dX13_takeBack_88 : decode cX13_takeBack 88 = .ok (.istore 4, 2) := by decide +kernel
theorem dX13_takeBack_90 : decode cX13_takeBack 90 = .ok (.aload_n 0, 1) := by decide +kernel
theorem dX13_takeBack_91 : decode cX13_takeBack 91 = .ok (.getfield 7, 3) := by decide +kernel
theorem dX13_takeBack_94 : decode cX13_takeBack 94 = .ok (.sipush 1450, 3) := by decide +kernel
theorem dX13_takeBack_97 : decode cX13_takeBack 97 = .ok (.iload_n 1, 1) := by decide +kernel
theorem dX13_takeBack_98 : decode cX13_takeBack 98 = .ok (.iadd, 1) := by decide +kernel
theorem dX13_takeBack_99 : decode cX13_takeBack 99 = .ok (.dup2, 1) := by decide +kernel
theorem dX13_takeBack_100 : decode cX13_takeBack 100 = .ok (.laload, 1) := by decide +kernel
theorem dX13_takeBack_101 : decode cX13_takeBack 101 = .ok (.iload_n 2, 1) := by decide +kernel
theorem dX13_takeBack_102 : decode cX13_takeBack 102 = .ok (.i2l, 1) := by decide +kernel
theorem dX13_takeBack_103 : decode cX13_takeBack 103 = .ok (.lsub, 1) := by decide +kernel
theorem dX13_takeBack_104 : decode cX13_takeBack 104 = .ok (.lastore, 1) := by decide +kernel
theorem dX13_takeBack_105 : decode cX13_takeBack 105 = .ok (.aload_n 0, 1) := by decide +kernel
theorem dX13_takeBack_106 : decode cX13_takeBack 106 = .ok (.getfield 7, 3) := by decide +kernel
theorem dX13_takeBack_109 : decode cX13_takeBack 109 = .ok (.sipush 890, 3) := by decide +kernel
theorem dX13_takeBack_112 : decode cX13_takeBack 112 = .ok (.iload 4, 2) := by decide +kernel
theorem dX13_takeBack_114 : decode cX13_takeBack 114 = .ok (.iadd, 1) := by decide +kernel
theorem dX13_takeBack_115 : decode cX13_takeBack 115 = .ok (.dup2, 1) := by decide +kernel
theorem dX13_takeBack_116 : decode cX13_takeBack 116 = .ok (.laload, 1) := by decide +kernel
theorem dX13_takeBack_117 : decode cX13_takeBack 117 = .ok (.iload_n 2, 1) := by decide +kernel
theorem dX13_takeBack_118 : decode cX13_takeBack 118 = .ok (.i2l, 1) := by decide +kernel
theorem dX13_takeBack_119 : decode cX13_takeBack 119 = .ok (.aload_n 0, 1) := by decide +kernel
theorem dX13_takeBack_120 : decode cX13_takeBack 120 = .ok (.getfield 7, 3) := by decide +kernel
theorem dX13_takeBack_123 : decode cX13_takeBack 123 = .ok (.bipush 89, 2) := by decide +kernel
theorem dX13_takeBack_125 : decode cX13_takeBack 125 = .ok (.laload, 1) := by decide +kernel
theorem dX13_takeBack_126 : decode cX13_takeBack 126 = .ok (.lmul, 1) := by decide +kernel
theorem dX13_takeBack_127 : decode cX13_takeBack 127 = .ok (.iload_n 3, 1) := by decide +kernel
theorem dX13_takeBack_128 : decode cX13_takeBack 128 = .ok (.i2l, 1) := by decide +kernel
theorem dX13_takeBack_129 : decode cX13_takeBack 129 = .ok (.lsub, 1) := by decide +kernel
theorem dX13_takeBack_130 : decode cX13_takeBack 130 = .ok (.ladd, 1) := by decide +kernel
theorem dX13_takeBack_131 : decode cX13_takeBack 131 = .ok (.lastore, 1) := by decide +kernel
theorem dX13_takeBack_132 : decode cX13_takeBack 132 = .ok (.aload_n 0, 1) := by decide +kernel
theorem dX13_takeBack_133 : decode cX13_takeBack 133 = .ok (.iload_n 3, 1) := by decide +kernel
theorem dX13_takeBack_134 : decode cX13_takeBack 134 = .ok (.i2l, 1) := by decide +kernel
theorem dX13_takeBack_135 : decode cX13_takeBack 135 = .ok (.invokevirtual 166, 3) := by decide +kernel
theorem dX13_takeBack_138 : decode cX13_takeBack 138 = .ok (.aload_n 0, 1) := by decide +kernel
theorem dX13_takeBack_139 : decode cX13_takeBack 139 = .ok (.getfield 7, 3) := by decide +kernel
theorem dX13_takeBack_142 : decode cX13_takeBack 142 = .ok (.sipush 1450, 3) := by decide +kernel
theorem dX13_takeBack_145 : decode cX13_takeBack 145 = .ok (.iload_n 1, 1) := by decide +kernel
theorem dX13_takeBack_146 : decode cX13_takeBack 146 = .ok (.iadd, 1) := by decide +kernel
theorem dX13_takeBack_147 : decode cX13_takeBack 147 = .ok (.laload, 1) := by decide +kernel
theorem dX13_takeBack_148 : decode cX13_takeBack 148 = .ok (.l2i, 1) := by decide +kernel
theorem dX13_takeBack_149 : decode cX13_takeBack 149 = .ok (.ireturn, 1) := by decide +kernel
theorem dX13_replace_0 : decode cX13_replace 0 = .ok (.aload_n 0, 1) := by decide +kernel
theorem dX13_replace_1 : decode cX13_replace 1 = .ok (.iconst 0, 1) := by decide +kernel
theorem dX13_replace_2 : decode cX13_replace 2 = .ok (.putfield 31, 3) := by decide +kernel
theorem dX13_replace_5 : decode cX13_replace 5 = .ok (.aload_n 0, 1) := by decide +kernel
theorem dX13_replace_6 : decode cX13_replace 6 = .ok (.iload_n 1, 1) := by decide +kernel
theorem dX13_replace_7 : decode cX13_replace 7 = .ok (.invokevirtual 176, 3) := by decide +kernel
theorem dX13_replace_10 : decode cX13_replace 10 = .ok (.ifCond .ne 9, 3) := by decide +kernel
theorem dX13_replace_13 : decode cX13_replace 13 = .ok (.aload_n 0, 1) := by decide +kernel
theorem dX13_replace_14 : decode cX13_replace 14 = .ok (.iconst 1, 1) := by decide +kernel
theorem dX13_replace_15 : decode cX13_replace 15 = .ok (.invokevirtual 54, 3) := by decide +kernel
theorem dX13_replace_18 : decode cX13_replace 18 = .ok (.ireturn, 1) := by decide +kernel
theorem dX13_replace_19 : decode cX13_replace 19 = .ok (.aload_n 0, 1) := by decide +kernel
theorem dX13_replace_20 : decode cX13_replace 20 = .ok (.getfield 7, 3) := by decide +kernel
theorem dX13_replace_23 : decode cX13_replace 23 = .ok (.sipush 1370, 3) := by decide +kernel
theorem dX13_replace_26 : decode cX13_replace 26 = .ok (.iload_n 1, 1) := by decide +kernel
theorem dX13_replace_27 : decode cX13_replace 27 = .ok (.iadd, 1) := by decide +kernel
theorem dX13_replace_28 : decode cX13_replace 28 = .ok (.laload, 1) := by decide +kernel
theorem dX13_replace_29 : decode cX13_replace 29 = .ok (.l2i, 1) := by decide +kernel
theorem dX13_replace_30 : decode cX13_replace 30 = .ok (.istore_n 2, 1) := by decide +kernel
theorem dX13_replace_31 : decode cX13_replace 31 = .ok (.aload_n 0, 1) := by decide +kernel
theorem dX13_replace_32 : decode cX13_replace 32 = .ok (.getfield 7, 3) := by decide +kernel
theorem dX13_replace_35 : decode cX13_replace 35 = .ok (.sipush 1490, 3) := by decide +kernel
theorem dX13_replace_38 : decode cX13_replace 38 = .ok (.iload_n 1, 1) := by decide +kernel
theorem dX13_replace_39 : decode cX13_replace 39 = .ok (.iadd, 1) := by decide +kernel
theorem dX13_replace_40 : decode cX13_replace 40 = .ok (.laload, 1) := by decide +kernel
theorem dX13_replace_41 : decode cX13_replace 41 = .ok (.lstore_n 3, 1) := by decide +kernel
theorem dX13_replace_42 : decode cX13_replace 42 = .ok (.lload_n 3, 1) := by decide +kernel
theorem dX13_replace_43 : decode cX13_replace 43 = .ok (.lconst 0, 1) := by decide +kernel
theorem dX13_replace_44 : decode cX13_replace 44 = .ok (.lcmp, 1) := by decide +kernel
theorem dX13_replace_45 : decode cX13_replace 45 = .ok (.ifCond .eq 18, 3) := by decide +kernel
theorem dX13_replace_48 : decode cX13_replace 48 = .ok (.aload_n 0, 1) := by decide +kernel
theorem dX13_replace_49 : decode cX13_replace 49 = .ok (.getfield 7, 3) := by decide +kernel
theorem dX13_replace_52 : decode cX13_replace 52 = .ok (.sipush 890, 3) := by decide +kernel
theorem dX13_replace_55 : decode cX13_replace 55 = .ok (.iload_n 2, 1) := by decide +kernel
theorem dX13_replace_56 : decode cX13_replace 56 = .ok (.iadd, 1) := by decide +kernel
theorem dX13_replace_57 : decode cX13_replace 57 = .ok (.laload, 1) := by decide +kernel
theorem dX13_replace_58 : decode cX13_replace 58 = .ok (.lload_n 3, 1) := by decide +kernel
theorem dX13_replace_59 : decode cX13_replace 59 = .ok (.lcmp, 1) := by decide +kernel
theorem dX13_replace_60 : decode cX13_replace 60 = .ok (.ifCond .ge 9, 3) := by decide +kernel
theorem dX13_replace_63 : decode cX13_replace 63 = .ok (.aload_n 0, 1) := by decide +kernel
theorem dX13_replace_64 : decode cX13_replace 64 = .ok (.iconst 2, 1) := by decide +kernel
theorem dX13_replace_65 : decode cX13_replace 65 = .ok (.invokevirtual 54, 3) := by decide +kernel
theorem dX13_replace_68 : decode cX13_replace 68 = .ok (.ireturn, 1) := by decide +kernel
theorem dX13_replace_69 : decode cX13_replace 69 = .ok (.aload_n 0, 1) := by decide +kernel
theorem dX13_replace_70 : decode cX13_replace 70 = .ok (.invokevirtual 60, 3) := by decide +kernel
theorem dX13_replace_73 : decode cX13_replace 73 = .ok (.aload_n 0, 1) := by decide +kernel
theorem dX13_replace_74 : decode cX13_replace 74 = .ok (.getfield 7, 3) := by decide +kernel
theorem dX13_replace_77 : decode cX13_replace 77 = .ok (.sipush 1490, 3) := by decide +kernel
theorem dX13_replace_80 : decode cX13_replace 80 = .ok (.iload_n 1, 1) := by decide +kernel
theorem dX13_replace_81 : decode cX13_replace 81 = .ok (.iadd, 1) := by decide +kernel
theorem dX13_replace_82 : decode cX13_replace 82 = .ok (.lconst 0, 1) := by decide +kernel
theorem dX13_replace_83 : decode cX13_replace 83 = .ok (.lastore, 1) := by decide +kernel
theorem dX13_replace_84 : decode cX13_replace 84 = .ok (.aload_n 0, 1) := by decide +kernel
theorem dX13_replace_85 : decode cX13_replace 85 = .ok (.getfield 7, 3) := by decide +kernel
theorem dX13_replace_88 : decode cX13_replace 88 = .ok (.sipush 890, 3) := by decide +kernel
theorem dX13_replace_91 : decode cX13_replace 91 = .ok (.iload_n 2, 1) := by decide +kernel
theorem dX13_replace_92 : decode cX13_replace 92 = .ok (.iadd, 1) := by decide +kernel
theorem dX13_replace_93 : decode cX13_replace 93 = .ok (.dup2, 1) := by decide +kernel
theorem dX13_replace_94 : decode cX13_replace 94 = .ok (.laload, 1) := by decide +kernel
theorem dX13_replace_95 : decode cX13_replace 95 = .ok (.lload_n 3, 1) := by decide +kernel
theorem dX13_replace_96 : decode cX13_replace 96 = .ok (.lsub, 1) := by decide +kernel
theorem dX13_replace_97 : decode cX13_replace 97 = .ok (.lastore, 1) := by decide +kernel
theorem dX13_replace_98 : decode cX13_replace 98 = .ok (.aload_n 0, 1) := by decide +kernel
theorem dX13_replace_99 : decode cX13_replace 99 = .ok (.iload_n 2, 1) := by decide +kernel
theorem dX13_replace_100 : decode cX13_replace 100 = .ok (.invokevirtual 156, 3) := by decide +kernel
theorem dX13_replace_103 : decode cX13_replace 103 = .ok (.aload_n 0, 1) := by decide +kernel
theorem dX13_replace_104 : decode cX13_replace 104 = .ok (.lload_n 3, 1) := by decide +kernel
theorem dX13_replace_105 : decode cX13_replace 105 = .ok (.invokevirtual 166, 3) := by decide +kernel
theorem dX13_replace_108 : decode cX13_replace 108 = .ok (.lload_n 3, 1) := by decide +kernel
theorem dX13_replace_109 : decode cX13_replace 109 = .ok (.l2i, 1) := by decide +kernel
theorem dX13_replace_110 : decode cX13_replace 110 = .ok (.ireturn, 1) := by decide +kernel
theorem dX13_undo_0 : decode cX13_undo 0 = .ok (.aload_n 0, 1) := by decide +kernel
theorem dX13_undo_1 : decode cX13_undo 1 = .ok (.iconst 0, 1) := by decide +kernel
theorem dX13_undo_2 : decode cX13_undo 2 = .ok (.putfield 31, 3) := by decide +kernel
theorem dX13_undo_5 : decode cX13_undo 5 = .ok (.aload_n 0, 1) := by decide +kernel
theorem dX13_undo_6 : decode cX13_undo 6 = .ok (.getfield 45, 3) := by decide +kernel
theorem dX13_undo_9 : decode cX13_undo 9 = .ok (.ifCond .ne 9, 3) := by decide +kernel
theorem dX13_undo_12 : decode cX13_undo 12 = .ok (.aload_n 0, 1) := by decide +kernel
theorem dX13_undo_13 : decode cX13_undo 13 = .ok (.iconst 1, 1) := by decide +kernel
theorem dX13_undo_14 : decode cX13_undo 14 = .ok (.invokevirtual 54, 3) := by decide +kernel
theorem dX13_undo_17 : decode cX13_undo 17 = .ok (.ireturn, 1) := by decide +kernel
theorem dX13_undo_18 : decode cX13_undo 18 = .ok (.aload_n 0, 1) := by decide +kernel
theorem dX13_undo_19 : decode cX13_undo 19 = .ok (.dup, 1) := by decide +kernel
theorem dX13_undo_20 : decode cX13_undo 20 = .ok (.getfield 45, 3) := by decide +kernel
theorem dX13_undo_23 : decode cX13_undo 23 = .ok (.iconst 1, 1) := by decide +kernel
theorem dX13_undo_24 : decode cX13_undo 24 = .ok (.isub, 1) := by decide +kernel
theorem dX13_undo_25 : decode cX13_undo 25 = .ok (.putfield 45, 3) := by decide +kernel
theorem dX13_undo_28 : decode cX13_undo 28 = .ok (.iconst 0, 1) := by decide +kernel
theorem dX13_undo_29 : decode cX13_undo 29 = .ok (.istore_n 1, 1) := by decide +kernel
theorem dX13_undo_30 : decode cX13_undo 30 = .ok (.iload_n 1, 1) := by decide +kernel
theorem dX13_undo_31 : decode cX13_undo 31 = .ok (.sipush 1618, 3) := by decide +kernel
theorem dX13_undo_34 : decode cX13_undo 34 = .ok (.if_icmp .ge 30, 3) := by decide +kernel
theorem dX13_undo_37 : decode cX13_undo 37 = .ok (.aload_n 0, 1) := by decide +kernel
theorem dX13_undo_38 : decode cX13_undo 38 = .ok (.getfield 7, 3) := by decide +kernel
theorem dX13_undo_41 : decode cX13_undo 41 = .ok (.iload_n 1, 1) := by decide +kernel
theorem dX13_undo_42 : decode cX13_undo 42 = .ok (.aload_n 0, 1) := by decide +kernel
theorem dX13_undo_43 : decode cX13_undo 43 = .ok (.getfield 13, 3) := by decide +kernel
theorem dX13_undo_46 : decode cX13_undo 46 = .ok (.aload_n 0, 1) := by decide +kernel
theorem dX13_undo_47 : decode cX13_undo 47 = .ok (.getfield 45, 3) := by decide +kernel
theorem dX13_undo_50 : decode cX13_undo 50 = .ok (.sipush 1618, 3) := by decide +kernel
theorem dX13_undo_53 : decode cX13_undo 53 = .ok (.imul, 1) := by decide +kernel
theorem dX13_undo_54 : decode cX13_undo 54 = .ok (.iload_n 1, 1) := by decide +kernel
theorem dX13_undo_55 : decode cX13_undo 55 = .ok (.iadd, 1) := by decide +kernel
theorem dX13_undo_56 : decode cX13_undo 56 = .ok (.laload, 1) := by decide +kernel
theorem dX13_undo_57 : decode cX13_undo 57 = .ok (.lastore, 1) := by decide +kernel
theorem dX13_undo_58 : decode cX13_undo 58 = .ok (.iinc 1 1, 3) := by decide +kernel
theorem dX13_undo_61 : decode cX13_undo 61 = .ok (.goto (-31), 3) := by decide +kernel
theorem dX13_undo_64 : decode cX13_undo 64 = .ok (.aload_n 0, 1) := by decide +kernel
theorem dX13_undo_65 : decode cX13_undo 65 = .ok (.getfield 45, 3) := by decide +kernel
theorem dX13_undo_68 : decode cX13_undo 68 = .ok (.ireturn, 1) := by decide +kernel
theorem dX13_lotsOf_0 : decode cX13_lotsOf 0 = .ok (.iconst 0, 1) := by decide +kernel
theorem dX13_lotsOf_1 : decode cX13_lotsOf 1 = .ok (.istore_n 2, 1) := by decide +kernel
theorem dX13_lotsOf_2 : decode cX13_lotsOf 2 = .ok (.iconst 0, 1) := by decide +kernel
theorem dX13_lotsOf_3 : decode cX13_lotsOf 3 = .ok (.istore_n 3, 1) := by decide +kernel
theorem dX13_lotsOf_4 : decode cX13_lotsOf 4 = .ok (.iload_n 3, 1) := by decide +kernel
theorem dX13_lotsOf_5 : decode cX13_lotsOf 5 = .ok (.i2l, 1) := by decide +kernel
theorem dX13_lotsOf_6 : decode cX13_lotsOf 6 = .ok (.aload_n 0, 1) := by decide +kernel
theorem dX13_lotsOf_7 : decode cX13_lotsOf 7 = .ok (.getfield 7, 3) := by decide +kernel
theorem dX13_lotsOf_10 : decode cX13_lotsOf 10 = .ok (.sipush 1614, 3) := by decide +kernel
theorem dX13_lotsOf_13 : decode cX13_lotsOf 13 = .ok (.laload, 1) := by decide +kernel
theorem dX13_lotsOf_14 : decode cX13_lotsOf 14 = .ok (.lcmp, 1) := by decide +kernel
theorem dX13_lotsOf_15 : decode cX13_lotsOf 15 = .ok (.ifCond .ge 33, 3) := by decide +kernel
theorem dX13_lotsOf_18 : decode cX13_lotsOf 18 = .ok (.iload_n 2, 1) := by decide +kernel
theorem dX13_lotsOf_19 : decode cX13_lotsOf 19 = .ok (.aload_n 0, 1) := by decide +kernel
theorem dX13_lotsOf_20 : decode cX13_lotsOf 20 = .ok (.getfield 7, 3) := by decide +kernel
theorem dX13_lotsOf_23 : decode cX13_lotsOf 23 = .ok (.sipush 410, 3) := by decide +kernel
theorem dX13_lotsOf_26 : decode cX13_lotsOf 26 = .ok (.iload_n 3, 1) := by decide +kernel
theorem dX13_lotsOf_27 : decode cX13_lotsOf 27 = .ok (.iadd, 1) := by decide +kernel
theorem dX13_lotsOf_28 : decode cX13_lotsOf 28 = .ok (.laload, 1) := by decide +kernel
theorem dX13_lotsOf_29 : decode cX13_lotsOf 29 = .ok (.iload_n 1, 1) := by decide +kernel
theorem dX13_lotsOf_30 : decode cX13_lotsOf 30 = .ok (.i2l, 1) := by decide +kernel
theorem dX13_lotsOf_31 : decode cX13_lotsOf 31 = .ok (.lcmp, 1) := by decide +kernel
theorem dX13_lotsOf_32 : decode cX13_lotsOf 32 = .ok (.ifCond .ne 7, 3) := by decide +kernel
theorem dX13_lotsOf_35 : decode cX13_lotsOf 35 = .ok (.iconst 1, 1) := by decide +kernel
theorem dX13_lotsOf_36 : decode cX13_lotsOf 36 = .ok (.goto 4, 3) := by decide +kernel
theorem dX13_lotsOf_39 : decode cX13_lotsOf 39 = .ok (.iconst 0, 1) := by decide +kernel
theorem dX13_lotsOf_40 : decode cX13_lotsOf 40 = .ok (.iadd, 1) := by decide +kernel
theorem dX13_lotsOf_41 : decode cX13_lotsOf 41 = .ok (.istore_n 2, 1) := by decide +kernel
theorem dX13_lotsOf_42 : decode cX13_lotsOf 42 = .ok (.iinc 3 1, 3) := by decide +kernel
theorem dX13_lotsOf_45 : decode cX13_lotsOf 45 = .ok (.goto (-41), 3) := by decide +kernel
theorem dX13_lotsOf_48 : decode cX13_lotsOf 48 = .ok (.iload_n 2, 1) := by decide +kernel
theorem dX13_lotsOf_49 : decode cX13_lotsOf 49 = .ok (.ireturn, 1) := by decide +kernel
theorem dX13_tilesOf_0 : decode cX13_tilesOf 0 = .ok (.lconst 0, 1) := by decide +kernel
theorem dX13_tilesOf_1 : decode cX13_tilesOf 1 = .ok (.lstore_n 2, 1) := by decide +kernel
theorem dX13_tilesOf_2 : decode cX13_tilesOf 2 = .ok (.iconst 0, 1) := by decide +kernel
theorem dX13_tilesOf_3 : decode cX13_tilesOf 3 = .ok (.istore 4, 2) := by decide +kernel
theorem dX13_tilesOf_5 : decode cX13_tilesOf 5 = .ok (.iload 4, 2) := by decide +kernel
theorem dX13_tilesOf_7 : decode cX13_tilesOf 7 = .ok (.i2l, 1) := by decide +kernel
theorem dX13_tilesOf_8 : decode cX13_tilesOf 8 = .ok (.aload_n 0, 1) := by decide +kernel
theorem dX13_tilesOf_9 : decode cX13_tilesOf 9 = .ok (.getfield 7, 3) := by decide +kernel
theorem dX13_tilesOf_12 : decode cX13_tilesOf 12 = .ok (.sipush 1614, 3) := by decide +kernel
theorem dX13_tilesOf_15 : decode cX13_tilesOf 15 = .ok (.laload, 1) := by decide +kernel
theorem dX13_tilesOf_16 : decode cX13_tilesOf 16 = .ok (.lcmp, 1) := by decide +kernel
theorem dX13_tilesOf_17 : decode cX13_tilesOf 17 = .ok (.ifCond .ge 39, 3) := by decide +kernel
theorem dX13_tilesOf_20 : decode cX13_tilesOf 20 = .ok (.lload_n 2, 1) := by decide +kernel
theorem dX13_tilesOf_21 : decode cX13_tilesOf 21 = .ok (.aload_n 0, 1) := by decide +kernel
theorem dX13_tilesOf_22 : decode cX13_tilesOf 22 = .ok (.getfield 7, 3) := by decide +kernel
theorem dX13_tilesOf_25 : decode cX13_tilesOf 25 = .ok (.sipush 410, 3) := by decide +kernel
theorem dX13_tilesOf_28 : decode cX13_tilesOf 28 = .ok (.iload 4, 2) := by decide +kernel
theorem dX13_tilesOf_30 : decode cX13_tilesOf 30 = .ok (.iadd, 1) := by decide +kernel
theorem dX13_tilesOf_31 : decode cX13_tilesOf 31 = .ok (.laload, 1) := by decide +kernel
theorem dX13_tilesOf_32 : decode cX13_tilesOf 32 = .ok (.iload_n 1, 1) := by decide +kernel
theorem dX13_tilesOf_33 : decode cX13_tilesOf 33 = .ok (.i2l, 1) := by decide +kernel
theorem dX13_tilesOf_34 : decode cX13_tilesOf 34 = .ok (.lcmp, 1) := by decide +kernel
theorem dX13_tilesOf_35 : decode cX13_tilesOf 35 = .ok (.ifCond .ne 12, 3) := by decide +kernel
theorem dX13_tilesOf_38 : decode cX13_tilesOf 38 = .ok (.aload_n 0, 1) := by decide +kernel
theorem dX13_tilesOf_39 : decode cX13_tilesOf 39 = .ok (.iload 4, 2) := by decide +kernel
theorem dX13_tilesOf_41 : decode cX13_tilesOf 41 = .ok (.invokevirtual 138, 3) := by decide +kernel
theorem dX13_tilesOf_44 : decode cX13_tilesOf 44 = .ok (.goto 4, 3) := by decide +kernel
theorem dX13_tilesOf_47 : decode cX13_tilesOf 47 = .ok (.lconst 0, 1) := by decide +kernel
theorem dX13_tilesOf_48 : decode cX13_tilesOf 48 = .ok (.ladd, 1) := by decide +kernel
theorem dX13_tilesOf_49 : decode cX13_tilesOf 49 = .ok (.lstore_n 2, 1) := by decide +kernel
theorem dX13_tilesOf_50 : decode cX13_tilesOf 50 = .ok (.iinc 4 1, 3) := by decide +kernel
theorem dX13_tilesOf_53 : decode cX13_tilesOf 53 = .ok (.goto (-48), 3) := by decide +kernel
theorem dX13_tilesOf_56 : decode cX13_tilesOf 56 = .ok (.lload_n 2, 1) := by decide +kernel
theorem dX13_tilesOf_57 : decode cX13_tilesOf 57 = .ok (.lreturn, 1) := by decide +kernel
theorem dX13_glaze_0 : decode cX13_glaze 0 = .ok (.aload_n 0, 1) := by decide +kernel
theorem dX13_glaze_1 : decode cX13_glaze 1 = .ok (.iconst 0, 1) := by decide +kernel
theorem dX13_glaze_2 : decode cX13_glaze 2 = .ok (.putfield 31, 3) := by decide +kernel
theorem dX13_glaze_5 : decode cX13_glaze 5 = .ok (.iload_n 1, 1) := by decide +kernel
theorem dX13_glaze_6 : decode cX13_glaze 6 = .ok (.invokestatic 50, 3) := by decide +kernel
theorem dX13_glaze_9 : decode cX13_glaze 9 = .ok (.ifCond .ne 9, 3) := by decide +kernel
theorem dX13_glaze_12 : decode cX13_glaze 12 = .ok (.aload_n 0, 1) := by decide +kernel
theorem dX13_glaze_13 : decode cX13_glaze 13 = .ok (.iconst 1, 1) := by decide +kernel
theorem dX13_glaze_14 : decode cX13_glaze 14 = .ok (.invokevirtual 54, 3) := by decide +kernel
theorem dX13_glaze_17 : decode cX13_glaze 17 = .ok (.ireturn, 1) := by decide +kernel
theorem dX13_glaze_18 : decode cX13_glaze 18 = .ok (.iload_n 2, 1) := by decide +kernel
theorem dX13_glaze_19 : decode cX13_glaze 19 = .ok (.tableswitch 92 0 5 #[37, 47, 57, 68, 79, 85], 37) := by decide +kernel
theorem dX13_glaze_56 : decode cX13_glaze 56 = .ok (.aload_n 0, 1) := by decide +kernel
theorem dX13_glaze_57 : decode cX13_glaze 57 = .ok (.getfield 7, 3) := by decide +kernel
theorem dX13_glaze_60 : decode cX13_glaze 60 = .ok (.iconst 0, 1) := by decide +kernel
theorem dX13_glaze_61 : decode cX13_glaze 61 = .ok (.iload_n 1, 1) := by decide +kernel
theorem dX13_glaze_62 : decode cX13_glaze 62 = .ok (.iadd, 1) := by decide +kernel
theorem dX13_glaze_63 : decode cX13_glaze 63 = .ok (.laload, 1) := by decide +kernel
theorem dX13_glaze_64 : decode cX13_glaze 64 = .ok (.l2i, 1) := by decide +kernel
theorem dX13_glaze_65 : decode cX13_glaze 65 = .ok (.ireturn, 1) := by decide +kernel
theorem dX13_glaze_66 : decode cX13_glaze 66 = .ok (.aload_n 0, 1) := by decide +kernel
theorem dX13_glaze_67 : decode cX13_glaze 67 = .ok (.getfield 7, 3) := by decide +kernel
theorem dX13_glaze_70 : decode cX13_glaze 70 = .ok (.iconst 4, 1) := by decide +kernel
theorem dX13_glaze_71 : decode cX13_glaze 71 = .ok (.iload_n 1, 1) := by decide +kernel
theorem dX13_glaze_72 : decode cX13_glaze 72 = .ok (.iadd, 1) := by decide +kernel
theorem dX13_glaze_73 : decode cX13_glaze 73 = .ok (.laload, 1) := by decide +kernel
theorem dX13_glaze_74 : decode cX13_glaze 74 = .ok (.l2i, 1) := by decide +kernel
theorem dX13_glaze_75 : decode cX13_glaze 75 = .ok (.ireturn, 1) := by decide +kernel
theorem dX13_glaze_76 : decode cX13_glaze 76 = .ok (.aload_n 0, 1) := by decide +kernel
theorem dX13_glaze_77 : decode cX13_glaze 77 = .ok (.getfield 7, 3) := by decide +kernel
theorem dX13_glaze_80 : decode cX13_glaze 80 = .ok (.bipush 8, 2) := by decide +kernel
theorem dX13_glaze_82 : decode cX13_glaze 82 = .ok (.iload_n 1, 1) := by decide +kernel
theorem dX13_glaze_83 : decode cX13_glaze 83 = .ok (.iadd, 1) := by decide +kernel
theorem dX13_glaze_84 : decode cX13_glaze 84 = .ok (.laload, 1) := by decide +kernel
theorem dX13_glaze_85 : decode cX13_glaze 85 = .ok (.l2i, 1) := by decide +kernel
theorem dX13_glaze_86 : decode cX13_glaze 86 = .ok (.ireturn, 1) := by decide +kernel
theorem dX13_glaze_87 : decode cX13_glaze 87 = .ok (.aload_n 0, 1) := by decide +kernel
theorem dX13_glaze_88 : decode cX13_glaze 88 = .ok (.getfield 7, 3) := by decide +kernel
theorem dX13_glaze_91 : decode cX13_glaze 91 = .ok (.bipush 12, 2) := by decide +kernel
theorem dX13_glaze_93 : decode cX13_glaze 93 = .ok (.iload_n 1, 1) := by decide +kernel
theorem dX13_glaze_94 : decode cX13_glaze 94 = .ok (.iadd, 1) := by decide +kernel
theorem dX13_glaze_95 : decode cX13_glaze 95 = .ok (.laload, 1) := by decide +kernel
theorem dX13_glaze_96 : decode cX13_glaze 96 = .ok (.l2i, 1) := by decide +kernel
theorem dX13_glaze_97 : decode cX13_glaze 97 = .ok (.ireturn, 1) := by decide +kernel
theorem dX13_glaze_98 : decode cX13_glaze 98 = .ok (.aload_n 0, 1) := by decide +kernel
theorem dX13_glaze_99 : decode cX13_glaze 99 = .ok (.iload_n 1, 1) := by decide +kernel
theorem dX13_glaze_100 : decode cX13_glaze 100 = .ok (.invokevirtual 179, 3) := by decide +kernel
theorem dX13_glaze_103 : decode cX13_glaze 103 = .ok (.ireturn, 1) := by decide +kernel
theorem dX13_glaze_104 : decode cX13_glaze 104 = .ok (.aload_n 0, 1) := by decide +kernel
theorem dX13_glaze_105 : decode cX13_glaze 105 = .ok (.iload_n 1, 1) := by decide +kernel
theorem dX13_glaze_106 : decode cX13_glaze 106 = .ok (.invokevirtual 182, 3) := by decide +kernel
theorem dX13_glaze_109 : decode cX13_glaze 109 = .ok (.l2i, 1) := by decide +kernel
theorem dX13_glaze_110 : decode cX13_glaze 110 = .ok (.ireturn, 1) := by decide +kernel
theorem dX13_glaze_111 : decode cX13_glaze 111 = .ok (.aload_n 0, 1) := by decide +kernel
theorem dX13_glaze_112 : decode cX13_glaze 112 = .ok (.iconst 2, 1) := by decide +kernel
theorem dX13_glaze_113 : decode cX13_glaze 113 = .ok (.invokevirtual 54, 3) := by decide +kernel
theorem dX13_glaze_116 : decode cX13_glaze 116 = .ok (.ireturn, 1) := by decide +kernel
theorem dX13_position_0 : decode cX13_position 0 = .ok (.aload_n 0, 1) := by decide +kernel
theorem dX13_position_1 : decode cX13_position 1 = .ok (.iconst 0, 1) := by decide +kernel
theorem dX13_position_2 : decode cX13_position 2 = .ok (.putfield 31, 3) := by decide +kernel
theorem dX13_position_5 : decode cX13_position 5 = .ok (.iload_n 1, 1) := by decide +kernel
theorem dX13_position_6 : decode cX13_position 6 = .ok (.invokestatic 65, 3) := by decide +kernel
theorem dX13_position_9 : decode cX13_position 9 = .ok (.ifCond .eq 10, 3) := by decide +kernel
theorem dX13_position_12 : decode cX13_position 12 = .ok (.iload_n 2, 1) := by decide +kernel
theorem dX13_position_13 : decode cX13_position 13 = .ok (.invokestatic 68, 3) := by decide +kernel
theorem dX13_position_16 : decode cX13_position 16 = .ok (.ifCond .ne 9, 3) := by decide +kernel
theorem dX13_position_19 : decode cX13_position 19 = .ok (.aload_n 0, 1) := by decide +kernel
theorem dX13_position_20 : decode cX13_position 20 = .ok (.iconst 1, 1) := by decide +kernel
theorem dX13_position_21 : decode cX13_position 21 = .ok (.invokevirtual 54, 3) := by decide +kernel
theorem dX13_position_24 : decode cX13_position 24 = .ok (.ireturn, 1) := by decide +kernel
theorem dX13_position_25 : decode cX13_position 25 = .ok (.bipush 8, 2) := by decide +kernel
theorem dX13_position_27 : decode cX13_position 27 = .ok (.iload_n 1, 1) := by decide +kernel
theorem dX13_position_28 : decode cX13_position 28 = .ok (.imul, 1) := by decide +kernel
theorem dX13_position_29 : decode cX13_position 29 = .ok (.iload_n 2, 1) := by decide +kernel
theorem dX13_position_30 : decode cX13_position 30 = .ok (.iadd, 1) := by decide +kernel
theorem dX13_position_31 : decode cX13_position 31 = .ok (.istore 4, 2) := by decide +kernel
theorem dX13_position_33 : decode cX13_position 33 = .ok (.iload_n 3, 1) := by decide +kernel
theorem dX13_position_34 : decode cX13_position 34 = .ok (.tableswitch 62 0 2 #[26, 38, 50], 26) := by decide +kernel
theorem dX13_position_60 : decode cX13_position 60 = .ok (.aload_n 0, 1) := by decide +kernel
theorem dX13_position_61 : decode cX13_position 61 = .ok (.getfield 7, 3) := by decide +kernel
theorem dX13_position_64 : decode cX13_position 64 = .ok (.bipush 16, 2) := by decide +kernel
theorem dX13_position_66 : decode cX13_position 66 = .ok (.iload 4, 2) := by decide +kernel
theorem dX13_position_68 : decode cX13_position 68 = .ok (.iadd, 1) := by decide +kernel
theorem dX13_position_69 : decode cX13_position 69 = .ok (.laload, 1) := by decide +kernel
theorem dX13_position_70 : decode cX13_position 70 = .ok (.l2i, 1) := by decide +kernel
theorem dX13_position_71 : decode cX13_position 71 = .ok (.ireturn, 1) := by decide +kernel
theorem dX13_position_72 : decode cX13_position 72 = .ok (.aload_n 0, 1) := by decide +kernel
theorem dX13_position_73 : decode cX13_position 73 = .ok (.getfield 7, 3) := by decide +kernel
theorem dX13_position_76 : decode cX13_position 76 = .ok (.bipush 40, 2) := by decide +kernel
theorem dX13_position_78 : decode cX13_position 78 = .ok (.iload 4, 2) := by decide +kernel
theorem dX13_position_80 : decode cX13_position 80 = .ok (.iadd, 1) := by decide +kernel
theorem dX13_position_81 : decode cX13_position 81 = .ok (.laload, 1) := by decide +kernel
theorem dX13_position_82 : decode cX13_position 82 = .ok (.l2i, 1) := by decide +kernel
theorem dX13_position_83 : decode cX13_position 83 = .ok (.ireturn, 1) := by decide +kernel
theorem dX13_position_84 : decode cX13_position 84 = .ok (.aload_n 0, 1) := by decide +kernel
theorem dX13_position_85 : decode cX13_position 85 = .ok (.getfield 7, 3) := by decide +kernel
theorem dX13_position_88 : decode cX13_position 88 = .ok (.bipush 64, 2) := by decide +kernel
theorem dX13_position_90 : decode cX13_position 90 = .ok (.iload 4, 2) := by decide +kernel
theorem dX13_position_92 : decode cX13_position 92 = .ok (.iadd, 1) := by decide +kernel
theorem dX13_position_93 : decode cX13_position 93 = .ok (.laload, 1) := by decide +kernel
theorem dX13_position_94 : decode cX13_position 94 = .ok (.l2i, 1) := by decide +kernel
theorem dX13_position_95 : decode cX13_position 95 = .ok (.ireturn, 1) := by decide +kernel
theorem dX13_position_96 : decode cX13_position 96 = .ok (.aload_n 0, 1) := by decide +kernel
theorem dX13_position_97 : decode cX13_position 97 = .ok (.iconst 2, 1) := by decide +kernel
theorem dX13_position_98 : decode cX13_position 98 = .ok (.invokevirtual 54, 3) := by decide +kernel
theorem dX13_position_101 : decode cX13_position 101 = .ok (.ireturn, 1) := by decide +kernel
theorem dX13_pile_0 : decode cX13_pile 0 = .ok (.aload_n 0, 1) := by decide +kernel
theorem dX13_pile_1 : decode cX13_pile 1 = .ok (.iconst 0, 1) := by decide +kernel
theorem dX13_pile_2 : decode cX13_pile 2 = .ok (.putfield 31, 3) := by decide +kernel
theorem dX13_pile_5 : decode cX13_pile 5 = .ok (.iload_n 1, 1) := by decide +kernel
theorem dX13_pile_6 : decode cX13_pile 6 = .ok (.i2l, 1) := by decide +kernel
theorem dX13_pile_7 : decode cX13_pile 7 = .ok (.lconst 0, 1) := by decide +kernel
theorem dX13_pile_8 : decode cX13_pile 8 = .ok (.aload_n 0, 1) := by decide +kernel
theorem dX13_pile_9 : decode cX13_pile 9 = .ok (.getfield 7, 3) := by decide +kernel
theorem dX13_pile_12 : decode cX13_pile 12 = .ok (.sipush 1613, 3) := by decide +kernel
theorem dX13_pile_15 : decode cX13_pile 15 = .ok (.laload, 1) := by decide +kernel
theorem dX13_pile_16 : decode cX13_pile 16 = .ok (.lconst 1, 1) := by decide +kernel
theorem dX13_pile_17 : decode cX13_pile 17 = .ok (.lsub, 1) := by decide +kernel
theorem dX13_pile_18 : decode cX13_pile 18 = .ok (.invokestatic 37, 3) := by decide +kernel
theorem dX13_pile_21 : decode cX13_pile 21 = .ok (.ifCond .ne 9, 3) := by decide +kernel
theorem dX13_pile_24 : decode cX13_pile 24 = .ok (.aload_n 0, 1) := by decide +kernel
theorem dX13_pile_25 : decode cX13_pile 25 = .ok (.iconst 1, 1) := by decide +kernel
theorem dX13_pile_26 : decode cX13_pile 26 = .ok (.invokevirtual 54, 3) := by decide +kernel
theorem dX13_pile_29 : decode cX13_pile 29 = .ok (.ireturn, 1) := by decide +kernel
theorem dX13_pile_30 : decode cX13_pile 30 = .ok (.iload_n 2, 1) := by decide +kernel
theorem dX13_pile_31 : decode cX13_pile 31 = .ok (.i2l, 1) := by decide +kernel
theorem dX13_pile_32 : decode cX13_pile 32 = .ok (.lconst 0, 1) := by decide +kernel
theorem dX13_pile_33 : decode cX13_pile 33 = .ok (.ldc2_w 35, 3) := by decide +kernel
theorem dX13_pile_36 : decode cX13_pile 36 = .ok (.invokestatic 37, 3) := by decide +kernel
theorem dX13_pile_39 : decode cX13_pile 39 = .ok (.ifCond .eq 21, 3) := by decide +kernel
theorem dX13_pile_42 : decode cX13_pile 42 = .ok (.aload_n 0, 1) := by decide +kernel
theorem dX13_pile_43 : decode cX13_pile 43 = .ok (.getfield 7, 3) := by decide +kernel
theorem dX13_pile_46 : decode cX13_pile 46 = .ok (.bipush 90, 2) := by decide +kernel
theorem dX13_pile_48 : decode cX13_pile 48 = .ok (.bipush 80, 2) := by decide +kernel
theorem dX13_pile_50 : decode cX13_pile 50 = .ok (.iload_n 2, 1) := by decide +kernel
theorem dX13_pile_51 : decode cX13_pile 51 = .ok (.imul, 1) := by decide +kernel
theorem dX13_pile_52 : decode cX13_pile 52 = .ok (.iadd, 1) := by decide +kernel
theorem dX13_pile_53 : decode cX13_pile 53 = .ok (.iload_n 1, 1) := by decide +kernel
theorem dX13_pile_54 : decode cX13_pile 54 = .ok (.iadd, 1) := by decide +kernel
theorem dX13_pile_55 : decode cX13_pile 55 = .ok (.laload, 1) := by decide +kernel
theorem dX13_pile_56 : decode cX13_pile 56 = .ok (.l2i, 1) := by decide +kernel
theorem dX13_pile_57 : decode cX13_pile 57 = .ok (.goto 8, 3) := by decide +kernel
theorem dX13_pile_60 : decode cX13_pile 60 = .ok (.aload_n 0, 1) := by decide +kernel
theorem dX13_pile_61 : decode cX13_pile 61 = .ok (.iconst 2, 1) := by decide +kernel
theorem dX13_pile_62 : decode cX13_pile 62 = .ok (.invokevirtual 54, 3) := by decide +kernel
theorem dX13_pile_65 : decode cX13_pile 65 = .ok (.ireturn, 1) := by decide +kernel
theorem dX13_lot_0 : decode cX13_lot 0 = .ok (.aload_n 0, 1) := by decide +kernel
theorem dX13_lot_1 : decode cX13_lot 1 = .ok (.iconst 0, 1) := by decide +kernel
theorem dX13_lot_2 : decode cX13_lot 2 = .ok (.putfield 31, 3) := by decide +kernel
theorem dX13_lot_5 : decode cX13_lot 5 = .ok (.iload_n 1, 1) := by decide +kernel
theorem dX13_lot_6 : decode cX13_lot 6 = .ok (.i2l, 1) := by decide +kernel
theorem dX13_lot_7 : decode cX13_lot 7 = .ok (.lconst 0, 1) := by decide +kernel
theorem dX13_lot_8 : decode cX13_lot 8 = .ok (.aload_n 0, 1) := by decide +kernel
theorem dX13_lot_9 : decode cX13_lot 9 = .ok (.getfield 7, 3) := by decide +kernel
theorem dX13_lot_12 : decode cX13_lot 12 = .ok (.sipush 1614, 3) := by decide +kernel
theorem dX13_lot_15 : decode cX13_lot 15 = .ok (.laload, 1) := by decide +kernel
theorem dX13_lot_16 : decode cX13_lot 16 = .ok (.lconst 1, 1) := by decide +kernel
theorem dX13_lot_17 : decode cX13_lot 17 = .ok (.lsub, 1) := by decide +kernel
theorem dX13_lot_18 : decode cX13_lot 18 = .ok (.invokestatic 37, 3) := by decide +kernel
theorem dX13_lot_21 : decode cX13_lot 21 = .ok (.ifCond .ne 9, 3) := by decide +kernel
theorem dX13_lot_24 : decode cX13_lot 24 = .ok (.aload_n 0, 1) := by decide +kernel
theorem dX13_lot_25 : decode cX13_lot 25 = .ok (.iconst 1, 1) := by decide +kernel
theorem dX13_lot_26 : decode cX13_lot 26 = .ok (.invokevirtual 54, 3) := by decide +kernel
theorem dX13_lot_29 : decode cX13_lot 29 = .ok (.ireturn, 1) := by decide +kernel
theorem dX13_lot_30 : decode cX13_lot 30 = .ok (.iload_n 2, 1) := by decide +kernel
theorem dX13_lot_31 : decode cX13_lot 31 = .ok (.i2l, 1) := by decide +kernel
theorem dX13_lot_32 : decode cX13_lot 32 = .ok (.lconst 0, 1) := by decide +kernel
theorem dX13_lot_33 : decode cX13_lot 33 = .ok (.ldc2_w 185, 3) := by decide +kernel
theorem dX13_lot_36 : decode cX13_lot 36 = .ok (.invokestatic 37, 3) := by decide +kernel
theorem dX13_lot_39 : decode cX13_lot 39 = .ok (.ifCond .eq 23, 3) := by decide +kernel
theorem dX13_lot_42 : decode cX13_lot 42 = .ok (.aload_n 0, 1) := by decide +kernel
theorem dX13_lot_43 : decode cX13_lot 43 = .ok (.getfield 7, 3) := by decide +kernel
theorem dX13_lot_46 : decode cX13_lot 46 = .ok (.sipush 410, 3) := by decide +kernel
theorem dX13_lot_49 : decode cX13_lot 49 = .ok (.sipush 160, 3) := by decide +kernel
theorem dX13_lot_52 : decode cX13_lot 52 = .ok (.iload_n 2, 1) := by decide +kernel
theorem dX13_lot_53 : decode cX13_lot 53 = .ok (.imul, 1) := by decide +kernel
theorem dX13_lot_54 : decode cX13_lot 54 = .ok (.iadd, 1) := by decide +kernel
theorem dX13_lot_55 : decode cX13_lot 55 = .ok (.iload_n 1, 1) := by decide +kernel
theorem dX13_lot_56 : decode cX13_lot 56 = .ok (.iadd, 1) := by decide +kernel
theorem dX13_lot_57 : decode cX13_lot 57 = .ok (.laload, 1) := by decide +kernel
theorem dX13_lot_58 : decode cX13_lot 58 = .ok (.l2i, 1) := by decide +kernel
theorem dX13_lot_59 : decode cX13_lot 59 = .ok (.goto 8, 3) := by decide +kernel
theorem dX13_lot_62 : decode cX13_lot 62 = .ok (.aload_n 0, 1) := by decide +kernel
theorem dX13_lot_63 : decode cX13_lot 63 = .ok (.iconst 2, 1) := by decide +kernel
theorem dX13_lot_64 : decode cX13_lot 64 = .ok (.invokevirtual 54, 3) := by decide +kernel
theorem dX13_lot_67 : decode cX13_lot 67 = .ok (.ireturn, 1) := by decide +kernel
theorem dX13_findLot_0 : decode cX13_findLot 0 = .ok (.aload_n 0, 1) := by decide +kernel
theorem dX13_findLot_1 : decode cX13_findLot 1 = .ok (.iconst 0, 1) := by decide +kernel
theorem dX13_findLot_2 : decode cX13_findLot 2 = .ok (.putfield 31, 3) := by decide +kernel
theorem dX13_findLot_5 : decode cX13_findLot 5 = .ok (.iload_n 1, 1) := by decide +kernel
theorem dX13_findLot_6 : decode cX13_findLot 6 = .ok (.invokestatic 50, 3) := by decide +kernel
theorem dX13_findLot_9 : decode cX13_findLot 9 = .ok (.ifCond .eq 32, 3) := by decide +kernel
theorem dX13_findLot_12 : decode cX13_findLot 12 = .ok (.iload_n 2, 1) := by decide +kernel
theorem dX13_findLot_13 : decode cX13_findLot 13 = .ok (.i2l, 1) := by decide +kernel
theorem dX13_findLot_14 : decode cX13_findLot 14 = .ok (.lconst 0, 1) := by decide +kernel
theorem dX13_findLot_15 : decode cX13_findLot 15 = .ok (.ldc2_w 58, 3) := by decide +kernel
theorem dX13_findLot_18 : decode cX13_findLot 18 = .ok (.invokestatic 37, 3) := by decide +kernel
theorem dX13_findLot_21 : decode cX13_findLot 21 = .ok (.ifCond .eq 20, 3) := by decide +kernel
theorem dX13_findLot_24 : decode cX13_findLot 24 = .ok (.iload_n 3, 1) := by decide +kernel
theorem dX13_findLot_25 : decode cX13_findLot 25 = .ok (.invokestatic 144, 3) := by decide +kernel
theorem dX13_findLot_28 : decode cX13_findLot 28 = .ok (.ifCond .eq 13, 3) := by decide +kernel
theorem dX13_findLot_31 : decode cX13_findLot 31 = .ok (.aload_n 0, 1) := by decide +kernel
theorem dX13_findLot_32 : decode cX13_findLot 32 = .ok (.iload_n 1, 1) := by decide +kernel
theorem dX13_findLot_33 : decode cX13_findLot 33 = .ok (.iload_n 2, 1) := by decide +kernel
theorem dX13_findLot_34 : decode cX13_findLot 34 = .ok (.iload_n 3, 1) := by decide +kernel
theorem dX13_findLot_35 : decode cX13_findLot 35 = .ok (.invokevirtual 114, 3) := by decide +kernel
theorem dX13_findLot_38 : decode cX13_findLot 38 = .ok (.goto 8, 3) := by decide +kernel
theorem dX13_findLot_41 : decode cX13_findLot 41 = .ok (.aload_n 0, 1) := by decide +kernel
theorem dX13_findLot_42 : decode cX13_findLot 42 = .ok (.iconst 1, 1) := by decide +kernel
theorem dX13_findLot_43 : decode cX13_findLot 43 = .ok (.invokevirtual 54, 3) := by decide +kernel
theorem dX13_findLot_46 : decode cX13_findLot 46 = .ok (.ireturn, 1) := by decide +kernel
theorem dX13_delivery_0 : decode cX13_delivery 0 = .ok (.aload_n 0, 1) := by decide +kernel
theorem dX13_delivery_1 : decode cX13_delivery 1 = .ok (.iconst 0, 1) := by decide +kernel
theorem dX13_delivery_2 : decode cX13_delivery 2 = .ok (.putfield 31, 3) := by decide +kernel
theorem dX13_delivery_5 : decode cX13_delivery 5 = .ok (.aload_n 0, 1) := by decide +kernel
theorem dX13_delivery_6 : decode cX13_delivery 6 = .ok (.iload_n 1, 1) := by decide +kernel
theorem dX13_delivery_7 : decode cX13_delivery 7 = .ok (.invokevirtual 176, 3) := by decide +kernel
theorem dX13_delivery_10 : decode cX13_delivery 10 = .ok (.ifCond .ne 10, 3) := by decide +kernel
theorem dX13_delivery_13 : decode cX13_delivery 13 = .ok (.aload_n 0, 1) := by decide +kernel
theorem dX13_delivery_14 : decode cX13_delivery 14 = .ok (.iconst 1, 1) := by decide +kernel
theorem dX13_delivery_15 : decode cX13_delivery 15 = .ok (.invokevirtual 54, 3) := by decide +kernel
theorem dX13_delivery_18 : decode cX13_delivery 18 = .ok (.i2l, 1) := by decide +kernel
theorem dX13_delivery_19 : decode cX13_delivery 19 = .ok (.lreturn, 1) := by decide +kernel
theorem dX13_delivery_20 : decode cX13_delivery 20 = .ok (.iload_n 2, 1) := by decide +kernel
theorem dX13_delivery_21 : decode cX13_delivery 21 = .ok (.i2l, 1) := by decide +kernel
theorem dX13_delivery_22 : decode cX13_delivery 22 = .ok (.lconst 0, 1) := by decide +kernel
theorem dX13_delivery_23 : decode cX13_delivery 23 = .ok (.ldc2_w 187, 3) := by decide +kernel
theorem dX13_delivery_26 : decode cX13_delivery 26 = .ok (.invokestatic 37, 3) := by decide +kernel
theorem dX13_delivery_29 : decode cX13_delivery 29 = .ok (.ifCond .eq 21, 3) := by decide +kernel
theorem dX13_delivery_32 : decode cX13_delivery 32 = .ok (.aload_n 0, 1) := by decide +kernel
theorem dX13_delivery_33 : decode cX13_delivery 33 = .ok (.getfield 7, 3) := by decide +kernel
theorem dX13_delivery_36 : decode cX13_delivery 36 = .ok (.sipush 1370, 3) := by decide +kernel
theorem dX13_delivery_39 : decode cX13_delivery 39 = .ok (.bipush 40, 2) := by decide +kernel
theorem dX13_delivery_41 : decode cX13_delivery 41 = .ok (.iload_n 2, 1) := by decide +kernel
theorem dX13_delivery_42 : decode cX13_delivery 42 = .ok (.imul, 1) := by decide +kernel
theorem dX13_delivery_43 : decode cX13_delivery 43 = .ok (.iadd, 1) := by decide +kernel
theorem dX13_delivery_44 : decode cX13_delivery 44 = .ok (.iload_n 1, 1) := by decide +kernel
theorem dX13_delivery_45 : decode cX13_delivery 45 = .ok (.iadd, 1) := by decide +kernel
theorem dX13_delivery_46 : decode cX13_delivery 46 = .ok (.laload, 1) := by decide +kernel
theorem dX13_delivery_47 : decode cX13_delivery 47 = .ok (.goto 9, 3) := by decide +kernel
theorem dX13_delivery_50 : decode cX13_delivery 50 = .ok (.aload_n 0, 1) := by decide +kernel
theorem dX13_delivery_51 : decode cX13_delivery 51 = .ok (.iconst 2, 1) := by decide +kernel
theorem dX13_delivery_52 : decode cX13_delivery 52 = .ok (.invokevirtual 54, 3) := by decide +kernel
theorem dX13_delivery_55 : decode cX13_delivery 55 = .ok (.i2l, 1) := by decide +kernel
theorem dX13_delivery_56 : decode cX13_delivery 56 = .ok (.lreturn, 1) := by decide +kernel
theorem dX13_event_0 : decode cX13_event 0 = .ok (.aload_n 0, 1) := by decide +kernel
theorem dX13_event_1 : decode cX13_event 1 = .ok (.iconst 0, 1) := by decide +kernel
theorem dX13_event_2 : decode cX13_event 2 = .ok (.putfield 31, 3) := by decide +kernel
theorem dX13_event_5 : decode cX13_event 5 = .ok (.iload_n 1, 1) := by decide +kernel
theorem dX13_event_6 : decode cX13_event 6 = .ok (.ifCond .lt 13, 3) := by decide +kernel
theorem dX13_event_9 : decode cX13_event 9 = .ok (.iload_n 2, 1) := by decide +kernel
theorem dX13_event_10 : decode cX13_event 10 = .ok (.i2l, 1) := by decide +kernel
theorem dX13_event_11 : decode cX13_event 11 = .ok (.lconst 0, 1) := by decide +kernel
theorem dX13_event_12 : decode cX13_event 12 = .ok (.lconst 1, 1) := by decide +kernel
theorem dX13_event_13 : decode cX13_event 13 = .ok (.invokestatic 37, 3) := by decide +kernel
theorem dX13_event_16 : decode cX13_event 16 = .ok (.ifCond .ne 9, 3) := by decide +kernel
theorem dX13_event_19 : decode cX13_event 19 = .ok (.aload_n 0, 1) := by decide +kernel
theorem dX13_event_20 : decode cX13_event 20 = .ok (.iconst 1, 1) := by decide +kernel
theorem dX13_event_21 : decode cX13_event 21 = .ok (.invokevirtual 54, 3) := by decide +kernel
theorem dX13_event_24 : decode cX13_event 24 = .ok (.ireturn, 1) := by decide +kernel
theorem dX13_event_25 : decode cX13_event 25 = .ok (.iload_n 1, 1) := by decide +kernel
theorem dX13_event_26 : decode cX13_event 26 = .ok (.i2l, 1) := by decide +kernel
theorem dX13_event_27 : decode cX13_event 27 = .ok (.aload_n 0, 1) := by decide +kernel
theorem dX13_event_28 : decode cX13_event 28 = .ok (.getfield 7, 3) := by decide +kernel
theorem dX13_event_31 : decode cX13_event 31 = .ok (.sipush 1616, 3) := by decide +kernel
theorem dX13_event_34 : decode cX13_event 34 = .ok (.laload, 1) := by decide +kernel
theorem dX13_event_35 : decode cX13_event 35 = .ok (.lcmp, 1) := by decide +kernel
theorem dX13_event_36 : decode cX13_event 36 = .ok (.ifCond .ge 34, 3) := by decide +kernel
theorem dX13_event_39 : decode cX13_event 39 = .ok (.aload_n 0, 1) := by decide +kernel
theorem dX13_event_40 : decode cX13_event 40 = .ok (.getfield 7, 3) := by decide +kernel
theorem dX13_event_43 : decode cX13_event 43 = .ok (.sipush 1570, 3) := by decide +kernel
theorem dX13_event_46 : decode cX13_event 46 = .ok (.bipush 20, 2) := by decide +kernel
theorem dX13_event_48 : decode cX13_event 48 = .ok (.iload_n 2, 1) := by decide +kernel
theorem dX13_event_49 : decode cX13_event 49 = .ok (.imul, 1) := by decide +kernel
theorem dX13_event_50 : decode cX13_event 50 = .ok (.iadd, 1) := by decide +kernel
theorem dX13_event_51 : decode cX13_event 51 = .ok (.aload_n 0, 1) := by decide +kernel
theorem dX13_event_52 : decode cX13_event 52 = .ok (.getfield 7, 3) := by decide +kernel
theorem dX13_event_55 : decode cX13_event 55 = .ok (.sipush 1616, 3) := by decide +kernel
theorem dX13_event_58 : decode cX13_event 58 = .ok (.laload, 1) := by decide +kernel
theorem dX13_event_59 : decode cX13_event 59 = .ok (.l2i, 1) := by decide +kernel
theorem dX13_event_60 : decode cX13_event 60 = .ok (.iadd, 1) := by decide +kernel
theorem dX13_event_61 : decode cX13_event 61 = .ok (.iconst 1, 1) := by decide +kernel
theorem dX13_event_62 : decode cX13_event 62 = .ok (.isub, 1) := by decide +kernel
theorem dX13_event_63 : decode cX13_event 63 = .ok (.iload_n 1, 1) := by decide +kernel
theorem dX13_event_64 : decode cX13_event 64 = .ok (.isub, 1) := by decide +kernel
theorem dX13_event_65 : decode cX13_event 65 = .ok (.laload, 1) := by decide +kernel
theorem dX13_event_66 : decode cX13_event 66 = .ok (.l2i, 1) := by decide +kernel
theorem dX13_event_67 : decode cX13_event 67 = .ok (.goto 4, 3) := by decide +kernel
theorem dX13_event_70 : decode cX13_event 70 = .ok (.iconst (-1), 1) := by decide +kernel
theorem dX13_event_71 : decode cX13_event 71 = .ok (.ireturn, 1) := by decide +kernel
theorem dX13_onBench_0 : decode cX13_onBench 0 = .ok (.lconst 0, 1) := by decide +kernel
theorem dX13_onBench_1 : decode cX13_onBench 1 = .ok (.lstore_n 1, 1) := by decide +kernel
theorem dX13_onBench_2 : decode cX13_onBench 2 = .ok (.iconst 0, 1) := by decide +kernel
theorem dX13_onBench_3 : decode cX13_onBench 3 = .ok (.istore_n 3, 1) := by decide +kernel
theorem dX13_onBench_4 : decode cX13_onBench 4 = .ok (.iload_n 3, 1) := by decide +kernel
theorem dX13_onBench_5 : decode cX13_onBench 5 = .ok (.i2l, 1) := by decide +kernel
theorem dX13_onBench_6 : decode cX13_onBench 6 = .ok (.aload_n 0, 1) := by decide +kernel
theorem dX13_onBench_7 : decode cX13_onBench 7 = .ok (.getfield 7, 3) := by decide +kernel
theorem dX13_onBench_10 : decode cX13_onBench 10 = .ok (.sipush 1613, 3) := by decide +kernel
theorem dX13_onBench_13 : decode cX13_onBench 13 = .ok (.laload, 1) := by decide +kernel
theorem dX13_onBench_14 : decode cX13_onBench 14 = .ok (.lcmp, 1) := by decide +kernel
theorem dX13_onBench_15 : decode cX13_onBench 15 = .ok (.ifCond .ge 22, 3) := by decide +kernel
theorem dX13_onBench_18 : decode cX13_onBench 18 = .ok (.lload_n 1, 1) := by decide +kernel
theorem dX13_onBench_19 : decode cX13_onBench 19 = .ok (.aload_n 0, 1) := by decide +kernel
theorem dX13_onBench_20 : decode cX13_onBench 20 = .ok (.getfield 7, 3) := by decide +kernel
theorem dX13_onBench_23 : decode cX13_onBench 23 = .ok (.sipush 250, 3) := by decide +kernel
theorem dX13_onBench_26 : decode cX13_onBench 26 = .ok (.iload_n 3, 1) := by decide +kernel
theorem dX13_onBench_27 : decode cX13_onBench 27 = .ok (.iadd, 1) := by decide +kernel
theorem dX13_onBench_28 : decode cX13_onBench 28 = .ok (.laload, 1) := by decide +kernel
theorem dX13_onBench_29 : decode cX13_onBench 29 = .ok (.ladd, 1) := by decide +kernel
theorem dX13_onBench_30 : decode cX13_onBench 30 = .ok (.lstore_n 1, 1) := by decide +kernel
theorem dX13_onBench_31 : decode cX13_onBench 31 = .ok (.iinc 3 1, 3) := by decide +kernel
theorem dX13_onBench_34 : decode cX13_onBench 34 = .ok (.goto (-30), 3) := by decide +kernel
theorem dX13_onBench_37 : decode cX13_onBench 37 = .ok (.lload_n 1, 1) := by decide +kernel
theorem dX13_onBench_38 : decode cX13_onBench 38 = .ok (.lreturn, 1) := by decide +kernel
theorem dX13_loose_0 : decode cX13_loose 0 = .ok (.lconst 0, 1) := by decide +kernel
theorem dX13_loose_1 : decode cX13_loose 1 = .ok (.lstore_n 1, 1) := by decide +kernel
theorem dX13_loose_2 : decode cX13_loose 2 = .ok (.iconst 0, 1) := by decide +kernel
theorem dX13_loose_3 : decode cX13_loose 3 = .ok (.istore_n 3, 1) := by decide +kernel
theorem dX13_loose_4 : decode cX13_loose 4 = .ok (.iload_n 3, 1) := by decide +kernel
theorem dX13_loose_5 : decode cX13_loose 5 = .ok (.i2l, 1) := by decide +kernel
theorem dX13_loose_6 : decode cX13_loose 6 = .ok (.aload_n 0, 1) := by decide +kernel
theorem dX13_loose_7 : decode cX13_loose 7 = .ok (.getfield 7, 3) := by decide +kernel
theorem dX13_loose_10 : decode cX13_loose 10 = .ok (.sipush 1614, 3) := by decide +kernel
theorem dX13_loose_13 : decode cX13_loose 13 = .ok (.laload, 1) := by decide +kernel
theorem dX13_loose_14 : decode cX13_loose 14 = .ok (.lcmp, 1) := by decide +kernel
theorem dX13_loose_15 : decode cX13_loose 15 = .ok (.ifCond .ge 22, 3) := by decide +kernel
theorem dX13_loose_18 : decode cX13_loose 18 = .ok (.lload_n 1, 1) := by decide +kernel
theorem dX13_loose_19 : decode cX13_loose 19 = .ok (.aload_n 0, 1) := by decide +kernel
theorem dX13_loose_20 : decode cX13_loose 20 = .ok (.getfield 7, 3) := by decide +kernel
theorem dX13_loose_23 : decode cX13_loose 23 = .ok (.sipush 890, 3) := by decide +kernel
theorem dX13_loose_26 : decode cX13_loose 26 = .ok (.iload_n 3, 1) := by decide +kernel
theorem dX13_loose_27 : decode cX13_loose 27 = .ok (.iadd, 1) := by decide +kernel
theorem dX13_loose_28 : decode cX13_loose 28 = .ok (.laload, 1) := by decide +kernel
theorem dX13_loose_29 : decode cX13_loose 29 = .ok (.ladd, 1) := by decide +kernel
theorem dX13_loose_30 : decode cX13_loose 30 = .ok (.lstore_n 1, 1) := by decide +kernel
theorem dX13_loose_31 : decode cX13_loose 31 = .ok (.iinc 3 1, 3) := by decide +kernel
theorem dX13_loose_34 : decode cX13_loose 34 = .ok (.goto (-30), 3) := by decide +kernel
theorem dX13_loose_37 : decode cX13_loose 37 = .ok (.lload_n 1, 1) := by decide +kernel
theorem dX13_loose_38 : decode cX13_loose 38 = .ok (.lreturn, 1) := by decide +kernel
theorem dX13_worthAll_0 : decode cX13_worthAll 0 = .ok (.lconst 0, 1) := by decide +kernel
theorem dX13_worthAll_1 : decode cX13_worthAll 1 = .ok (.lstore_n 1, 1) := by decide +kernel
theorem dX13_worthAll_2 : decode cX13_worthAll 2 = .ok (.iconst 0, 1) := by decide +kernel
theorem dX13_worthAll_3 : decode cX13_worthAll 3 = .ok (.istore_n 3, 1) := by decide +kernel
theorem dX13_worthAll_4 : decode cX13_worthAll 4 = .ok (.iload_n 3, 1) := by decide +kernel
theorem dX13_worthAll_5 : decode cX13_worthAll 5 = .ok (.i2l, 1) := by decide +kernel
theorem dX13_worthAll_6 : decode cX13_worthAll 6 = .ok (.aload_n 0, 1) := by decide +kernel
theorem dX13_worthAll_7 : decode cX13_worthAll 7 = .ok (.getfield 7, 3) := by decide +kernel
theorem dX13_worthAll_10 : decode cX13_worthAll 10 = .ok (.sipush 1614, 3) := by decide +kernel
theorem dX13_worthAll_13 : decode cX13_worthAll 13 = .ok (.laload, 1) := by decide +kernel
theorem dX13_worthAll_14 : decode cX13_worthAll 14 = .ok (.lcmp, 1) := by decide +kernel
theorem dX13_worthAll_15 : decode cX13_worthAll 15 = .ok (.ifCond .ge 23, 3) := by decide +kernel
theorem dX13_worthAll_18 : decode cX13_worthAll 18 = .ok (.lload_n 1, 1) := by decide +kernel
theorem dX13_worthAll_19 : decode cX13_worthAll 19 = .ok (.aload_n 0, 1) := by decide +kernel
theorem dX13_worthAll_20 : decode cX13_worthAll 20 = .ok (.iload_n 3, 1) := by decide +kernel
theorem dX13_worthAll_21 : decode cX13_worthAll 21 = .ok (.invokevirtual 138, 3) := by decide +kernel
theorem dX13_worthAll_24 : decode cX13_worthAll 24 = .ok (.aload_n 0, 1) := by decide +kernel
theorem dX13_worthAll_25 : decode cX13_worthAll 25 = .ok (.iload_n 3, 1) := by decide +kernel
theorem dX13_worthAll_26 : decode cX13_worthAll 26 = .ok (.invokevirtual 153, 3) := by decide +kernel
theorem dX13_worthAll_29 : decode cX13_worthAll 29 = .ok (.lmul, 1) := by decide +kernel
theorem dX13_worthAll_30 : decode cX13_worthAll 30 = .ok (.ladd, 1) := by decide +kernel
theorem dX13_worthAll_31 : decode cX13_worthAll 31 = .ok (.lstore_n 1, 1) := by decide +kernel
theorem dX13_worthAll_32 : decode cX13_worthAll 32 = .ok (.iinc 3 1, 3) := by decide +kernel
theorem dX13_worthAll_35 : decode cX13_worthAll 35 = .ok (.goto (-31), 3) := by decide +kernel
theorem dX13_worthAll_38 : decode cX13_worthAll 38 = .ok (.lload_n 1, 1) := by decide +kernel
theorem dX13_worthAll_39 : decode cX13_worthAll 39 = .ok (.lreturn, 1) := by decide +kernel
theorem dX13_total_0 : decode cX13_total 0 = .ok (.aload_n 0, 1) := by decide +kernel
theorem dX13_total_1 : decode cX13_total 1 = .ok (.iconst 0, 1) := by decide +kernel
theorem dX13_total_2 : decode cX13_total 2 = .ok (.putfield 31, 3) := by decide +kernel
theorem dX13_total_5 : decode cX13_total 5 = .ok (.iload_n 1, 1) := by decide +kernel
theorem dX13_total_6 : decode cX13_total 6 = .ok (.tableswitch 202 0 15 #[78, 86, 94, 103, 112, 121, 126, 131, 136, 149, 158, 167, 176, 182, 187, 196], 78) := by decide +kernel
theorem dX13_total_84 : decode cX13_total 84 = .ok (.aload_n 0, 1) := by decide +kernel
theorem dX13_total_85 : decode cX13_total 85 = .ok (.getfield 7, 3) := by decide +kernel
theorem dX13_total_88 : decode cX13_total 88 = .ok (.bipush 88, 2) := by decide +kernel
theorem dX13_total_90 : decode cX13_total 90 = .ok (.laload, 1) := by decide +kernel
theorem dX13_total_91 : decode cX13_total 91 = .ok (.lreturn, 1) := by decide +kernel
theorem dX13_total_92 : decode cX13_total 92 = .ok (.aload_n 0, 1) := by decide +kernel
theorem dX13_total_93 : decode cX13_total 93 = .ok (.getfield 7, 3) := by decide +kernel
theorem dX13_total_96 : decode cX13_total 96 = .ok (.bipush 89, 2) := by decide +kernel
theorem dX13_total_98 : decode cX13_total 98 = .ok (.laload, 1) := by decide +kernel
theorem dX13_total_99 : decode cX13_total 99 = .ok (.lreturn, 1) := by decide +kernel
theorem dX13_total_100 : decode cX13_total 100 = .ok (.aload_n 0, 1) := by decide +kernel
theorem dX13_total_101 : decode cX13_total 101 = .ok (.getfield 7, 3) := by decide +kernel
theorem dX13_total_104 : decode cX13_total 104 = .ok (.sipush 1610, 3) := by decide +kernel
theorem dX13_total_107 : decode cX13_total 107 = .ok (.laload, 1) := by decide +kernel
theorem dX13_total_108 : decode cX13_total 108 = .ok (.lreturn, 1) := by decide +kernel
theorem dX13_total_109 : decode cX13_total 109 = .ok (.aload_n 0, 1) := by decide +kernel
theorem dX13_total_110 : decode cX13_total 110 = .ok (.getfield 7, 3) := by decide +kernel
theorem dX13_total_113 : decode cX13_total 113 = .ok (.sipush 1611, 3) := by decide +kernel
theorem dX13_total_116 : decode cX13_total 116 = .ok (.laload, 1) := by decide +kernel
theorem dX13_total_117 : decode cX13_total 117 = .ok (.lreturn, 1) := by decide +kernel
theorem dX13_total_118 : decode cX13_total 118 = .ok (.aload_n 0, 1) := by decide +kernel
theorem dX13_total_119 : decode cX13_total 119 = .ok (.getfield 7, 3) := by decide +kernel
theorem dX13_total_122 : decode cX13_total 122 = .ok (.sipush 1612, 3) := by decide +kernel
theorem dX13_total_125 : decode cX13_total 125 = .ok (.laload, 1) := by decide +kernel
theorem dX13_total_126 : decode cX13_total 126 = .ok (.lreturn, 1) := by decide +kernel
theorem dX13_total_127 : decode cX13_total 127 = .ok (.aload_n 0, 1) := by decide +kernel
theorem dX13_total_128 : decode cX13_total 128 = .ok (.invokevirtual 189, 3) := by decide +kernel
theorem dX13_total_131 : decode cX13_total 131 = .ok (.lreturn, 1) := by decide +kernel
theorem dX13_total_132 : decode cX13_total 132 = .ok (.aload_n 0, 1) := by decide +kernel
theorem dX13_total_133 : decode cX13_total 133 = .ok (.invokevirtual 192, 3) := by decide +kernel
theorem dX13_total_136 : decode cX13_total 136 = .ok (.lreturn, 1) := by decide +kernel
theorem dX13_total_137 : decode cX13_total 137 = .ok (.aload_n 0, 1) := by decide +kernel
theorem dX13_total_138 : decode cX13_total 138 = .ok (.invokevirtual 77, 3) := by decide +kernel
theorem dX13_total_141 : decode cX13_total 141 = .ok (.lreturn, 1) := by decide +kernel
theorem dX13_total_142 : decode cX13_total 142 = .ok (.aload_n 0, 1) := by decide +kernel
theorem dX13_total_143 : decode cX13_total 143 = .ok (.invokevirtual 81, 3) := by decide +kernel
theorem dX13_total_146 : decode cX13_total 146 = .ok (.aload_n 0, 1) := by decide +kernel
theorem dX13_total_147 : decode cX13_total 147 = .ok (.getfield 7, 3) := by decide +kernel
theorem dX13_total_150 : decode cX13_total 150 = .ok (.bipush 89, 2) := by decide +kernel
theorem dX13_total_152 : decode cX13_total 152 = .ok (.laload, 1) := by decide +kernel
theorem dX13_total_153 : decode cX13_total 153 = .ok (.lmul, 1) := by decide +kernel
theorem dX13_total_154 : decode cX13_total 154 = .ok (.lreturn, 1) := by decide +kernel
theorem dX13_total_155 : decode cX13_total 155 = .ok (.aload_n 0, 1) := by decide +kernel
theorem dX13_total_156 : decode cX13_total 156 = .ok (.getfield 7, 3) := by decide +kernel
theorem dX13_total_159 : decode cX13_total 159 = .ok (.sipush 1613, 3) := by decide +kernel
theorem dX13_total_162 : decode cX13_total 162 = .ok (.laload, 1) := by decide +kernel
theorem dX13_total_163 : decode cX13_total 163 = .ok (.lreturn, 1) := by decide +kernel
theorem dX13_total_164 : decode cX13_total 164 = .ok (.aload_n 0, 1) := by decide +kernel
theorem dX13_total_165 : decode cX13_total 165 = .ok (.getfield 7, 3) := by decide +kernel
theorem dX13_total_168 : decode cX13_total 168 = .ok (.sipush 1614, 3) := by decide +kernel
theorem dX13_total_171 : decode cX13_total 171 = .ok (.laload, 1) := by decide +kernel
theorem dX13_total_172 : decode cX13_total 172 = .ok (.lreturn, 1) := by decide +kernel
theorem dX13_total_173 : decode cX13_total 173 = .ok (.aload_n 0, 1) := by decide +kernel
theorem dX13_total_174 : decode cX13_total 174 = .ok (.getfield 7, 3) := by decide +kernel
theorem dX13_total_177 : decode cX13_total 177 = .ok (.sipush 1615, 3) := by decide +kernel
theorem dX13_total_180 : decode cX13_total 180 = .ok (.laload, 1) := by decide +kernel
theorem dX13_total_181 : decode cX13_total 181 = .ok (.lreturn, 1) := by decide +kernel
theorem dX13_total_182 : decode cX13_total 182 = .ok (.aload_n 0, 1) := by decide +kernel
theorem dX13_total_183 : decode cX13_total 183 = .ok (.getfield 45, 3) := by decide +kernel
theorem dX13_total_186 : decode cX13_total 186 = .ok (.i2l, 1) := by decide +kernel
theorem dX13_total_187 : decode cX13_total 187 = .ok (.lreturn, 1) := by decide +kernel
theorem dX13_total_188 : decode cX13_total 188 = .ok (.aload_n 0, 1) := by decide +kernel
theorem dX13_total_189 : decode cX13_total 189 = .ok (.invokevirtual 195, 3) := by decide +kernel
theorem dX13_total_192 : decode cX13_total 192 = .ok (.lreturn, 1) := by decide +kernel
theorem dX13_total_193 : decode cX13_total 193 = .ok (.aload_n 0, 1) := by decide +kernel
theorem dX13_total_194 : decode cX13_total 194 = .ok (.getfield 7, 3) := by decide +kernel
theorem dX13_total_197 : decode cX13_total 197 = .ok (.sipush 1617, 3) := by decide +kernel
theorem dX13_total_200 : decode cX13_total 200 = .ok (.laload, 1) := by decide +kernel
theorem dX13_total_201 : decode cX13_total 201 = .ok (.lreturn, 1) := by decide +kernel
theorem dX13_total_202 : decode cX13_total 202 = .ok (.aload_n 0, 1) := by decide +kernel
theorem dX13_total_203 : decode cX13_total 203 = .ok (.getfield 198, 3) := by decide +kernel
theorem dX13_total_206 : decode cX13_total 206 = .ok (.i2l, 1) := by decide +kernel
theorem dX13_total_207 : decode cX13_total 207 = .ok (.lreturn, 1) := by decide +kernel
theorem dX13_total_208 : decode cX13_total 208 = .ok (.aload_n 0, 1) := by decide +kernel
theorem dX13_total_209 : decode cX13_total 209 = .ok (.iconst 1, 1) := by decide +kernel
theorem dX13_total_210 : decode cX13_total 210 = .ok (.invokevirtual 54, 3) := by decide +kernel
theorem dX13_total_213 : decode cX13_total 213 = .ok (.i2l, 1) := by decide +kernel
theorem dX13_total_214 : decode cX13_total 214 = .ok (.lreturn, 1) := by decide +kernel
theorem dX13_shadeAt_0 : decode cX13_shadeAt 0 = .ok (.aload_n 0, 1) := by decide +kernel
theorem dX13_shadeAt_1 : decode cX13_shadeAt 1 = .ok (.iconst 0, 1) := by decide +kernel
theorem dX13_shadeAt_2 : decode cX13_shadeAt 2 = .ok (.putfield 31, 3) := by decide +kernel
theorem dX13_shadeAt_5 : decode cX13_shadeAt 5 = .ok (.iload_n 1, 1) := by decide +kernel
theorem dX13_shadeAt_6 : decode cX13_shadeAt 6 = .ok (.invokestatic 65, 3) := by decide +kernel
theorem dX13_shadeAt_9 : decode cX13_shadeAt 9 = .ok (.ifCond .eq 17, 3) := by decide +kernel
theorem dX13_shadeAt_12 : decode cX13_shadeAt 12 = .ok (.iload_n 2, 1) := by decide +kernel
theorem dX13_shadeAt_13 : decode cX13_shadeAt 13 = .ok (.invokestatic 68, 3) := by decide +kernel
theorem dX13_shadeAt_16 : decode cX13_shadeAt 16 = .ok (.ifCond .eq 10, 3) := by decide +kernel
theorem dX13_shadeAt_19 : decode cX13_shadeAt 19 = .ok (.iload_n 3, 1) := by decide +kernel
theorem dX13_shadeAt_20 : decode cX13_shadeAt 20 = .ok (.invokestatic 50, 3) := by decide +kernel
theorem dX13_shadeAt_23 : decode cX13_shadeAt 23 = .ok (.ifCond .ne 9, 3) := by decide +kernel
theorem dX13_shadeAt_26 : decode cX13_shadeAt 26 = .ok (.aload_n 0, 1) := by decide +kernel
theorem dX13_shadeAt_27 : decode cX13_shadeAt 27 = .ok (.iconst 1, 1) := by decide +kernel
theorem dX13_shadeAt_28 : decode cX13_shadeAt 28 = .ok (.invokevirtual 54, 3) := by decide +kernel
theorem dX13_shadeAt_31 : decode cX13_shadeAt 31 = .ok (.ireturn, 1) := by decide +kernel
theorem dX13_shadeAt_32 : decode cX13_shadeAt 32 = .ok (.iload 4, 2) := by decide +kernel
theorem dX13_shadeAt_34 : decode cX13_shadeAt 34 = .ok (.i2l, 1) := by decide +kernel
theorem dX13_shadeAt_35 : decode cX13_shadeAt 35 = .ok (.ldc2_w 90, 3) := by decide +kernel
theorem dX13_shadeAt_38 : decode cX13_shadeAt 38 = .ok (.ldc2_w 92, 3) := by decide +kernel
theorem dX13_shadeAt_41 : decode cX13_shadeAt 41 = .ok (.invokestatic 37, 3) := by decide +kernel
theorem dX13_shadeAt_44 : decode cX13_shadeAt 44 = .ok (.ifCond .eq 15, 3) := by decide +kernel
theorem dX13_shadeAt_47 : decode cX13_shadeAt 47 = .ok (.aload_n 0, 1) := by decide +kernel
theorem dX13_shadeAt_48 : decode cX13_shadeAt 48 = .ok (.iload_n 1, 1) := by decide +kernel
theorem dX13_shadeAt_49 : decode cX13_shadeAt 49 = .ok (.iload_n 2, 1) := by decide +kernel
theorem dX13_shadeAt_50 : decode cX13_shadeAt 50 = .ok (.iload_n 3, 1) := by decide +kernel
theorem dX13_shadeAt_51 : decode cX13_shadeAt 51 = .ok (.iload 4, 2) := by decide +kernel
theorem dX13_shadeAt_53 : decode cX13_shadeAt 53 = .ok (.invokevirtual 96, 3) := by decide +kernel
theorem dX13_shadeAt_56 : decode cX13_shadeAt 56 = .ok (.goto 8, 3) := by decide +kernel
theorem dX13_shadeAt_59 : decode cX13_shadeAt 59 = .ok (.aload_n 0, 1) := by decide +kernel
theorem dX13_shadeAt_60 : decode cX13_shadeAt 60 = .ok (.iconst 2, 1) := by decide +kernel
theorem dX13_shadeAt_61 : decode cX13_shadeAt 61 = .ok (.invokevirtual 54, 3) := by decide +kernel
theorem dX13_shadeAt_64 : decode cX13_shadeAt 64 = .ok (.ireturn, 1) := by decide +kernel
theorem dX13_bestPeak_0 : decode cX13_bestPeak 0 = .ok (.aload_n 0, 1) := by decide +kernel
theorem dX13_bestPeak_1 : decode cX13_bestPeak 1 = .ok (.iconst 0, 1) := by decide +kernel
theorem dX13_bestPeak_2 : decode cX13_bestPeak 2 = .ok (.putfield 31, 3) := by decide +kernel
theorem dX13_bestPeak_5 : decode cX13_bestPeak 5 = .ok (.iload_n 1, 1) := by decide +kernel
theorem dX13_bestPeak_6 : decode cX13_bestPeak 6 = .ok (.invokestatic 65, 3) := by decide +kernel
theorem dX13_bestPeak_9 : decode cX13_bestPeak 9 = .ok (.ifCond .eq 10, 3) := by decide +kernel
theorem dX13_bestPeak_12 : decode cX13_bestPeak 12 = .ok (.iload_n 2, 1) := by decide +kernel
theorem dX13_bestPeak_13 : decode cX13_bestPeak 13 = .ok (.invokestatic 50, 3) := by decide +kernel
theorem dX13_bestPeak_16 : decode cX13_bestPeak 16 = .ok (.ifCond .ne 9, 3) := by decide +kernel
theorem dX13_bestPeak_19 : decode cX13_bestPeak 19 = .ok (.aload_n 0, 1) := by decide +kernel
theorem dX13_bestPeak_20 : decode cX13_bestPeak 20 = .ok (.iconst 1, 1) := by decide +kernel
theorem dX13_bestPeak_21 : decode cX13_bestPeak 21 = .ok (.invokevirtual 54, 3) := by decide +kernel
theorem dX13_bestPeak_24 : decode cX13_bestPeak 24 = .ok (.ireturn, 1) := by decide +kernel
theorem dX13_bestPeak_25 : decode cX13_bestPeak 25 = .ok (.iload_n 3, 1) := by decide +kernel
theorem dX13_bestPeak_26 : decode cX13_bestPeak 26 = .ok (.i2l, 1) := by decide +kernel
theorem dX13_bestPeak_27 : decode cX13_bestPeak 27 = .ok (.lconst 0, 1) := by decide +kernel
theorem dX13_bestPeak_28 : decode cX13_bestPeak 28 = .ok (.ldc2_w 58, 3) := by decide +kernel
theorem dX13_bestPeak_31 : decode cX13_bestPeak 31 = .ok (.invokestatic 37, 3) := by decide +kernel
theorem dX13_bestPeak_34 : decode cX13_bestPeak 34 = .ok (.ifCond .ne 9, 3) := by decide +kernel
theorem dX13_bestPeak_37 : decode cX13_bestPeak 37 = .ok (.aload_n 0, 1) := by decide +kernel
theorem dX13_bestPeak_38 : decode cX13_bestPeak 38 = .ok (.iconst 2, 1) := by decide +kernel
theorem dX13_bestPeak_39 : decode cX13_bestPeak 39 = .ok (.invokevirtual 54, 3) := by decide +kernel
theorem dX13_bestPeak_42 : decode cX13_bestPeak 42 = .ok (.ireturn, 1) := by decide +kernel
theorem dX13_bestPeak_43 : decode cX13_bestPeak 43 = .ok (.iconst (-1), 1) := by decide +kernel
theorem dX13_bestPeak_44 : decode cX13_bestPeak 44 = .ok (.istore 4, 2) := by decide +kernel
theorem dX13_bestPeak_46 : decode cX13_bestPeak 46 = .ok (.iconst 0, 1) := by decide +kernel
theorem dX13_bestPeak_47 : decode cX13_bestPeak 47 = .ok (.istore 5, 2) := by decide +kernel
theorem dX13_bestPeak_49 : decode cX13_bestPeak 49 = .ok (.sipush 800, 3) := by decide +kernel
theorem dX13_bestPeak_52 : decode cX13_bestPeak 52 = .ok (.istore 6, 2) := by decide +kernel
theorem dX13_bestPeak_54 : decode cX13_bestPeak 54 = .ok (.iload 6, 2) := by decide +kernel
theorem dX13_bestPeak_56 : decode cX13_bestPeak 56 = .ok (.sipush 1200, 3) := by decide +kernel
theorem dX13_bestPeak_59 : decode cX13_bestPeak 59 = .ok (.if_icmp .gt 67, 3) := by decide +kernel
theorem dX13_bestPeak_62 : decode cX13_bestPeak 62 = .ok (.iconst 0, 1) := by decide +kernel
theorem dX13_bestPeak_63 : decode cX13_bestPeak 63 = .ok (.istore 7, 2) := by decide +kernel
theorem dX13_bestPeak_65 : decode cX13_bestPeak 65 = .ok (.iconst 0, 1) := by decide +kernel
theorem dX13_bestPeak_66 : decode cX13_bestPeak 66 = .ok (.istore 8, 2) := by decide +kernel
theorem dX13_bestPeak_68 : decode cX13_bestPeak 68 = .ok (.iload 8, 2) := by decide +kernel
theorem dX13_bestPeak_70 : decode cX13_bestPeak 70 = .ok (.bipush 8, 2) := by decide +kernel
theorem dX13_bestPeak_72 : decode cX13_bestPeak 72 = .ok (.if_icmp .ge 33, 3) := by decide +kernel
theorem dX13_bestPeak_75 : decode cX13_bestPeak 75 = .ok (.iload 7, 2) := by decide +kernel
theorem dX13_bestPeak_77 : decode cX13_bestPeak 77 = .ok (.aload_n 0, 1) := by decide +kernel
theorem dX13_bestPeak_78 : decode cX13_bestPeak 78 = .ok (.iload_n 1, 1) := by decide +kernel
theorem dX13_bestPeak_79 : decode cX13_bestPeak 79 = .ok (.iload 8, 2) := by decide +kernel
theorem dX13_bestPeak_81 : decode cX13_bestPeak 81 = .ok (.iload_n 2, 1) := by decide +kernel
theorem dX13_bestPeak_82 : decode cX13_bestPeak 82 = .ok (.iload 6, 2) := by decide +kernel
theorem dX13_bestPeak_84 : decode cX13_bestPeak 84 = .ok (.invokevirtual 96, 3) := by decide +kernel
theorem dX13_bestPeak_87 : decode cX13_bestPeak 87 = .ok (.iload_n 3, 1) := by decide +kernel
theorem dX13_bestPeak_88 : decode cX13_bestPeak 88 = .ok (.if_icmp .ne 7, 3) := by decide +kernel
theorem dX13_bestPeak_91 : decode cX13_bestPeak 91 = .ok (.iconst 1, 1) := by decide +kernel
theorem dX13_bestPeak_92 : decode cX13_bestPeak 92 = .ok (.goto 4, 3) := by decide +kernel
theorem dX13_bestPeak_95 : decode cX13_bestPeak 95 = .ok (.iconst 0, 1) := by decide +kernel
theorem dX13_bestPeak_96 : decode cX13_bestPeak 96 = .ok (.iadd, 1) := by decide +kernel
theorem dX13_bestPeak_97 : decode cX13_bestPeak 97 = .ok (.istore 7, 2) := by decide +kernel
theorem dX13_bestPeak_99 : decode cX13_bestPeak 99 = .ok (.iinc 8 1, 3) := by decide +kernel
theorem dX13_bestPeak_102 : decode cX13_bestPeak 102 = .ok (.goto (-34), 3) := by decide +kernel
theorem dX13_bestPeak_105 : decode cX13_bestPeak 105 = .ok (.iload 7, 2) := by decide +kernel
theorem dX13_bestPeak_107 : decode cX13_bestPeak 107 = .ok (.iload 5, 2) := by decide +kernel
theorem dX13_bestPeak_109 : decode cX13_bestPeak 109 = .ok (.if_icmp .le 11, 3) := by decide +kernel
theorem dX13_bestPeak_112 : decode cX13_bestPeak 112 = .ok (.iload 6, 2) := by decide +kernel
theorem dX13_bestPeak_114 : decode cX13_bestPeak 114 = .ok (.istore 4, 2) := by decide +kernel
theorem dX13_bestPeak_116 : decode cX13_bestPeak 116 = .ok (.iload 7, 2) := by decide +kernel
theorem dX13_bestPeak_118 : decode cX13_bestPeak 118 = .ok (.istore 5, 2) := by decide +kernel
theorem dX13_bestPeak_120 : decode cX13_bestPeak 120 = .ok (.iinc 6 1, 3) := by decide +kernel
theorem dX13_bestPeak_123 : decode cX13_bestPeak 123 = .ok (.goto (-69), 3) := by decide +kernel
theorem dX13_bestPeak_126 : decode cX13_bestPeak 126 = .ok (.iload 4, 2) := by decide +kernel
theorem dX13_bestPeak_128 : decode cX13_bestPeak 128 = .ok (.ireturn, 1) := by decide +kernel
theorem dX13_largest_0 : decode cX13_largest 0 = .ok (.aload_n 0, 1) := by decide +kernel
theorem dX13_largest_1 : decode cX13_largest 1 = .ok (.iconst 0, 1) := by decide +kernel
theorem dX13_largest_2 : decode cX13_largest 2 = .ok (.putfield 31, 3) := by decide +kernel
theorem dX13_largest_5 : decode cX13_largest 5 = .ok (.iload_n 1, 1) := by decide +kernel
theorem dX13_largest_6 : decode cX13_largest 6 = .ok (.invokestatic 50, 3) := by decide +kernel
theorem dX13_largest_9 : decode cX13_largest 9 = .ok (.ifCond .ne 9, 3) := by decide +kernel
theorem dX13_largest_12 : decode cX13_largest 12 = .ok (.aload_n 0, 1) := by decide +kernel
theorem dX13_largest_13 : decode cX13_largest 13 = .ok (.iconst 1, 1) := by decide +kernel
theorem dX13_largest_14 : decode cX13_largest 14 = .ok (.invokevirtual 54, 3) := by decide +kernel
theorem dX13_largest_17 : decode cX13_largest 17 = .ok (.ireturn, 1) := by decide +kernel
theorem dX13_largest_18 : decode cX13_largest 18 = .ok (.iload_n 2, 1) := by decide +kernel
theorem dX13_largest_19 : decode cX13_largest 19 = .ok (.invokestatic 144, 3) := by decide +kernel
theorem dX13_largest_22 : decode cX13_largest 22 = .ok (.ifCond .ne 9, 3) := by decide +kernel
theorem dX13_largest_25 : decode cX13_largest 25 = .ok (.aload_n 0, 1) := by decide +kernel
theorem dX13_largest_26 : decode cX13_largest 26 = .ok (.iconst 2, 1) := by decide +kernel
theorem dX13_largest_27 : decode cX13_largest 27 = .ok (.invokevirtual 54, 3) := by decide +kernel
theorem dX13_largest_30 : decode cX13_largest 30 = .ok (.ireturn, 1) := by decide +kernel
theorem dX13_largest_31 : decode cX13_largest 31 = .ok (.lconst 0, 1) := by decide +kernel
theorem dX13_largest_32 : decode cX13_largest 32 = .ok (.lstore_n 3, 1) := by decide +kernel
theorem dX13_largest_33 : decode cX13_largest 33 = .ok (.iconst 0, 1) := by decide +kernel
theorem dX13_largest_34 : decode cX13_largest 34 = .ok (.istore 5, 2) := by decide +kernel
theorem dX13_largest_36 : decode cX13_largest 36 = .ok (.iload 5, 2) := by decide +kernel
theorem dX13_largest_38 : decode cX13_largest 38 = .ok (.i2l, 1) := by decide +kernel
theorem dX13_largest_39 : decode cX13_largest 39 = .ok (.aload_n 0, 1) := by decide +kernel
theorem dX13_largest_40 : decode cX13_largest 40 = .ok (.getfield 7, 3) := by decide +kernel
theorem dX13_largest_43 : decode cX13_largest 43 = .ok (.sipush 1614, 3) := by decide +kernel
theorem dX13_largest_46 : decode cX13_largest 46 = .ok (.laload, 1) := by decide +kernel
theorem dX13_largest_47 : decode cX13_largest 47 = .ok (.lcmp, 1) := by decide +kernel
theorem dX13_largest_48 : decode cX13_largest 48 = .ok (.ifCond .ge 87, 3) := by decide +kernel
theorem dX13_largest_51 : decode cX13_largest 51 = .ok (.aload_n 0, 1) := by decide +kernel
theorem dX13_largest_52 : decode cX13_largest 52 = .ok (.getfield 7, 3) := by decide +kernel
theorem dX13_largest_55 : decode cX13_largest 55 = .ok (.sipush 410, 3) := by decide +kernel
theorem dX13_largest_58 : decode cX13_largest 58 = .ok (.iload 5, 2) := by decide +kernel
theorem dX13_largest_60 : decode cX13_largest 60 = .ok (.iadd, 1) := by decide +kernel
theorem dX13_largest_61 : decode cX13_largest 61 = .ok (.laload, 1) := by decide +kernel
theorem dX13_largest_62 : decode cX13_largest 62 = .ok (.iload_n 1, 1) := by decide +kernel
theorem dX13_largest_63 : decode cX13_largest 63 = .ok (.i2l, 1) := by decide +kernel
theorem dX13_largest_64 : decode cX13_largest 64 = .ok (.lcmp, 1) := by decide +kernel
theorem dX13_largest_65 : decode cX13_largest 65 = .ok (.ifCond .ne 24, 3) := by decide +kernel
theorem dX13_largest_68 : decode cX13_largest 68 = .ok (.aload_n 0, 1) := by decide +kernel
theorem dX13_largest_69 : decode cX13_largest 69 = .ok (.getfield 7, 3) := by decide +kernel
theorem dX13_largest_72 : decode cX13_largest 72 = .ok (.sipush 730, 3) := by decide +kernel
theorem dX13_largest_75 : decode cX13_largest 75 = .ok (.iload 5, 2) := by decide +kernel
theorem dX13_largest_77 : decode cX13_largest 77 = .ok (.iadd, 1) := by decide +kernel
theorem dX13_largest_78 : decode cX13_largest 78 = .ok (.laload, 1) := by decide +kernel
theorem dX13_largest_79 : decode cX13_largest 79 = .ok (.iload_n 2, 1) := by decide +kernel
theorem dX13_largest_80 : decode cX13_largest 80 = .ok (.i2l, 1) := by decide +kernel
theorem dX13_largest_81 : decode cX13_largest 81 = .ok (.lcmp, 1) := by decide +kernel
theorem dX13_largest_82 : decode cX13_largest 82 = .ok (.ifCond .ne 7, 3) := by decide +kernel
theorem dX13_largest_85 : decode cX13_largest 85 = .ok (.iconst 1, 1) := by decide +kernel
theorem dX13_largest_86 : decode cX13_largest 86 = .ok (.goto 4, 3) := by decide +kernel
theorem dX13_largest_89 : decode cX13_largest 89 = .ok (.iconst 0, 1) := by decide +kernel
theorem dX13_largest_90 : decode cX13_largest 90 = .ok (.istore 6, 2) := by decide +kernel
theorem dX13_largest_92 : decode cX13_largest 92 = .ok (.iload 6, 2) := by decide +kernel
theorem dX13_largest_94 : decode cX13_largest 94 = .ok (.ifCond .eq 33, 3) := by decide +kernel
theorem dX13_largest_97 : decode cX13_largest 97 = .ok (.aload_n 0, 1) := by decide +kernel
theorem dX13_largest_98 : decode cX13_largest 98 = .ok (.getfield 7, 3) := by decide +kernel
theorem dX13_largest_101 : decode cX13_largest 101 = .ok (.sipush 1050, 3) := by decide +kernel
theorem dX13_largest_104 : decode cX13_largest 104 = .ok (.iload 5, 2) := by decide +kernel
theorem dX13_largest_106 : decode cX13_largest 106 = .ok (.iadd, 1) := by decide +kernel
theorem dX13_largest_107 : decode cX13_largest 107 = .ok (.laload, 1) := by decide +kernel
theorem dX13_largest_108 : decode cX13_largest 108 = .ok (.lload_n 3, 1) := by decide +kernel
theorem dX13_largest_109 : decode cX13_largest 109 = .ok (.lcmp, 1) := by decide +kernel
theorem dX13_largest_110 : decode cX13_largest 110 = .ok (.ifCond .le 17, 3) := by decide +kernel
theorem dX13_largest_113 : decode cX13_largest 113 = .ok (.aload_n 0, 1) := by decide +kernel
theorem dX13_largest_114 : decode cX13_largest 114 = .ok (.getfield 7, 3) := by decide +kernel
theorem dX13_largest_117 : decode cX13_largest 117 = .ok (.sipush 1050, 3) := by decide +kernel
theorem dX13_largest_120 : decode cX13_largest 120 = .ok (.iload 5, 2) := by decide +kernel
theorem dX13_largest_122 : decode cX13_largest 122 = .ok (.iadd, 1) := by decide +kernel
theorem dX13_largest_123 : decode cX13_largest 123 = .ok (.laload, 1) := by decide +kernel
theorem dX13_largest_124 : decode cX13_largest 124 = .ok (.goto 4, 3) := by decide +kernel
theorem dX13_largest_127 : decode cX13_largest 127 = .ok (.lload_n 3, 1) := by decide +kernel
theorem dX13_largest_128 : decode cX13_largest 128 = .ok (.lstore_n 3, 1) := by decide +kernel
theorem dX13_largest_129 : decode cX13_largest 129 = .ok (.iinc 5 1, 3) := by decide +kernel
theorem dX13_largest_132 : decode cX13_largest 132 = .ok (.goto (-96), 3) := by decide +kernel
theorem dX13_largest_135 : decode cX13_largest 135 = .ok (.lload_n 3, 1) := by decide +kernel
theorem dX13_largest_136 : decode cX13_largest 136 = .ok (.l2i, 1) := by decide +kernel
theorem dX13_largest_137 : decode cX13_largest 137 = .ok (.ireturn, 1) := by decide +kernel
theorem dX13_made_0 : decode cX13_made 0 = .ok (.iconst 1, 1) := by decide +kernel
theorem dX13_made_1 : decode cX13_made 1 = .ok (.istore 7, 2) := by decide +kernel
theorem dX13_made_3 : decode cX13_made 3 = .ok (.iconst 0, 1) := by decide +kernel
theorem dX13_made_4 : decode cX13_made 4 = .ok (.istore 8, 2) := by decide +kernel
theorem dX13_made_6 : decode cX13_made 6 = .ok (.iload 8, 2) := by decide +kernel
theorem dX13_made_8 : decode cX13_made 8 = .ok (.i2l, 1) := by decide +kernel
theorem dX13_made_9 : decode cX13_made 9 = .ok (.aload_n 0, 1) := by decide +kernel
theorem dX13_made_10 : decode cX13_made 10 = .ok (.getfield 7, 3) := by decide +kernel
theorem dX13_made_13 : decode cX13_made 13 = .ok (.sipush 1614, 3) := by decide +kernel
theorem dX13_made_16 : decode cX13_made 16 = .ok (.laload, 1) := by decide +kernel
theorem dX13_made_17 : decode cX13_made 17 = .ok (.lcmp, 1) := by decide +kernel
theorem dX13_made_18 : decode cX13_made 18 = .ok (.ifCond .ge 79, 3) := by decide +kernel
theorem dX13_made_21 : decode cX13_made 21 = .ok (.iload_n 1, 1) := by decide +kernel
theorem dX13_made_22 : decode cX13_made 22 = .ok (.iload 8, 2) := by decide +kernel
theorem dX13_made_24 : decode cX13_made 24 = .ok (.if_icmp .ne 8, 3) := by decide +kernel
theorem dX13_made_27 : decode cX13_made 27 = .ok (.iload 4, 2) := by decide +kernel
theorem dX13_made_29 : decode cX13_made 29 = .ok (.goto 4, 3) := by decide +kernel
theorem dX13_made_32 : decode cX13_made 32 = .ok (.iconst 0, 1) := by decide +kernel
theorem dX13_made_33 : decode cX13_made 33 = .ok (.iload_n 2, 1) := by decide +kernel
theorem dX13_made_34 : decode cX13_made 34 = .ok (.iload 8, 2) := by decide +kernel
theorem dX13_made_36 : decode cX13_made 36 = .ok (.if_icmp .ne 8, 3) := by decide +kernel
theorem dX13_made_39 : decode cX13_made 39 = .ok (.iload 5, 2) := by decide +kernel
theorem dX13_made_41 : decode cX13_made 41 = .ok (.goto 4, 3) := by decide +kernel
theorem dX13_made_44 : decode cX13_made 44 = .ok (.iconst 0, 1) := by decide +kernel
theorem dX13_made_45 : decode cX13_made 45 = .ok (.iadd, 1) := by decide +kernel
theorem dX13_made_46 : decode cX13_made 46 = .ok (.iload_n 3, 1) := by decide +kernel
theorem dX13_made_47 : decode cX13_made 47 = .ok (.iload 8, 2) := by decide +kernel
theorem dX13_made_49 : decode cX13_made 49 = .ok (.if_icmp .ne 8, 3) := by decide +kernel
theorem dX13_made_52 : decode cX13_made 52 = .ok (.iload 6, 2) := by decide +kernel
theorem dX13_made_54 : decode cX13_made 54 = .ok (.goto 4, 3) := by decide +kernel
theorem dX13_made_57 : decode cX13_made 57 = .ok (.iconst 0, 1) := by decide +kernel
theorem dX13_made_58 : decode cX13_made 58 = .ok (.iadd, 1) := by decide +kernel
theorem dX13_made_59 : decode cX13_made 59 = .ok (.i2l, 1) := by decide +kernel
theorem dX13_made_60 : decode cX13_made 60 = .ok (.lstore 9, 2) := by decide +kernel
theorem dX13_made_62 : decode cX13_made 62 = .ok (.iload 7, 2) := by decide +kernel
theorem dX13_made_64 : decode cX13_made 64 = .ok (.ifCond .eq 24, 3) := by decide +kernel
theorem dX13_made_67 : decode cX13_made 67 = .ok (.lload 9, 2) := by decide +kernel
theorem dX13_made_69 : decode cX13_made 69 = .ok (.aload_n 0, 1) := by decide +kernel
theorem dX13_made_70 : decode cX13_made 70 = .ok (.getfield 7, 3) := by decide +kernel
theorem dX13_made_73 : decode cX13_made 73 = .ok (.sipush 1050, 3) := by decide +kernel
theorem dX13_made_76 : decode cX13_made 76 = .ok (.iload 8, 2) := by decide +kernel
theorem dX13_made_78 : decode cX13_made 78 = .ok (.iadd, 1) := by decide +kernel
theorem dX13_made_79 : decode cX13_made 79 = .ok (.laload, 1) := by decide +kernel
theorem dX13_made_80 : decode cX13_made 80 = .ok (.lcmp, 1) := by decide +kernel
theorem dX13_made_81 : decode cX13_made 81 = .ok (.ifCond .gt 7, 3) := by decide +kernel
theorem dX13_made_84 : decode cX13_made 84 = .ok (.iconst 1, 1) := by decide +kernel
theorem dX13_made_85 : decode cX13_made 85 = .ok (.goto 4, 3) := by decide +kernel
theorem dX13_made_88 : decode cX13_made 88 = .ok (.iconst 0, 1) := by decide +kernel
theorem dX13_made_89 : decode cX13_made 89 = .ok (.istore 7, 2) := by decide +kernel
theorem dX13_made_91 : decode cX13_made 91 = .ok (.iinc 8 1, 3) := by decide +kernel
theorem dX13_made_94 : decode cX13_made 94 = .ok (.goto (-88), 3) := by decide +kernel
theorem dX13_made_97 : decode cX13_made 97 = .ok (.iload 7, 2) := by decide +kernel
theorem dX13_made_99 : decode cX13_made 99 = .ok (.ifCond .eq 38, 3) := by decide +kernel
theorem dX13_made_102 : decode cX13_made 102 = .ok (.iload_n 1, 1) := by decide +kernel
theorem dX13_made_103 : decode cX13_made 103 = .ok (.iconst (-1), 1) := by decide +kernel
theorem dX13_made_104 : decode cX13_made 104 = .ok (.if_icmp .ne 7, 3) := by decide +kernel
theorem dX13_made_107 : decode cX13_made 107 = .ok (.iconst 0, 1) := by decide +kernel
theorem dX13_made_108 : decode cX13_made 108 = .ok (.goto 4, 3) := by decide +kernel
theorem dX13_made_111 : decode cX13_made 111 = .ok (.iconst 1, 1) := by decide +kernel
theorem dX13_made_112 : decode cX13_made 112 = .ok (.iload_n 2, 1) := by decide +kernel
theorem dX13_made_113 : decode cX13_made 113 = .ok (.iconst (-1), 1) := by decide +kernel
theorem dX13_made_114 : decode cX13_made 114 = .ok (.if_icmp .ne 7, 3) := by decide +kernel
theorem dX13_made_117 : decode cX13_made 117 = .ok (.iconst 0, 1) := by decide +kernel
theorem dX13_made_118 : decode cX13_made 118 = .ok (.goto 4, 3) := by decide +kernel
theorem dX13_made_121 : decode cX13_made 121 = .ok (.iconst 1, 1) := by decide +kernel
theorem dX13_made_122 : decode cX13_made 122 = .ok (.iadd, 1) := by decide +kernel
theorem dX13_made_123 : decode cX13_made 123 = .ok (.iload_n 3, 1) := by decide +kernel
theorem dX13_made_124 : decode cX13_made 124 = .ok (.iconst (-1), 1) := by decide +kernel
theorem dX13_made_125 : decode cX13_made 125 = .ok (.if_icmp .ne 7, 3) := by decide +kernel
theorem dX13_made_128 : decode cX13_made 128 = .ok (.iconst 0, 1) := by decide +kernel
theorem dX13_made_129 : decode cX13_made 129 = .ok (.goto 4, 3) := by decide +kernel
theorem dX13_made_132 : decode cX13_made 132 = .ok (.iconst 1, 1) := by decide +kernel
theorem dX13_made_133 : decode cX13_made 133 = .ok (.iadd, 1) := by decide +kernel
theorem dX13_made_134 : decode cX13_made 134 = .ok (.goto 4, 3) := by decide +kernel
theorem dX13_made_137 : decode cX13_made 137 = .ok (.iconst 0, 1) := by decide +kernel
theorem dX13_made_138 : decode cX13_made 138 = .ok (.ireturn, 1) := by decide +kernel
theorem dX13_isOf_0 : decode cX13_isOf 0 = .ok (.iload_n 1, 1) := by decide +kernel
theorem dX13_isOf_1 : decode cX13_isOf 1 = .ok (.iconst (-1), 1) := by decide +kernel
theorem dX13_isOf_2 : decode cX13_isOf 2 = .ok (.if_icmp .eq 35, 3) := by decide +kernel
theorem dX13_isOf_5 : decode cX13_isOf 5 = .ok (.aload_n 0, 1) := by decide +kernel
theorem dX13_isOf_6 : decode cX13_isOf 6 = .ok (.getfield 7, 3) := by decide +kernel
theorem dX13_isOf_9 : decode cX13_isOf 9 = .ok (.sipush 410, 3) := by decide +kernel
theorem dX13_isOf_12 : decode cX13_isOf 12 = .ok (.iload_n 1, 1) := by decide +kernel
theorem dX13_isOf_13 : decode cX13_isOf 13 = .ok (.iadd, 1) := by decide +kernel
theorem dX13_isOf_14 : decode cX13_isOf 14 = .ok (.laload, 1) := by decide +kernel
theorem dX13_isOf_15 : decode cX13_isOf 15 = .ok (.iload_n 2, 1) := by decide +kernel
theorem dX13_isOf_16 : decode cX13_isOf 16 = .ok (.i2l, 1) := by decide +kernel
theorem dX13_isOf_17 : decode cX13_isOf 17 = .ok (.lcmp, 1) := by decide +kernel
theorem dX13_isOf_18 : decode cX13_isOf 18 = .ok (.ifCond .ne 23, 3) := by decide +kernel
theorem dX13_isOf_21 : decode cX13_isOf 21 = .ok (.aload_n 0, 1) := by decide +kernel
theorem dX13_isOf_22 : decode cX13_isOf 22 = .ok (.getfield 7, 3) := by decide +kernel
theorem dX13_isOf_25 : decode cX13_isOf 25 = .ok (.sipush 730, 3) := by decide +kernel
theorem dX13_isOf_28 : decode cX13_isOf 28 = .ok (.iload_n 1, 1) := by decide +kernel
theorem dX13_isOf_29 : decode cX13_isOf 29 = .ok (.iadd, 1) := by decide +kernel
theorem dX13_isOf_30 : decode cX13_isOf 30 = .ok (.laload, 1) := by decide +kernel
theorem dX13_isOf_31 : decode cX13_isOf 31 = .ok (.iload_n 3, 1) := by decide +kernel
theorem dX13_isOf_32 : decode cX13_isOf 32 = .ok (.i2l, 1) := by decide +kernel
theorem dX13_isOf_33 : decode cX13_isOf 33 = .ok (.lcmp, 1) := by decide +kernel
theorem dX13_isOf_34 : decode cX13_isOf 34 = .ok (.ifCond .ne 7, 3) := by decide +kernel
theorem dX13_isOf_37 : decode cX13_isOf 37 = .ok (.iconst 1, 1) := by decide +kernel
theorem dX13_isOf_38 : decode cX13_isOf 38 = .ok (.goto 4, 3) := by decide +kernel
theorem dX13_isOf_41 : decode cX13_isOf 41 = .ok (.iconst 0, 1) := by decide +kernel
theorem dX13_isOf_42 : decode cX13_isOf 42 = .ok (.ireturn, 1) := by decide +kernel
theorem dX13_most_0 : decode cX13_most 0 = .ok (.iconst 0, 1) := by decide +kernel
theorem dX13_most_1 : decode cX13_most 1 = .ok (.istore 6, 2) := by decide +kernel
theorem dX13_most_3 : decode cX13_most 3 = .ok (.iconst (-1), 1) := by decide +kernel
theorem dX13_most_4 : decode cX13_most 4 = .ok (.istore 7, 2) := by decide +kernel
theorem dX13_most_6 : decode cX13_most 6 = .ok (.iload 7, 2) := by decide +kernel
theorem dX13_most_8 : decode cX13_most 8 = .ok (.i2l, 1) := by decide +kernel
theorem dX13_most_9 : decode cX13_most 9 = .ok (.aload_n 0, 1) := by decide +kernel
theorem dX13_most_10 : decode cX13_most 10 = .ok (.getfield 7, 3) := by decide +kernel
theorem dX13_most_13 : decode cX13_most 13 = .ok (.sipush 1614, 3) := by decide +kernel
theorem dX13_most_16 : decode cX13_most 16 = .ok (.laload, 1) := by decide +kernel
theorem dX13_most_17 : decode cX13_most 17 = .ok (.lcmp, 1) := by decide +kernel
theorem dX13_most_18 : decode cX13_most 18 = .ok (.ifCond .ge 133, 3) := by decide +kernel
theorem dX13_most_21 : decode cX13_most 21 = .ok (.iconst (-1), 1) := by decide +kernel
theorem dX13_most_22 : decode cX13_most 22 = .ok (.istore 8, 2) := by decide +kernel
theorem dX13_most_24 : decode cX13_most 24 = .ok (.iload 8, 2) := by decide +kernel
theorem dX13_most_26 : decode cX13_most 26 = .ok (.i2l, 1) := by decide +kernel
theorem dX13_most_27 : decode cX13_most 27 = .ok (.aload_n 0, 1) := by decide +kernel
theorem dX13_most_28 : decode cX13_most 28 = .ok (.getfield 7, 3) := by decide +kernel
theorem dX13_most_31 : decode cX13_most 31 = .ok (.sipush 1614, 3) := by decide +kernel
theorem dX13_most_34 : decode cX13_most 34 = .ok (.laload, 1) := by decide +kernel
theorem dX13_most_35 : decode cX13_most 35 = .ok (.lcmp, 1) := by decide +kernel
theorem dX13_most_36 : decode cX13_most 36 = .ok (.ifCond .ge 109, 3) := by decide +kernel
theorem dX13_most_39 : decode cX13_most 39 = .ok (.aload_n 0, 1) := by decide +kernel
theorem dX13_most_40 : decode cX13_most 40 = .ok (.iload 7, 2) := by decide +kernel
theorem dX13_most_42 : decode cX13_most 42 = .ok (.iload_n 1, 1) := by decide +kernel
theorem dX13_most_43 : decode cX13_most 43 = .ok (.iload_n 2, 1) := by decide +kernel
theorem dX13_most_44 : decode cX13_most 44 = .ok (.invokevirtual 201, 3) := by decide +kernel
theorem dX13_most_47 : decode cX13_most 47 = .ok (.ifCond .eq 98, 3) := by decide +kernel
theorem dX13_most_50 : decode cX13_most 50 = .ok (.iconst (-1), 1) := by decide +kernel
theorem dX13_most_51 : decode cX13_most 51 = .ok (.istore 9, 2) := by decide +kernel
theorem dX13_most_53 : decode cX13_most 53 = .ok (.iload 9, 2) := by decide +kernel
theorem dX13_most_55 : decode cX13_most 55 = .ok (.i2l, 1) := by decide +kernel
theorem dX13_most_56 : decode cX13_most 56 = .ok (.aload_n 0, 1) := by decide +kernel
theorem dX13_most_57 : decode cX13_most 57 = .ok (.getfield 7, 3) := by decide +kernel
theorem dX13_most_60 : decode cX13_most 60 = .ok (.sipush 1614, 3) := by decide +kernel
theorem dX13_most_63 : decode cX13_most 63 = .ok (.laload, 1) := by decide +kernel
theorem dX13_most_64 : decode cX13_most 64 = .ok (.lcmp, 1) := by decide +kernel
theorem dX13_most_65 : decode cX13_most 65 = .ok (.ifCond .ge 74, 3) := by decide +kernel
theorem dX13_most_68 : decode cX13_most 68 = .ok (.aload_n 0, 1) := by decide +kernel
theorem dX13_most_69 : decode cX13_most 69 = .ok (.iload 8, 2) := by decide +kernel
theorem dX13_most_71 : decode cX13_most 71 = .ok (.iload_n 1, 1) := by decide +kernel
theorem dX13_most_72 : decode cX13_most 72 = .ok (.iload_n 2, 1) := by decide +kernel
theorem dX13_most_73 : decode cX13_most 73 = .ok (.invokevirtual 201, 3) := by decide +kernel
theorem dX13_most_76 : decode cX13_most 76 = .ok (.ifCond .eq 63, 3) := by decide +kernel
theorem dX13_most_79 : decode cX13_most 79 = .ok (.iload 6, 2) := by decide +kernel
theorem dX13_most_81 : decode cX13_most 81 = .ok (.iconst 3, 1) := by decide +kernel
theorem dX13_most_82 : decode cX13_most 82 = .ok (.if_icmp .ge 57, 3) := by decide +kernel
theorem dX13_most_85 : decode cX13_most 85 = .ok (.aload_n 0, 1) := by decide +kernel
theorem dX13_most_86 : decode cX13_most 86 = .ok (.iload 9, 2) := by decide +kernel
theorem dX13_most_88 : decode cX13_most 88 = .ok (.iload_n 1, 1) := by decide +kernel
theorem dX13_most_89 : decode cX13_most 89 = .ok (.iload_n 2, 1) := by decide +kernel
theorem dX13_most_90 : decode cX13_most 90 = .ok (.invokevirtual 201, 3) := by decide +kernel
theorem dX13_most_93 : decode cX13_most 93 = .ok (.ifCond .eq 21, 3) := by decide +kernel
theorem dX13_most_96 : decode cX13_most 96 = .ok (.aload_n 0, 1) := by decide +kernel
theorem dX13_most_97 : decode cX13_most 97 = .ok (.iload 7, 2) := by decide +kernel
theorem dX13_most_99 : decode cX13_most 99 = .ok (.iload 8, 2) := by decide +kernel
theorem dX13_most_101 : decode cX13_most 101 = .ok (.iload 9, 2) := by decide +kernel
theorem dX13_most_103 : decode cX13_most 103 = .ok (.iload_n 3, 1) := by decide +kernel
theorem dX13_most_104 : decode cX13_most 104 = .ok (.iload 4, 2) := by decide +kernel
theorem dX13_most_106 : decode cX13_most 106 = .ok (.iload 5, 2) := by decide +kernel
theorem dX13_most_108 : decode cX13_most 108 = .ok (.invokevirtual 205, 3) := by decide +kernel
theorem dX13_most_111 : decode cX13_most 111 = .ok (.goto 4, 3) := by decide +kernel
theorem dX13_most_114 : decode cX13_most 114 = .ok (.iconst 0, 1) := by decide +kernel
theorem dX13_most_115 : decode cX13_most 115 = .ok (.istore 10, 2) := by decide +kernel
theorem dX13_most_117 : decode cX13_most 117 = .ok (.iload 10, 2) := by decide +kernel
theorem dX13_most_119 : decode cX13_most 119 = .ok (.iload 6, 2) := by decide +kernel
theorem dX13_most_121 : decode cX13_most 121 = .ok (.if_icmp .le 8, 3) := by decide +kernel
theorem dX13_most_124 : decode cX13_most 124 = .ok (.iload 10, 2) := by decide +kernel
theorem dX13_most_126 : decode cX13_most 126 = .ok (.goto 5, 3) := by decide +kernel
theorem dX13_most_129 : decode cX13_most 129 = .ok (.iload 6, 2) := by decide +kernel
theorem dX13_most_131 : decode cX13_most 131 = .ok (.istore 6, 2) := by decide +kernel
theorem dX13_most_133 : decode cX13_most 133 = .ok (.iinc 9 1, 3) := by decide +kernel
theorem dX13_most_136 : decode cX13_most 136 = .ok (.goto (-83), 3) := by decide +kernel
theorem dX13_most_139 : decode cX13_most 139 = .ok (.iinc 8 1, 3) := by decide +kernel
theorem dX13_most_142 : decode cX13_most 142 = .ok (.goto (-118), 3) := by decide +kernel
theorem dX13_most_145 : decode cX13_most 145 = .ok (.iinc 7 1, 3) := by decide +kernel
theorem dX13_most_148 : decode cX13_most 148 = .ok (.goto (-142), 3) := by decide +kernel
theorem dX13_most_151 : decode cX13_most 151 = .ok (.iload 6, 2) := by decide +kernel
theorem dX13_most_153 : decode cX13_most 153 = .ok (.ireturn, 1) := by decide +kernel
theorem dX13_possible_0 : decode cX13_possible 0 = .ok (.aload_n 0, 1) := by decide +kernel
theorem dX13_possible_1 : decode cX13_possible 1 = .ok (.iconst 0, 1) := by decide +kernel
theorem dX13_possible_2 : decode cX13_possible 2 = .ok (.putfield 31, 3) := by decide +kernel
theorem dX13_possible_5 : decode cX13_possible 5 = .ok (.iload_n 1, 1) := by decide +kernel
theorem dX13_possible_6 : decode cX13_possible 6 = .ok (.invokestatic 50, 3) := by decide +kernel
theorem dX13_possible_9 : decode cX13_possible 9 = .ok (.ifCond .ne 9, 3) := by decide +kernel
theorem dX13_possible_12 : decode cX13_possible 12 = .ok (.aload_n 0, 1) := by decide +kernel
theorem dX13_possible_13 : decode cX13_possible 13 = .ok (.iconst 1, 1) := by decide +kernel
theorem dX13_possible_14 : decode cX13_possible 14 = .ok (.invokevirtual 54, 3) := by decide +kernel
theorem dX13_possible_17 : decode cX13_possible 17 = .ok (.ireturn, 1) := by decide +kernel
theorem dX13_possible_18 : decode cX13_possible 18 = .ok (.iload_n 2, 1) := by decide +kernel
theorem dX13_possible_19 : decode cX13_possible 19 = .ok (.invokestatic 144, 3) := by decide +kernel
theorem dX13_possible_22 : decode cX13_possible 22 = .ok (.ifCond .eq 40, 3) := by decide +kernel
theorem dX13_possible_25 : decode cX13_possible 25 = .ok (.iload_n 3, 1) := by decide +kernel
theorem dX13_possible_26 : decode cX13_possible 26 = .ok (.invokestatic 147, 3) := by decide +kernel
theorem dX13_possible_29 : decode cX13_possible 29 = .ok (.ifCond .eq 33, 3) := by decide +kernel
theorem dX13_possible_32 : decode cX13_possible 32 = .ok (.iload 4, 2) := by decide +kernel
theorem dX13_possible_34 : decode cX13_possible 34 = .ok (.invokestatic 147, 3) := by decide +kernel
theorem dX13_possible_37 : decode cX13_possible 37 = .ok (.ifCond .eq 25, 3) := by decide +kernel
theorem dX13_possible_40 : decode cX13_possible 40 = .ok (.iload 5, 2) := by decide +kernel
theorem dX13_possible_42 : decode cX13_possible 42 = .ok (.invokestatic 147, 3) := by decide +kernel
theorem dX13_possible_45 : decode cX13_possible 45 = .ok (.ifCond .eq 17, 3) := by decide +kernel
theorem dX13_possible_48 : decode cX13_possible 48 = .ok (.aload_n 0, 1) := by decide +kernel
theorem dX13_possible_49 : decode cX13_possible 49 = .ok (.iload_n 1, 1) := by decide +kernel
theorem dX13_possible_50 : decode cX13_possible 50 = .ok (.iload_n 2, 1) := by decide +kernel
theorem dX13_possible_51 : decode cX13_possible 51 = .ok (.iload_n 3, 1) := by decide +kernel
theorem dX13_possible_52 : decode cX13_possible 52 = .ok (.iload 4, 2) := by decide +kernel
theorem dX13_possible_54 : decode cX13_possible 54 = .ok (.iload 5, 2) := by decide +kernel
theorem dX13_possible_56 : decode cX13_possible 56 = .ok (.invokevirtual 209, 3) := by decide +kernel
theorem dX13_possible_59 : decode cX13_possible 59 = .ok (.goto 8, 3) := by decide +kernel
theorem dX13_possible_62 : decode cX13_possible 62 = .ok (.aload_n 0, 1) := by decide +kernel
theorem dX13_possible_63 : decode cX13_possible 63 = .ok (.iconst 2, 1) := by decide +kernel
theorem dX13_possible_64 : decode cX13_possible 64 = .ok (.invokevirtual 54, 3) := by decide +kernel
theorem dX13_possible_67 : decode cX13_possible 67 = .ok (.ireturn, 1) := by decide +kernel
theorem dX13_wouldHide_0 : decode cX13_wouldHide 0 = .ok (.aload_n 0, 1) := by decide +kernel
theorem dX13_wouldHide_1 : decode cX13_wouldHide 1 = .ok (.iconst 0, 1) := by decide +kernel
theorem dX13_wouldHide_2 : decode cX13_wouldHide 2 = .ok (.putfield 31, 3) := by decide +kernel
theorem dX13_wouldHide_5 : decode cX13_wouldHide 5 = .ok (.iload_n 1, 1) := by decide +kernel
theorem dX13_wouldHide_6 : decode cX13_wouldHide 6 = .ok (.i2l, 1) := by decide +kernel
theorem dX13_wouldHide_7 : decode cX13_wouldHide 7 = .ok (.lconst 1, 1) := by decide +kernel
theorem dX13_wouldHide_8 : decode cX13_wouldHide 8 = .ok (.ldc2_w 25, 3) := by decide +kernel
theorem dX13_wouldHide_11 : decode cX13_wouldHide 11 = .ok (.invokestatic 37, 3) := by decide +kernel
theorem dX13_wouldHide_14 : decode cX13_wouldHide 14 = .ok (.ifCond .ne 9, 3) := by decide +kernel
theorem dX13_wouldHide_17 : decode cX13_wouldHide 17 = .ok (.aload_n 0, 1) := by decide +kernel
theorem dX13_wouldHide_18 : decode cX13_wouldHide 18 = .ok (.iconst 1, 1) := by decide +kernel
theorem dX13_wouldHide_19 : decode cX13_wouldHide 19 = .ok (.invokevirtual 54, 3) := by decide +kernel
theorem dX13_wouldHide_22 : decode cX13_wouldHide 22 = .ok (.ireturn, 1) := by decide +kernel
theorem dX13_wouldHide_23 : decode cX13_wouldHide 23 = .ok (.lconst 0, 1) := by decide +kernel
theorem dX13_wouldHide_24 : decode cX13_wouldHide 24 = .ok (.lstore_n 2, 1) := by decide +kernel
theorem dX13_wouldHide_25 : decode cX13_wouldHide 25 = .ok (.iconst 0, 1) := by decide +kernel
theorem dX13_wouldHide_26 : decode cX13_wouldHide 26 = .ok (.istore 4, 2) := by decide +kernel
theorem dX13_wouldHide_28 : decode cX13_wouldHide 28 = .ok (.iload 4, 2) := by decide +kernel
theorem dX13_wouldHide_30 : decode cX13_wouldHide 30 = .ok (.i2l, 1) := by decide +kernel
theorem dX13_wouldHide_31 : decode cX13_wouldHide 31 = .ok (.aload_n 0, 1) := by decide +kernel
theorem dX13_wouldHide_32 : decode cX13_wouldHide 32 = .ok (.getfield 7, 3) := by decide +kernel
theorem dX13_wouldHide_35 : decode cX13_wouldHide 35 = .ok (.sipush 1613, 3) := by decide +kernel
theorem dX13_wouldHide_38 : decode cX13_wouldHide 38 = .ok (.laload, 1) := by decide +kernel
theorem dX13_wouldHide_39 : decode cX13_wouldHide 39 = .ok (.lcmp, 1) := by decide +kernel
theorem dX13_wouldHide_40 : decode cX13_wouldHide 40 = .ok (.ifCond .ge 28, 3) := by decide +kernel
theorem dX13_wouldHide_43 : decode cX13_wouldHide 43 = .ok (.lload_n 2, 1) := by decide +kernel
theorem dX13_wouldHide_44 : decode cX13_wouldHide 44 = .ok (.aload_n 0, 1) := by decide +kernel
theorem dX13_wouldHide_45 : decode cX13_wouldHide 45 = .ok (.aload_n 0, 1) := by decide +kernel
theorem dX13_wouldHide_46 : decode cX13_wouldHide 46 = .ok (.getfield 7, 3) := by decide +kernel
theorem dX13_wouldHide_49 : decode cX13_wouldHide 49 = .ok (.sipush 330, 3) := by decide +kernel
theorem dX13_wouldHide_52 : decode cX13_wouldHide 52 = .ok (.iload 4, 2) := by decide +kernel
theorem dX13_wouldHide_54 : decode cX13_wouldHide 54 = .ok (.iadd, 1) := by decide +kernel
theorem dX13_wouldHide_55 : decode cX13_wouldHide 55 = .ok (.laload, 1) := by decide +kernel
theorem dX13_wouldHide_56 : decode cX13_wouldHide 56 = .ok (.iload_n 1, 1) := by decide +kernel
theorem dX13_wouldHide_57 : decode cX13_wouldHide 57 = .ok (.invokevirtual 120, 3) := by decide +kernel
theorem dX13_wouldHide_60 : decode cX13_wouldHide 60 = .ok (.ladd, 1) := by decide +kernel
theorem dX13_wouldHide_61 : decode cX13_wouldHide 61 = .ok (.lstore_n 2, 1) := by decide +kernel
theorem dX13_wouldHide_62 : decode cX13_wouldHide 62 = .ok (.iinc 4 1, 3) := by decide +kernel
theorem dX13_wouldHide_65 : decode cX13_wouldHide 65 = .ok (.goto (-37), 3) := by decide +kernel
theorem dX13_wouldHide_68 : decode cX13_wouldHide 68 = .ok (.lload_n 2, 1) := by decide +kernel
theorem dX13_wouldHide_69 : decode cX13_wouldHide 69 = .ok (.l2i, 1) := by decide +kernel
theorem dX13_wouldHide_70 : decode cX13_wouldHide 70 = .ok (.ireturn, 1) := by decide +kernel
theorem dX13_append_0 : decode cX13_append 0 = .ok (.aload_n 0, 1) := by decide +kernel
theorem dX13_append_1 : decode cX13_append 1 = .ok (.iconst 0, 1) := by decide +kernel
theorem dX13_append_2 : decode cX13_append 2 = .ok (.putfield 31, 3) := by decide +kernel
theorem dX13_append_5 : decode cX13_append 5 = .ok (.iload_n 1, 1) := by decide +kernel
theorem dX13_append_6 : decode cX13_append 6 = .ok (.i2l, 1) := by decide +kernel
theorem dX13_append_7 : decode cX13_append 7 = .ok (.ldc2_w 213, 3) := by decide +kernel
theorem dX13_append_10 : decode cX13_append 10 = .ok (.ldc2_w 215, 3) := by decide +kernel
theorem dX13_append_13 : decode cX13_append 13 = .ok (.invokestatic 37, 3) := by decide +kernel
theorem dX13_append_16 : decode cX13_append 16 = .ok (.ifCond .ne 9, 3) := by decide +kernel
theorem dX13_append_19 : decode cX13_append 19 = .ok (.aload_n 0, 1) := by decide +kernel
theorem dX13_append_20 : decode cX13_append 20 = .ok (.iconst 1, 1) := by decide +kernel
theorem dX13_append_21 : decode cX13_append 21 = .ok (.invokevirtual 54, 3) := by decide +kernel
theorem dX13_append_24 : decode cX13_append 24 = .ok (.ireturn, 1) := by decide +kernel
theorem dX13_append_25 : decode cX13_append 25 = .ok (.aload_n 0, 1) := by decide +kernel
theorem dX13_append_26 : decode cX13_append 26 = .ok (.getfield 198, 3) := by decide +kernel
theorem dX13_append_29 : decode cX13_append 29 = .ok (.bipush 100, 2) := by decide +kernel
theorem dX13_append_31 : decode cX13_append 31 = .ok (.if_icmp .ne 9, 3) := by decide +kernel
theorem dX13_append_34 : decode cX13_append 34 = .ok (.aload_n 0, 1) := by decide +kernel
theorem dX13_append_35 : decode cX13_append 35 = .ok (.iconst 2, 1) := by decide +kernel
theorem dX13_append_36 : decode cX13_append 36 = .ok (.invokevirtual 54, 3) := by decide +kernel
theorem dX13_append_39 : decode cX13_append 39 = .ok (.ireturn, 1) := by decide +kernel
theorem dX13_append_40 : decode cX13_append 40 = .ok (.aload_n 0, 1) := by decide +kernel
theorem dX13_append_41 : decode cX13_append 41 = .ok (.getfield 16, 3) := by decide +kernel
theorem dX13_append_44 : decode cX13_append 44 = .ok (.aload_n 0, 1) := by decide +kernel
theorem dX13_append_45 : decode cX13_append 45 = .ok (.getfield 198, 3) := by decide +kernel
theorem dX13_append_48 : decode cX13_append 48 = .ok (.iload_n 1, 1) := by decide +kernel
theorem dX13_append_49 : decode cX13_append 49 = .ok (.iastore, 1) := by decide +kernel
theorem dX13_append_50 : decode cX13_append 50 = .ok (.aload_n 0, 1) := by decide +kernel
theorem dX13_append_51 : decode cX13_append 51 = .ok (.dup, 1) := by decide +kernel
theorem dX13_append_52 : decode cX13_append 52 = .ok (.getfield 198, 3) := by decide +kernel
theorem dX13_append_55 : decode cX13_append 55 = .ok (.iconst 1, 1) := by decide +kernel
theorem dX13_append_56 : decode cX13_append 56 = .ok (.iadd, 1) := by decide +kernel
theorem dX13_append_57 : decode cX13_append 57 = .ok (.putfield 198, 3) := by decide +kernel
theorem dX13_append_60 : decode cX13_append 60 = .ok (.aload_n 0, 1) := by decide +kernel
theorem dX13_append_61 : decode cX13_append 61 = .ok (.getfield 198, 3) := by decide +kernel
theorem dX13_append_64 : decode cX13_append 64 = .ok (.ireturn, 1) := by decide +kernel
theorem dX13_clear_0 : decode cX13_clear 0 = .ok (.aload_n 0, 1) := by decide +kernel
theorem dX13_clear_1 : decode cX13_clear 1 = .ok (.iconst 0, 1) := by decide +kernel
theorem dX13_clear_2 : decode cX13_clear 2 = .ok (.putfield 31, 3) := by decide +kernel
theorem dX13_clear_5 : decode cX13_clear 5 = .ok (.aload_n 0, 1) := by decide +kernel
theorem dX13_clear_6 : decode cX13_clear 6 = .ok (.getfield 198, 3) := by decide +kernel
theorem dX13_clear_9 : decode cX13_clear 9 = .ok (.istore_n 1, 1) := by decide +kernel
theorem dX13_clear_10 : decode cX13_clear 10 = .ok (.aload_n 0, 1) := by decide +kernel
theorem dX13_clear_11 : decode cX13_clear 11 = .ok (.iconst 0, 1) := by decide +kernel
theorem dX13_clear_12 : decode cX13_clear 12 = .ok (.putfield 198, 3) := by decide +kernel
theorem dX13_clear_15 : decode cX13_clear 15 = .ok (.iload_n 1, 1) := by decide +kernel
theorem dX13_clear_16 : decode cX13_clear 16 = .ok (.ireturn, 1) := by decide +kernel
theorem dX13_isWord_0 : decode cX13_isWord 0 = .ok (.iload 7, 2) := by decide +kernel
theorem dX13_isWord_2 : decode cX13_isWord 2 = .ok (.ifCond .ne 7, 3) := by decide +kernel
theorem dX13_isWord_5 : decode cX13_isWord 5 = .ok (.iconst 4, 1) := by decide +kernel
theorem dX13_isWord_6 : decode cX13_isWord 6 = .ok (.goto 4, 3) := by decide +kernel
theorem dX13_isWord_9 : decode cX13_isWord 9 = .ok (.iconst 5, 1) := by decide +kernel
theorem dX13_isWord_10 : decode cX13_isWord 10 = .ok (.istore 8, 2) := by decide +kernel
theorem dX13_isWord_12 : decode cX13_isWord 12 = .ok (.iload_n 2, 1) := by decide +kernel
theorem dX13_isWord_13 : decode cX13_isWord 13 = .ok (.iload_n 1, 1) := by decide +kernel
theorem dX13_isWord_14 : decode cX13_isWord 14 = .ok (.isub, 1) := by decide +kernel
theorem dX13_isWord_15 : decode cX13_isWord 15 = .ok (.iload 8, 2) := by decide +kernel
theorem dX13_isWord_17 : decode cX13_isWord 17 = .ok (.if_icmp .ne 75, 3) := by decide +kernel
theorem dX13_isWord_20 : decode cX13_isWord 20 = .ok (.aload_n 0, 1) := by decide +kernel
theorem dX13_isWord_21 : decode cX13_isWord 21 = .ok (.getfield 16, 3) := by decide +kernel
