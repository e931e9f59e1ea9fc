theorem dX12_runCommands_37 : decode cX12_runCommands 37 = .ok (.invokevirtual 279, 3) := by decide +kernel
theorem dX12_runCommands_40 : decode cX12_runCommands 40 = .ok (.ifCond .ne 5, 3) := by decide +kernel
theorem dX12_runCommands_43 : decode cX12_runCommands 43 = .ok (.iload_n 2, 1) := by decide +kernel
theorem dX12_runCommands_44 : decode cX12_runCommands 44 = .ok (.ireturn, 1) := by decide +kernel
theorem dX12_runCommands_45 : decode cX12_runCommands 45 = .ok (.iinc 2 1, 3) := by decide +kernel
theorem dX12_runCommands_48 : decode cX12_runCommands 48 = .ok (.goto (-31), 3) := by decide +kernel
theorem dX12_runCommands_51 : decode cX12_runCommands 51 = .ok (.iload_n 1, 1) := by decide +kernel
theorem dX12_runCommands_52 : decode cX12_runCommands 52 = .ok (.ireturn, 1) := by decide +kernel
theorem dX12_runCommand_0 : decode cX12_runCommand 0 = .ok (.aload_n 0, 1) := by decide +kernel
theorem dX12_runCommand_1 : decode cX12_runCommand 1 = .ok (.getfield 26, 3) := by decide +kernel
theorem dX12_runCommand_4 : decode cX12_runCommand 4 = .ok (.iconst 0, 1) := by decide +kernel
theorem dX12_runCommand_5 : decode cX12_runCommand 5 = .ok (.invokevirtual 283, 3) := by decide +kernel
theorem dX12_runCommand_8 : decode cX12_runCommand 8 = .ok (.istore_n 2, 1) := by decide +kernel
theorem dX12_runCommand_9 : decode cX12_runCommand 9 = .ok (.aload_n 0, 1) := by decide +kernel
theorem dX12_runCommand_10 : decode cX12_runCommand 10 = .ok (.getfield 26, 3) := by decide +kernel
theorem dX12_runCommand_13 : decode cX12_runCommand 13 = .ok (.iconst 1, 1) := by decide +kernel
theorem dX12_runCommand_14 : decode cX12_runCommand 14 = .ok (.invokevirtual 283, 3) := by decide +kernel
theorem dX12_runCommand_17 : decode cX12_runCommand 17 = .ok (.istore_n 3, 1) := by decide +kernel
theorem dX12_runCommand_18 : decode cX12_runCommand 18 = .ok (.aload_n 0, 1) := by decide +kernel
theorem dX12_runCommand_19 : decode cX12_runCommand 19 = .ok (.getfield 26, 3) := by decide +kernel
theorem dX12_runCommand_22 : decode cX12_runCommand 22 = .ok (.iconst 2, 1) := by decide +kernel
theorem dX12_runCommand_23 : decode cX12_runCommand 23 = .ok (.invokevirtual 283, 3) := by decide +kernel
theorem dX12_runCommand_26 : decode cX12_runCommand 26 = .ok (.istore 4, 2) := by decide +kernel
theorem dX12_runCommand_28 : decode cX12_runCommand 28 = .ok (.aload_n 0, 1) := by decide +kernel
theorem dX12_runCommand_29 : decode cX12_runCommand 29 = .ok (.getfield 26, 3) := by decide +kernel
theorem dX12_runCommand_32 : decode cX12_runCommand 32 = .ok (.iconst 3, 1) := by decide +kernel
theorem dX12_runCommand_33 : decode cX12_runCommand 33 = .ok (.invokevirtual 283, 3) := by decide +kernel
theorem dX12_runCommand_36 : decode cX12_runCommand 36 = .ok (.istore 5, 2) := by decide +kernel
theorem dX12_runCommand_38 : decode cX12_runCommand 38 = .ok (.aload_n 1, 1) := by decide +kernel
theorem dX12_runCommand_39 : decode cX12_runCommand 39 = .ok (.ifnull 20, 3) := by decide +kernel
theorem dX12_runCommand_42 : decode cX12_runCommand 42 = .ok (.aload_n 0, 1) := by decide +kernel
theorem dX12_runCommand_43 : decode cX12_runCommand 43 = .ok (.aload_n 1, 1) := by decide +kernel
theorem dX12_runCommand_44 : decode cX12_runCommand 44 = .ok (.iload_n 2, 1) := by decide +kernel
theorem dX12_runCommand_45 : decode cX12_runCommand 45 = .ok (.iload_n 3, 1) := by decide +kernel
theorem dX12_runCommand_46 : decode cX12_runCommand 46 = .ok (.iload 4, 2) := by decide +kernel
theorem dX12_runCommand_48 : decode cX12_runCommand 48 = .ok (.iload 5, 2) := by decide +kernel
theorem dX12_runCommand_50 : decode cX12_runCommand 50 = .ok (.invokevirtual 286, 3) := by decide +kernel
theorem dX12_runCommand_53 : decode cX12_runCommand 53 = .ok (.getstatic 290, 3) := by decide +kernel
theorem dX12_runCommand_56 : decode cX12_runCommand 56 = .ok (.if_acmp .eq 5, 3) := by decide +kernel
theorem dX12_runCommand_59 : decode cX12_runCommand 59 = .ok (.iconst 0, 1) := by decide +kernel
theorem dX12_runCommand_60 : decode cX12_runCommand 60 = .ok (.ireturn, 1) := by decide +kernel
theorem dX12_runCommand_61 : decode cX12_runCommand 61 = .ok (.getstatic 296, 3) := by decide +kernel
theorem dX12_runCommand_64 : decode cX12_runCommand 64 = .ok (.aload_n 1, 1) := by decide +kernel
theorem dX12_runCommand_65 : decode cX12_runCommand 65 = .ok (.invokevirtual 302, 3) := by decide +kernel
theorem dX12_runCommand_68 : decode cX12_runCommand 68 = .ok (.iaload, 1) := by decide +kernel
theorem dX12_runCommand_69 : decode cX12_runCommand 69 = .ok (.tableswitch 86 1 4 #[31, 48, 60, 71], 31) := by decide +kernel
theorem dX12_runCommand_100 : decode cX12_runCommand 100 = .ok (.aload_n 0, 1) := by decide +kernel
theorem dX12_runCommand_101 : decode cX12_runCommand 101 = .ok (.getfield 10, 3) := by decide +kernel
theorem dX12_runCommand_104 : decode cX12_runCommand 104 = .ok (.iload_n 2, 1) := by decide +kernel
theorem dX12_runCommand_105 : decode cX12_runCommand 105 = .ok (.iload_n 3, 1) := by decide +kernel
theorem dX12_runCommand_106 : decode cX12_runCommand 106 = .ok (.iload 4, 2) := by decide +kernel
theorem dX12_runCommand_108 : decode cX12_runCommand 108 = .ok (.iload 5, 2) := by decide +kernel
theorem dX12_runCommand_110 : decode cX12_runCommand 110 = .ok (.invokevirtual 113, 3) := by decide +kernel
theorem dX12_runCommand_113 : decode cX12_runCommand 113 = .ok (.pop, 1) := by decide +kernel
theorem dX12_runCommand_114 : decode cX12_runCommand 114 = .ok (.goto 55, 3) := by decide +kernel
theorem dX12_runCommand_117 : decode cX12_runCommand 117 = .ok (.aload_n 0, 1) := by decide +kernel
theorem dX12_runCommand_118 : decode cX12_runCommand 118 = .ok (.getfield 10, 3) := by decide +kernel
theorem dX12_runCommand_121 : decode cX12_runCommand 121 = .ok (.iload_n 2, 1) := by decide +kernel
theorem dX12_runCommand_122 : decode cX12_runCommand 122 = .ok (.invokevirtual 121, 3) := by decide +kernel
theorem dX12_runCommand_125 : decode cX12_runCommand 125 = .ok (.pop, 1) := by decide +kernel
theorem dX12_runCommand_126 : decode cX12_runCommand 126 = .ok (.goto 43, 3) := by decide +kernel
theorem dX12_runCommand_129 : decode cX12_runCommand 129 = .ok (.aload_n 0, 1) := by decide +kernel
theorem dX12_runCommand_130 : decode cX12_runCommand 130 = .ok (.getfield 10, 3) := by decide +kernel
theorem dX12_runCommand_133 : decode cX12_runCommand 133 = .ok (.invokevirtual 125, 3) := by decide +kernel
theorem dX12_runCommand_136 : decode cX12_runCommand 136 = .ok (.pop, 1) := by decide +kernel
theorem dX12_runCommand_137 : decode cX12_runCommand 137 = .ok (.goto 32, 3) := by decide +kernel
theorem dX12_runCommand_140 : decode cX12_runCommand 140 = .ok (.aload_n 0, 1) := by decide +kernel
theorem dX12_runCommand_141 : decode cX12_runCommand 141 = .ok (.getfield 10, 3) := by decide +kernel
theorem dX12_runCommand_144 : decode cX12_runCommand 144 = .ok (.iload_n 2, 1) := by decide +kernel
theorem dX12_runCommand_145 : decode cX12_runCommand 145 = .ok (.iload_n 3, 1) := by decide +kernel
theorem dX12_runCommand_146 : decode cX12_runCommand 146 = .ok (.iload 4, 2) := by decide +kernel
theorem dX12_runCommand_148 : decode cX12_runCommand 148 = .ok (.invokevirtual 132, 3) := by decide +kernel
theorem dX12_runCommand_151 : decode cX12_runCommand 151 = .ok (.pop, 1) := by decide +kernel
theorem dX12_runCommand_152 : decode cX12_runCommand 152 = .ok (.goto 17, 3) := by decide +kernel
theorem dX12_runCommand_155 : decode cX12_runCommand 155 = .ok (.aload_n 0, 1) := by decide +kernel
theorem dX12_runCommand_156 : decode cX12_runCommand 156 = .ok (.getfield 10, 3) := by decide +kernel
theorem dX12_runCommand_159 : decode cX12_runCommand 159 = .ok (.iload_n 2, 1) := by decide +kernel
theorem dX12_runCommand_160 : decode cX12_runCommand 160 = .ok (.iload_n 3, 1) := by decide +kernel
theorem dX12_runCommand_161 : decode cX12_runCommand 161 = .ok (.iload 4, 2) := by decide +kernel
theorem dX12_runCommand_163 : decode cX12_runCommand 163 = .ok (.iload 5, 2) := by decide +kernel
theorem dX12_runCommand_165 : decode cX12_runCommand 165 = .ok (.invokevirtual 139, 3) := by decide +kernel
theorem dX12_runCommand_168 : decode cX12_runCommand 168 = .ok (.pop, 1) := by decide +kernel
theorem dX12_runCommand_169 : decode cX12_runCommand 169 = .ok (.iconst 1, 1) := by decide +kernel
theorem dX12_runCommand_170 : decode cX12_runCommand 170 = .ok (.ireturn, 1) := by decide +kernel
theorem dX12_faultOfCommand_0 : decode cX12_faultOfCommand 0 = .ok (.getstatic 296, 3) := by decide +kernel
theorem dX12_faultOfCommand_3 : decode cX12_faultOfCommand 3 = .ok (.aload_n 1, 1) := by decide +kernel
theorem dX12_faultOfCommand_4 : decode cX12_faultOfCommand 4 = .ok (.invokevirtual 302, 3) := by decide +kernel
theorem dX12_faultOfCommand_7 : decode cX12_faultOfCommand 7 = .ok (.iaload, 1) := by decide +kernel
theorem dX12_faultOfCommand_8 : decode cX12_faultOfCommand 8 = .ok (.tableswitch 71 1 4 #[32, 46, 55, 59], 32) := by decide +kernel
theorem dX12_faultOfCommand_40 : decode cX12_faultOfCommand 40 = .ok (.aload_n 0, 1) := by decide +kernel
theorem dX12_faultOfCommand_41 : decode cX12_faultOfCommand 41 = .ok (.getfield 10, 3) := by decide +kernel
theorem dX12_faultOfCommand_44 : decode cX12_faultOfCommand 44 = .ok (.iload_n 2, 1) := by decide +kernel
theorem dX12_faultOfCommand_45 : decode cX12_faultOfCommand 45 = .ok (.iload_n 3, 1) := by decide +kernel
theorem dX12_faultOfCommand_46 : decode cX12_faultOfCommand 46 = .ok (.iload 4, 2) := by decide +kernel
theorem dX12_faultOfCommand_48 : decode cX12_faultOfCommand 48 = .ok (.iload 5, 2) := by decide +kernel
theorem dX12_faultOfCommand_50 : decode cX12_faultOfCommand 50 = .ok (.invokevirtual 105, 3) := by decide +kernel
theorem dX12_faultOfCommand_53 : decode cX12_faultOfCommand 53 = .ok (.areturn, 1) := by decide +kernel
theorem dX12_faultOfCommand_54 : decode cX12_faultOfCommand 54 = .ok (.aload_n 0, 1) := by decide +kernel
theorem dX12_faultOfCommand_55 : decode cX12_faultOfCommand 55 = .ok (.getfield 10, 3) := by decide +kernel
theorem dX12_faultOfCommand_58 : decode cX12_faultOfCommand 58 = .ok (.iload_n 2, 1) := by decide +kernel
theorem dX12_faultOfCommand_59 : decode cX12_faultOfCommand 59 = .ok (.invokevirtual 117, 3) := by decide +kernel
theorem dX12_faultOfCommand_62 : decode cX12_faultOfCommand 62 = .ok (.areturn, 1) := by decide +kernel
theorem dX12_faultOfCommand_63 : decode cX12_faultOfCommand 63 = .ok (.getstatic 290, 3) := by decide +kernel
theorem dX12_faultOfCommand_66 : decode cX12_faultOfCommand 66 = .ok (.areturn, 1) := by decide +kernel
theorem dX12_faultOfCommand_67 : decode cX12_faultOfCommand 67 = .ok (.aload_n 0, 1) := by decide +kernel
theorem dX12_faultOfCommand_68 : decode cX12_faultOfCommand 68 = .ok (.getfield 10, 3) := by decide +kernel
theorem dX12_faultOfCommand_71 : decode cX12_faultOfCommand 71 = .ok (.iload_n 2, 1) := by decide +kernel
theorem dX12_faultOfCommand_72 : decode cX12_faultOfCommand 72 = .ok (.iload_n 3, 1) := by decide +kernel
theorem dX12_faultOfCommand_73 : decode cX12_faultOfCommand 73 = .ok (.iload 4, 2) := by decide +kernel
theorem dX12_faultOfCommand_75 : decode cX12_faultOfCommand 75 = .ok (.invokevirtual 128, 3) := by decide +kernel
theorem dX12_faultOfCommand_78 : decode cX12_faultOfCommand 78 = .ok (.areturn, 1) := by decide +kernel
theorem dX12_faultOfCommand_79 : decode cX12_faultOfCommand 79 = .ok (.aload_n 0, 1) := by decide +kernel
theorem dX12_faultOfCommand_80 : decode cX12_faultOfCommand 80 = .ok (.getfield 10, 3) := by decide +kernel
theorem dX12_faultOfCommand_83 : decode cX12_faultOfCommand 83 = .ok (.iload_n 2, 1) := by decide +kernel
theorem dX12_faultOfCommand_84 : decode cX12_faultOfCommand 84 = .ok (.iload_n 3, 1) := by decide +kernel
theorem dX12_faultOfCommand_85 : decode cX12_faultOfCommand 85 = .ok (.iload 4, 2) := by decide +kernel
theorem dX12_faultOfCommand_87 : decode cX12_faultOfCommand 87 = .ok (.iload 5, 2) := by decide +kernel
theorem dX12_faultOfCommand_89 : decode cX12_faultOfCommand 89 = .ok (.invokevirtual 136, 3) := by decide +kernel
theorem dX12_faultOfCommand_92 : decode cX12_faultOfCommand 92 = .ok (.areturn, 1) := by decide +kernel
theorem dX12_mostPlaced_0 : decode cX12_mostPlaced 0 = .ok (.iload_n 2, 1) := by decide +kernel
theorem dX12_mostPlaced_1 : decode cX12_mostPlaced 1 = .ok (.ifCond .lt 9, 3) := by decide +kernel
theorem dX12_mostPlaced_4 : decode cX12_mostPlaced 4 = .ok (.iload_n 2, 1) := by decide +kernel
theorem dX12_mostPlaced_5 : decode cX12_mostPlaced 5 = .ok (.aload_n 1, 1) := by decide +kernel
theorem dX12_mostPlaced_6 : decode cX12_mostPlaced 6 = .ok (.arraylength, 1) := by decide +kernel
theorem dX12_mostPlaced_7 : decode cX12_mostPlaced 7 = .ok (.if_icmp .lt 5, 3) := by decide +kernel
theorem dX12_mostPlaced_10 : decode cX12_mostPlaced 10 = .ok (.iconst 0, 1) := by decide +kernel
theorem dX12_mostPlaced_11 : decode cX12_mostPlaced 11 = .ok (.ireturn, 1) := by decide +kernel
theorem dX12_mostPlaced_12 : decode cX12_mostPlaced 12 = .ok (.aload_n 1, 1) := by decide +kernel
theorem dX12_mostPlaced_13 : decode cX12_mostPlaced 13 = .ok (.iload_n 2, 1) := by decide +kernel
theorem dX12_mostPlaced_14 : decode cX12_mostPlaced 14 = .ok (.iaload, 1) := by decide +kernel
theorem dX12_mostPlaced_15 : decode cX12_mostPlaced 15 = .ok (.istore_n 3, 1) := by decide +kernel
theorem dX12_mostPlaced_16 : decode cX12_mostPlaced 16 = .ok (.aload_n 0, 1) := by decide +kernel
theorem dX12_mostPlaced_17 : decode cX12_mostPlaced 17 = .ok (.aload_n 1, 1) := by decide +kernel
theorem dX12_mostPlaced_18 : decode cX12_mostPlaced 18 = .ok (.iload_n 2, 1) := by decide +kernel
theorem dX12_mostPlaced_19 : decode cX12_mostPlaced 19 = .ok (.iconst 1, 1) := by decide +kernel
theorem dX12_mostPlaced_20 : decode cX12_mostPlaced 20 = .ok (.iadd, 1) := by decide +kernel
theorem dX12_mostPlaced_21 : decode cX12_mostPlaced 21 = .ok (.invokestatic 249, 3) := by decide +kernel
theorem dX12_mostPlaced_24 : decode cX12_mostPlaced 24 = .ok (.istore 4, 2) := by decide +kernel
theorem dX12_mostPlaced_26 : decode cX12_mostPlaced 26 = .ok (.iconst 0, 1) := by decide +kernel
theorem dX12_mostPlaced_27 : decode cX12_mostPlaced 27 = .ok (.istore 5, 2) := by decide +kernel
theorem dX12_mostPlaced_29 : decode cX12_mostPlaced 29 = .ok (.iload 5, 2) := by decide +kernel
theorem dX12_mostPlaced_31 : decode cX12_mostPlaced 31 = .ok (.aload_n 0, 1) := by decide +kernel
theorem dX12_mostPlaced_32 : decode cX12_mostPlaced 32 = .ok (.arraylength, 1) := by decide +kernel
theorem dX12_mostPlaced_33 : decode cX12_mostPlaced 33 = .ok (.if_icmp .ge 50, 3) := by decide +kernel
theorem dX12_mostPlaced_36 : decode cX12_mostPlaced 36 = .ok (.aload_n 0, 1) := by decide +kernel
theorem dX12_mostPlaced_37 : decode cX12_mostPlaced 37 = .ok (.iload 5, 2) := by decide +kernel
theorem dX12_mostPlaced_39 : decode cX12_mostPlaced 39 = .ok (.iaload, 1) := by decide +kernel
theorem dX12_mostPlaced_40 : decode cX12_mostPlaced 40 = .ok (.iload_n 3, 1) := by decide +kernel
theorem dX12_mostPlaced_41 : decode cX12_mostPlaced 41 = .ok (.if_icmp .lt 36, 3) := by decide +kernel
theorem dX12_mostPlaced_44 : decode cX12_mostPlaced 44 = .ok (.aload_n 0, 1) := by decide +kernel
theorem dX12_mostPlaced_45 : decode cX12_mostPlaced 45 = .ok (.iload 5, 2) := by decide +kernel
theorem dX12_mostPlaced_47 : decode cX12_mostPlaced 47 = .ok (.dup2, 1) := by decide +kernel
theorem dX12_mostPlaced_48 : decode cX12_mostPlaced 48 = .ok (.iaload, 1) := by decide +kernel
theorem dX12_mostPlaced_49 : decode cX12_mostPlaced 49 = .ok (.iload_n 3, 1) := by decide +kernel
theorem dX12_mostPlaced_50 : decode cX12_mostPlaced 50 = .ok (.isub, 1) := by decide +kernel
theorem dX12_mostPlaced_51 : decode cX12_mostPlaced 51 = .ok (.iastore, 1) := by decide +kernel
theorem dX12_mostPlaced_52 : decode cX12_mostPlaced 52 = .ok (.iload 4, 2) := by decide +kernel
theorem dX12_mostPlaced_54 : decode cX12_mostPlaced 54 = .ok (.iconst 1, 1) := by decide +kernel
theorem dX12_mostPlaced_55 : decode cX12_mostPlaced 55 = .ok (.aload_n 0, 1) := by decide +kernel
theorem dX12_mostPlaced_56 : decode cX12_mostPlaced 56 = .ok (.aload_n 1, 1) := by decide +kernel
theorem dX12_mostPlaced_57 : decode cX12_mostPlaced 57 = .ok (.iload_n 2, 1) := by decide +kernel
theorem dX12_mostPlaced_58 : decode cX12_mostPlaced 58 = .ok (.iconst 1, 1) := by decide +kernel
theorem dX12_mostPlaced_59 : decode cX12_mostPlaced 59 = .ok (.iadd, 1) := by decide +kernel
theorem dX12_mostPlaced_60 : decode cX12_mostPlaced 60 = .ok (.invokestatic 249, 3) := by decide +kernel
theorem dX12_mostPlaced_63 : decode cX12_mostPlaced 63 = .ok (.iadd, 1) := by decide +kernel
theorem dX12_mostPlaced_64 : decode cX12_mostPlaced 64 = .ok (.invokestatic 307, 3) := by decide +kernel
theorem dX12_mostPlaced_67 : decode cX12_mostPlaced 67 = .ok (.istore 4, 2) := by decide +kernel
theorem dX12_mostPlaced_69 : decode cX12_mostPlaced 69 = .ok (.aload_n 0, 1) := by decide +kernel
theorem dX12_mostPlaced_70 : decode cX12_mostPlaced 70 = .ok (.iload 5, 2) := by decide +kernel
theorem dX12_mostPlaced_72 : decode cX12_mostPlaced 72 = .ok (.dup2, 1) := by decide +kernel
theorem dX12_mostPlaced_73 : decode cX12_mostPlaced 73 = .ok (.iaload, 1) := by decide +kernel
theorem dX12_mostPlaced_74 : decode cX12_mostPlaced 74 = .ok (.iload_n 3, 1) := by decide +kernel
theorem dX12_mostPlaced_75 : decode cX12_mostPlaced 75 = .ok (.iadd, 1) := by decide +kernel
theorem dX12_mostPlaced_76 : decode cX12_mostPlaced 76 = .ok (.iastore, 1) := by decide +kernel
theorem dX12_mostPlaced_77 : decode cX12_mostPlaced 77 = .ok (.iinc 5 1, 3) := by decide +kernel
theorem dX12_mostPlaced_80 : decode cX12_mostPlaced 80 = .ok (.goto (-51), 3) := by decide +kernel
theorem dX12_mostPlaced_83 : decode cX12_mostPlaced 83 = .ok (.iload 4, 2) := by decide +kernel
theorem dX12_mostPlaced_85 : decode cX12_mostPlaced 85 = .ok (.ireturn, 1) := by decide +kernel
theorem dX12_isWithin_0 : decode cX12_isWithin 0 = .ok (.iload_n 0, 1) := by decide +kernel
theorem dX12_isWithin_1 : decode cX12_isWithin 1 = .ok (.iload_n 1, 1) := by decide +kernel
theorem dX12_isWithin_2 : decode cX12_isWithin 2 = .ok (.if_icmp .lt 12, 3) := by decide +kernel
theorem dX12_isWithin_5 : decode cX12_isWithin 5 = .ok (.iload_n 0, 1) := by decide +kernel
theorem dX12_isWithin_6 : decode cX12_isWithin 6 = .ok (.iload_n 2, 1) := by decide +kernel
theorem dX12_isWithin_7 : decode cX12_isWithin 7 = .ok (.if_icmp .gt 7, 3) := by decide +kernel
theorem dX12_isWithin_10 : decode cX12_isWithin 10 = .ok (.iconst 1, 1) := by decide +kernel
theorem dX12_isWithin_11 : decode cX12_isWithin 11 = .ok (.goto 4, 3) := by decide +kernel
theorem dX12_isWithin_14 : decode cX12_isWithin 14 = .ok (.iconst 0, 1) := by decide +kernel
theorem dX12_isWithin_15 : decode cX12_isWithin 15 = .ok (.ireturn, 1) := by decide +kernel
theorem dX12_isPercentage_0 : decode cX12_isPercentage 0 = .ok (.iload_n 0, 1) := by decide +kernel
theorem dX12_isPercentage_1 : decode cX12_isPercentage 1 = .ok (.iconst 0, 1) := by decide +kernel
theorem dX12_isPercentage_2 : decode cX12_isPercentage 2 = .ok (.bipush 100, 2) := by decide +kernel
theorem dX12_isPercentage_4 : decode cX12_isPercentage 4 = .ok (.invokestatic 38, 3) := by decide +kernel
theorem dX12_isPercentage_7 : decode cX12_isPercentage 7 = .ok (.ireturn, 1) := by decide +kernel
theorem dX12_isGlaze_0 : decode cX12_isGlaze 0 = .ok (.iload_n 0, 1) := by decide +kernel
theorem dX12_isGlaze_1 : decode cX12_isGlaze 1 = .ok (.iconst 0, 1) := by decide +kernel
theorem dX12_isGlaze_2 : decode cX12_isGlaze 2 = .ok (.iconst 3, 1) := by decide +kernel
theorem dX12_isGlaze_3 : decode cX12_isGlaze 3 = .ok (.invokestatic 38, 3) := by decide +kernel
theorem dX12_isGlaze_6 : decode cX12_isGlaze 6 = .ok (.ireturn, 1) := by decide +kernel
theorem dX12_isShade_0 : decode cX12_isShade 0 = .ok (.iload_n 0, 1) := by decide +kernel
theorem dX12_isShade_1 : decode cX12_isShade 1 = .ok (.iconst 0, 1) := by decide +kernel
theorem dX12_isShade_2 : decode cX12_isShade 2 = .ok (.bipush 19, 2) := by decide +kernel
theorem dX12_isShade_4 : decode cX12_isShade 4 = .ok (.invokestatic 38, 3) := by decide +kernel
theorem dX12_isShade_7 : decode cX12_isShade 7 = .ok (.ireturn, 1) := by decide +kernel
theorem dX12_isGrade_0 : decode cX12_isGrade 0 = .ok (.iload_n 0, 1) := by decide +kernel
theorem dX12_isGrade_1 : decode cX12_isGrade 1 = .ok (.iconst 1, 1) := by decide +kernel
theorem dX12_isGrade_2 : decode cX12_isGrade 2 = .ok (.iconst 2, 1) := by decide +kernel
theorem dX12_isGrade_3 : decode cX12_isGrade 3 = .ok (.invokestatic 38, 3) := by decide +kernel
theorem dX12_isGrade_6 : decode cX12_isGrade 6 = .ok (.ireturn, 1) := by decide +kernel
theorem dX12_isKiln_0 : decode cX12_isKiln 0 = .ok (.iload_n 0, 1) := by decide +kernel
theorem dX12_isKiln_1 : decode cX12_isKiln 1 = .ok (.iconst 0, 1) := by decide +kernel
theorem dX12_isKiln_2 : decode cX12_isKiln 2 = .ok (.iconst 2, 1) := by decide +kernel
theorem dX12_isKiln_3 : decode cX12_isKiln 3 = .ok (.invokestatic 38, 3) := by decide +kernel
theorem dX12_isKiln_6 : decode cX12_isKiln 6 = .ok (.ireturn, 1) := by decide +kernel
theorem dX12_isPosition_0 : decode cX12_isPosition 0 = .ok (.iload_n 0, 1) := by decide +kernel
theorem dX12_isPosition_1 : decode cX12_isPosition 1 = .ok (.iconst 0, 1) := by decide +kernel
theorem dX12_isPosition_2 : decode cX12_isPosition 2 = .ok (.bipush 7, 2) := by decide +kernel
theorem dX12_isPosition_4 : decode cX12_isPosition 4 = .ok (.invokestatic 38, 3) := by decide +kernel
theorem dX12_isPosition_7 : decode cX12_isPosition 7 = .ok (.ireturn, 1) := by decide +kernel
theorem dX12_isPeak_0 : decode cX12_isPeak 0 = .ok (.iload_n 0, 1) := by decide +kernel
theorem dX12_isPeak_1 : decode cX12_isPeak 1 = .ok (.sipush 800, 3) := by decide +kernel
theorem dX12_isPeak_4 : decode cX12_isPeak 4 = .ok (.sipush 1200, 3) := by decide +kernel
theorem dX12_isPeak_7 : decode cX12_isPeak 7 = .ok (.invokestatic 38, 3) := by decide +kernel
theorem dX12_isPeak_10 : decode cX12_isPeak 10 = .ok (.ireturn, 1) := by decide +kernel
theorem dX12_isBoxCount_0 : decode cX12_isBoxCount 0 = .ok (.iload_n 0, 1) := by decide +kernel
theorem dX12_isBoxCount_1 : decode cX12_isBoxCount 1 = .ok (.iconst 1, 1) := by decide +kernel
theorem dX12_isBoxCount_2 : decode cX12_isBoxCount 2 = .ok (.ldc_w 312, 3) := by decide +kernel
theorem dX12_isBoxCount_5 : decode cX12_isBoxCount 5 = .ok (.invokestatic 38, 3) := by decide +kernel
theorem dX12_isBoxCount_8 : decode cX12_isBoxCount 8 = .ok (.ireturn, 1) := by decide +kernel
theorem dX12_checkIndex_0 : decode cX12_checkIndex 0 = .ok (.iload_n 0, 1) := by decide +kernel
theorem dX12_checkIndex_1 : decode cX12_checkIndex 1 = .ok (.ifCond .ne 14, 3) := by decide +kernel
theorem dX12_checkIndex_4 : decode cX12_checkIndex 4 = .ok (.new 313, 3) := by decide +kernel
theorem dX12_checkIndex_7 : decode cX12_checkIndex 7 = .ok (.dup, 1) := by decide +kernel
theorem dX12_checkIndex_8 : decode cX12_checkIndex 8 = .ok (.ldc_w 315, 3) := by decide +kernel
theorem dX12_checkIndex_11 : decode cX12_checkIndex 11 = .ok (.invokespecial 317, 3) := by decide +kernel
theorem dX12_checkIndex_14 : decode cX12_checkIndex 14 = .ok (.athrow, 1) := by decide +kernel
theorem dX12_checkIndex_15 : decode cX12_checkIndex 15 = .ok (.return_, 1) := by decide +kernel
theorem dX12_checkArgument_0 : decode cX12_checkArgument 0 = .ok (.iload_n 0, 1) := by decide +kernel
theorem dX12_checkArgument_1 : decode cX12_checkArgument 1 = .ok (.ifCond .ne 14, 3) := by decide +kernel
theorem dX12_checkArgument_4 : decode cX12_checkArgument 4 = .ok (.new 320, 3) := by decide +kernel
theorem dX12_checkArgument_7 : decode cX12_checkArgument 7 = .ok (.dup, 1) := by decide +kernel
theorem dX12_checkArgument_8 : decode cX12_checkArgument 8 = .ok (.ldc_w 322, 3) := by decide +kernel
theorem dX12_checkArgument_11 : decode cX12_checkArgument 11 = .ok (.invokespecial 324, 3) := by decide +kernel
theorem dX12_checkArgument_14 : decode cX12_checkArgument 14 = .ok (.athrow, 1) := by decide +kernel
theorem dX12_checkArgument_15 : decode cX12_checkArgument 15 = .ok (.return_, 1) := by decide +kernel
theorem dX12_checkState_0 : decode cX12_checkState 0 = .ok (.iload_n 0, 1) := by decide +kernel
theorem dX12_checkState_1 : decode cX12_checkState 1 = .ok (.ifCond .ne 14, 3) := by decide +kernel
theorem dX12_checkState_4 : decode cX12_checkState 4 = .ok (.new 325, 3) := by decide +kernel
theorem dX12_checkState_7 : decode cX12_checkState 7 = .ok (.dup, 1) := by decide +kernel
theorem dX12_checkState_8 : decode cX12_checkState 8 = .ok (.ldc_w 327, 3) := by decide +kernel
theorem dX12_checkState_11 : decode cX12_checkState 11 = .ok (.invokespecial 329, 3) := by decide +kernel
theorem dX12_checkState_14 : decode cX12_checkState 14 = .ok (.athrow, 1) := by decide +kernel
theorem dX12_checkState_15 : decode cX12_checkState 15 = .ok (.return_, 1) := by decide +kernel
theorem dX12_refuse_0 : decode cX12_refuse 0 = .ok (.aload_n 0, 1) := by decide +kernel
theorem dX12_refuse_1 : decode cX12_refuse 1 = .ok (.getstatic 330, 3) := by decide +kernel
theorem dX12_refuse_4 : decode cX12_refuse 4 = .ok (.if_acmp .eq 7, 3) := by decide +kernel
theorem dX12_refuse_7 : decode cX12_refuse 7 = .ok (.iconst 1, 1) := by decide +kernel
theorem dX12_refuse_8 : decode cX12_refuse 8 = .ok (.goto 4, 3) := by decide +kernel
theorem dX12_refuse_11 : decode cX12_refuse 11 = .ok (.iconst 0, 1) := by decide +kernel
theorem dX12_refuse_12 : decode cX12_refuse 12 = .ok (.invokestatic 34, 3) := by decide +kernel
theorem dX12_refuse_15 : decode cX12_refuse 15 = .ok (.aload_n 0, 1) := by decide +kernel
theorem dX12_refuse_16 : decode cX12_refuse 16 = .ok (.getstatic 333, 3) := by decide +kernel
theorem dX12_refuse_19 : decode cX12_refuse 19 = .ok (.if_acmp .eq 7, 3) := by decide +kernel
theorem dX12_refuse_22 : decode cX12_refuse 22 = .ok (.iconst 1, 1) := by decide +kernel
theorem dX12_refuse_23 : decode cX12_refuse 23 = .ok (.goto 4, 3) := by decide +kernel
theorem dX12_refuse_26 : decode cX12_refuse 26 = .ok (.iconst 0, 1) := by decide +kernel
theorem dX12_refuse_27 : decode cX12_refuse 27 = .ok (.invokestatic 42, 3) := by decide +kernel
theorem dX12_refuse_30 : decode cX12_refuse 30 = .ok (.aload_n 0, 1) := by decide +kernel
theorem dX12_refuse_31 : decode cX12_refuse 31 = .ok (.getstatic 336, 3) := by decide +kernel
theorem dX12_refuse_34 : decode cX12_refuse 34 = .ok (.if_acmp .eq 7, 3) := by decide +kernel
theorem dX12_refuse_37 : decode cX12_refuse 37 = .ok (.iconst 1, 1) := by decide +kernel
theorem dX12_refuse_38 : decode cX12_refuse 38 = .ok (.goto 4, 3) := by decide +kernel
theorem dX12_refuse_41 : decode cX12_refuse 41 = .ok (.iconst 0, 1) := by decide +kernel
theorem dX12_refuse_42 : decode cX12_refuse 42 = .ok (.invokestatic 99, 3) := by decide +kernel
theorem dX12_refuse_45 : decode cX12_refuse 45 = .ok (.return_, 1) := by decide +kernel
theorem dX13_init_0 : decode cX13_init 0 = .ok (.aload_n 0, 1) := by decide +kernel
theorem dX13_init_1 : decode cX13_init 1 = .ok (.invokespecial 1, 3) := by decide +kernel
theorem dX13_init_4 : decode cX13_init 4 = .ok (.aload_n 0, 1) := by decide +kernel
theorem dX13_init_5 : decode cX13_init 5 = .ok (.sipush 1618, 3) := by decide +kernel
theorem dX13_init_8 : decode cX13_init 8 = .ok (.newarray .long, 2) := by decide +kernel
theorem dX13_init_10 : decode cX13_init 10 = .ok (.putfield 7, 3) := by decide +kernel
theorem dX13_init_13 : decode cX13_init 13 = .ok (.aload_n 0, 1) := by decide +kernel
theorem dX13_init_14 : decode cX13_init 14 = .ok (.sipush 9708, 3) := by decide +kernel
theorem dX13_init_17 : decode cX13_init 17 = .ok (.newarray .long, 2) := by decide +kernel
theorem dX13_init_19 : decode cX13_init 19 = .ok (.putfield 13, 3) := by decide +kernel
theorem dX13_init_22 : decode cX13_init 22 = .ok (.aload_n 0, 1) := by decide +kernel
theorem dX13_init_23 : decode cX13_init 23 = .ok (.bipush 100, 2) := by decide +kernel
theorem dX13_init_25 : decode cX13_init 25 = .ok (.newarray .int, 2) := by decide +kernel
theorem dX13_init_27 : decode cX13_init 27 = .ok (.putfield 16, 3) := by decide +kernel
theorem dX13_init_30 : decode cX13_init 30 = .ok (.aload_n 0, 1) := by decide +kernel
theorem dX13_init_31 : decode cX13_init 31 = .ok (.bipush 100, 2) := by decide +kernel
theorem dX13_init_33 : decode cX13_init 33 = .ok (.newarray .int, 2) := by decide +kernel
theorem dX13_init_35 : decode cX13_init 35 = .ok (.putfield 20, 3) := by decide +kernel
theorem dX13_init_38 : decode cX13_init 38 = .ok (.iconst 0, 1) := by decide +kernel
theorem dX13_init_39 : decode cX13_init 39 = .ok (.istore_n 1, 1) := by decide +kernel
theorem dX13_init_40 : decode cX13_init 40 = .ok (.iload_n 1, 1) := by decide +kernel
theorem dX13_init_41 : decode cX13_init 41 = .ok (.iconst 4, 1) := by decide +kernel
theorem dX13_init_42 : decode cX13_init 42 = .ok (.if_icmp .ge 55, 3) := by decide +kernel
theorem dX13_init_45 : decode cX13_init 45 = .ok (.aload_n 0, 1) := by decide +kernel
theorem dX13_init_46 : decode cX13_init 46 = .ok (.getfield 7, 3) := by decide +kernel
theorem dX13_init_49 : decode cX13_init 49 = .ok (.iconst 0, 1) := by decide +kernel
theorem dX13_init_50 : decode cX13_init 50 = .ok (.iload_n 1, 1) := by decide +kernel
theorem dX13_init_51 : decode cX13_init 51 = .ok (.iadd, 1) := by decide +kernel
theorem dX13_init_52 : decode cX13_init 52 = .ok (.ldc2_w 23, 3) := by decide +kernel
theorem dX13_init_55 : decode cX13_init 55 = .ok (.lastore, 1) := by decide +kernel
theorem dX13_init_56 : decode cX13_init 56 = .ok (.aload_n 0, 1) := by decide +kernel
theorem dX13_init_57 : decode cX13_init 57 = .ok (.getfield 7, 3) := by decide +kernel
theorem dX13_init_60 : decode cX13_init 60 = .ok (.iconst 4, 1) := by decide +kernel
theorem dX13_init_61 : decode cX13_init 61 = .ok (.iload_n 1, 1) := by decide +kernel
theorem dX13_init_62 : decode cX13_init 62 = .ok (.iadd, 1) := by decide +kernel
theorem dX13_init_63 : decode cX13_init 63 = .ok (.ldc2_w 25, 3) := by decide +kernel
theorem dX13_init_66 : decode cX13_init 66 = .ok (.lastore, 1) := by decide +kernel
theorem dX13_init_67 : decode cX13_init 67 = .ok (.aload_n 0, 1) := by decide +kernel
theorem dX13_init_68 : decode cX13_init 68 = .ok (.getfield 7, 3) := by decide +kernel
theorem dX13_init_71 : decode cX13_init 71 = .ok (.bipush 8, 2) := by decide +kernel
theorem dX13_init_73 : decode cX13_init 73 = .ok (.iload_n 1, 1) := by decide +kernel
theorem dX13_init_74 : decode cX13_init 74 = .ok (.iadd, 1) := by decide +kernel
theorem dX13_init_75 : decode cX13_init 75 = .ok (.ldc2_w 25, 3) := by decide +kernel
theorem dX13_init_78 : decode cX13_init 78 = .ok (.lastore, 1) := by decide +kernel
theorem dX13_init_79 : decode cX13_init 79 = .ok (.aload_n 0, 1) := by decide +kernel
theorem dX13_init_80 : decode cX13_init 80 = .ok (.getfield 7, 3) := by decide +kernel
theorem dX13_init_83 : decode cX13_init 83 = .ok (.bipush 12, 2) := by decide +kernel
theorem dX13_init_85 : decode cX13_init 85 = .ok (.iload_n 1, 1) := by decide +kernel
theorem dX13_init_86 : decode cX13_init 86 = .ok (.iadd, 1) := by decide +kernel
theorem dX13_init_87 : decode cX13_init 87 = .ok (.ldc2_w 27, 3) := by decide +kernel
theorem dX13_init_90 : decode cX13_init 90 = .ok (.lastore, 1) := by decide +kernel
theorem dX13_init_91 : decode cX13_init 91 = .ok (.iinc 1 1, 3) := by decide +kernel
theorem dX13_init_94 : decode cX13_init 94 = .ok (.goto (-54), 3) := by decide +kernel
theorem dX13_init_97 : decode cX13_init 97 = .ok (.aload_n 0, 1) := by decide +kernel
theorem dX13_init_98 : decode cX13_init 98 = .ok (.getfield 7, 3) := by decide +kernel
theorem dX13_init_101 : decode cX13_init 101 = .ok (.bipush 88, 2) := by decide +kernel
theorem dX13_init_103 : decode cX13_init 103 = .ok (.ldc2_w 29, 3) := by decide +kernel
theorem dX13_init_106 : decode cX13_init 106 = .ok (.lastore, 1) := by decide +kernel
theorem dX13_init_107 : decode cX13_init 107 = .ok (.aload_n 0, 1) := by decide +kernel
theorem dX13_init_108 : decode cX13_init 108 = .ok (.getfield 7, 3) := by decide +kernel
theorem dX13_init_111 : decode cX13_init 111 = .ok (.bipush 89, 2) := by decide +kernel
theorem dX13_init_113 : decode cX13_init 113 = .ok (.ldc2_w 25, 3) := by decide +kernel
theorem dX13_init_116 : decode cX13_init 116 = .ok (.lastore, 1) := by decide +kernel
theorem dX13_init_117 : decode cX13_init 117 = .ok (.return_, 1) := by decide +kernel
theorem dX13_thrown_0 : decode cX13_thrown 0 = .ok (.aload_n 0, 1) := by decide +kernel
theorem dX13_thrown_1 : decode cX13_thrown 1 = .ok (.getfield 31, 3) := by decide +kernel
theorem dX13_thrown_4 : decode cX13_thrown 4 = .ok (.ireturn, 1) := by decide +kernel
theorem dX13_refuse_0 : decode cX13_refuse 0 = .ok (.aload_n 0, 1) := by decide +kernel
theorem dX13_refuse_1 : decode cX13_refuse 1 = .ok (.iload_n 1, 1) := by decide +kernel
theorem dX13_refuse_2 : decode cX13_refuse 2 = .ok (.putfield 31, 3) := by decide +kernel
theorem dX13_refuse_5 : decode cX13_refuse 5 = .ok (.iconst 0, 1) := by decide +kernel
theorem dX13_refuse_6 : decode cX13_refuse 6 = .ok (.ireturn, 1) := by decide +kernel
theorem dX13_in_0 : decode cX13_in 0 = .ok (.lload_n 0, 1) := by decide +kernel
theorem dX13_in_1 : decode cX13_in 1 = .ok (.lload_n 2, 1) := by decide +kernel
theorem dX13_in_2 : decode cX13_in 2 = .ok (.lcmp, 1) := by decide +kernel
theorem dX13_in_3 : decode cX13_in 3 = .ok (.ifCond .lt 14, 3) := by decide +kernel
theorem dX13_in_6 : decode cX13_in 6 = .ok (.lload_n 0, 1) := by decide +kernel
theorem dX13_in_7 : decode cX13_in 7 = .ok (.lload 4, 2) := by decide +kernel
theorem dX13_in_9 : decode cX13_in 9 = .ok (.lcmp, 1) := by decide +kernel
theorem dX13_in_10 : decode cX13_in 10 = .ok (.ifCond .gt 7, 3) := by decide +kernel
theorem dX13_in_13 : decode cX13_in 13 = .ok (.iconst 1, 1) := by decide +kernel
theorem dX13_in_14 : decode cX13_in 14 = .ok (.goto 4, 3) := by decide +kernel
theorem dX13_in_17 : decode cX13_in 17 = .ok (.iconst 0, 1) := by decide +kernel
theorem dX13_in_18 : decode cX13_in 18 = .ok (.ireturn, 1) := by decide +kernel
theorem dX13_isGlaze_0 : decode cX13_isGlaze 0 = .ok (.iload_n 0, 1) := by decide +kernel
theorem dX13_isGlaze_1 : decode cX13_isGlaze 1 = .ok (.i2l, 1) := by decide +kernel
theorem dX13_isGlaze_2 : decode cX13_isGlaze 2 = .ok (.lconst 0, 1) := by decide +kernel
theorem dX13_isGlaze_3 : decode cX13_isGlaze 3 = .ok (.ldc2_w 35, 3) := by decide +kernel
theorem dX13_isGlaze_6 : decode cX13_isGlaze 6 = .ok (.invokestatic 37, 3) := by decide +kernel
theorem dX13_isGlaze_9 : decode cX13_isGlaze 9 = .ok (.ireturn, 1) := by decide +kernel
theorem dX13_isKiln_0 : decode cX13_isKiln 0 = .ok (.iload_n 0, 1) := by decide +kernel
theorem dX13_isKiln_1 : decode cX13_isKiln 1 = .ok (.i2l, 1) := by decide +kernel
theorem dX13_isKiln_2 : decode cX13_isKiln 2 = .ok (.lconst 0, 1) := by decide +kernel
theorem dX13_isKiln_3 : decode cX13_isKiln 3 = .ok (.ldc2_w 41, 3) := by decide +kernel
theorem dX13_isKiln_6 : decode cX13_isKiln 6 = .ok (.invokestatic 37, 3) := by decide +kernel
theorem dX13_isKiln_9 : decode cX13_isKiln 9 = .ok (.ireturn, 1) := by decide +kernel
theorem dX13_isPlace_0 : decode cX13_isPlace 0 = .ok (.iload_n 0, 1) := by decide +kernel
theorem dX13_isPlace_1 : decode cX13_isPlace 1 = .ok (.i2l, 1) := by decide +kernel
theorem dX13_isPlace_2 : decode cX13_isPlace 2 = .ok (.lconst 0, 1) := by decide +kernel
theorem dX13_isPlace_3 : decode cX13_isPlace 3 = .ok (.ldc2_w 43, 3) := by decide +kernel
theorem dX13_isPlace_6 : decode cX13_isPlace 6 = .ok (.invokestatic 37, 3) := by decide +kernel
theorem dX13_isPlace_9 : decode cX13_isPlace 9 = .ok (.ireturn, 1) := by decide +kernel
theorem dX13_save_0 : decode cX13_save 0 = .ok (.aload_n 0, 1) := by decide +kernel
theorem dX13_save_1 : decode cX13_save 1 = .ok (.getfield 45, 3) := by decide +kernel
theorem dX13_save_4 : decode cX13_save 4 = .ok (.bipush 6, 2) := by decide +kernel
theorem dX13_save_6 : decode cX13_save 6 = .ok (.if_icmp .ne 44, 3) := by decide +kernel
theorem dX13_save_9 : decode cX13_save 9 = .ok (.iconst 0, 1) := by decide +kernel
theorem dX13_save_10 : decode cX13_save 10 = .ok (.istore_n 1, 1) := by decide +kernel
theorem dX13_save_11 : decode cX13_save 11 = .ok (.iload_n 1, 1) := by decide +kernel
theorem dX13_save_12 : decode cX13_save 12 = .ok (.sipush 8090, 3) := by decide +kernel
theorem dX13_save_15 : decode cX13_save 15 = .ok (.if_icmp .ge 25, 3) := by decide +kernel
theorem dX13_save_18 : decode cX13_save 18 = .ok (.aload_n 0, 1) := by decide +kernel
theorem dX13_save_19 : decode cX13_save 19 = .ok (.getfield 13, 3) := by decide +kernel
theorem dX13_save_22 : decode cX13_save 22 = .ok (.iload_n 1, 1) := by decide +kernel
theorem dX13_save_23 : decode cX13_save 23 = .ok (.aload_n 0, 1) := by decide +kernel
theorem dX13_save_24 : decode cX13_save 24 = .ok (.getfield 13, 3) := by decide +kernel
theorem dX13_save_27 : decode cX13_save 27 = .ok (.iload_n 1, 1) := by decide +kernel
theorem dX13_save_28 : decode cX13_save 28 = .ok (.sipush 1618, 3) := by decide +kernel
theorem dX13_save_31 : decode cX13_save 31 = .ok (.iadd, 1) := by decide +kernel
theorem dX13_save_32 : decode cX13_save 32 = .ok (.laload, 1) := by decide +kernel
theorem dX13_save_33 : decode cX13_save 33 = .ok (.lastore, 1) := by decide +kernel
theorem dX13_save_34 : decode cX13_save 34 = .ok (.iinc 1 1, 3) := by decide +kernel
theorem dX13_save_37 : decode cX13_save 37 = .ok (.goto (-26), 3) := by decide +kernel
theorem dX13_save_40 : decode cX13_save 40 = .ok (.aload_n 0, 1) := by decide +kernel
theorem dX13_save_41 : decode cX13_save 41 = .ok (.dup, 1) := by decide +kernel
theorem dX13_save_42 : decode cX13_save 42 = .ok (.getfield 45, 3) := by decide +kernel
theorem dX13_save_45 : decode cX13_save 45 = .ok (.iconst 1, 1) := by decide +kernel
theorem dX13_save_46 : decode cX13_save 46 = .ok (.isub, 1) := by decide +kernel
theorem dX13_save_47 : decode cX13_save 47 = .ok (.putfield 45, 3) := by decide +kernel
theorem dX13_save_50 : decode cX13_save 50 = .ok (.iconst 0, 1) := by decide +kernel
theorem dX13_save_51 : decode cX13_save 51 = .ok (.istore_n 1, 1) := by decide +kernel
theorem dX13_save_52 : decode cX13_save 52 = .ok (.iload_n 1, 1) := by decide +kernel
theorem dX13_save_53 : decode cX13_save 53 = .ok (.sipush 1618, 3) := by decide +kernel
theorem dX13_save_56 : decode cX13_save 56 = .ok (.if_icmp .ge 30, 3) := by decide +kernel
theorem dX13_save_59 : decode cX13_save 59 = .ok (.aload_n 0, 1) := by decide +kernel
theorem dX13_save_60 : decode cX13_save 60 = .ok (.getfield 13, 3) := by decide +kernel
theorem dX13_save_63 : decode cX13_save 63 = .ok (.aload_n 0, 1) := by decide +kernel
theorem dX13_save_64 : decode cX13_save 64 = .ok (.getfield 45, 3) := by decide +kernel
theorem dX13_save_67 : decode cX13_save 67 = .ok (.sipush 1618, 3) := by decide +kernel
theorem dX13_save_70 : decode cX13_save 70 = .ok (.imul, 1) := by decide +kernel
theorem dX13_save_71 : decode cX13_save 71 = .ok (.iload_n 1, 1) := by decide +kernel
theorem dX13_save_72 : decode cX13_save 72 = .ok (.iadd, 1) := by decide +kernel
theorem dX13_save_73 : decode cX13_save 73 = .ok (.aload_n 0, 1) := by decide +kernel
theorem dX13_save_74 : decode cX13_save 74 = .ok (.getfield 7, 3) := by decide +kernel
theorem dX13_save_77 : decode cX13_save 77 = .ok (.iload_n 1, 1) := by decide +kernel
theorem dX13_save_78 : decode cX13_save 78 = .ok (.laload, 1) := by decide +kernel
theorem dX13_save_79 : decode cX13_save 79 = .ok (.lastore, 1) := by decide +kernel
theorem dX13_save_80 : decode cX13_save 80 = .ok (.iinc 1 1, 3) := by decide +kernel
theorem dX13_save_83 : decode cX13_save 83 = .ok (.goto (-31), 3) := by decide +kernel
theorem dX13_save_86 : decode cX13_save 86 = .ok (.aload_n 0, 1) := by decide +kernel
theorem dX13_save_87 : decode cX13_save 87 = .ok (.dup, 1) := by decide +kernel
theorem dX13_save_88 : decode cX13_save 88 = .ok (.getfield 45, 3) := by decide +kernel
theorem dX13_save_91 : decode cX13_save 91 = .ok (.iconst 1, 1) := by decide +kernel
theorem dX13_save_92 : decode cX13_save 92 = .ok (.iadd, 1) := by decide +kernel
theorem dX13_save_93 : decode cX13_save 93 = .ok (.putfield 45, 3) := by decide +kernel
theorem dX13_save_96 : decode cX13_save 96 = .ok (.return_, 1) := by decide +kernel
theorem dX13_happens_0 : decode cX13_happens 0 = .ok (.aload_n 0, 1) := by decide +kernel
theorem dX13_happens_1 : decode cX13_happens 1 = .ok (.getfield 7, 3) := by decide +kernel
theorem dX13_happens_4 : decode cX13_happens 4 = .ok (.sipush 1616, 3) := by decide +kernel
theorem dX13_happens_7 : decode cX13_happens 7 = .ok (.laload, 1) := by decide +kernel
theorem dX13_happens_8 : decode cX13_happens 8 = .ok (.ldc2_w 48, 3) := by decide +kernel
theorem dX13_happens_11 : decode cX13_happens 11 = .ok (.lcmp, 1) := by decide +kernel
theorem dX13_happens_12 : decode cX13_happens 12 = .ok (.ifCond .ne 79, 3) := by decide +kernel
theorem dX13_happens_15 : decode cX13_happens 15 = .ok (.iconst 0, 1) := by decide +kernel
theorem dX13_happens_16 : decode cX13_happens 16 = .ok (.istore 4, 2) := by decide +kernel
theorem dX13_happens_18 : decode cX13_happens 18 = .ok (.iload 4, 2) := by decide +kernel
theorem dX13_happens_20 : decode cX13_happens 20 = .ok (.bipush 19, 2) := by decide +kernel
theorem dX13_happens_22 : decode cX13_happens 22 = .ok (.if_icmp .ge 57, 3) := by decide +kernel
theorem dX13_happens_25 : decode cX13_happens 25 = .ok (.aload_n 0, 1) := by decide +kernel
theorem dX13_happens_26 : decode cX13_happens 26 = .ok (.getfield 7, 3) := by decide +kernel
theorem dX13_happens_29 : decode cX13_happens 29 = .ok (.sipush 1570, 3) := by decide +kernel
theorem dX13_happens_32 : decode cX13_happens 32 = .ok (.iload 4, 2) := by decide +kernel
theorem dX13_happens_34 : decode cX13_happens 34 = .ok (.iadd, 1) := by decide +kernel
theorem dX13_happens_35 : decode cX13_happens 35 = .ok (.aload_n 0, 1) := by decide +kernel
theorem dX13_happens_36 : decode cX13_happens 36 = .ok (.getfield 7, 3) := by decide +kernel
theorem dX13_happens_39 : decode cX13_happens 39 = .ok (.sipush 1570, 3) := by decide +kernel
theorem dX13_happens_42 : decode cX13_happens 42 = .ok (.iload 4, 2) := by decide +kernel
theorem dX13_happens_44 : decode cX13_happens 44 = .ok (.iadd, 1) := by decide +kernel
theorem dX13_happens_45 : decode cX13_happens 45 = .ok (.iconst 1, 1) := by decide +kernel
theorem dX13_happens_46 : decode cX13_happens 46 = .ok (.iadd, 1) := by decide +kernel
theorem dX13_happens_47 : decode cX13_happens 47 = .ok (.laload, 1) := by decide +kernel
theorem dX13_happens_48 : decode cX13_happens 48 = .ok (.lastore, 1) := by decide +kernel
theorem dX13_happens_49 : decode cX13_happens 49 = .ok (.aload_n 0, 1) := by decide +kernel
theorem dX13_happens_50 : decode cX13_happens 50 = .ok (.getfield 7, 3) := by decide +kernel
theorem dX13_happens_53 : decode cX13_happens 53 = .ok (.sipush 1590, 3) := by decide +kernel
theorem dX13_happens_56 : decode cX13_happens 56 = .ok (.iload 4, 2) := by decide +kernel
theorem dX13_happens_58 : decode cX13_happens 58 = .ok (.iadd, 1) := by decide +kernel
theorem dX13_happens_59 : decode cX13_happens 59 = .ok (.aload_n 0, 1) := by decide +kernel
theorem dX13_happens_60 : decode cX13_happens 60 = .ok (.getfield 7, 3) := by decide +kernel
theorem dX13_happens_63 : decode cX13_happens 63 = .ok (.sipush 1590, 3) := by decide +kernel
theorem dX13_happens_66 : decode cX13_happens 66 = .ok (.iload 4, 2) := by decide +kernel
theorem dX13_happens_68 : decode cX13_happens 68 = .ok (.iadd, 1) := by decide +kernel
theorem dX13_happens_69 : decode cX13_happens 69 = .ok (.iconst 1, 1) := by decide +kernel
theorem dX13_happens_70 : decode cX13_happens 70 = .ok (.iadd, 1) := by decide +kernel
theorem dX13_happens_71 : decode cX13_happens 71 = .ok (.laload, 1) := by decide +kernel
theorem dX13_happens_72 : decode cX13_happens 72 = .ok (.lastore, 1) := by decide +kernel
theorem dX13_happens_73 : decode cX13_happens 73 = .ok (.iinc 4 1, 3) := by decide +kernel
theorem dX13_happens_76 : decode cX13_happens 76 = .ok (.goto (-58), 3) := by decide +kernel
theorem dX13_happens_79 : decode cX13_happens 79 = .ok (.aload_n 0, 1) := by decide +kernel
theorem dX13_happens_80 : decode cX13_happens 80 = .ok (.getfield 7, 3) := by decide +kernel
theorem dX13_happens_83 : decode cX13_happens 83 = .ok (.sipush 1616, 3) := by decide +kernel
theorem dX13_happens_86 : decode cX13_happens 86 = .ok (.dup2, 1) := by decide +kernel
theorem dX13_happens_87 : decode cX13_happens 87 = .ok (.laload, 1) := by decide +kernel
theorem dX13_happens_88 : decode cX13_happens 88 = .ok (.lconst 1, 1) := by decide +kernel
theorem dX13_happens_89 : decode cX13_happens 89 = .ok (.lsub, 1) := by decide +kernel
theorem dX13_happens_90 : decode cX13_happens 90 = .ok (.lastore, 1) := by decide +kernel
theorem dX13_happens_91 : decode cX13_happens 91 = .ok (.aload_n 0, 1) := by decide +kernel
theorem dX13_happens_92 : decode cX13_happens 92 = .ok (.getfield 7, 3) := by decide +kernel
theorem dX13_happens_95 : decode cX13_happens 95 = .ok (.sipush 1570, 3) := by decide +kernel
theorem dX13_happens_98 : decode cX13_happens 98 = .ok (.aload_n 0, 1) := by decide +kernel
theorem dX13_happens_99 : decode cX13_happens 99 = .ok (.getfield 7, 3) := by decide +kernel
theorem dX13_happens_102 : decode cX13_happens 102 = .ok (.sipush 1616, 3) := by decide +kernel
theorem dX13_happens_105 : decode cX13_happens 105 = .ok (.laload, 1) := by decide +kernel
theorem dX13_happens_106 : decode cX13_happens 106 = .ok (.l2i, 1) := by decide +kernel
theorem dX13_happens_107 : decode cX13_happens 107 = .ok (.iadd, 1) := by decide +kernel
theorem dX13_happens_108 : decode cX13_happens 108 = .ok (.iload_n 1, 1) := by decide +kernel
theorem dX13_happens_109 : decode cX13_happens 109 = .ok (.i2l, 1) := by decide +kernel
theorem dX13_happens_110 : decode cX13_happens 110 = .ok (.lastore, 1) := by decide +kernel
theorem dX13_happens_111 : decode cX13_happens 111 = .ok (.aload_n 0, 1) := by decide +kernel
theorem dX13_happens_112 : decode cX13_happens 112 = .ok (.getfield 7, 3) := by decide +kernel
theorem dX13_happens_115 : decode cX13_happens 115 = .ok (.sipush 1590, 3) := by decide +kernel
theorem dX13_happens_118 : decode cX13_happens 118 = .ok (.aload_n 0, 1) := by decide +kernel
theorem dX13_happens_119 : decode cX13_happens 119 = .ok (.getfield 7, 3) := by decide +kernel
theorem dX13_happens_122 : decode cX13_happens 122 = .ok (.sipush 1616, 3) := by decide +kernel
theorem dX13_happens_125 : decode cX13_happens 125 = .ok (.laload, 1) := by decide +kernel
theorem dX13_happens_126 : decode cX13_happens 126 = .ok (.l2i, 1) := by decide +kernel
theorem dX13_happens_127 : decode cX13_happens 127 = .ok (.iadd, 1) := by decide +kernel
theorem dX13_happens_128 : decode cX13_happens 128 = .ok (.lload_n 2, 1) := by decide +kernel
theorem dX13_happens_129 : decode cX13_happens 129 = .ok (.lastore, 1) := by decide +kernel
theorem dX13_happens_130 : decode cX13_happens 130 = .ok (.aload_n 0, 1) := by decide +kernel
theorem dX13_happens_131 : decode cX13_happens 131 = .ok (.getfield 7, 3) := by decide +kernel
theorem dX13_happens_134 : decode cX13_happens 134 = .ok (.sipush 1616, 3) := by decide +kernel
theorem dX13_happens_137 : decode cX13_happens 137 = .ok (.dup2, 1) := by decide +kernel
theorem dX13_happens_138 : decode cX13_happens 138 = .ok (.laload, 1) := by decide +kernel
theorem dX13_happens_139 : decode cX13_happens 139 = .ok (.lconst 1, 1) := by decide +kernel
theorem dX13_happens_140 : decode cX13_happens 140 = .ok (.ladd, 1) := by decide +kernel
theorem dX13_happens_141 : decode cX13_happens 141 = .ok (.lastore, 1) := by decide +kernel
theorem dX13_happens_142 : decode cX13_happens 142 = .ok (.return_, 1) := by decide +kernel
theorem dX13_setGlaze_0 : decode cX13_setGlaze 0 = .ok (.aload_n 0, 1) := by decide +kernel
theorem dX13_setGlaze_1 : decode cX13_setGlaze 1 = .ok (.iconst 0, 1) := by decide +kernel
theorem dX13_setGlaze_2 : decode cX13_setGlaze 2 = .ok (.putfield 31, 3) := by decide +kernel
theorem dX13_setGlaze_5 : decode cX13_setGlaze 5 = .ok (.iload_n 1, 1) := by decide +kernel
theorem dX13_setGlaze_6 : decode cX13_setGlaze 6 = .ok (.invokestatic 50, 3) := by decide +kernel
theorem dX13_setGlaze_9 : decode cX13_setGlaze 9 = .ok (.ifCond .ne 9, 3) := by decide +kernel
theorem dX13_setGlaze_12 : decode cX13_setGlaze 12 = .ok (.aload_n 0, 1) := by decide +kernel
theorem dX13_setGlaze_13 : decode cX13_setGlaze 13 = .ok (.iconst 1, 1) := by decide +kernel
theorem dX13_setGlaze_14 : decode cX13_setGlaze 14 = .ok (.invokevirtual 54, 3) := by decide +kernel
theorem dX13_setGlaze_17 : decode cX13_setGlaze 17 = .ok (.ireturn, 1) := by decide +kernel
theorem dX13_setGlaze_18 : decode cX13_setGlaze 18 = .ok (.iload_n 2, 1) := by decide +kernel
theorem dX13_setGlaze_19 : decode cX13_setGlaze 19 = .ok (.i2l, 1) := by decide +kernel
theorem dX13_setGlaze_20 : decode cX13_setGlaze 20 = .ok (.lconst 0, 1) := by decide +kernel
theorem dX13_setGlaze_21 : decode cX13_setGlaze 21 = .ok (.ldc2_w 58, 3) := by decide +kernel
theorem dX13_setGlaze_24 : decode cX13_setGlaze 24 = .ok (.invokestatic 37, 3) := by decide +kernel
theorem dX13_setGlaze_27 : decode cX13_setGlaze 27 = .ok (.ifCond .eq 15, 3) := by decide +kernel
theorem dX13_setGlaze_30 : decode cX13_setGlaze 30 = .ok (.iload_n 3, 1) := by decide +kernel
theorem dX13_setGlaze_31 : decode cX13_setGlaze 31 = .ok (.i2l, 1) := by decide +kernel
theorem dX13_setGlaze_32 : decode cX13_setGlaze 32 = .ok (.lconst 0, 1) := by decide +kernel
theorem dX13_setGlaze_33 : decode cX13_setGlaze 33 = .ok (.ldc2_w 48, 3) := by decide +kernel
theorem dX13_setGlaze_36 : decode cX13_setGlaze 36 = .ok (.invokestatic 37, 3) := by decide +kernel
theorem dX13_setGlaze_39 : decode cX13_setGlaze 39 = .ok (.ifCond .ne 9, 3) := by decide +kernel
theorem dX13_setGlaze_42 : decode cX13_setGlaze 42 = .ok (.aload_n 0, 1) := by decide +kernel
theorem dX13_setGlaze_43 : decode cX13_setGlaze 43 = .ok (.iconst 2, 1) := by decide +kernel
theorem dX13_setGlaze_44 : decode cX13_setGlaze 44 = .ok (.invokevirtual 54, 3) := by decide +kernel
theorem dX13_setGlaze_47 : decode cX13_setGlaze 47 = .ok (.ireturn, 1) := by decide +kernel
theorem dX13_setGlaze_48 : decode cX13_setGlaze 48 = .ok (.aload_n 0, 1) := by decide +kernel
theorem dX13_setGlaze_49 : decode cX13_setGlaze 49 = .ok (.invokevirtual 60, 3) := by decide +kernel
theorem dX13_setGlaze_52 : decode cX13_setGlaze 52 = .ok (.aload_n 0, 1) := by decide +kernel
theorem dX13_setGlaze_53 : decode cX13_setGlaze 53 = .ok (.getfield 7, 3) := by decide +kernel
theorem dX13_setGlaze_56 : decode cX13_setGlaze 56 = .ok (.iconst 0, 1) := by decide +kernel
theorem dX13_setGlaze_57 : decode cX13_setGlaze 57 = .ok (.iload_n 1, 1) := by decide +kernel
theorem dX13_setGlaze_58 : decode cX13_setGlaze 58 = .ok (.iadd, 1) := by decide +kernel
theorem dX13_setGlaze_59 : decode cX13_setGlaze 59 = .ok (.laload, 1) := by decide +kernel
theorem dX13_setGlaze_60 : decode cX13_setGlaze 60 = .ok (.l2i, 1) := by decide +kernel
theorem dX13_setGlaze_61 : decode cX13_setGlaze 61 = .ok (.istore 4, 2) := by decide +kernel
theorem dX13_setGlaze_63 : decode cX13_setGlaze 63 = .ok (.aload_n 0, 1) := by decide +kernel
theorem dX13_setGlaze_64 : decode cX13_setGlaze 64 = .ok (.getfield 7, 3) := by decide +kernel
theorem dX13_setGlaze_67 : decode cX13_setGlaze 67 = .ok (.iconst 0, 1) := by decide +kernel
theorem dX13_setGlaze_68 : decode cX13_setGlaze 68 = .ok (.iload_n 1, 1) := by decide +kernel
theorem dX13_setGlaze_69 : decode cX13_setGlaze 69 = .ok (.iadd, 1) := by decide +kernel
theorem dX13_setGlaze_70 : decode cX13_setGlaze 70 = .ok (.iload_n 2, 1) := by decide +kernel
theorem dX13_setGlaze_71 : decode cX13_setGlaze 71 = .ok (.i2l, 1) := by decide +kernel
theorem dX13_setGlaze_72 : decode cX13_setGlaze 72 = .ok (.lastore, 1) := by decide +kernel
theorem dX13_setGlaze_73 : decode cX13_setGlaze 73 = .ok (.aload_n 0, 1) := by decide +kernel
theorem dX13_setGlaze_74 : decode cX13_setGlaze 74 = .ok (.getfield 7, 3) := by decide +kernel
theorem dX13_setGlaze_77 : decode cX13_setGlaze 77 = .ok (.iconst 4, 1) := by decide +kernel
theorem dX13_setGlaze_78 : decode cX13_setGlaze 78 = .ok (.iload_n 1, 1) := by decide +kernel
theorem dX13_setGlaze_79 : decode cX13_setGlaze 79 = .ok (.iadd, 1) := by decide +kernel
theorem dX13_setGlaze_80 : decode cX13_setGlaze 80 = .ok (.iload_n 3, 1) := by decide +kernel
theorem dX13_setGlaze_81 : decode cX13_setGlaze 81 = .ok (.i2l, 1) := by decide +kernel
theorem dX13_setGlaze_82 : decode cX13_setGlaze 82 = .ok (.lastore, 1) := by decide +kernel
theorem dX13_setGlaze_83 : decode cX13_setGlaze 83 = .ok (.iload 4, 2) := by decide +kernel
theorem dX13_setGlaze_85 : decode cX13_setGlaze 85 = .ok (.ireturn, 1) := by decide +kernel
theorem dX13_setQuality_0 : decode cX13_setQuality 0 = .ok (.aload_n 0, 1) := by decide +kernel
theorem dX13_setQuality_1 : decode cX13_setQuality 1 = .ok (.iconst 0, 1) := by decide +kernel
theorem dX13_setQuality_2 : decode cX13_setQuality 2 = .ok (.putfield 31, 3) := by decide +kernel
theorem dX13_setQuality_5 : decode cX13_setQuality 5 = .ok (.iload_n 1, 1) := by decide +kernel
theorem dX13_setQuality_6 : decode cX13_setQuality 6 = .ok (.invokestatic 50, 3) := by decide +kernel
theorem dX13_setQuality_9 : decode cX13_setQuality 9 = .ok (.ifCond .ne 9, 3) := by decide +kernel
theorem dX13_setQuality_12 : decode cX13_setQuality 12 = .ok (.aload_n 0, 1) := by decide +kernel
theorem dX13_setQuality_13 : decode cX13_setQuality 13 = .ok (.iconst 1, 1) := by decide +kernel
theorem dX13_setQuality_14 : decode cX13_setQuality 14 = .ok (.invokevirtual 54, 3) := by decide +kernel
theorem dX13_setQuality_17 : decode cX13_setQuality 17 = .ok (.ireturn, 1) := by decide +kernel
theorem dX13_setQuality_18 : decode cX13_setQuality 18 = .ok (.iload_n 2, 1) := by decide +kernel
theorem dX13_setQuality_19 : decode cX13_setQuality 19 = .ok (.i2l, 1) := by decide +kernel
theorem dX13_setQuality_20 : decode cX13_setQuality 20 = .ok (.lconst 0, 1) := by decide +kernel
theorem dX13_setQuality_21 : decode cX13_setQuality 21 = .ok (.ldc2_w 27, 3) := by decide +kernel
theorem dX13_setQuality_24 : decode cX13_setQuality 24 = .ok (.invokestatic 37, 3) := by decide +kernel
theorem dX13_setQuality_27 : decode cX13_setQuality 27 = .ok (.ifCond .eq 15, 3) := by decide +kernel
theorem dX13_setQuality_30 : decode cX13_setQuality 30 = .ok (.iload_n 3, 1) := by decide +kernel
theorem dX13_setQuality_31 : decode cX13_setQuality 31 = .ok (.i2l, 1) := by decide +kernel
theorem dX13_setQuality_32 : decode cX13_setQuality 32 = .ok (.lconst 0, 1) := by decide +kernel
theorem dX13_setQuality_33 : decode cX13_setQuality 33 = .ok (.ldc2_w 63, 3) := by decide +kernel
theorem dX13_setQuality_36 : decode cX13_setQuality 36 = .ok (.invokestatic 37, 3) := by decide +kernel
theorem dX13_setQuality_39 : decode cX13_setQuality 39 = .ok (.ifCond .ne 9, 3) := by decide +kernel
theorem dX13_setQuality_42 : decode cX13_setQuality 42 = .ok (.aload_n 0, 1) := by decide +kernel
theorem dX13_setQuality_43 : decode cX13_setQuality 43 = .ok (.iconst 2, 1) := by decide +kernel
theorem dX13_setQuality_44 : decode cX13_setQuality 44 = .ok (.invokevirtual 54, 3) := by decide +kernel
theorem dX13_setQuality_47 : decode cX13_setQuality 47 = .ok (.ireturn, 1) := by decide +kernel
theorem dX13_setQuality_48 : decode cX13_setQuality 48 = .ok (.aload_n 0, 1) := by decide +kernel
theorem dX13_setQuality_49 : decode cX13_setQuality 49 = .ok (.invokevirtual 60, 3) := by decide +kernel
theorem dX13_setQuality_52 : decode cX13_setQuality 52 = .ok (.aload_n 0, 1) := by decide +kernel
theorem dX13_setQuality_53 : decode cX13_setQuality 53 = .ok (.getfield 7, 3) := by decide +kernel
theorem dX13_setQuality_56 : decode cX13_setQuality 56 = .ok (.bipush 8, 2) := by decide +kernel
theorem dX13_setQuality_58 : decode cX13_setQuality 58 = .ok (.iload_n 1, 1) := by decide +kernel
theorem dX13_setQuality_59 : decode cX13_setQuality 59 = .ok (.iadd, 1) := by decide +kernel
theorem dX13_setQuality_60 : decode cX13_setQuality 60 = .ok (.laload, 1) := by decide +kernel
theorem dX13_setQuality_61 : decode cX13_setQuality 61 = .ok (.l2i, 1) := by decide +kernel
theorem dX13_setQuality_62 : decode cX13_setQuality 62 = .ok (.istore 4, 2) := by decide +kernel
theorem dX13_setQuality_64 : decode cX13_setQuality 64 = .ok (.aload_n 0, 1) := by decide +kernel
theorem dX13_setQuality_65 : decode cX13_setQuality 65 = .ok (.getfield 7, 3) := by decide +kernel
theorem dX13_setQuality_68 : decode cX13_setQuality 68 = .ok (.bipush 8, 2) := by decide +kernel
theorem dX13_setQuality_70 : decode cX13_setQuality 70 = .ok (.iload_n 1, 1) := by decide +kernel
theorem dX13_setQuality_71 : decode cX13_setQuality 71 = .ok (.iadd, 1) := by decide +kernel
theorem dX13_setQuality_72 : decode cX13_setQuality 72 = .ok (.iload_n 2, 1) := by decide +kernel
theorem dX13_setQuality_73 : decode cX13_setQuality 73 = .ok (.i2l, 1) := by decide +kernel
theorem dX13_setQuality_74 : decode cX13_setQuality 74 = .ok (.lastore, 1) := by decide +kernel
theorem dX13_setQuality_75 : decode cX13_setQuality 75 = .ok (.aload_n 0, 1) := by decide +kernel
theorem dX13_setQuality_76 : decode cX13_setQuality 76 = .ok (.getfield 7, 3) := by decide +kernel
theorem dX13_setQuality_79 : decode cX13_setQuality 79 = .ok (.bipush 12, 2) := by decide +kernel
theorem dX13_setQuality_81 : decode cX13_setQuality 81 = .ok (.iload_n 1, 1) := by decide +kernel
theorem dX13_setQuality_82 : decode cX13_setQuality 82 = .ok (.iadd, 1) := by decide +kernel
theorem dX13_setQuality_83 : decode cX13_setQuality 83 = .ok (.iload_n 3, 1) := by decide +kernel
theorem dX13_setQuality_84 : decode cX13_setQuality 84 = .ok (.i2l, 1) := by decide +kernel
theorem dX13_setQuality_85 : decode cX13_setQuality 85 = .ok (.lastore, 1) := by decide +kernel
theorem dX13_setQuality_86 : decode cX13_setQuality 86 = .ok (.iload 4, 2) := by decide +kernel
theorem dX13_setQuality_88 : decode cX13_setQuality 88 = .ok (.ireturn, 1) := by decide +kernel
theorem dX13_setPosition_0 : decode cX13_setPosition 0 = .ok (.aload_n 0, 1) := by decide +kernel
theorem dX13_setPosition_1 : decode cX13_setPosition 1 = .ok (.iconst 0, 1) := by decide +kernel
theorem dX13_setPosition_2 : decode cX13_setPosition 2 = .ok (.putfield 31, 3) := by decide +kernel
theorem dX13_setPosition_5 : decode cX13_setPosition 5 = .ok (.iload_n 1, 1) := by decide +kernel
theorem dX13_setPosition_6 : decode cX13_setPosition 6 = .ok (.invokestatic 65, 3) := by decide +kernel
theorem dX13_setPosition_9 : decode cX13_setPosition 9 = .ok (.ifCond .eq 10, 3) := by decide +kernel
theorem dX13_setPosition_12 : decode cX13_setPosition 12 = .ok (.iload_n 2, 1) := by decide +kernel
theorem dX13_setPosition_13 : decode cX13_setPosition 13 = .ok (.invokestatic 68, 3) := by decide +kernel
theorem dX13_setPosition_16 : decode cX13_setPosition 16 = .ok (.ifCond .ne 9, 3) := by decide +kernel
theorem dX13_setPosition_19 : decode cX13_setPosition 19 = .ok (.aload_n 0, 1) := by decide +kernel
theorem dX13_setPosition_20 : decode cX13_setPosition 20 = .ok (.iconst 1, 1) := by decide +kernel
theorem dX13_setPosition_21 : decode cX13_setPosition 21 = .ok (.invokevirtual 54, 3) := by decide +kernel
theorem dX13_setPosition_24 : decode cX13_setPosition 24 = .ok (.ireturn, 1) := by decide +kernel
theorem dX13_setPosition_25 : decode cX13_setPosition 25 = .ok (.iload_n 3, 1) := by decide +kernel
theorem dX13_setPosition_26 : decode cX13_setPosition 26 = .ok (.i2l, 1) := by decide +kernel
theorem dX13_setPosition_27 : decode cX13_setPosition 27 = .ok (.ldc2_w 71, 3) := by decide +kernel
theorem dX13_setPosition_30 : decode cX13_setPosition 30 = .ok (.ldc2_w 73, 3) := by decide +kernel
theorem dX13_setPosition_33 : decode cX13_setPosition 33 = .ok (.invokestatic 37, 3) := by decide +kernel
theorem dX13_setPosition_36 : decode cX13_setPosition 36 = .ok (.ifCond .eq 16, 3) := by decide +kernel
theorem dX13_setPosition_39 : decode cX13_setPosition 39 = .ok (.iload 4, 2) := by decide +kernel
theorem dX13_setPosition_41 : decode cX13_setPosition 41 = .ok (.i2l, 1) := by decide +kernel
theorem dX13_setPosition_42 : decode cX13_setPosition 42 = .ok (.lconst 0, 1) := by decide +kernel
theorem dX13_setPosition_43 : decode cX13_setPosition 43 = .ok (.ldc2_w 27, 3) := by decide +kernel
theorem dX13_setPosition_46 : decode cX13_setPosition 46 = .ok (.invokestatic 37, 3) := by decide +kernel
theorem dX13_setPosition_49 : decode cX13_setPosition 49 = .ok (.ifCond .ne 9, 3) := by decide +kernel
theorem dX13_setPosition_52 : decode cX13_setPosition 52 = .ok (.aload_n 0, 1) := by decide +kernel
theorem dX13_setPosition_53 : decode cX13_setPosition 53 = .ok (.iconst 2, 1) := by decide +kernel
theorem dX13_setPosition_54 : decode cX13_setPosition 54 = .ok (.invokevirtual 54, 3) := by decide +kernel
theorem dX13_setPosition_57 : decode cX13_setPosition 57 = .ok (.ireturn, 1) := by decide +kernel
theorem dX13_setPosition_58 : decode cX13_setPosition 58 = .ok (.aload_n 0, 1) := by decide +kernel
theorem dX13_setPosition_59 : decode cX13_setPosition 59 = .ok (.invokevirtual 60, 3) := by decide +kernel
theorem dX13_setPosition_62 : decode cX13_setPosition 62 = .ok (.bipush 8, 2) := by decide +kernel
theorem dX13_setPosition_64 : decode cX13_setPosition 64 = .ok (.iload_n 1, 1) := by decide +kernel
theorem dX13_setPosition_65 : decode cX13_setPosition 65 = .ok (.imul, 1) := by decide +kernel
theorem dX13_setPosition_66 : decode cX13_setPosition 66 = .ok (.iload_n 2, 1) := by decide +kernel
theorem dX13_setPosition_67 : decode cX13_setPosition 67 = .ok (.iadd, 1) := by decide +kernel
theorem dX13_setPosition_68 : decode cX13_setPosition 68 = .ok (.istore 5, 2) := by decide +kernel
theorem dX13_setPosition_70 : decode cX13_setPosition 70 = .ok (.aload_n 0, 1) := by decide +kernel
theorem dX13_setPosition_71 : decode cX13_setPosition 71 = .ok (.getfield 7, 3) := by decide +kernel
theorem dX13_setPosition_74 : decode cX13_setPosition 74 = .ok (.bipush 16, 2) := by decide +kernel
theorem dX13_setPosition_76 : decode cX13_setPosition 76 = .ok (.iload 5, 2) := by decide +kernel
theorem dX13_setPosition_78 : decode cX13_setPosition 78 = .ok (.iadd, 1) := by decide +kernel
theorem dX13_setPosition_79 : decode cX13_setPosition 79 = .ok (.laload, 1) := by decide +kernel
theorem dX13_setPosition_80 : decode cX13_setPosition 80 = .ok (.l2i, 1) := by decide +kernel
theorem dX13_setPosition_81 : decode cX13_setPosition 81 = .ok (.istore 6, 2) := by decide +kernel
theorem dX13_setPosition_83 : decode cX13_setPosition 83 = .ok (.aload_n 0, 1) := by decide +kernel
theorem dX13_setPosition_84 : decode cX13_setPosition 84 = .ok (.getfield 7, 3) := by decide +kernel
theorem dX13_setPosition_87 : decode cX13_setPosition 87 = .ok (.bipush 16, 2) := by decide +kernel
theorem dX13_setPosition_89 : decode cX13_setPosition 89 = .ok (.iload 5, 2) := by decide +kernel
theorem dX13_setPosition_91 : decode cX13_setPosition 91 = .ok (.iadd, 1) := by decide +kernel
theorem dX13_setPosition_92 : decode cX13_setPosition 92 = .ok (.iload_n 3, 1) := by decide +kernel
theorem dX13_setPosition_93 : decode cX13_setPosition 93 = .ok (.i2l, 1) := by decide +kernel
theorem dX13_setPosition_94 : decode cX13_setPosition 94 = .ok (.lastore, 1) := by decide +kernel
theorem dX13_setPosition_95 : decode cX13_setPosition 95 = .ok (.aload_n 0, 1) := by decide +kernel
theorem dX13_setPosition_96 : decode cX13_setPosition 96 = .ok (.getfield 7, 3) := by decide +kernel
theorem dX13_setPosition_99 : decode cX13_setPosition 99 = .ok (.bipush 40, 2) := by decide +kernel
theorem dX13_setPosition_101 : decode cX13_setPosition 101 = .ok (.iload 5, 2) := by decide +kernel
theorem dX13_setPosition_103 : decode cX13_setPosition 103 = .ok (.iadd, 1) := by decide +kernel
theorem dX13_setPosition_104 : decode cX13_setPosition 104 = .ok (.iload 4, 2) := by decide +kernel
theorem dX13_setPosition_106 : decode cX13_setPosition 106 = .ok (.i2l, 1) := by decide +kernel
theorem dX13_setPosition_107 : decode cX13_setPosition 107 = .ok (.lastore, 1) := by decide +kernel
theorem dX13_setPosition_108 : decode cX13_setPosition 108 = .ok (.iload 6, 2) := by decide +kernel
theorem dX13_setPosition_110 : decode cX13_setPosition 110 = .ok (.ireturn, 1) := by decide +kernel
theorem dX13_setSharpness_0 : decode cX13_setSharpness 0 = .ok (.aload_n 0, 1) := by decide +kernel
theorem dX13_setSharpness_1 : decode cX13_setSharpness 1 = .ok (.iconst 0, 1) := by decide +kernel
theorem dX13_setSharpness_2 : decode cX13_setSharpness 2 = .ok (.putfield 31, 3) := by decide +kernel
theorem dX13_setSharpness_5 : decode cX13_setSharpness 5 = .ok (.iload_n 1, 1) := by decide +kernel
theorem dX13_setSharpness_6 : decode cX13_setSharpness 6 = .ok (.i2l, 1) := by decide +kernel
theorem dX13_setSharpness_7 : decode cX13_setSharpness 7 = .ok (.lconst 0, 1) := by decide +kernel
theorem dX13_setSharpness_8 : decode cX13_setSharpness 8 = .ok (.ldc2_w 27, 3) := by decide +kernel
theorem dX13_setSharpness_11 : decode cX13_setSharpness 11 = .ok (.invokestatic 37, 3) := by decide +kernel
theorem dX13_setSharpness_14 : decode cX13_setSharpness 14 = .ok (.ifCond .ne 9, 3) := by decide +kernel
theorem dX13_setSharpness_17 : decode cX13_setSharpness 17 = .ok (.aload_n 0, 1) := by decide +kernel
theorem dX13_setSharpness_18 : decode cX13_setSharpness 18 = .ok (.iconst 1, 1) := by decide +kernel
theorem dX13_setSharpness_19 : decode cX13_setSharpness 19 = .ok (.invokevirtual 54, 3) := by decide +kernel
theorem dX13_setSharpness_22 : decode cX13_setSharpness 22 = .ok (.ireturn, 1) := by decide +kernel
theorem dX13_setSharpness_23 : decode cX13_setSharpness 23 = .ok (.aload_n 0, 1) := by decide +kernel
theorem dX13_setSharpness_24 : decode cX13_setSharpness 24 = .ok (.invokevirtual 60, 3) := by decide +kernel
theorem dX13_setSharpness_27 : decode cX13_setSharpness 27 = .ok (.aload_n 0, 1) := by decide +kernel
theorem dX13_setSharpness_28 : decode cX13_setSharpness 28 = .ok (.getfield 7, 3) := by decide +kernel
theorem dX13_setSharpness_31 : decode cX13_setSharpness 31 = .ok (.bipush 88, 2) := by decide +kernel
theorem dX13_setSharpness_33 : decode cX13_setSharpness 33 = .ok (.laload, 1) := by decide +kernel
theorem dX13_setSharpness_34 : decode cX13_setSharpness 34 = .ok (.l2i, 1) := by decide +kernel
theorem dX13_setSharpness_35 : decode cX13_setSharpness 35 = .ok (.istore_n 2, 1) := by decide +kernel
theorem dX13_setSharpness_36 : decode cX13_setSharpness 36 = .ok (.aload_n 0, 1) := by decide +kernel
theorem dX13_setSharpness_37 : decode cX13_setSharpness 37 = .ok (.getfield 7, 3) := by decide +kernel
theorem dX13_setSharpness_40 : decode cX13_setSharpness 40 = .ok (.bipush 88, 2) := by decide +kernel
theorem dX13_setSharpness_42 : decode cX13_setSharpness 42 = .ok (.iload_n 1, 1) := by decide +kernel
theorem dX13_setSharpness_43 : decode cX13_setSharpness 43 = .ok (.i2l, 1) := by decide +kernel
theorem dX13_setSharpness_44 : decode cX13_setSharpness 44 = .ok (.lastore, 1) := by decide +kernel
theorem dX13_setSharpness_45 : decode cX13_setSharpness 45 = .ok (.iload_n 2, 1) := by decide +kernel
theorem dX13_setSharpness_46 : decode cX13_setSharpness 46 = .ok (.ireturn, 1) := by decide +kernel
theorem dX13_boxes_0 : decode cX13_boxes 0 = .ok (.lconst 0, 1) := by decide +kernel
theorem dX13_boxes_1 : decode cX13_boxes 1 = .ok (.lstore_n 1, 1) := by decide +kernel
theorem dX13_boxes_2 : decode cX13_boxes 2 = .ok (.iconst 0, 1) := by decide +kernel
theorem dX13_boxes_3 : decode cX13_boxes 3 = .ok (.istore_n 3, 1) := by decide +kernel
theorem dX13_boxes_4 : decode cX13_boxes 4 = .ok (.iload_n 3, 1) := by decide +kernel
theorem dX13_boxes_5 : decode cX13_boxes 5 = .ok (.i2l, 1) := by decide +kernel
theorem dX13_boxes_6 : decode cX13_boxes 6 = .ok (.aload_n 0, 1) := by decide +kernel
theorem dX13_boxes_7 : decode cX13_boxes 7 = .ok (.getfield 7, 3) := by decide +kernel
theorem dX13_boxes_10 : decode cX13_boxes 10 = .ok (.sipush 1614, 3) := by decide +kernel
theorem dX13_boxes_13 : decode cX13_boxes 13 = .ok (.laload, 1) := by decide +kernel
theorem dX13_boxes_14 : decode cX13_boxes 14 = .ok (.lcmp, 1) := by decide +kernel
theorem dX13_boxes_15 : decode cX13_boxes 15 = .ok (.ifCond .ge 22, 3) := by decide +kernel
theorem dX13_boxes_18 : decode cX13_boxes 18 = .ok (.lload_n 1, 1) := by decide +kernel
theorem dX13_boxes_19 : decode cX13_boxes 19 = .ok (.aload_n 0, 1) := by decide +kernel
theorem dX13_boxes_20 : decode cX13_boxes 20 = .ok (.getfield 7, 3) := by decide +kernel
theorem dX13_boxes_23 : decode cX13_boxes 23 = .ok (.sipush 1050, 3) := by decide +kernel
theorem dX13_boxes_26 : decode cX13_boxes 26 = .ok (.iload_n 3, 1) := by decide +kernel
theorem dX13_boxes_27 : decode cX13_boxes 27 = .ok (.iadd, 1) := by decide +kernel
theorem dX13_boxes_28 : decode cX13_boxes 28 = .ok (.laload, 1) := by decide +kernel
theorem dX13_boxes_29 : decode cX13_boxes 29 = .ok (.ladd, 1) := by decide +kernel
theorem dX13_boxes_30 : decode cX13_boxes 30 = .ok (.lstore_n 1, 1) := by decide +kernel
theorem dX13_boxes_31 : decode cX13_boxes 31 = .ok (.iinc 3 1, 3) := by decide +kernel
theorem dX13_boxes_34 : decode cX13_boxes 34 = .ok (.goto (-30), 3) := by decide +kernel
theorem dX13_boxes_37 : decode cX13_boxes 37 = .ok (.lload_n 1, 1) := by decide +kernel
theorem dX13_boxes_38 : decode cX13_boxes 38 = .ok (.lreturn, 1) := by decide +kernel
theorem dX13_boxesOut_0 : decode cX13_boxesOut 0 = .ok (.lconst 0, 1) := by decide +kernel
theorem dX13_boxesOut_1 : decode cX13_boxesOut 1 = .ok (.lstore_n 1, 1) := by decide +kernel
theorem dX13_boxesOut_2 : decode cX13_boxesOut 2 = .ok (.iconst 0, 1) := by decide +kernel
theorem dX13_boxesOut_3 : decode cX13_boxesOut 3 = .ok (.istore_n 3, 1) := by decide +kernel
theorem dX13_boxesOut_4 : decode cX13_boxesOut 4 = .ok (.iload_n 3, 1) := by decide +kernel
theorem dX13_boxesOut_5 : decode cX13_boxesOut 5 = .ok (.i2l, 1) := by decide +kernel
theorem dX13_boxesOut_6 : decode cX13_boxesOut 6 = .ok (.aload_n 0, 1) := by decide +kernel
theorem dX13_boxesOut_7 : decode cX13_boxesOut 7 = .ok (.getfield 7, 3) := by decide +kernel
theorem dX13_boxesOut_10 : decode cX13_boxesOut 10 = .ok (.sipush 1615, 3) := by decide +kernel
theorem dX13_boxesOut_13 : decode cX13_boxesOut 13 = .ok (.laload, 1) := by decide +kernel
theorem dX13_boxesOut_14 : decode cX13_boxesOut 14 = .ok (.lcmp, 1) := by decide +kernel
theorem dX13_boxesOut_15 : decode cX13_boxesOut 15 = .ok (.ifCond .ge 22, 3) := by decide +kernel
theorem dX13_boxesOut_18 : decode cX13_boxesOut 18 = .ok (.lload_n 1, 1) := by decide +kernel
theorem dX13_boxesOut_19 : decode cX13_boxesOut 19 = .ok (.aload_n 0, 1) := by decide +kernel
theorem dX13_boxesOut_20 : decode cX13_boxesOut 20 = .ok (.getfield 7, 3) := by decide +kernel
theorem dX13_boxesOut_23 : decode cX13_boxesOut 23 = .ok (.sipush 1450, 3) := by decide +kernel
theorem dX13_boxesOut_26 : decode cX13_boxesOut 26 = .ok (.iload_n 3, 1) := by decide +kernel
theorem dX13_boxesOut_27 : decode cX13_boxesOut 27 = .ok (.iadd, 1) := by decide +kernel
theorem dX13_boxesOut_28 : decode cX13_boxesOut 28 = .ok (.laload, 1) := by decide +kernel
theorem dX13_boxesOut_29 : decode cX13_boxesOut 29 = .ok (.ladd, 1) := by decide +kernel
theorem dX13_boxesOut_30 : decode cX13_boxesOut 30 = .ok (.lstore_n 1, 1) := by decide +kernel
theorem dX13_boxesOut_31 : decode cX13_boxesOut 31 = .ok (.iinc 3 1, 3) := by decide +kernel
theorem dX13_boxesOut_34 : decode cX13_boxesOut 34 = .ok (.goto (-30), 3) := by decide +kernel
theorem dX13_boxesOut_37 : decode cX13_boxesOut 37 = .ok (.lload_n 1, 1) := by decide +kernel
theorem dX13_boxesOut_38 : decode cX13_boxesOut 38 = .ok (.lreturn, 1) := by decide +kernel
theorem dX13_setBoxSize_0 : decode cX13_setBoxSize 0 = .ok (.aload_n 0, 1) := by decide +kernel
theorem dX13_setBoxSize_1 : decode cX13_setBoxSize 1 = .ok (.iconst 0, 1) := by decide +kernel
theorem dX13_setBoxSize_2 : decode cX13_setBoxSize 2 = .ok (.putfield 31, 3) := by decide +kernel
theorem dX13_setBoxSize_5 : decode cX13_setBoxSize 5 = .ok (.iload_n 1, 1) := by decide +kernel
theorem dX13_setBoxSize_6 : decode cX13_setBoxSize 6 = .ok (.i2l, 1) := by decide +kernel
theorem dX13_setBoxSize_7 : decode cX13_setBoxSize 7 = .ok (.lconst 1, 1) := by decide +kernel
theorem dX13_setBoxSize_8 : decode cX13_setBoxSize 8 = .ok (.ldc2_w 75, 3) := by decide +kernel
theorem dX13_setBoxSize_11 : decode cX13_setBoxSize 11 = .ok (.invokestatic 37, 3) := by decide +kernel
theorem dX13_setBoxSize_14 : decode cX13_setBoxSize 14 = .ok (.ifCond .ne 9, 3) := by decide +kernel
theorem dX13_setBoxSize_17 : decode cX13_setBoxSize 17 = .ok (.aload_n 0, 1) := by decide +kernel
theorem dX13_setBoxSize_18 : decode cX13_setBoxSize 18 = .ok (.iconst 1, 1) := by decide +kernel
theorem dX13_setBoxSize_19 : decode cX13_setBoxSize 19 = .ok (.invokevirtual 54, 3) := by decide +kernel
theorem dX13_setBoxSize_22 : decode cX13_setBoxSize 22 = .ok (.ireturn, 1) := by decide +kernel
theorem dX13_setBoxSize_23 : decode cX13_setBoxSize 23 = .ok (.aload_n 0, 1) := by decide +kernel
theorem dX13_setBoxSize_24 : decode cX13_setBoxSize 24 = .ok (.invokevirtual 77, 3) := by decide +kernel
theorem dX13_setBoxSize_27 : decode cX13_setBoxSize 27 = .ok (.lconst 0, 1) := by decide +kernel
theorem dX13_setBoxSize_28 : decode cX13_setBoxSize 28 = .ok (.lcmp, 1) := by decide +kernel
theorem dX13_setBoxSize_29 : decode cX13_setBoxSize 29 = .ok (.ifCond .gt 12, 3) := by decide +kernel
theorem dX13_setBoxSize_32 : decode cX13_setBoxSize 32 = .ok (.aload_n 0, 1) := by decide +kernel
theorem dX13_setBoxSize_33 : decode cX13_setBoxSize 33 = .ok (.invokevirtual 81, 3) := by decide +kernel
theorem dX13_setBoxSize_36 : decode cX13_setBoxSize 36 = .ok (.lconst 0, 1) := by decide +kernel
theorem dX13_setBoxSize_37 : decode cX13_setBoxSize 37 = .ok (.lcmp, 1) := by decide +kernel
theorem dX13_setBoxSize_38 : decode cX13_setBoxSize 38 = .ok (.ifCond .le 9, 3) := by decide +kernel
theorem dX13_setBoxSize_41 : decode cX13_setBoxSize 41 = .ok (.aload_n 0, 1) := by decide +kernel
theorem dX13_setBoxSize_42 : decode cX13_setBoxSize 42 = .ok (.iconst 2, 1) := by decide +kernel
theorem dX13_setBoxSize_43 : decode cX13_setBoxSize 43 = .ok (.invokevirtual 54, 3) := by decide +kernel
theorem dX13_setBoxSize_46 : decode cX13_setBoxSize 46 = .ok (.ireturn, 1) := by decide +kernel
theorem dX13_setBoxSize_47 : decode cX13_setBoxSize 47 = .ok (.aload_n 0, 1) := by decide +kernel
theorem dX13_setBoxSize_48 : decode cX13_setBoxSize 48 = .ok (.invokevirtual 60, 3) := by decide +kernel
theorem dX13_setBoxSize_51 : decode cX13_setBoxSize 51 = .ok (.aload_n 0, 1) := by decide +kernel
theorem dX13_setBoxSize_52 : decode cX13_setBoxSize 52 = .ok (.getfield 7, 3) := by decide +kernel
theorem dX13_setBoxSize_55 : decode cX13_setBoxSize 55 = .ok (.bipush 89, 2) := by decide +kernel
theorem dX13_setBoxSize_57 : decode cX13_setBoxSize 57 = .ok (.laload, 1) := by decide +kernel
theorem dX13_setBoxSize_58 : decode cX13_setBoxSize 58 = .ok (.l2i, 1) := by decide +kernel
theorem dX13_setBoxSize_59 : decode cX13_setBoxSize 59 = .ok (.istore_n 2, 1) := by decide +kernel
theorem dX13_setBoxSize_60 : decode cX13_setBoxSize 60 = .ok (.aload_n 0, 1) := by decide +kernel
theorem dX13_setBoxSize_61 : decode cX13_setBoxSize 61 = .ok (.getfield 7, 3) := by decide +kernel
theorem dX13_setBoxSize_64 : decode cX13_setBoxSize 64 = .ok (.bipush 89, 2) := by decide +kernel
theorem dX13_setBoxSize_66 : decode cX13_setBoxSize 66 = .ok (.iload_n 1, 1) := by decide +kernel
theorem dX13_setBoxSize_67 : decode cX13_setBoxSize 67 = .ok (.i2l, 1) := by decide +kernel
theorem dX13_setBoxSize_68 : decode cX13_setBoxSize 68 = .ok (.lastore, 1) := by decide +kernel
theorem dX13_setBoxSize_69 : decode cX13_setBoxSize 69 = .ok (.iload_n 2, 1) := by decide +kernel
theorem dX13_setBoxSize_70 : decode cX13_setBoxSize 70 = .ok (.ireturn, 1) := by decide +kernel
theorem dX13_hundredth_0 : decode cX13_hundredth 0 = .ok (.lload_n 0, 1) := by decide +kernel
theorem dX13_hundredth_1 : decode cX13_hundredth 1 = .ok (.ldc2_w 27, 3) := by decide +kernel
theorem dX13_hundredth_4 : decode cX13_hundredth 4 = .ok (.ldiv, 1) := by decide +kernel
theorem dX13_hundredth_5 : decode cX13_hundredth 5 = .ok (.lstore_n 2, 1) := by decide +kernel
theorem dX13_hundredth_6 : decode cX13_hundredth 6 = .ok (.lload_n 2, 1) := by decide +kernel
theorem dX13_hundredth_7 : decode cX13_hundredth 7 = .ok (.ldc2_w 27, 3) := by decide +kernel
theorem dX13_hundredth_10 : decode cX13_hundredth 10 = .ok (.lmul, 1) := by decide +kernel
theorem dX13_hundredth_11 : decode cX13_hundredth 11 = .ok (.lload_n 0, 1) := by decide +kernel
theorem dX13_hundredth_12 : decode cX13_hundredth 12 = .ok (.lcmp, 1) := by decide +kernel
theorem dX13_hundredth_13 : decode cX13_hundredth 13 = .ok (.ifCond .le 9, 3) := by decide +kernel
theorem dX13_hundredth_16 : decode cX13_hundredth 16 = .ok (.lload_n 2, 1) := by decide +kernel
theorem dX13_hundredth_17 : decode cX13_hundredth 17 = .ok (.lconst 1, 1) := by decide +kernel
theorem dX13_hundredth_18 : decode cX13_hundredth 18 = .ok (.lsub, 1) := by decide +kernel
theorem dX13_hundredth_19 : decode cX13_hundredth 19 = .ok (.goto 4, 3) := by decide +kernel
theorem dX13_hundredth_22 : decode cX13_hundredth 22 = .ok (.lload_n 2, 1) := by decide +kernel
theorem dX13_hundredth_23 : decode cX13_hundredth 23 = .ok (.lreturn, 1) := by decide +kernel
theorem dX13_shade_0 : decode cX13_shade 0 = .ok (.iload 4, 2) := by decide +kernel
theorem dX13_shade_2 : decode cX13_shade 2 = .ok (.i2l, 1) := by decide +kernel
theorem dX13_shade_3 : decode cX13_shade 3 = .ok (.aload_n 0, 1) := by decide +kernel
theorem dX13_shade_4 : decode cX13_shade 4 = .ok (.getfield 7, 3) := by decide +kernel
theorem dX13_shade_7 : decode cX13_shade 7 = .ok (.bipush 16, 2) := by decide +kernel
theorem dX13_shade_9 : decode cX13_shade 9 = .ok (.bipush 8, 2) := by decide +kernel
theorem dX13_shade_11 : decode cX13_shade 11 = .ok (.iload_n 1, 1) := by decide +kernel
theorem dX13_shade_12 : decode cX13_shade 12 = .ok (.imul, 1) := by decide +kernel
theorem dX13_shade_13 : decode cX13_shade 13 = .ok (.iadd, 1) := by decide +kernel
theorem dX13_shade_14 : decode cX13_shade 14 = .ok (.iload_n 2, 1) := by decide +kernel
theorem dX13_shade_15 : decode cX13_shade 15 = .ok (.iadd, 1) := by decide +kernel
theorem dX13_shade_16 : decode cX13_shade 16 = .ok (.laload, 1) := by decide +kernel
theorem dX13_shade_17 : decode cX13_shade 17 = .ok (.ladd, 1) := by decide +kernel
theorem dX13_shade_18 : decode cX13_shade 18 = .ok (.iload_n 1, 1) := by decide +kernel
theorem dX13_shade_19 : decode cX13_shade 19 = .ok (.iconst 2, 1) := by decide +kernel
theorem dX13_shade_20 : decode cX13_shade 20 = .ok (.if_icmp .ne 11, 3) := by decide +kernel
theorem dX13_shade_23 : decode cX13_shade 23 = .ok (.iconst 5, 1) := by decide +kernel
theorem dX13_shade_24 : decode cX13_shade 24 = .ok (.iload_n 2, 1) := by decide +kernel
theorem dX13_shade_25 : decode cX13_shade 25 = .ok (.iconst 3, 1) := by decide +kernel
theorem dX13_shade_26 : decode cX13_shade 26 = .ok (.isub, 1) := by decide +kernel
theorem dX13_shade_27 : decode cX13_shade 27 = .ok (.imul, 1) := by decide +kernel
theorem dX13_shade_28 : decode cX13_shade 28 = .ok (.goto 4, 3) := by decide +kernel
theorem dX13_shade_31 : decode cX13_shade 31 = .ok (.iconst 0, 1) := by decide +kernel
theorem dX13_shade_32 : decode cX13_shade 32 = .ok (.i2l, 1) := by decide +kernel
theorem dX13_shade_33 : decode cX13_shade 33 = .ok (.ladd, 1) := by decide +kernel
theorem dX13_shade_34 : decode cX13_shade 34 = .ok (.lstore 5, 2) := by decide +kernel
theorem dX13_shade_36 : decode cX13_shade 36 = .ok (.aload_n 0, 1) := by decide +kernel
theorem dX13_shade_37 : decode cX13_shade 37 = .ok (.getfield 7, 3) := by decide +kernel
theorem dX13_shade_40 : decode cX13_shade 40 = .ok (.iconst 0, 1) := by decide +kernel
theorem dX13_shade_41 : decode cX13_shade 41 = .ok (.iload_n 3, 1) := by decide +kernel
theorem dX13_shade_42 : decode cX13_shade 42 = .ok (.iadd, 1) := by decide +kernel
theorem dX13_shade_43 : decode cX13_shade 43 = .ok (.laload, 1) := by decide +kernel
theorem dX13_shade_44 : decode cX13_shade 44 = .ok (.aload_n 0, 1) := by decide +kernel
theorem dX13_shade_45 : decode cX13_shade 45 = .ok (.getfield 7, 3) := by decide +kernel
theorem dX13_shade_48 : decode cX13_shade 48 = .ok (.iconst 4, 1) := by decide +kernel
theorem dX13_shade_49 : decode cX13_shade 49 = .ok (.iload_n 3, 1) := by decide +kernel
theorem dX13_shade_50 : decode cX13_shade 50 = .ok (.iadd, 1) := by decide +kernel
theorem dX13_shade_51 : decode cX13_shade 51 = .ok (.laload, 1) := by decide +kernel
theorem dX13_shade_52 : decode cX13_shade 52 = .ok (.lload 5, 2) := by decide +kernel
theorem dX13_shade_54 : decode cX13_shade 54 = .ok (.ldc2_w 84, 3) := by decide +kernel
theorem dX13_shade_57 : decode cX13_shade 57 = .ok (.lsub, 1) := by decide +kernel
theorem dX13_shade_58 : decode cX13_shade 58 = .ok (.lmul, 1) := by decide +kernel
theorem dX13_shade_59 : decode cX13_shade 59 = .ok (.invokestatic 86, 3) := by decide +kernel
theorem dX13_shade_62 : decode cX13_shade 62 = .ok (.ladd, 1) := by decide +kernel
theorem dX13_shade_63 : decode cX13_shade 63 = .ok (.lstore 7, 2) := by decide +kernel
theorem dX13_shade_65 : decode cX13_shade 65 = .ok (.lload 7, 2) := by decide +kernel
theorem dX13_shade_67 : decode cX13_shade 67 = .ok (.lconst 0, 1) := by decide +kernel
theorem dX13_shade_68 : decode cX13_shade 68 = .ok (.lcmp, 1) := by decide +kernel
theorem dX13_shade_69 : decode cX13_shade 69 = .ok (.ifCond .ge 7, 3) := by decide +kernel
theorem dX13_shade_72 : decode cX13_shade 72 = .ok (.iconst 0, 1) := by decide +kernel
theorem dX13_shade_73 : decode cX13_shade 73 = .ok (.goto 20, 3) := by decide +kernel
theorem dX13_shade_76 : decode cX13_shade 76 = .ok (.lload 7, 2) := by decide +kernel
theorem dX13_shade_78 : decode cX13_shade 78 = .ok (.ldc2_w 58, 3) := by decide +kernel
theorem dX13_shade_81 : decode cX13_shade 81 = .ok (.lcmp, 1) := by decide +kernel
theorem dX13_shade_82 : decode cX13_shade 82 = .ok (.ifCond .le 8, 3) := by decide +kernel
theorem dX13_shade_85 : decode cX13_shade 85 = .ok (.bipush 19, 2) := by decide +kernel
theorem dX13_shade_87 : decode cX13_shade 87 = .ok (.goto 6, 3) := by decide +kernel
theorem dX13_shade_90 : decode cX13_shade 90 = .ok (.lload 7, 2) := by decide +kernel
theorem dX13_shade_92 : decode cX13_shade 92 = .ok (.l2i, 1) := by decide +kernel
theorem dX13_shade_93 : decode cX13_shade 93 = .ok (.ireturn, 1) := by decide +kernel
theorem dX13_lay_0 : decode cX13_lay 0 = .ok (.iconst 0, 1) := by decide +kernel
theorem dX13_lay_1 : decode cX13_lay 1 = .ok (.istore 7, 2) := by decide +kernel
theorem dX13_lay_3 : decode cX13_lay 3 = .ok (.iload 7, 2) := by decide +kernel
theorem dX13_lay_5 : decode cX13_lay 5 = .ok (.i2l, 1) := by decide +kernel
theorem dX13_lay_6 : decode cX13_lay 6 = .ok (.aload_n 0, 1) := by decide +kernel
theorem dX13_lay_7 : decode cX13_lay 7 = .ok (.getfield 7, 3) := by decide +kernel
theorem dX13_lay_10 : decode cX13_lay 10 = .ok (.sipush 1613, 3) := by decide +kernel
theorem dX13_lay_13 : decode cX13_lay 13 = .ok (.laload, 1) := by decide +kernel
theorem dX13_lay_14 : decode cX13_lay 14 = .ok (.lcmp, 1) := by decide +kernel
theorem dX13_lay_15 : decode cX13_lay 15 = .ok (.ifCond .ge 42, 3) := by decide +kernel
theorem dX13_lay_18 : decode cX13_lay 18 = .ok (.aload_n 0, 1) := by decide +kernel
theorem dX13_lay_19 : decode cX13_lay 19 = .ok (.getfield 7, 3) := by decide +kernel
theorem dX13_lay_22 : decode cX13_lay 22 = .ok (.bipush 90, 2) := by decide +kernel
theorem dX13_lay_24 : decode cX13_lay 24 = .ok (.iload 7, 2) := by decide +kernel
theorem dX13_lay_26 : decode cX13_lay 26 = .ok (.iadd, 1) := by decide +kernel
theorem dX13_lay_27 : decode cX13_lay 27 = .ok (.laload, 1) := by decide +kernel
theorem dX13_lay_28 : decode cX13_lay 28 = .ok (.iload_n 1, 1) := by decide +kernel
theorem dX13_lay_29 : decode cX13_lay 29 = .ok (.i2l, 1) := by decide +kernel
theorem dX13_lay_30 : decode cX13_lay 30 = .ok (.lcmp, 1) := by decide +kernel
theorem dX13_lay_31 : decode cX13_lay 31 = .ok (.ifCond .ne 20, 3) := by decide +kernel
theorem dX13_lay_34 : decode cX13_lay 34 = .ok (.aload_n 0, 1) := by decide +kernel
theorem dX13_lay_35 : decode cX13_lay 35 = .ok (.getfield 7, 3) := by decide +kernel
theorem dX13_lay_38 : decode cX13_lay 38 = .ok (.sipush 170, 3) := by decide +kernel
theorem dX13_lay_41 : decode cX13_lay 41 = .ok (.iload 7, 2) := by decide +kernel
theorem dX13_lay_43 : decode cX13_lay 43 = .ok (.iadd, 1) := by decide +kernel
theorem dX13_lay_44 : decode cX13_lay 44 = .ok (.laload, 1) := by decide +kernel
theorem dX13_lay_45 : decode cX13_lay 45 = .ok (.iload_n 2, 1) := by decide +kernel
theorem dX13_lay_46 : decode cX13_lay 46 = .ok (.i2l, 1) := by decide +kernel
theorem dX13_lay_47 : decode cX13_lay 47 = .ok (.lcmp, 1) := by decide +kernel
theorem dX13_lay_48 : decode cX13_lay 48 = .ok (.ifCond .eq 9, 3) := by decide +kernel
theorem dX13_lay_51 : decode cX13_lay 51 = .ok (.iinc 7 1, 3) := by decide +kernel
theorem dX13_lay_54 : decode cX13_lay 54 = .ok (.goto (-51), 3) := by decide +kernel
theorem dX13_lay_57 : decode cX13_lay 57 = .ok (.iload 7, 2) := by decide +kernel
theorem dX13_lay_59 : decode cX13_lay 59 = .ok (.i2l, 1) := by decide +kernel
theorem dX13_lay_60 : decode cX13_lay 60 = .ok (.aload_n 0, 1) := by decide +kernel
theorem dX13_lay_61 : decode cX13_lay 61 = .ok (.getfield 7, 3) := by decide +kernel
theorem dX13_lay_64 : decode cX13_lay 64 = .ok (.sipush 1613, 3) := by decide +kernel
theorem dX13_lay_67 : decode cX13_lay 67 = .ok (.laload, 1) := by decide +kernel
theorem dX13_lay_68 : decode cX13_lay 68 = .ok (.lcmp, 1) := by decide +kernel
theorem dX13_lay_69 : decode cX13_lay 69 = .ok (.ifCond .ne 64, 3) := by decide +kernel
theorem dX13_lay_72 : decode cX13_lay 72 = .ok (.aload_n 0, 1) := by decide +kernel
theorem dX13_lay_73 : decode cX13_lay 73 = .ok (.getfield 7, 3) := by decide +kernel
theorem dX13_lay_76 : decode cX13_lay 76 = .ok (.sipush 1613, 3) := by decide +kernel
theorem dX13_lay_79 : decode cX13_lay 79 = .ok (.dup2, 1) := by decide +kernel
theorem dX13_lay_80 : decode cX13_lay 80 = .ok (.laload, 1) := by decide +kernel
theorem dX13_lay_81 : decode cX13_lay 81 = .ok (.lconst 1, 1) := by decide +kernel
theorem dX13_lay_82 : decode cX13_lay 82 = .ok (.ladd, 1) := by decide +kernel
theorem dX13_lay_83 : decode cX13_lay 83 = .ok (.lastore, 1) := by decide +kernel
theorem dX13_lay_84 : decode cX13_lay 84 = .ok (.aload_n 0, 1) := by decide +kernel
theorem dX13_lay_85 : decode cX13_lay 85 = .ok (.getfield 7, 3) := by decide +kernel
theorem dX13_lay_88 : decode cX13_lay 88 = .ok (.bipush 90, 2) := by decide +kernel
theorem dX13_lay_90 : decode cX13_lay 90 = .ok (.iload 7, 2) := by decide +kernel
theorem dX13_lay_92 : decode cX13_lay 92 = .ok (.iadd, 1) := by decide +kernel
theorem dX13_lay_93 : decode cX13_lay 93 = .ok (.iload_n 1, 1) := by decide +kernel
theorem dX13_lay_94 : decode cX13_lay 94 = .ok (.i2l, 1) := by decide +kernel
theorem dX13_lay_95 : decode cX13_lay 95 = .ok (.lastore, 1) := by decide +kernel
theorem dX13_lay_96 : decode cX13_lay 96 = .ok (.aload_n 0, 1) := by decide +kernel
theorem dX13_lay_97 : decode cX13_lay 97 = .ok (.getfield 7, 3) := by decide +kernel
theorem dX13_lay_100 : decode cX13_lay 100 = .ok (.sipush 170, 3) := by decide +kernel
theorem dX13_lay_103 : decode cX13_lay 103 = .ok (.iload 7, 2) := by decide +kernel
theorem dX13_lay_105 : decode cX13_lay 105 = .ok (.iadd, 1) := by decide +kernel
theorem dX13_lay_106 : decode cX13_lay 106 = .ok (.iload_n 2, 1) := by decide +kernel
theorem dX13_lay_107 : decode cX13_lay 107 = .ok (.i2l, 1) := by decide +kernel
theorem dX13_lay_108 : decode cX13_lay 108 = .ok (.lastore, 1) := by decide +kernel
theorem dX13_lay_109 : decode cX13_lay 109 = .ok (.aload_n 0, 1) := by decide +kernel
theorem dX13_lay_110 : decode cX13_lay 110 = .ok (.getfield 7, 3) := by decide +kernel
theorem dX13_lay_113 : decode cX13_lay 113 = .ok (.sipush 250, 3) := by decide +kernel
theorem dX13_lay_116 : decode cX13_lay 116 = .ok (.iload 7, 2) := by decide +kernel
theorem dX13_lay_118 : decode cX13_lay 118 = .ok (.iadd, 1) := by decide +kernel
theorem dX13_lay_119 : decode cX13_lay 119 = .ok (.lconst 0, 1) := by decide +kernel
theorem dX13_lay_120 : decode cX13_lay 120 = .ok (.lastore, 1) := by decide +kernel
theorem dX13_lay_121 : decode cX13_lay 121 = .ok (.aload_n 0, 1) := by decide +kernel
theorem dX13_lay_122 : decode cX13_lay 122 = .ok (.getfield 7, 3) := by decide +kernel
theorem dX13_lay_125 : decode cX13_lay 125 = .ok (.sipush 330, 3) := by decide +kernel
theorem dX13_lay_128 : decode cX13_lay 128 = .ok (.iload 7, 2) := by decide +kernel
theorem dX13_lay_130 : decode cX13_lay 130 = .ok (.iadd, 1) := by decide +kernel
theorem dX13_lay_131 : decode cX13_lay 131 = .ok (.lconst 0, 1) := by decide +kernel
theorem dX13_lay_132 : decode cX13_lay 132 = .ok (.lastore, 1) := by decide +kernel
theorem dX13_lay_133 : decode cX13_lay 133 = .ok (.aload_n 0, 1) := by decide +kernel
theorem dX13_lay_134 : decode cX13_lay 134 = .ok (.getfield 7, 3) := by decide +kernel
theorem dX13_lay_137 : decode cX13_lay 137 = .ok (.sipush 250, 3) := by decide +kernel
theorem dX13_lay_140 : decode cX13_lay 140 = .ok (.iload 7, 2) := by decide +kernel
theorem dX13_lay_142 : decode cX13_lay 142 = .ok (.iadd, 1) := by decide +kernel
theorem dX13_lay_143 : decode cX13_lay 143 = .ok (.dup2, 1) := by decide +kernel
theorem dX13_lay_144 : decode cX13_lay 144 = .ok (.laload, 1) := by decide +kernel
theorem dX13_lay_145 : decode cX13_lay 145 = .ok (.lload_n 3, 1) := by decide +kernel
theorem dX13_lay_146 : decode cX13_lay 146 = .ok (.ladd, 1) := by decide +kernel
theorem dX13_lay_147 : decode cX13_lay 147 = .ok (.lastore, 1) := by decide +kernel
theorem dX13_lay_148 : decode cX13_lay 148 = .ok (.aload_n 0, 1) := by decide +kernel
theorem dX13_lay_149 : decode cX13_lay 149 = .ok (.getfield 7, 3) := by decide +kernel
theorem dX13_lay_152 : decode cX13_lay 152 = .ok (.sipush 330, 3) := by decide +kernel
theorem dX13_lay_155 : decode cX13_lay 155 = .ok (.iload 7, 2) := by decide +kernel
theorem dX13_lay_157 : decode cX13_lay 157 = .ok (.iadd, 1) := by decide +kernel
theorem dX13_lay_158 : decode cX13_lay 158 = .ok (.dup2, 1) := by decide +kernel
theorem dX13_lay_159 : decode cX13_lay 159 = .ok (.laload, 1) := by decide +kernel
theorem dX13_lay_160 : decode cX13_lay 160 = .ok (.lload 5, 2) := by decide +kernel
theorem dX13_lay_162 : decode cX13_lay 162 = .ok (.ladd, 1) := by decide +kernel
theorem dX13_lay_163 : decode cX13_lay 163 = .ok (.lastore, 1) := by decide +kernel
theorem dX13_lay_164 : decode cX13_lay 164 = .ok (.return_, 1) := by decide +kernel
theorem dX13_fireThrows_0 : decode cX13_fireThrows 0 = .ok (.iload_n 1, 1) := by decide +kernel
theorem dX13_fireThrows_1 : decode cX13_fireThrows 1 = .ok (.invokestatic 65, 3) := by decide +kernel
theorem dX13_fireThrows_4 : decode cX13_fireThrows 4 = .ok (.ifCond .eq 10, 3) := by decide +kernel
theorem dX13_fireThrows_7 : decode cX13_fireThrows 7 = .ok (.iload_n 2, 1) := by decide +kernel
theorem dX13_fireThrows_8 : decode cX13_fireThrows 8 = .ok (.invokestatic 50, 3) := by decide +kernel
theorem dX13_fireThrows_11 : decode cX13_fireThrows 11 = .ok (.ifCond .ne 5, 3) := by decide +kernel
theorem dX13_fireThrows_14 : decode cX13_fireThrows 14 = .ok (.iconst 1, 1) := by decide +kernel
theorem dX13_fireThrows_15 : decode cX13_fireThrows 15 = .ok (.ireturn, 1) := by decide +kernel
theorem dX13_fireThrows_16 : decode cX13_fireThrows 16 = .ok (.iload_n 3, 1) := by decide +kernel
theorem dX13_fireThrows_17 : decode cX13_fireThrows 17 = .ok (.i2l, 1) := by decide +kernel
theorem dX13_fireThrows_18 : decode cX13_fireThrows 18 = .ok (.ldc2_w 90, 3) := by decide +kernel
theorem dX13_fireThrows_21 : decode cX13_fireThrows 21 = .ok (.ldc2_w 92, 3) := by decide +kernel
theorem dX13_fireThrows_24 : decode cX13_fireThrows 24 = .ok (.invokestatic 37, 3) := by decide +kernel
theorem dX13_fireThrows_27 : decode cX13_fireThrows 27 = .ok (.ifCond .eq 16, 3) := by decide +kernel
theorem dX13_fireThrows_30 : decode cX13_fireThrows 30 = .ok (.iload 4, 2) := by decide +kernel
theorem dX13_fireThrows_32 : decode cX13_fireThrows 32 = .ok (.i2l, 1) := by decide +kernel
theorem dX13_fireThrows_33 : decode cX13_fireThrows 33 = .ok (.lconst 1, 1) := by decide +kernel
theorem dX13_fireThrows_34 : decode cX13_fireThrows 34 = .ok (.ldc2_w 27, 3) := by decide +kernel
theorem dX13_fireThrows_37 : decode cX13_fireThrows 37 = .ok (.invokestatic 37, 3) := by decide +kernel
theorem dX13_fireThrows_40 : decode cX13_fireThrows 40 = .ok (.ifCond .ne 5, 3) := by decide +kernel
theorem dX13_fireThrows_43 : decode cX13_fireThrows 43 = .ok (.iconst 2, 1) := by decide +kernel
theorem dX13_fireThrows_44 : decode cX13_fireThrows 44 = .ok (.ireturn, 1) := by decide +kernel
theorem dX13_fireThrows_45 : decode cX13_fireThrows 45 = .ok (.aload_n 0, 1) := by decide +kernel
theorem dX13_fireThrows_46 : decode cX13_fireThrows 46 = .ok (.getfield 7, 3) := by decide +kernel
theorem dX13_fireThrows_49 : decode cX13_fireThrows 49 = .ok (.sipush 1610, 3) := by decide +kernel
theorem dX13_fireThrows_52 : decode cX13_fireThrows 52 = .ok (.laload, 1) := by decide +kernel
theorem dX13_fireThrows_53 : decode cX13_fireThrows 53 = .ok (.ldc2_w 94, 3) := by decide +kernel
theorem dX13_fireThrows_56 : decode cX13_fireThrows 56 = .ok (.lcmp, 1) := by decide +kernel
theorem dX13_fireThrows_57 : decode cX13_fireThrows 57 = .ok (.ifCond .ne 7, 3) := by decide +kernel
theorem dX13_fireThrows_60 : decode cX13_fireThrows 60 = .ok (.iconst 3, 1) := by decide +kernel
theorem dX13_fireThrows_61 : decode cX13_fireThrows 61 = .ok (.goto 4, 3) := by decide +kernel
theorem dX13_fireThrows_64 : decode cX13_fireThrows 64 = .ok (.iconst 0, 1) := by decide +kernel
theorem dX13_fireThrows_65 : decode cX13_fireThrows 65 = .ok (.ireturn, 1) := by decide +kernel
theorem dX13_doFire_0 : decode cX13_doFire 0 = .ok (.lconst 0, 1) := by decide +kernel
theorem dX13_doFire_1 : decode cX13_doFire 1 = .ok (.lstore 5, 2) := by decide +kernel
theorem dX13_doFire_3 : decode cX13_doFire 3 = .ok (.iconst 0, 1) := by decide +kernel
theorem dX13_doFire_4 : decode cX13_doFire 4 = .ok (.istore 7, 2) := by decide +kernel
theorem dX13_doFire_6 : decode cX13_doFire 6 = .ok (.iload 7, 2) := by decide +kernel
theorem dX13_doFire_8 : decode cX13_doFire 8 = .ok (.bipush 8, 2) := by decide +kernel
theorem dX13_doFire_10 : decode cX13_doFire 10 = .ok (.if_icmp .ge 107, 3) := by decide +kernel
theorem dX13_doFire_13 : decode cX13_doFire 13 = .ok (.bipush 8, 2) := by decide +kernel
theorem dX13_doFire_15 : decode cX13_doFire 15 = .ok (.iload_n 1, 1) := by decide +kernel
theorem dX13_doFire_16 : decode cX13_doFire 16 = .ok (.imul, 1) := by decide +kernel
theorem dX13_doFire_17 : decode cX13_doFire 17 = .ok (.iload 7, 2) := by decide +kernel
theorem dX13_doFire_19 : decode cX13_doFire 19 = .ok (.iadd, 1) := by decide +kernel
theorem dX13_doFire_20 : decode cX13_doFire 20 = .ok (.istore 8, 2) := by decide +kernel
theorem dX13_doFire_22 : decode cX13_doFire 22 = .ok (.iload 4, 2) := by decide +kernel
theorem dX13_doFire_24 : decode cX13_doFire 24 = .ok (.i2l, 1) := by decide +kernel
theorem dX13_doFire_25 : decode cX13_doFire 25 = .ok (.aload_n 0, 1) := by decide +kernel
theorem dX13_doFire_26 : decode cX13_doFire 26 = .ok (.getfield 7, 3) := by decide +kernel
theorem dX13_doFire_29 : decode cX13_doFire 29 = .ok (.bipush 40, 2) := by decide +kernel
theorem dX13_doFire_31 : decode cX13_doFire 31 = .ok (.iload 8, 2) := by decide +kernel
theorem dX13_doFire_33 : decode cX13_doFire 33 = .ok (.iadd, 1) := by decide +kernel
theorem dX13_doFire_34 : decode cX13_doFire 34 = .ok (.laload, 1) := by decide +kernel
theorem dX13_doFire_35 : decode cX13_doFire 35 = .ok (.lmul, 1) := by decide +kernel
theorem dX13_doFire_36 : decode cX13_doFire 36 = .ok (.ldc2_w 27, 3) := by decide +kernel
theorem dX13_doFire_39 : decode cX13_doFire 39 = .ok (.ldiv, 1) := by decide +kernel
theorem dX13_doFire_40 : decode cX13_doFire 40 = .ok (.lstore 9, 2) := by decide +kernel
theorem dX13_doFire_42 : decode cX13_doFire 42 = .ok (.iload 4, 2) := by decide +kernel
theorem dX13_doFire_44 : decode cX13_doFire 44 = .ok (.i2l, 1) := by decide +kernel
theorem dX13_doFire_45 : decode cX13_doFire 45 = .ok (.lload 9, 2) := by decide +kernel
theorem dX13_doFire_47 : decode cX13_doFire 47 = .ok (.lsub, 1) := by decide +kernel
theorem dX13_doFire_48 : decode cX13_doFire 48 = .ok (.lstore 11, 2) := by decide +kernel
theorem dX13_doFire_50 : decode cX13_doFire 50 = .ok (.aload_n 0, 1) := by decide +kernel
theorem dX13_doFire_51 : decode cX13_doFire 51 = .ok (.getfield 7, 3) := by decide +kernel
theorem dX13_doFire_54 : decode cX13_doFire 54 = .ok (.bipush 64, 2) := by decide +kernel
theorem dX13_doFire_56 : decode cX13_doFire 56 = .ok (.iload 8, 2) := by decide +kernel
theorem dX13_doFire_58 : decode cX13_doFire 58 = .ok (.iadd, 1) := by decide +kernel
theorem dX13_doFire_59 : decode cX13_doFire 59 = .ok (.dup2, 1) := by decide +kernel
theorem dX13_doFire_60 : decode cX13_doFire 60 = .ok (.laload, 1) := by decide +kernel
theorem dX13_doFire_61 : decode cX13_doFire 61 = .ok (.lload 9, 2) := by decide +kernel
theorem dX13_doFire_63 : decode cX13_doFire 63 = .ok (.ladd, 1) := by decide +kernel
theorem dX13_doFire_64 : decode cX13_doFire 64 = .ok (.lastore, 1) := by decide +kernel
theorem dX13_doFire_65 : decode cX13_doFire 65 = .ok (.lload 5, 2) := by decide +kernel
theorem dX13_doFire_67 : decode cX13_doFire 67 = .ok (.lload 9, 2) := by decide +kernel
theorem dX13_doFire_69 : decode cX13_doFire 69 = .ok (.ladd, 1) := by decide +kernel
theorem dX13_doFire_70 : decode cX13_doFire 70 = .ok (.lstore 5, 2) := by decide +kernel
theorem dX13_doFire_72 : decode cX13_doFire 72 = .ok (.lload 11, 2) := by decide +kernel
theorem dX13_doFire_74 : decode cX13_doFire 74 = .ok (.lconst 0, 1) := by decide +kernel
theorem dX13_doFire_75 : decode cX13_doFire 75 = .ok (.lcmp, 1) := by decide +kernel
theorem dX13_doFire_76 : decode cX13_doFire 76 = .ok (.ifCond .le 35, 3) := by decide +kernel
theorem dX13_doFire_79 : decode cX13_doFire 79 = .ok (.aload_n 0, 1) := by decide +kernel
theorem dX13_doFire_80 : decode cX13_doFire 80 = .ok (.iload_n 2, 1) := by decide +kernel
theorem dX13_doFire_81 : decode cX13_doFire 81 = .ok (.aload_n 0, 1) := by decide +kernel
theorem dX13_doFire_82 : decode cX13_doFire 82 = .ok (.iload_n 1, 1) := by decide +kernel
theorem dX13_doFire_83 : decode cX13_doFire 83 = .ok (.iload 7, 2) := by decide +kernel
theorem dX13_doFire_85 : decode cX13_doFire 85 = .ok (.iload_n 2, 1) := by decide +kernel
theorem dX13_doFire_86 : decode cX13_doFire 86 = .ok (.iload_n 3, 1) := by decide +kernel
theorem dX13_doFire_87 : decode cX13_doFire 87 = .ok (.invokevirtual 96, 3) := by decide +kernel
theorem dX13_doFire_90 : decode cX13_doFire 90 = .ok (.lload 11, 2) := by decide +kernel
theorem dX13_doFire_92 : decode cX13_doFire 92 = .ok (.lload 11, 2) := by decide +kernel
theorem dX13_doFire_94 : decode cX13_doFire 94 = .ok (.aload_n 0, 1) := by decide +kernel
theorem dX13_doFire_95 : decode cX13_doFire 95 = .ok (.getfield 7, 3) := by decide +kernel
theorem dX13_doFire_98 : decode cX13_doFire 98 = .ok (.bipush 8, 2) := by decide +kernel
theorem dX13_doFire_100 : decode cX13_doFire 100 = .ok (.iload_n 2, 1) := by decide +kernel
theorem dX13_doFire_101 : decode cX13_doFire 101 = .ok (.iadd, 1) := by decide +kernel
theorem dX13_doFire_102 : decode cX13_doFire 102 = .ok (.laload, 1) := by decide +kernel
theorem dX13_doFire_103 : decode cX13_doFire 103 = .ok (.lmul, 1) := by decide +kernel
theorem dX13_doFire_104 : decode cX13_doFire 104 = .ok (.ldc2_w 27, 3) := by decide +kernel
theorem dX13_doFire_107 : decode cX13_doFire 107 = .ok (.ldiv, 1) := by decide +kernel
theorem dX13_doFire_108 : decode cX13_doFire 108 = .ok (.invokevirtual 100, 3) := by decide +kernel
theorem dX13_doFire_111 : decode cX13_doFire 111 = .ok (.iinc 7 1, 3) := by decide +kernel
theorem dX13_doFire_114 : decode cX13_doFire 114 = .ok (.goto (-108), 3) := by decide +kernel
theorem dX13_doFire_117 : decode cX13_doFire 117 = .ok (.aload_n 0, 1) := by decide +kernel
theorem dX13_doFire_118 : decode cX13_doFire 118 = .ok (.getfield 7, 3) := by decide +kernel
theorem dX13_doFire_121 : decode cX13_doFire 121 = .ok (.sipush 1610, 3) := by decide +kernel
theorem dX13_doFire_124 : decode cX13_doFire 124 = .ok (.dup2, 1) := by decide +kernel
theorem dX13_doFire_125 : decode cX13_doFire 125 = .ok (.laload, 1) := by decide +kernel
theorem dX13_doFire_126 : decode cX13_doFire 126 = .ok (.lconst 1, 1) := by decide +kernel
theorem dX13_doFire_127 : decode cX13_doFire 127 = .ok (.ladd, 1) := by decide +kernel
theorem dX13_doFire_128 : decode cX13_doFire 128 = .ok (.lastore, 1) := by decide +kernel
theorem dX13_doFire_129 : decode cX13_doFire 129 = .ok (.aload_n 0, 1) := by decide +kernel
theorem dX13_doFire_130 : decode cX13_doFire 130 = .ok (.getfield 7, 3) := by decide +kernel
theorem dX13_doFire_133 : decode cX13_doFire 133 = .ok (.sipush 1611, 3) := by decide +kernel
theorem dX13_doFire_136 : decode cX13_doFire 136 = .ok (.dup2, 1) := by decide +kernel
theorem dX13_doFire_137 : decode cX13_doFire 137 = .ok (.laload, 1) := by decide +kernel
theorem dX13_doFire_138 : decode cX13_doFire 138 = .ok (.ldc2_w 23, 3) := by decide +kernel
theorem dX13_doFire_141 : decode cX13_doFire 141 = .ok (.iload 4, 2) := by decide +kernel
theorem dX13_doFire_143 : decode cX13_doFire 143 = .ok (.i2l, 1) := by decide +kernel
theorem dX13_doFire_144 : decode cX13_doFire 144 = .ok (.lmul, 1) := by decide +kernel
theorem dX13_doFire_145 : decode cX13_doFire 145 = .ok (.ladd, 1) := by decide +kernel
theorem dX13_doFire_146 : decode cX13_doFire 146 = .ok (.lastore, 1) := by decide +kernel
theorem dX13_doFire_147 : decode cX13_doFire 147 = .ok (.aload_n 0, 1) := by decide +kernel
theorem dX13_doFire_148 : decode cX13_doFire 148 = .ok (.getfield 7, 3) := by decide +kernel
theorem dX13_doFire_151 : decode cX13_doFire 151 = .ok (.sipush 1612, 3) := by decide +kernel
theorem dX13_doFire_154 : decode cX13_doFire 154 = .ok (.dup2, 1) := by decide +kernel
theorem dX13_doFire_155 : decode cX13_doFire 155 = .ok (.laload, 1) := by decide +kernel
theorem dX13_doFire_156 : decode cX13_doFire 156 = .ok (.lload 5, 2) := by decide +kernel
theorem dX13_doFire_158 : decode cX13_doFire 158 = .ok (.ladd, 1) := by decide +kernel
theorem dX13_doFire_159 : decode cX13_doFire 159 = .ok (.lastore, 1) := by decide +kernel
theorem dX13_doFire_160 : decode cX13_doFire 160 = .ok (.aload_n 0, 1) := by decide +kernel
theorem dX13_doFire_161 : decode cX13_doFire 161 = .ok (.iconst 1, 1) := by decide +kernel
theorem dX13_doFire_162 : decode cX13_doFire 162 = .ok (.lload 5, 2) := by decide +kernel
theorem dX13_doFire_164 : decode cX13_doFire 164 = .ok (.invokevirtual 104, 3) := by decide +kernel
theorem dX13_doFire_167 : decode cX13_doFire 167 = .ok (.lload 5, 2) := by decide +kernel
theorem dX13_doFire_169 : decode cX13_doFire 169 = .ok (.l2i, 1) := by decide +kernel
theorem dX13_doFire_170 : decode cX13_doFire 170 = .ok (.ireturn, 1) := by decide +kernel
theorem dX13_fire_0 : decode cX13_fire 0 = .ok (.aload_n 0, 1) := by decide +kernel
theorem dX13_fire_1 : decode cX13_fire 1 = .ok (.iconst 0, 1) := by decide +kernel
theorem dX13_fire_2 : decode cX13_fire 2 = .ok (.putfield 31, 3) := by decide +kernel
theorem dX13_fire_5 : decode cX13_fire 5 = .ok (.aload_n 0, 1) := by decide +kernel
theorem dX13_fire_6 : decode cX13_fire 6 = .ok (.iload_n 1, 1) := by decide +kernel
theorem dX13_fire_7 : decode cX13_fire 7 = .ok (.iload_n 2, 1) := by decide +kernel
theorem dX13_fire_8 : decode cX13_fire 8 = .ok (.iload_n 3, 1) := by decide +kernel
theorem dX13_fire_9 : decode cX13_fire 9 = .ok (.iload 4, 2) := by decide +kernel
theorem dX13_fire_11 : decode cX13_fire 11 = .ok (.invokevirtual 108, 3) := by decide +kernel
theorem dX13_fire_14 : decode cX13_fire 14 = .ok (.istore 5, 2) := by decide +kernel
theorem dX13_fire_16 : decode cX13_fire 16 = .ok (.iload 5, 2) := by decide +kernel
theorem dX13_fire_18 : decode cX13_fire 18 = .ok (.ifCond .le 10, 3) := by decide +kernel
theorem dX13_fire_21 : decode cX13_fire 21 = .ok (.aload_n 0, 1) := by decide +kernel
theorem dX13_fire_22 : decode cX13_fire 22 = .ok (.iload 5, 2) := by decide +kernel
theorem dX13_fire_24 : decode cX13_fire 24 = .ok (.invokevirtual 54, 3) := by decide +kernel
theorem dX13_fire_27 : decode cX13_fire 27 = .ok (.ireturn, 1) := by decide +kernel
theorem dX13_fire_28 : decode cX13_fire 28 = .ok (.aload_n 0, 1) := by decide +kernel
theorem dX13_fire_29 : decode cX13_fire 29 = .ok (.invokevirtual 60, 3) := by decide +kernel
theorem dX13_fire_32 : decode cX13_fire 32 = .ok (.aload_n 0, 1) := by decide +kernel
theorem dX13_fire_33 : decode cX13_fire 33 = .ok (.iload_n 1, 1) := by decide +kernel
theorem dX13_fire_34 : decode cX13_fire 34 = .ok (.iload_n 2, 1) := by decide +kernel
theorem dX13_fire_35 : decode cX13_fire 35 = .ok (.iload_n 3, 1) := by decide +kernel
theorem dX13_fire_36 : decode cX13_fire 36 = .ok (.iload 4, 2) := by decide +kernel
theorem dX13_fire_38 : decode cX13_fire 38 = .ok (.invokevirtual 111, 3) := by decide +kernel
theorem dX13_fire_41 : decode cX13_fire 41 = .ok (.ireturn, 1) := by decide +kernel
theorem dX13_find_0 : decode cX13_find 0 = .ok (.iconst 0, 1) := by decide +kernel
theorem dX13_find_1 : decode cX13_find 1 = .ok (.istore 4, 2) := by decide +kernel
theorem dX13_find_3 : decode cX13_find 3 = .ok (.iload 4, 2) := by decide +kernel
theorem dX13_find_5 : decode cX13_find 5 = .ok (.i2l, 1) := by decide +kernel
theorem dX13_find_6 : decode cX13_find 6 = .ok (.aload_n 0, 1) := by decide +kernel
theorem dX13_find_7 : decode cX13_find 7 = .ok (.getfield 7, 3) := by decide +kernel
theorem dX13_find_10 : decode cX13_find 10 = .ok (.sipush 1614, 3) := by decide +kernel
theorem dX13_find_13 : decode cX13_find 13 = .ok (.laload, 1) := by decide +kernel
theorem dX13_find_14 : decode cX13_find 14 = .ok (.lcmp, 1) := by decide +kernel
theorem dX13_find_15 : decode cX13_find 15 = .ok (.ifCond .ge 63, 3) := by decide +kernel
theorem dX13_find_18 : decode cX13_find 18 = .ok (.aload_n 0, 1) := by decide +kernel
theorem dX13_find_19 : decode cX13_find 19 = .ok (.getfield 7, 3) := by decide +kernel
theorem dX13_find_22 : decode cX13_find 22 = .ok (.sipush 410, 3) := by decide +kernel
theorem dX13_find_25 : decode cX13_find 25 = .ok (.iload 4, 2) := by decide +kernel
theorem dX13_find_27 : decode cX13_find 27 = .ok (.iadd, 1) := by decide +kernel
theorem dX13_find_28 : decode cX13_find 28 = .ok (.laload, 1) := by decide +kernel
theorem dX13_find_29 : decode cX13_find 29 = .ok (.iload_n 1, 1) := by decide +kernel
theorem dX13_find_30 : decode cX13_find 30 = .ok (.i2l, 1) := by decide +kernel
theorem dX13_find_31 : decode cX13_find 31 = .ok (.lcmp, 1) := by decide +kernel
theorem dX13_find_32 : decode cX13_find 32 = .ok (.ifCond .ne 40, 3) := by decide +kernel
theorem dX13_find_35 : decode cX13_find 35 = .ok (.aload_n 0, 1) := by decide +kernel
theorem dX13_find_36 : decode cX13_find 36 = .ok (.getfield 7, 3) := by decide +kernel
theorem dX13_find_39 : decode cX13_find 39 = .ok (.sipush 570, 3) := by decide +kernel
theorem dX13_find_42 : decode cX13_find 42 = .ok (.iload 4, 2) := by decide +kernel
theorem dX13_find_44 : decode cX13_find 44 = .ok (.iadd, 1) := by decide +kernel
theorem dX13_find_45 : decode cX13_find 45 = .ok (.laload, 1) := by decide +kernel
theorem dX13_find_46 : decode cX13_find 46 = .ok (.iload_n 2, 1) := by decide +kernel
theorem dX13_find_47 : decode cX13_find 47 = .ok (.i2l, 1) := by decide +kernel
theorem dX13_find_48 : decode cX13_find 48 = .ok (.lcmp, 1) := by decide +kernel
theorem dX13_find_49 : decode cX13_find 49 = .ok (.ifCond .ne 23, 3) := by decide +kernel
theorem dX13_find_52 : decode cX13_find 52 = .ok (.aload_n 0, 1) := by decide +kernel
theorem dX13_find_53 : decode cX13_find 53 = .ok (.getfield 7, 3) := by decide +kernel
theorem dX13_find_56 : decode cX13_find 56 = .ok (.sipush 730, 3) := by decide +kernel
theorem dX13_find_59 : decode cX13_find 59 = .ok (.iload 4, 2) := by decide +kernel
theorem dX13_find_61 : decode cX13_find 61 = .ok (.iadd, 1) := by decide +kernel
theorem dX13_find_62 : decode cX13_find 62 = .ok (.laload, 1) := by decide +kernel
theorem dX13_find_63 : decode cX13_find 63 = .ok (.iload_n 3, 1) := by decide +kernel
theorem dX13_find_64 : decode cX13_find 64 = .ok (.i2l, 1) := by decide +kernel
theorem dX13_find_65 : decode cX13_find 65 = .ok (.lcmp, 1) := by decide +kernel
theorem dX13_find_66 : decode cX13_find 66 = .ok (.ifCond .ne 6, 3) := by decide +kernel
theorem dX13_find_69 : decode cX13_find 69 = .ok (.iload 4, 2) := by decide +kernel
theorem dX13_find_71 : decode cX13_find 71 = .ok (.ireturn, 1) := by decide +kernel
theorem dX13_find_72 : decode cX13_find 72 = .ok (.iinc 4 1, 3) := by decide +kernel
theorem dX13_find_75 : decode cX13_find 75 = .ok (.goto (-72), 3) := by decide +kernel
theorem dX13_find_78 : decode cX13_find 78 = .ok (.iconst (-1), 1) := by decide +kernel
theorem dX13_find_79 : decode cX13_find 79 = .ok (.ireturn, 1) := by decide +kernel
theorem dX13_add_0 : decode cX13_add 0 = .ok (.lload 4, 2) := by decide +kernel
theorem dX13_add_2 : decode cX13_add 2 = .ok (.lconst 0, 1) := by decide +kernel
theorem dX13_add_3 : decode cX13_add 3 = .ok (.lcmp, 1) := by decide +kernel
theorem dX13_add_4 : decode cX13_add 4 = .ok (.ifCond .ne 4, 3) := by decide +kernel
theorem dX13_add_7 : decode cX13_add 7 = .ok (.return_, 1) := by decide +kernel
theorem dX13_add_8 : decode cX13_add 8 = .ok (.aload_n 0, 1) := by decide +kernel
theorem dX13_add_9 : decode cX13_add 9 = .ok (.iload_n 1, 1) := by decide +kernel
theorem dX13_add_10 : decode cX13_add 10 = .ok (.iload_n 2, 1) := by decide +kernel
theorem dX13_add_11 : decode cX13_add 11 = .ok (.iload_n 3, 1) := by decide +kernel
theorem dX13_add_12 : decode cX13_add 12 = .ok (.invokevirtual 114, 3) := by decide +kernel
theorem dX13_add_15 : decode cX13_add 15 = .ok (.istore 8, 2) := by decide +kernel
theorem dX13_add_17 : decode cX13_add 17 = .ok (.iload 8, 2) := by decide +kernel
theorem dX13_add_19 : decode cX13_add 19 = .ok (.iconst (-1), 1) := by decide +kernel
theorem dX13_add_20 : decode cX13_add 20 = .ok (.if_icmp .ne 65, 3) := by decide +kernel
theorem dX13_add_23 : decode cX13_add 23 = .ok (.aload_n 0, 1) := by decide +kernel
theorem dX13_add_24 : decode cX13_add 24 = .ok (.getfield 7, 3) := by decide +kernel
theorem dX13_add_27 : decode cX13_add 27 = .ok (.sipush 1614, 3) := by decide +kernel
theorem dX13_add_30 : decode cX13_add 30 = .ok (.laload, 1) := by decide +kernel
theorem dX13_add_31 : decode cX13_add 31 = .ok (.l2i, 1) := by decide +kernel
theorem dX13_add_32 : decode cX13_add 32 = .ok (.istore 8, 2) := by decide +kernel
theorem dX13_add_34 : decode cX13_add 34 = .ok (.aload_n 0, 1) := by decide +kernel
theorem dX13_add_35 : decode cX13_add 35 = .ok (.getfield 7, 3) := by decide +kernel
theorem dX13_add_38 : decode cX13_add 38 = .ok (.sipush 1614, 3) := by decide +kernel
theorem dX13_add_41 : decode cX13_add 41 = .ok (.dup2, 1) := by decide +kernel
theorem dX13_add_42 : decode cX13_add 42 = .ok (.laload, 1) := by decide +kernel
theorem dX13_add_43 : decode cX13_add 43 = .ok (.lconst 1, 1) := by decide +kernel
theorem dX13_add_44 : decode cX13_add 44 = .ok (.ladd, 1) := by decide +kernel
theorem dX13_add_45 : decode cX13_add 45 = .ok (.lastore, 1) := by decide +kernel
theorem dX13_add_46 : decode cX13_add 46 = .ok (.aload_n 0, 1) := by decide +kernel
theorem dX13_add_47 : decode cX13_add 47 = .ok (.getfield 7, 3) := by decide +kernel
theorem dX13_add_50 : decode cX13_add 50 = .ok (.sipush 410, 3) := by decide +kernel
theorem dX13_add_53 : decode cX13_add 53 = .ok (.iload 8, 2) := by decide +kernel
theorem dX13_add_55 : decode cX13_add 55 = .ok (.iadd, 1) := by decide +kernel
theorem dX13_add_56 : decode cX13_add 56 = .ok (.iload_n 1, 1) := by decide +kernel
theorem dX13_add_57 : decode cX13_add 57 = .ok (.i2l, 1) := by decide +kernel
theorem dX13_add_58 : decode cX13_add 58 = .ok (.lastore, 1) := by decide +kernel
theorem dX13_add_59 : decode cX13_add 59 = .ok (.aload_n 0, 1) := by decide +kernel
theorem dX13_add_60 : decode cX13_add 60 = .ok (.getfield 7, 3) := by decide +kernel
theorem dX13_add_63 : decode cX13_add 63 = .ok (.sipush 570, 3) := by decide +kernel
theorem dX13_add_66 : decode cX13_add 66 = .ok (.iload 8, 2) := by decide +kernel
theorem dX13_add_68 : decode cX13_add 68 = .ok (.iadd, 1) := by decide +kernel
theorem dX13_add_69 : decode cX13_add 69 = .ok (.iload_n 2, 1) := by decide +kernel
theorem dX13_add_70 : decode cX13_add 70 = .ok (.i2l, 1) := by decide +kernel
theorem dX13_add_71 : decode cX13_add 71 = .ok (.lastore, 1) := by decide +kernel
theorem dX13_add_72 : decode cX13_add 72 = .ok (.aload_n 0, 1) := by decide +kernel
theorem dX13_add_73 : decode cX13_add 73 = .ok (.getfield 7, 3) := by decide +kernel
theorem dX13_add_76 : decode cX13_add 76 = .ok (.sipush 730, 3) := by decide +kernel
theorem dX13_add_79 : decode cX13_add 79 = .ok (.iload 8, 2) := by decide +kernel
theorem dX13_add_81 : decode cX13_add 81 = .ok (.iadd, 1) := by decide +kernel
theorem dX13_add_82 : decode cX13_add 82 = .ok (.iload_n 3, 1) := by decide +kernel
theorem dX13_add_83 : decode cX13_add 83 = .ok (.i2l, 1) := by decide +kernel
theorem dX13_add_84 : decode cX13_add 84 = .ok (.lastore, 1) := by decide +kernel
theorem dX13_add_85 : decode cX13_add 85 = .ok (.aload_n 0, 1) := by decide +kernel
theorem dX13_add_86 : decode cX13_add 86 = .ok (.getfield 7, 3) := by decide +kernel
theorem dX13_add_89 : decode cX13_add 89 = .ok (.sipush 890, 3) := by decide +kernel
theorem dX13_add_92 : decode cX13_add 92 = .ok (.iload 8, 2) := by decide +kernel
theorem dX13_add_94 : decode cX13_add 94 = .ok (.iadd, 1) := by decide +kernel
theorem dX13_add_95 : decode cX13_add 95 = .ok (.dup2, 1) := by decide +kernel
theorem dX13_add_96 : decode cX13_add 96 = .ok (.laload, 1) := by decide +kernel
theorem dX13_add_97 : decode cX13_add 97 = .ok (.lload 4, 2) := by decide +kernel
theorem dX13_add_99 : decode cX13_add 99 = .ok (.ladd, 1) := by decide +kernel
theorem dX13_add_100 : decode cX13_add 100 = .ok (.lastore, 1) := by decide +kernel
theorem dX13_add_101 : decode cX13_add 101 = .ok (.aload_n 0, 1) := by decide +kernel
theorem dX13_add_102 : decode cX13_add 102 = .ok (.getfield 7, 3) := by decide +kernel
theorem dX13_add_105 : decode cX13_add 105 = .ok (.sipush 1210, 3) := by decide +kernel
theorem dX13_add_108 : decode cX13_add 108 = .ok (.iload 8, 2) := by decide +kernel
theorem dX13_add_110 : decode cX13_add 110 = .ok (.iadd, 1) := by decide +kernel
theorem dX13_add_111 : decode cX13_add 111 = .ok (.dup2, 1) := by decide +kernel
theorem dX13_add_112 : decode cX13_add 112 = .ok (.laload, 1) := by decide +kernel
theorem dX13_add_113 : decode cX13_add 113 = .ok (.lload 6, 2) := by decide +kernel
theorem dX13_add_115 : decode cX13_add 115 = .ok (.ladd, 1) := by decide +kernel
theorem dX13_add_116 : decode cX13_add 116 = .ok (.lastore, 1) := by decide +kernel
theorem dX13_add_117 : decode cX13_add 117 = .ok (.return_, 1) := by decide +kernel
theorem dX13_stays_0 : decode cX13_stays 0 = .ok (.lload_n 1, 1) := by decide +kernel
theorem dX13_stays_1 : decode cX13_stays 1 = .ok (.lstore 4, 2) := by decide +kernel
theorem dX13_stays_3 : decode cX13_stays 3 = .ok (.iconst 0, 1) := by decide +kernel
theorem dX13_stays_4 : decode cX13_stays 4 = .ok (.istore 6, 2) := by decide +kernel
theorem dX13_stays_6 : decode cX13_stays 6 = .ok (.iload 6, 2) := by decide +kernel
theorem dX13_stays_8 : decode cX13_stays 8 = .ok (.iload_n 3, 1) := by decide +kernel
theorem dX13_stays_9 : decode cX13_stays 9 = .ok (.if_icmp .ge 32, 3) := by decide +kernel
theorem dX13_stays_12 : decode cX13_stays 12 = .ok (.lload 4, 2) := by decide +kernel
theorem dX13_stays_14 : decode cX13_stays 14 = .ok (.lload 4, 2) := by decide +kernel
theorem dX13_stays_16 : decode cX13_stays 16 = .ok (.aload_n 0, 1) := by decide +kernel
theorem dX13_stays_17 : decode cX13_stays 17 = .ok (.getfield 7, 3) := by decide +kernel
theorem dX13_stays_20 : decode cX13_stays 20 = .ok (.bipush 88, 2) := by decide +kernel
theorem dX13_stays_22 : decode cX13_stays 22 = .ok (.laload, 1) := by decide +kernel
theorem dX13_stays_23 : decode cX13_stays 23 = .ok (.lmul, 1) := by decide +kernel
theorem dX13_stays_24 : decode cX13_stays 24 = .ok (.ldc2_w 118, 3) := by decide +kernel
theorem dX13_stays_27 : decode cX13_stays 27 = .ok (.ladd, 1) := by decide +kernel
theorem dX13_stays_28 : decode cX13_stays 28 = .ok (.ldc2_w 27, 3) := by decide +kernel
theorem dX13_stays_31 : decode cX13_stays 31 = .ok (.ldiv, 1) := by decide +kernel
theorem dX13_stays_32 : decode cX13_stays 32 = .ok (.lsub, 1) := by decide +kernel
theorem dX13_stays_33 : decode cX13_stays 33 = .ok (.lstore 4, 2) := by decide +kernel
theorem dX13_stays_35 : decode cX13_stays 35 = .ok (.iinc 6 1, 3) := by decide +kernel
theorem dX13_stays_38 : decode cX13_stays 38 = .ok (.goto (-32), 3) := by decide +kernel
theorem dX13_stays_41 : decode cX13_stays 41 = .ok (.lload 4, 2) := by decide +kernel
theorem dX13_stays_43 : decode cX13_stays 43 = .ok (.lreturn, 1) := by decide +kernel
theorem dX13_gradeThrows_0 : decode cX13_gradeThrows 0 = .ok (.iload_n 1, 1) := by decide +kernel
theorem dX13_gradeThrows_1 : decode cX13_gradeThrows 1 = .ok (.i2l, 1) := by decide +kernel
theorem dX13_gradeThrows_2 : decode cX13_gradeThrows 2 = .ok (.lconst 1, 1) := by decide +kernel
theorem dX13_gradeThrows_3 : decode cX13_gradeThrows 3 = .ok (.ldc2_w 25, 3) := by decide +kernel
theorem dX13_gradeThrows_6 : decode cX13_gradeThrows 6 = .ok (.invokestatic 37, 3) := by decide +kernel
theorem dX13_gradeThrows_9 : decode cX13_gradeThrows 9 = .ok (.ifCond .ne 7, 3) := by decide +kernel
theorem dX13_gradeThrows_12 : decode cX13_gradeThrows 12 = .ok (.iconst 1, 1) := by decide +kernel
theorem dX13_gradeThrows_13 : decode cX13_gradeThrows 13 = .ok (.goto 21, 3) := by decide +kernel
theorem dX13_gradeThrows_16 : decode cX13_gradeThrows 16 = .ok (.aload_n 0, 1) := by decide +kernel
theorem dX13_gradeThrows_17 : decode cX13_gradeThrows 17 = .ok (.getfield 7, 3) := by decide +kernel
theorem dX13_gradeThrows_20 : decode cX13_gradeThrows 20 = .ok (.sipush 1613, 3) := by decide +kernel
theorem dX13_gradeThrows_23 : decode cX13_gradeThrows 23 = .ok (.laload, 1) := by decide +kernel
theorem dX13_gradeThrows_24 : decode cX13_gradeThrows 24 = .ok (.lconst 0, 1) := by decide +kernel
theorem dX13_gradeThrows_25 : decode cX13_gradeThrows 25 = .ok (.lcmp, 1) := by decide +kernel
theorem dX13_gradeThrows_26 : decode cX13_gradeThrows 26 = .ok (.ifCond .ne 7, 3) := by decide +kernel
theorem dX13_gradeThrows_29 : decode cX13_gradeThrows 29 = .ok (.iconst 2, 1) := by decide +kernel
theorem dX13_gradeThrows_30 : decode cX13_gradeThrows 30 = .ok (.goto 4, 3) := by decide +kernel
theorem dX13_gradeThrows_33 : decode cX13_gradeThrows 33 = .ok (.iconst 0, 1) := by decide +kernel
theorem dX13_gradeThrows_34 : decode cX13_gradeThrows 34 = .ok (.ireturn, 1) := by decide +kernel
theorem dX13_doGrade_0 : decode cX13_doGrade 0 = .ok (.lconst 0, 1) := by decide +kernel
theorem dX13_doGrade_1 : decode cX13_doGrade 1 = .ok (.lstore_n 2, 1) := by decide +kernel
theorem dX13_doGrade_2 : decode cX13_doGrade 2 = .ok (.iconst 0, 1) := by decide +kernel
theorem dX13_doGrade_3 : decode cX13_doGrade 3 = .ok (.istore 4, 2) := by decide +kernel
theorem dX13_doGrade_5 : decode cX13_doGrade 5 = .ok (.iload 4, 2) := by decide +kernel
theorem dX13_doGrade_7 : decode cX13_doGrade 7 = .ok (.i2l, 1) := by decide +kernel
theorem dX13_doGrade_8 : decode cX13_doGrade 8 = .ok (.aload_n 0, 1) := by decide +kernel
theorem dX13_doGrade_9 : decode cX13_doGrade 9 = .ok (.getfield 7, 3) := by decide +kernel
theorem dX13_doGrade_12 : decode cX13_doGrade 12 = .ok (.sipush 1613, 3) := by decide +kernel
theorem dX13_doGrade_15 : decode cX13_doGrade 15 = .ok (.laload, 1) := by decide +kernel
theorem dX13_doGrade_16 : decode cX13_doGrade 16 = .ok (.lcmp, 1) := by decide +kernel
theorem dX13_doGrade_17 : decode cX13_doGrade 17 = .ok (.ifCond .ge 123, 3) := by decide +kernel
theorem dX13_doGrade_20 : decode cX13_doGrade 20 = .ok (.aload_n 0, 1) := by decide +kernel
theorem dX13_doGrade_21 : decode cX13_doGrade 21 = .ok (.aload_n 0, 1) := by decide +kernel
theorem dX13_doGrade_22 : decode cX13_doGrade 22 = .ok (.getfield 7, 3) := by decide +kernel
theorem dX13_doGrade_25 : decode cX13_doGrade 25 = .ok (.sipush 330, 3) := by decide +kernel
theorem dX13_doGrade_28 : decode cX13_doGrade 28 = .ok (.iload 4, 2) := by decide +kernel
theorem dX13_doGrade_30 : decode cX13_doGrade 30 = .ok (.iadd, 1) := by decide +kernel
theorem dX13_doGrade_31 : decode cX13_doGrade 31 = .ok (.laload, 1) := by decide +kernel
theorem dX13_doGrade_32 : decode cX13_doGrade 32 = .ok (.iload_n 1, 1) := by decide +kernel
theorem dX13_doGrade_33 : decode cX13_doGrade 33 = .ok (.invokevirtual 120, 3) := by decide +kernel
theorem dX13_doGrade_36 : decode cX13_doGrade 36 = .ok (.lstore 5, 2) := by decide +kernel
theorem dX13_doGrade_38 : decode cX13_doGrade 38 = .ok (.aload_n 0, 1) := by decide +kernel
theorem dX13_doGrade_39 : decode cX13_doGrade 39 = .ok (.getfield 7, 3) := by decide +kernel
theorem dX13_doGrade_42 : decode cX13_doGrade 42 = .ok (.sipush 330, 3) := by decide +kernel
theorem dX13_doGrade_45 : decode cX13_doGrade 45 = .ok (.iload 4, 2) := by decide +kernel
theorem dX13_doGrade_47 : decode cX13_doGrade 47 = .ok (.iadd, 1) := by decide +kernel
theorem dX13_doGrade_48 : decode cX13_doGrade 48 = .ok (.laload, 1) := by decide +kernel
theorem dX13_doGrade_49 : decode cX13_doGrade 49 = .ok (.lload 5, 2) := by decide +kernel
theorem dX13_doGrade_51 : decode cX13_doGrade 51 = .ok (.lsub, 1) := by decide +kernel
theorem dX13_doGrade_52 : decode cX13_doGrade 52 = .ok (.lstore 7, 2) := by decide +kernel
theorem dX13_doGrade_54 : decode cX13_doGrade 54 = .ok (.aload_n 0, 1) := by decide +kernel
theorem dX13_doGrade_55 : decode cX13_doGrade 55 = .ok (.aload_n 0, 1) := by decide +kernel
theorem dX13_doGrade_56 : decode cX13_doGrade 56 = .ok (.getfield 7, 3) := by decide +kernel
theorem dX13_doGrade_59 : decode cX13_doGrade 59 = .ok (.bipush 90, 2) := by decide +kernel
theorem dX13_doGrade_61 : decode cX13_doGrade 61 = .ok (.iload 4, 2) := by decide +kernel
theorem dX13_doGrade_63 : decode cX13_doGrade 63 = .ok (.iadd, 1) := by decide +kernel
theorem dX13_doGrade_64 : decode cX13_doGrade 64 = .ok (.laload, 1) := by decide +kernel
theorem dX13_doGrade_65 : decode cX13_doGrade 65 = .ok (.l2i, 1) := by decide +kernel
theorem dX13_doGrade_66 : decode cX13_doGrade 66 = .ok (.aload_n 0, 1) := by decide +kernel
theorem dX13_doGrade_67 : decode cX13_doGrade 67 = .ok (.getfield 7, 3) := by decide +kernel
theorem dX13_doGrade_70 : decode cX13_doGrade 70 = .ok (.sipush 170, 3) := by decide +kernel
theorem dX13_doGrade_73 : decode cX13_doGrade 73 = .ok (.iload 4, 2) := by decide +kernel
theorem dX13_doGrade_75 : decode cX13_doGrade 75 = .ok (.iadd, 1) := by decide +kernel
theorem dX13_doGrade_76 : decode cX13_doGrade 76 = .ok (.laload, 1) := by decide +kernel
theorem dX13_doGrade_77 : decode cX13_doGrade 77 = .ok (.l2i, 1) := by decide +kernel
theorem dX13_doGrade_78 : decode cX13_doGrade 78 = .ok (.iconst 1, 1) := by decide +kernel
theorem dX13_doGrade_79 : decode cX13_doGrade 79 = .ok (.aload_n 0, 1) := by decide +kernel
theorem dX13_doGrade_80 : decode cX13_doGrade 80 = .ok (.getfield 7, 3) := by decide +kernel
theorem dX13_doGrade_83 : decode cX13_doGrade 83 = .ok (.sipush 250, 3) := by decide +kernel
theorem dX13_doGrade_86 : decode cX13_doGrade 86 = .ok (.iload 4, 2) := by decide +kernel
theorem dX13_doGrade_88 : decode cX13_doGrade 88 = .ok (.iadd, 1) := by decide +kernel
theorem dX13_doGrade_89 : decode cX13_doGrade 89 = .ok (.laload, 1) := by decide +kernel
theorem dX13_doGrade_90 : decode cX13_doGrade 90 = .ok (.lload 7, 2) := by decide +kernel
theorem dX13_doGrade_92 : decode cX13_doGrade 92 = .ok (.lsub, 1) := by decide +kernel
theorem dX13_doGrade_93 : decode cX13_doGrade 93 = .ok (.lload 5, 2) := by decide +kernel
theorem dX13_doGrade_95 : decode cX13_doGrade 95 = .ok (.invokevirtual 124, 3) := by decide +kernel
theorem dX13_doGrade_98 : decode cX13_doGrade 98 = .ok (.aload_n 0, 1) := by decide +kernel
theorem dX13_doGrade_99 : decode cX13_doGrade 99 = .ok (.aload_n 0, 1) := by decide +kernel
theorem dX13_doGrade_100 : decode cX13_doGrade 100 = .ok (.getfield 7, 3) := by decide +kernel
theorem dX13_doGrade_103 : decode cX13_doGrade 103 = .ok (.bipush 90, 2) := by decide +kernel
theorem dX13_doGrade_105 : decode cX13_doGrade 105 = .ok (.iload 4, 2) := by decide +kernel
theorem dX13_doGrade_107 : decode cX13_doGrade 107 = .ok (.iadd, 1) := by decide +kernel
theorem dX13_doGrade_108 : decode cX13_doGrade 108 = .ok (.laload, 1) := by decide +kernel
theorem dX13_doGrade_109 : decode cX13_doGrade 109 = .ok (.l2i, 1) := by decide +kernel
theorem dX13_doGrade_110 : decode cX13_doGrade 110 = .ok (.aload_n 0, 1) := by decide +kernel
theorem dX13_doGrade_111 : decode cX13_doGrade 111 = .ok (.getfield 7, 3) := by decide +kernel
theorem dX13_doGrade_114 : decode cX13_doGrade 114 = .ok (.sipush 170, 3) := by decide +kernel
theorem dX13_doGrade_117 : decode cX13_doGrade 117 = .ok (.iload 4, 2) := by decide +kernel
theorem dX13_doGrade_119 : decode cX13_doGrade 119 = .ok (.iadd, 1) := by decide +kernel
theorem dX13_doGrade_120 : decode cX13_doGrade 120 = .ok (.laload, 1) := by decide +kernel
theorem dX13_doGrade_121 : decode cX13_doGrade 121 = .ok (.l2i, 1) := by decide +kernel
theorem dX13_doGrade_122 : decode cX13_doGrade 122 = .ok (.iconst 2, 1) := by decide +kernel
theorem dX13_doGrade_123 : decode cX13_doGrade 123 = .ok (.lload 7, 2) := by decide +kernel
theorem dX13_doGrade_125 : decode cX13_doGrade 125 = .ok (.lconst 0, 1) := by decide +kernel
theorem dX13_doGrade_126 : decode cX13_doGrade 126 = .ok (.invokevirtual 124, 3) := by decide +kernel
theorem dX13_doGrade_129 : decode cX13_doGrade 129 = .ok (.lload_n 2, 1) := by decide +kernel
theorem dX13_doGrade_130 : decode cX13_doGrade 130 = .ok (.lload 7, 2) := by decide +kernel
theorem dX13_doGrade_132 : decode cX13_doGrade 132 = .ok (.ladd, 1) := by decide +kernel
theorem dX13_doGrade_133 : decode cX13_doGrade 133 = .ok (.lstore_n 2, 1) := by decide +kernel
theorem dX13_doGrade_134 : decode cX13_doGrade 134 = .ok (.iinc 4 1, 3) := by decide +kernel
theorem dX13_doGrade_137 : decode cX13_doGrade 137 = .ok (.goto (-132), 3) := by decide +kernel
theorem dX13_doGrade_140 : decode cX13_doGrade 140 = .ok (.aload_n 0, 1) := by decide +kernel
theorem dX13_doGrade_141 : decode cX13_doGrade 141 = .ok (.getfield 7, 3) := by decide +kernel
theorem dX13_doGrade_144 : decode cX13_doGrade 144 = .ok (.sipush 1613, 3) := by decide +kernel
theorem dX13_doGrade_147 : decode cX13_doGrade 147 = .ok (.lconst 0, 1) := by decide +kernel
theorem dX13_doGrade_148 : decode cX13_doGrade 148 = .ok (.lastore, 1) := by decide +kernel
theorem dX13_doGrade_149 : decode cX13_doGrade 149 = .ok (.aload_n 0, 1) := by decide +kernel
theorem dX13_doGrade_150 : decode cX13_doGrade 150 = .ok (.iconst 2, 1) := by decide +kernel
theorem dX13_doGrade_151 : decode cX13_doGrade 151 = .ok (.lload_n 2, 1) := by decide +kernel
theorem dX13_doGrade_152 : decode cX13_doGrade 152 = .ok (.invokevirtual 104, 3) := by decide +kernel
theorem dX13_doGrade_155 : decode cX13_doGrade 155 = .ok (.lload_n 2, 1) := by decide +kernel
theorem dX13_doGrade_156 : decode cX13_doGrade 156 = .ok (.l2i, 1) := by decide +kernel
theorem dX13_doGrade_157 : decode cX13_doGrade 157 = .ok (.ireturn, 1) := by decide +kernel
theorem dX13_grade_0 : decode cX13_grade 0 = .ok (.aload_n 0, 1) := by decide +kernel
theorem dX13_grade_1 : decode cX13_grade 1 = .ok (.iconst 0, 1) := by decide +kernel
theorem dX13_grade_2 : decode cX13_grade 2 = .ok (.putfield 31, 3) := by decide +kernel
theorem dX13_grade_5 : decode cX13_grade 5 = .ok (.aload_n 0, 1) := by decide +kernel
theorem dX13_grade_6 : decode cX13_grade 6 = .ok (.iload_n 1, 1) := by decide +kernel
theorem dX13_grade_7 : decode cX13_grade 7 = .ok (.invokevirtual 128, 3) := by decide +kernel
theorem dX13_grade_10 : decode cX13_grade 10 = .ok (.istore_n 2, 1) := by decide +kernel
theorem dX13_grade_11 : decode cX13_grade 11 = .ok (.iload_n 2, 1) := by decide +kernel
theorem dX13_grade_12 : decode cX13_grade 12 = .ok (.ifCond .le 9, 3) := by decide +kernel
theorem dX13_grade_15 : decode cX13_grade 15 = .ok (.aload_n 0, 1) := by decide +kernel
theorem dX13_grade_16 : decode cX13_grade 16 = .ok (.iload_n 2, 1) := by decide +kernel
theorem dX13_grade_17 : decode cX13_grade 17 = .ok (.invokevirtual 54, 3) := by decide +kernel
theorem dX13_grade_20 : decode cX13_grade 20 = .ok (.ireturn, 1) := by decide +kernel
theorem dX13_grade_21 : decode cX13_grade 21 = .ok (.aload_n 0, 1) := by decide +kernel
theorem dX13_grade_22 : decode cX13_grade 22 = .ok (.invokevirtual 60, 3) := by decide +kernel
theorem dX13_grade_25 : decode cX13_grade 25 = .ok (.aload_n 0, 1) := by decide +kernel
theorem dX13_grade_26 : decode cX13_grade 26 = .ok (.iload_n 1, 1) := by decide +kernel
theorem dX13_grade_27 : decode cX13_grade 27 = .ok (.invokevirtual 131, 3) := by decide +kernel
theorem dX13_grade_30 : decode cX13_grade 30 = .ok (.ireturn, 1) := by decide +kernel
theorem dX13_doPack_0 : decode cX13_doPack 0 = .ok (.lconst 0, 1) := by decide +kernel
theorem dX13_doPack_1 : decode cX13_doPack 1 = .ok (.lstore_n 1, 1) := by decide +kernel
theorem dX13_doPack_2 : decode cX13_doPack 2 = .ok (.iconst 0, 1) := by decide +kernel
theorem dX13_doPack_3 : decode cX13_doPack 3 = .ok (.istore_n 3, 1) := by decide +kernel
theorem dX13_doPack_4 : decode cX13_doPack 4 = .ok (.iload_n 3, 1) := by decide +kernel
theorem dX13_doPack_5 : decode cX13_doPack 5 = .ok (.i2l, 1) := by decide +kernel
theorem dX13_doPack_6 : decode cX13_doPack 6 = .ok (.aload_n 0, 1) := by decide +kernel
theorem dX13_doPack_7 : decode cX13_doPack 7 = .ok (.getfield 7, 3) := by decide +kernel
theorem dX13_doPack_10 : decode cX13_doPack 10 = .ok (.sipush 1614, 3) := by decide +kernel
theorem dX13_doPack_13 : decode cX13_doPack 13 = .ok (.laload, 1) := by decide +kernel
theorem dX13_doPack_14 : decode cX13_doPack 14 = .ok (.lcmp, 1) := by decide +kernel
theorem dX13_doPack_15 : decode cX13_doPack 15 = .ok (.ifCond .ge 72, 3) := by decide +kernel
theorem dX13_doPack_18 : decode cX13_doPack 18 = .ok (.aload_n 0, 1) := by decide +kernel
theorem dX13_doPack_19 : decode cX13_doPack 19 = .ok (.getfield 7, 3) := by decide +kernel
theorem dX13_doPack_22 : decode cX13_doPack 22 = .ok (.sipush 890, 3) := by decide +kernel
theorem dX13_doPack_25 : decode cX13_doPack 25 = .ok (.iload_n 3, 1) := by decide +kernel
theorem dX13_doPack_26 : decode cX13_doPack 26 = .ok (.iadd, 1) := by decide +kernel
theorem dX13_doPack_27 : decode cX13_doPack 27 = .ok (.laload, 1) := by decide +kernel
theorem dX13_doPack_28 : decode cX13_doPack 28 = .ok (.aload_n 0, 1) := by decide +kernel
theorem dX13_doPack_29 : decode cX13_doPack 29 = .ok (.getfield 7, 3) := by decide +kernel
theorem dX13_doPack_32 : decode cX13_doPack 32 = .ok (.bipush 89, 2) := by decide +kernel
theorem dX13_doPack_34 : decode cX13_doPack 34 = .ok (.laload, 1) := by decide +kernel
theorem dX13_doPack_35 : decode cX13_doPack 35 = .ok (.ldiv, 1) := by decide +kernel
theorem dX13_doPack_36 : decode cX13_doPack 36 = .ok (.lstore 4, 2) := by decide +kernel
theorem dX13_doPack_38 : decode cX13_doPack 38 = .ok (.aload_n 0, 1) := by decide +kernel
theorem dX13_doPack_39 : decode cX13_doPack 39 = .ok (.getfield 7, 3) := by decide +kernel
theorem dX13_doPack_42 : decode cX13_doPack 42 = .ok (.sipush 1050, 3) := by decide +kernel
theorem dX13_doPack_45 : decode cX13_doPack 45 = .ok (.iload_n 3, 1) := by decide +kernel
theorem dX13_doPack_46 : decode cX13_doPack 46 = .ok (.iadd, 1) := by decide +kernel
theorem dX13_doPack_47 : decode cX13_doPack 47 = .ok (.dup2, 1) := by decide +kernel
theorem dX13_doPack_48 : decode cX13_doPack 48 = .ok (.laload, 1) := by decide +kernel
theorem dX13_doPack_49 : decode cX13_doPack 49 = .ok (.lload 4, 2) := by decide +kernel
theorem dX13_doPack_51 : decode cX13_doPack 51 = .ok (.ladd, 1) := by decide +kernel
theorem dX13_doPack_52 : decode cX13_doPack 52 = .ok (.lastore, 1) := by decide +kernel
theorem dX13_doPack_53 : decode cX13_doPack 53 = .ok (.aload_n 0, 1) := by decide +kernel
theorem dX13_doPack_54 : decode cX13_doPack 54 = .ok (.getfield 7, 3) := by decide +kernel
theorem dX13_doPack_57 : decode cX13_doPack 57 = .ok (.sipush 890, 3) := by decide +kernel
theorem dX13_doPack_60 : decode cX13_doPack 60 = .ok (.iload_n 3, 1) := by decide +kernel
theorem dX13_doPack_61 : decode cX13_doPack 61 = .ok (.iadd, 1) := by decide +kernel
theorem dX13_doPack_62 : decode cX13_doPack 62 = .ok (.dup2, 1) := by decide +kernel
theorem dX13_doPack_63 : decode cX13_doPack 63 = .ok (.laload, 1) := by decide +kernel
theorem dX13_doPack_64 : decode cX13_doPack 64 = .ok (.lload 4, 2) := by decide +kernel
theorem dX13_doPack_66 : decode cX13_doPack 66 = .ok (.aload_n 0, 1) := by decide +kernel
theorem dX13_doPack_67 : decode cX13_doPack 67 = .ok (.getfield 7, 3) := by decide +kernel
theorem dX13_doPack_70 : decode cX13_doPack 70 = .ok (.bipush 89, 2) := by decide +kernel
theorem dX13_doPack_72 : decode cX13_doPack 72 = .ok (.laload, 1) := by decide +kernel
theorem dX13_doPack_73 : decode cX13_doPack 73 = .ok (.lmul, 1) := by decide +kernel
theorem dX13_doPack_74 : decode cX13_doPack 74 = .ok (.lsub, 1) := by decide +kernel
theorem dX13_doPack_75 : decode cX13_doPack 75 = .ok (.lastore, 1) := by decide +kernel
theorem dX13_doPack_76 : decode cX13_doPack 76 = .ok (.lload_n 1, 1) := by decide +kernel
theorem dX13_doPack_77 : decode cX13_doPack 77 = .ok (.lload 4, 2) := by decide +kernel
theorem dX13_doPack_79 : decode cX13_doPack 79 = .ok (.ladd, 1) := by decide +kernel
theorem dX13_doPack_80 : decode cX13_doPack 80 = .ok (.lstore_n 1, 1) := by decide +kernel
theorem dX13_doPack_81 : decode cX13_doPack 81 = .ok (.iinc 3 1, 3) := by decide +kernel
theorem dX13_doPack_84 : decode cX13_doPack 84 = .ok (.goto (-80), 3) := by decide +kernel
theorem dX13_doPack_87 : decode cX13_doPack 87 = .ok (.lload_n 1, 1) := by decide +kernel
theorem dX13_doPack_88 : decode cX13_doPack 88 = .ok (.l2i, 1) := by decide +kernel
theorem dX13_doPack_89 : decode cX13_doPack 89 = .ok (.ireturn, 1) := by decide +kernel
theorem dX13_pack_0 : decode cX13_pack 0 = .ok (.aload_n 0, 1) := by decide +kernel
theorem dX13_pack_1 : decode cX13_pack 1 = .ok (.iconst 0, 1) := by decide +kernel
theorem dX13_pack_2 : decode cX13_pack 2 = .ok (.putfield 31, 3) := by decide +kernel
theorem dX13_pack_5 : decode cX13_pack 5 = .ok (.aload_n 0, 1) := by decide +kernel
theorem dX13_pack_6 : decode cX13_pack 6 = .ok (.invokevirtual 60, 3) := by decide +kernel
theorem dX13_pack_9 : decode cX13_pack 9 = .ok (.aload_n 0, 1) := by decide +kernel
theorem dX13_pack_10 : decode cX13_pack 10 = .ok (.invokevirtual 134, 3) := by decide +kernel
theorem dX13_pack_13 : decode cX13_pack 13 = .ok (.ireturn, 1) := by decide +kernel
theorem dX13_content_0 : decode cX13_content 0 = .ok (.aload_n 0, 1) := by decide +kernel
theorem dX13_content_1 : decode cX13_content 1 = .ok (.getfield 7, 3) := by decide +kernel
theorem dX13_content_4 : decode cX13_content 4 = .ok (.sipush 890, 3) := by decide +kernel
theorem dX13_content_7 : decode cX13_content 7 = .ok (.iload_n 1, 1) := by decide +kernel
theorem dX13_content_8 : decode cX13_content 8 = .ok (.iadd, 1) := by decide +kernel
theorem dX13_content_9 : decode cX13_content 9 = .ok (.laload, 1) := by decide +kernel
theorem dX13_content_10 : decode cX13_content 10 = .ok (.aload_n 0, 1) := by decide +kernel
theorem dX13_content_11 : decode cX13_content 11 = .ok (.getfield 7, 3) := by decide +kernel
theorem dX13_content_14 : decode cX13_content 14 = .ok (.sipush 1050, 3) := by decide +kernel
theorem dX13_content_17 : decode cX13_content 17 = .ok (.iload_n 1, 1) := by decide +kernel
theorem dX13_content_18 : decode cX13_content 18 = .ok (.iadd, 1) := by decide +kernel
theorem dX13_content_19 : decode cX13_content 19 = .ok (.laload, 1) := by decide +kernel
theorem dX13_content_20 : decode cX13_content 20 = .ok (.aload_n 0, 1) := by decide +kernel
theorem dX13_content_21 : decode cX13_content 21 = .ok (.getfield 7, 3) := by decide +kernel
theorem dX13_content_24 : decode cX13_content 24 = .ok (.bipush 89, 2) := by decide +kernel
theorem dX13_content_26 : decode cX13_content 26 = .ok (.laload, 1) := by decide +kernel
theorem dX13_content_27 : decode cX13_content 27 = .ok (.lmul, 1) := by decide +kernel
theorem dX13_content_28 : decode cX13_content 28 = .ok (.ladd, 1) := by decide +kernel
theorem dX13_content_29 : decode cX13_content 29 = .ok (.lreturn, 1) := by decide +kernel
theorem dX13_limit_0 : decode cX13_limit 0 = .ok (.aload_n 0, 1) := by decide +kernel
theorem dX13_limit_1 : decode cX13_limit 1 = .ok (.getfield 7, 3) := by decide +kernel
theorem dX13_limit_4 : decode cX13_limit 4 = .ok (.sipush 1210, 3) := by decide +kernel
theorem dX13_limit_7 : decode cX13_limit 7 = .ok (.iload_n 1, 1) := by decide +kernel
theorem dX13_limit_8 : decode cX13_limit 8 = .ok (.iadd, 1) := by decide +kernel
theorem dX13_limit_9 : decode cX13_limit 9 = .ok (.aload_n 0, 1) := by decide +kernel
theorem dX13_limit_10 : decode cX13_limit 10 = .ok (.getfield 7, 3) := by decide +kernel
theorem dX13_limit_13 : decode cX13_limit 13 = .ok (.sipush 1210, 3) := by decide +kernel
theorem dX13_limit_16 : decode cX13_limit 16 = .ok (.iload_n 1, 1) := by decide +kernel
theorem dX13_limit_17 : decode cX13_limit 17 = .ok (.iadd, 1) := by decide +kernel
theorem dX13_limit_18 : decode cX13_limit 18 = .ok (.laload, 1) := by decide +kernel
theorem dX13_limit_19 : decode cX13_limit 19 = .ok (.aload_n 0, 1) := by decide +kernel
theorem dX13_limit_20 : decode cX13_limit 20 = .ok (.iload_n 1, 1) := by decide +kernel
theorem dX13_limit_21 : decode cX13_limit 21 = .ok (.invokevirtual 138, 3) := by decide +kernel
theorem dX13_limit_24 : decode cX13_limit 24 = .ok (.lcmp, 1) := by decide +kernel
theorem dX13_limit_25 : decode cX13_limit 25 = .ok (.ifCond .le 11, 3) := by decide +kernel
theorem dX13_limit_28 : decode cX13_limit 28 = .ok (.aload_n 0, 1) := by decide +kernel
theorem dX13_limit_29 : decode cX13_limit 29 = .ok (.iload_n 1, 1) := by decide +kernel
theorem dX13_limit_30 : decode cX13_limit 30 = .ok (.invokevirtual 138, 3) := by decide +kernel
theorem dX13_limit_33 : decode cX13_limit 33 = .ok (.goto 13, 3) := by decide +kernel
theorem dX13_limit_36 : decode cX13_limit 36 = .ok (.aload_n 0, 1) := by decide +kernel
theorem dX13_limit_37 : decode cX13_limit 37 = .ok (.getfield 7, 3) := by decide +kernel
theorem dX13_limit_40 : decode cX13_limit 40 = .ok (.sipush 1210, 3) := by decide +kernel
theorem dX13_limit_43 : decode cX13_limit 43 = .ok (.iload_n 1, 1) := by decide +kernel
theorem dX13_limit_44 : decode cX13_limit 44 = .ok (.iadd, 1) := by decide +kernel
theorem dX13_limit_45 : decode cX13_limit 45 = .ok (.laload, 1) := by decide +kernel
theorem dX13_limit_46 : decode cX13_limit 46 = .ok (.lastore, 1) := by decide +kernel
theorem dX13_limit_47 : decode cX13_limit 47 = .ok (.return_, 1) := by decide +kernel
theorem dX13_worth_0 : decode cX13_worth 0 = .ok (.aload_n 0, 1) := by decide +kernel
theorem dX13_worth_1 : decode cX13_worth 1 = .ok (.getfield 7, 3) := by decide +kernel
theorem dX13_worth_4 : decode cX13_worth 4 = .ok (.bipush 12, 2) := by decide +kernel
theorem dX13_worth_6 : decode cX13_worth 6 = .ok (.aload_n 0, 1) := by decide +kernel
theorem dX13_worth_7 : decode cX13_worth 7 = .ok (.getfield 7, 3) := by decide +kernel
theorem dX13_worth_10 : decode cX13_worth 10 = .ok (.sipush 410, 3) := by decide +kernel
theorem dX13_worth_13 : decode cX13_worth 13 = .ok (.iload_n 1, 1) := by decide +kernel
theorem dX13_worth_14 : decode cX13_worth 14 = .ok (.iadd, 1) := by decide +kernel
theorem dX13_worth_15 : decode cX13_worth 15 = .ok (.laload, 1) := by decide +kernel
theorem dX13_worth_16 : decode cX13_worth 16 = .ok (.l2i, 1) := by decide +kernel
theorem dX13_worth_17 : decode cX13_worth 17 = .ok (.iadd, 1) := by decide +kernel
theorem dX13_worth_18 : decode cX13_worth 18 = .ok (.laload, 1) := by decide +kernel
theorem dX13_worth_19 : decode cX13_worth 19 = .ok (.lstore_n 2, 1) := by decide +kernel
theorem dX13_worth_20 : decode cX13_worth 20 = .ok (.aload_n 0, 1) := by decide +kernel
theorem dX13_worth_21 : decode cX13_worth 21 = .ok (.getfield 7, 3) := by decide +kernel
theorem dX13_worth_24 : decode cX13_worth 24 = .ok (.sipush 730, 3) := by decide +kernel
theorem dX13_worth_27 : decode cX13_worth 27 = .ok (.iload_n 1, 1) := by decide +kernel
theorem dX13_worth_28 : decode cX13_worth 28 = .ok (.iadd, 1) := by decide +kernel
theorem dX13_worth_29 : decode cX13_worth 29 = .ok (.laload, 1) := by decide +kernel
theorem dX13_worth_30 : decode cX13_worth 30 = .ok (.lconst 1, 1) := by decide +kernel
theorem dX13_worth_31 : decode cX13_worth 31 = .ok (.lcmp, 1) := by decide +kernel
theorem dX13_worth_32 : decode cX13_worth 32 = .ok (.ifCond .ne 7, 3) := by decide +kernel
theorem dX13_worth_35 : decode cX13_worth 35 = .ok (.lload_n 2, 1) := by decide +kernel
theorem dX13_worth_36 : decode cX13_worth 36 = .ok (.goto 8, 3) := by decide +kernel
theorem dX13_worth_39 : decode cX13_worth 39 = .ok (.lload_n 2, 1) := by decide +kernel
theorem dX13_worth_40 : decode cX13_worth 40 = .ok (.ldc2_w 41, 3) := by decide +kernel
theorem dX13_worth_43 : decode cX13_worth 43 = .ok (.ldiv, 1) := by decide +kernel
theorem dX13_worth_44 : decode cX13_worth 44 = .ok (.lreturn, 1) := by decide +kernel
theorem dX13_lotFor_0 : decode cX13_lotFor 0 = .ok (.iconst (-1), 1) := by decide +kernel
theorem dX13_lotFor_1 : decode cX13_lotFor 1 = .ok (.istore 4, 2) := by decide +kernel
theorem dX13_lotFor_3 : decode cX13_lotFor 3 = .ok (.iconst 0, 1) := by decide +kernel
theorem dX13_lotFor_4 : decode cX13_lotFor 4 = .ok (.istore 5, 2) := by decide +kernel
theorem dX13_lotFor_6 : decode cX13_lotFor 6 = .ok (.iload 5, 2) := by decide +kernel
theorem dX13_lotFor_8 : decode cX13_lotFor 8 = .ok (.i2l, 1) := by decide +kernel
theorem dX13_lotFor_9 : decode cX13_lotFor 9 = .ok (.aload_n 0, 1) := by decide +kernel
theorem dX13_lotFor_10 : decode cX13_lotFor 10 = .ok (.getfield 7, 3) := by decide +kernel
theorem dX13_lotFor_13 : decode cX13_lotFor 13 = .ok (.sipush 1614, 3) := by decide +kernel
theorem dX13_lotFor_16 : decode cX13_lotFor 16 = .ok (.laload, 1) := by decide +kernel
theorem dX13_lotFor_17 : decode cX13_lotFor 17 = .ok (.lcmp, 1) := by decide +kernel
theorem dX13_lotFor_18 : decode cX13_lotFor 18 = .ok (.ifCond .ge 160, 3) := by decide +kernel
theorem dX13_lotFor_21 : decode cX13_lotFor 21 = .ok (.aload_n 0, 1) := by decide +kernel
theorem dX13_lotFor_22 : decode cX13_lotFor 22 = .ok (.getfield 7, 3) := by decide +kernel
theorem dX13_lotFor_25 : decode cX13_lotFor 25 = .ok (.sipush 410, 3) := by decide +kernel
theorem dX13_lotFor_28 : decode cX13_lotFor 28 = .ok (.iload 5, 2) := by decide +kernel
theorem dX13_lotFor_30 : decode cX13_lotFor 30 = .ok (.iadd, 1) := by decide +kernel
theorem dX13_lotFor_31 : decode cX13_lotFor 31 = .ok (.laload, 1) := by decide +kernel
theorem dX13_lotFor_32 : decode cX13_lotFor 32 = .ok (.iload_n 1, 1) := by decide +kernel
theorem dX13_lotFor_33 : decode cX13_lotFor 33 = .ok (.i2l, 1) := by decide +kernel
theorem dX13_lotFor_34 : decode cX13_lotFor 34 = .ok (.lcmp, 1) := by decide +kernel
theorem dX13_lotFor_35 : decode cX13_lotFor 35 = .ok (.ifCond .ne 41, 3) := by decide +kernel
theorem dX13_lotFor_38 : decode cX13_lotFor 38 = .ok (.aload_n 0, 1) := by decide +kernel
theorem dX13_lotFor_39 : decode cX13_lotFor 39 = .ok (.getfield 7, 3) := by decide +kernel
theorem dX13_lotFor_42 : decode cX13_lotFor 42 = .ok (.sipush 730, 3) := by decide +kernel
theorem dX13_lotFor_45 : decode cX13_lotFor 45 = .ok (.iload 5, 2) := by decide +kernel
theorem dX13_lotFor_47 : decode cX13_lotFor 47 = .ok (.iadd, 1) := by decide +kernel
theorem dX13_lotFor_48 : decode cX13_lotFor 48 = .ok (.laload, 1) := by decide +kernel
theorem dX13_lotFor_49 : decode cX13_lotFor 49 = .ok (.iload_n 2, 1) := by decide +kernel
theorem dX13_lotFor_50 : decode cX13_lotFor 50 = .ok (.i2l, 1) := by decide +kernel
theorem dX13_lotFor_51 : decode cX13_lotFor 51 = .ok (.lcmp, 1) := by decide +kernel
theorem dX13_lotFor_52 : decode cX13_lotFor 52 = .ok (.ifCond .ne 24, 3) := by decide +kernel
theorem dX13_lotFor_55 : decode cX13_lotFor 55 = .ok (.aload_n 0, 1) := by decide +kernel
theorem dX13_lotFor_56 : decode cX13_lotFor 56 = .ok (.getfield 7, 3) := by decide +kernel
theorem dX13_lotFor_59 : decode cX13_lotFor 59 = .ok (.sipush 1050, 3) := by decide +kernel
theorem dX13_lotFor_62 : decode cX13_lotFor 62 = .ok (.iload 5, 2) := by decide +kernel
theorem dX13_lotFor_64 : decode cX13_lotFor 64 = .ok (.iadd, 1) := by decide +kernel
theorem dX13_lotFor_65 : decode cX13_lotFor 65 = .ok (.laload, 1) := by decide +kernel
theorem dX13_lotFor_66 : decode cX13_lotFor 66 = .ok (.iload_n 3, 1) := by decide +kernel
theorem dX13_lotFor_67 : decode cX13_lotFor 67 = .ok (.i2l, 1) := by decide +kernel
theorem dX13_lotFor_68 : decode cX13_lotFor 68 = .ok (.lcmp, 1) := by decide +kernel
theorem dX13_lotFor_69 : decode cX13_lotFor 69 = .ok (.ifCond .lt 7, 3) := by decide +kernel
