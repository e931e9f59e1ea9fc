theorem dX13_isWord_24 : decode cX13_isWord 24 = .ok (.iload_n 1, 1) := by decide +kernel
theorem dX13_isWord_25 : decode cX13_isWord 25 = .ok (.iaload, 1) := by decide +kernel
theorem dX13_isWord_26 : decode cX13_isWord 26 = .ok (.iload_n 3, 1) := by decide +kernel
theorem dX13_isWord_27 : decode cX13_isWord 27 = .ok (.if_icmp .ne 65, 3) := by decide +kernel
theorem dX13_isWord_30 : decode cX13_isWord 30 = .ok (.aload_n 0, 1) := by decide +kernel
theorem dX13_isWord_31 : decode cX13_isWord 31 = .ok (.getfield 16, 3) := by decide +kernel
theorem dX13_isWord_34 : decode cX13_isWord 34 = .ok (.iload_n 1, 1) := by decide +kernel
theorem dX13_isWord_35 : decode cX13_isWord 35 = .ok (.iconst 1, 1) := by decide +kernel
theorem dX13_isWord_36 : decode cX13_isWord 36 = .ok (.iadd, 1) := by decide +kernel
theorem dX13_isWord_37 : decode cX13_isWord 37 = .ok (.iaload, 1) := by decide +kernel
theorem dX13_isWord_38 : decode cX13_isWord 38 = .ok (.iload 4, 2) := by decide +kernel
theorem dX13_isWord_40 : decode cX13_isWord 40 = .ok (.if_icmp .ne 52, 3) := by decide +kernel
theorem dX13_isWord_43 : decode cX13_isWord 43 = .ok (.aload_n 0, 1) := by decide +kernel
theorem dX13_isWord_44 : decode cX13_isWord 44 = .ok (.getfield 16, 3) := by decide +kernel
theorem dX13_isWord_47 : decode cX13_isWord 47 = .ok (.iload_n 1, 1) := by decide +kernel
theorem dX13_isWord_48 : decode cX13_isWord 48 = .ok (.iconst 2, 1) := by decide +kernel
theorem dX13_isWord_49 : decode cX13_isWord 49 = .ok (.iadd, 1) := by decide +kernel
theorem dX13_isWord_50 : decode cX13_isWord 50 = .ok (.iaload, 1) := by decide +kernel
theorem dX13_isWord_51 : decode cX13_isWord 51 = .ok (.iload 5, 2) := by decide +kernel
theorem dX13_isWord_53 : decode cX13_isWord 53 = .ok (.if_icmp .ne 39, 3) := by decide +kernel
theorem dX13_isWord_56 : decode cX13_isWord 56 = .ok (.aload_n 0, 1) := by decide +kernel
theorem dX13_isWord_57 : decode cX13_isWord 57 = .ok (.getfield 16, 3) := by decide +kernel
theorem dX13_isWord_60 : decode cX13_isWord 60 = .ok (.iload_n 1, 1) := by decide +kernel
theorem dX13_isWord_61 : decode cX13_isWord 61 = .ok (.iconst 3, 1) := by decide +kernel
theorem dX13_isWord_62 : decode cX13_isWord 62 = .ok (.iadd, 1) := by decide +kernel
theorem dX13_isWord_63 : decode cX13_isWord 63 = .ok (.iaload, 1) := by decide +kernel
theorem dX13_isWord_64 : decode cX13_isWord 64 = .ok (.iload 6, 2) := by decide +kernel
theorem dX13_isWord_66 : decode cX13_isWord 66 = .ok (.if_icmp .ne 26, 3) := by decide +kernel
theorem dX13_isWord_69 : decode cX13_isWord 69 = .ok (.iload 8, 2) := by decide +kernel
theorem dX13_isWord_71 : decode cX13_isWord 71 = .ok (.iconst 4, 1) := by decide +kernel
theorem dX13_isWord_72 : decode cX13_isWord 72 = .ok (.if_icmp .eq 16, 3) := by decide +kernel
theorem dX13_isWord_75 : decode cX13_isWord 75 = .ok (.aload_n 0, 1) := by decide +kernel
theorem dX13_isWord_76 : decode cX13_isWord 76 = .ok (.getfield 16, 3) := by decide +kernel
theorem dX13_isWord_79 : decode cX13_isWord 79 = .ok (.iload_n 1, 1) := by decide +kernel
theorem dX13_isWord_80 : decode cX13_isWord 80 = .ok (.iconst 4, 1) := by decide +kernel
theorem dX13_isWord_81 : decode cX13_isWord 81 = .ok (.iadd, 1) := by decide +kernel
theorem dX13_isWord_82 : decode cX13_isWord 82 = .ok (.iaload, 1) := by decide +kernel
theorem dX13_isWord_83 : decode cX13_isWord 83 = .ok (.iload 7, 2) := by decide +kernel
theorem dX13_isWord_85 : decode cX13_isWord 85 = .ok (.if_icmp .ne 7, 3) := by decide +kernel
theorem dX13_isWord_88 : decode cX13_isWord 88 = .ok (.iconst 1, 1) := by decide +kernel
theorem dX13_isWord_89 : decode cX13_isWord 89 = .ok (.goto 4, 3) := by decide +kernel
theorem dX13_isWord_92 : decode cX13_isWord 92 = .ok (.iconst 0, 1) := by decide +kernel
theorem dX13_isWord_93 : decode cX13_isWord 93 = .ok (.ireturn, 1) := by decide +kernel
theorem dX13_wordOf_0 : decode cX13_wordOf 0 = .ok (.aload_n 0, 1) := by decide +kernel
theorem dX13_wordOf_1 : decode cX13_wordOf 1 = .ok (.iload_n 1, 1) := by decide +kernel
theorem dX13_wordOf_2 : decode cX13_wordOf 2 = .ok (.iload_n 2, 1) := by decide +kernel
theorem dX13_wordOf_3 : decode cX13_wordOf 3 = .ok (.bipush 102, 2) := by decide +kernel
theorem dX13_wordOf_5 : decode cX13_wordOf 5 = .ok (.bipush 105, 2) := by decide +kernel
theorem dX13_wordOf_7 : decode cX13_wordOf 7 = .ok (.bipush 114, 2) := by decide +kernel
theorem dX13_wordOf_9 : decode cX13_wordOf 9 = .ok (.bipush 101, 2) := by decide +kernel
theorem dX13_wordOf_11 : decode cX13_wordOf 11 = .ok (.iconst 0, 1) := by decide +kernel
theorem dX13_wordOf_12 : decode cX13_wordOf 12 = .ok (.invokevirtual 217, 3) := by decide +kernel
theorem dX13_wordOf_15 : decode cX13_wordOf 15 = .ok (.ifCond .eq 5, 3) := by decide +kernel
theorem dX13_wordOf_18 : decode cX13_wordOf 18 = .ok (.iconst 1, 1) := by decide +kernel
theorem dX13_wordOf_19 : decode cX13_wordOf 19 = .ok (.ireturn, 1) := by decide +kernel
theorem dX13_wordOf_20 : decode cX13_wordOf 20 = .ok (.aload_n 0, 1) := by decide +kernel
theorem dX13_wordOf_21 : decode cX13_wordOf 21 = .ok (.iload_n 1, 1) := by decide +kernel
theorem dX13_wordOf_22 : decode cX13_wordOf 22 = .ok (.iload_n 2, 1) := by decide +kernel
theorem dX13_wordOf_23 : decode cX13_wordOf 23 = .ok (.bipush 103, 2) := by decide +kernel
theorem dX13_wordOf_25 : decode cX13_wordOf 25 = .ok (.bipush 114, 2) := by decide +kernel
theorem dX13_wordOf_27 : decode cX13_wordOf 27 = .ok (.bipush 97, 2) := by decide +kernel
theorem dX13_wordOf_29 : decode cX13_wordOf 29 = .ok (.bipush 100, 2) := by decide +kernel
theorem dX13_wordOf_31 : decode cX13_wordOf 31 = .ok (.bipush 101, 2) := by decide +kernel
theorem dX13_wordOf_33 : decode cX13_wordOf 33 = .ok (.invokevirtual 217, 3) := by decide +kernel
theorem dX13_wordOf_36 : decode cX13_wordOf 36 = .ok (.ifCond .eq 5, 3) := by decide +kernel
theorem dX13_wordOf_39 : decode cX13_wordOf 39 = .ok (.iconst 2, 1) := by decide +kernel
theorem dX13_wordOf_40 : decode cX13_wordOf 40 = .ok (.ireturn, 1) := by decide +kernel
theorem dX13_wordOf_41 : decode cX13_wordOf 41 = .ok (.aload_n 0, 1) := by decide +kernel
theorem dX13_wordOf_42 : decode cX13_wordOf 42 = .ok (.iload_n 1, 1) := by decide +kernel
theorem dX13_wordOf_43 : decode cX13_wordOf 43 = .ok (.iload_n 2, 1) := by decide +kernel
theorem dX13_wordOf_44 : decode cX13_wordOf 44 = .ok (.bipush 112, 2) := by decide +kernel
theorem dX13_wordOf_46 : decode cX13_wordOf 46 = .ok (.bipush 97, 2) := by decide +kernel
theorem dX13_wordOf_48 : decode cX13_wordOf 48 = .ok (.bipush 99, 2) := by decide +kernel
theorem dX13_wordOf_50 : decode cX13_wordOf 50 = .ok (.bipush 107, 2) := by decide +kernel
theorem dX13_wordOf_52 : decode cX13_wordOf 52 = .ok (.iconst 0, 1) := by decide +kernel
theorem dX13_wordOf_53 : decode cX13_wordOf 53 = .ok (.invokevirtual 217, 3) := by decide +kernel
theorem dX13_wordOf_56 : decode cX13_wordOf 56 = .ok (.ifCond .eq 5, 3) := by decide +kernel
theorem dX13_wordOf_59 : decode cX13_wordOf 59 = .ok (.iconst 3, 1) := by decide +kernel
theorem dX13_wordOf_60 : decode cX13_wordOf 60 = .ok (.ireturn, 1) := by decide +kernel
theorem dX13_wordOf_61 : decode cX13_wordOf 61 = .ok (.aload_n 0, 1) := by decide +kernel
theorem dX13_wordOf_62 : decode cX13_wordOf 62 = .ok (.iload_n 1, 1) := by decide +kernel
theorem dX13_wordOf_63 : decode cX13_wordOf 63 = .ok (.iload_n 2, 1) := by decide +kernel
theorem dX13_wordOf_64 : decode cX13_wordOf 64 = .ok (.bipush 115, 2) := by decide +kernel
theorem dX13_wordOf_66 : decode cX13_wordOf 66 = .ok (.bipush 104, 2) := by decide +kernel
theorem dX13_wordOf_68 : decode cX13_wordOf 68 = .ok (.bipush 105, 2) := by decide +kernel
theorem dX13_wordOf_70 : decode cX13_wordOf 70 = .ok (.bipush 112, 2) := by decide +kernel
theorem dX13_wordOf_72 : decode cX13_wordOf 72 = .ok (.iconst 0, 1) := by decide +kernel
theorem dX13_wordOf_73 : decode cX13_wordOf 73 = .ok (.invokevirtual 217, 3) := by decide +kernel
theorem dX13_wordOf_76 : decode cX13_wordOf 76 = .ok (.ifCond .eq 5, 3) := by decide +kernel
theorem dX13_wordOf_79 : decode cX13_wordOf 79 = .ok (.iconst 4, 1) := by decide +kernel
theorem dX13_wordOf_80 : decode cX13_wordOf 80 = .ok (.ireturn, 1) := by decide +kernel
theorem dX13_wordOf_81 : decode cX13_wordOf 81 = .ok (.aload_n 0, 1) := by decide +kernel
theorem dX13_wordOf_82 : decode cX13_wordOf 82 = .ok (.iload_n 1, 1) := by decide +kernel
theorem dX13_wordOf_83 : decode cX13_wordOf 83 = .ok (.iload_n 2, 1) := by decide +kernel
theorem dX13_wordOf_84 : decode cX13_wordOf 84 = .ok (.bipush 100, 2) := by decide +kernel
theorem dX13_wordOf_86 : decode cX13_wordOf 86 = .ok (.bipush 114, 2) := by decide +kernel
theorem dX13_wordOf_88 : decode cX13_wordOf 88 = .ok (.bipush 111, 2) := by decide +kernel
theorem dX13_wordOf_90 : decode cX13_wordOf 90 = .ok (.bipush 112, 2) := by decide +kernel
theorem dX13_wordOf_92 : decode cX13_wordOf 92 = .ok (.iconst 0, 1) := by decide +kernel
theorem dX13_wordOf_93 : decode cX13_wordOf 93 = .ok (.invokevirtual 217, 3) := by decide +kernel
theorem dX13_wordOf_96 : decode cX13_wordOf 96 = .ok (.ifCond .eq 7, 3) := by decide +kernel
theorem dX13_wordOf_99 : decode cX13_wordOf 99 = .ok (.iconst 5, 1) := by decide +kernel
theorem dX13_wordOf_100 : decode cX13_wordOf 100 = .ok (.goto 4, 3) := by decide +kernel
theorem dX13_wordOf_103 : decode cX13_wordOf 103 = .ok (.iconst 0, 1) := by decide +kernel
theorem dX13_wordOf_104 : decode cX13_wordOf 104 = .ok (.ireturn, 1) := by decide +kernel
theorem dX13_takeArgument_0 : decode cX13_takeArgument 0 = .ok (.iconst 0, 1) := by decide +kernel
theorem dX13_takeArgument_1 : decode cX13_takeArgument 1 = .ok (.istore_n 3, 1) := by decide +kernel
theorem dX13_takeArgument_2 : decode cX13_takeArgument 2 = .ok (.iload_n 2, 1) := by decide +kernel
theorem dX13_takeArgument_3 : decode cX13_takeArgument 3 = .ok (.iload_n 1, 1) := by decide +kernel
theorem dX13_takeArgument_4 : decode cX13_takeArgument 4 = .ok (.isub, 1) := by decide +kernel
theorem dX13_takeArgument_5 : decode cX13_takeArgument 5 = .ok (.iconst 5, 1) := by decide +kernel
theorem dX13_takeArgument_6 : decode cX13_takeArgument 6 = .ok (.if_icmp .ge 7, 3) := by decide +kernel
theorem dX13_takeArgument_9 : decode cX13_takeArgument 9 = .ok (.iconst 1, 1) := by decide +kernel
theorem dX13_takeArgument_10 : decode cX13_takeArgument 10 = .ok (.goto 4, 3) := by decide +kernel
theorem dX13_takeArgument_13 : decode cX13_takeArgument 13 = .ok (.iconst 0, 1) := by decide +kernel
theorem dX13_takeArgument_14 : decode cX13_takeArgument 14 = .ok (.istore 4, 2) := by decide +kernel
theorem dX13_takeArgument_16 : decode cX13_takeArgument 16 = .ok (.iload_n 1, 1) := by decide +kernel
theorem dX13_takeArgument_17 : decode cX13_takeArgument 17 = .ok (.istore 5, 2) := by decide +kernel
theorem dX13_takeArgument_19 : decode cX13_takeArgument 19 = .ok (.iload 5, 2) := by decide +kernel
theorem dX13_takeArgument_21 : decode cX13_takeArgument 21 = .ok (.iload_n 2, 1) := by decide +kernel
theorem dX13_takeArgument_22 : decode cX13_takeArgument 22 = .ok (.if_icmp .ge 49, 3) := by decide +kernel
theorem dX13_takeArgument_25 : decode cX13_takeArgument 25 = .ok (.iload 4, 2) := by decide +kernel
theorem dX13_takeArgument_27 : decode cX13_takeArgument 27 = .ok (.ifCond .eq 44, 3) := by decide +kernel
theorem dX13_takeArgument_30 : decode cX13_takeArgument 30 = .ok (.aload_n 0, 1) := by decide +kernel
theorem dX13_takeArgument_31 : decode cX13_takeArgument 31 = .ok (.getfield 16, 3) := by decide +kernel
theorem dX13_takeArgument_34 : decode cX13_takeArgument 34 = .ok (.iload 5, 2) := by decide +kernel
theorem dX13_takeArgument_36 : decode cX13_takeArgument 36 = .ok (.iaload, 1) := by decide +kernel
theorem dX13_takeArgument_37 : decode cX13_takeArgument 37 = .ok (.i2l, 1) := by decide +kernel
theorem dX13_takeArgument_38 : decode cX13_takeArgument 38 = .ok (.ldc2_w 221, 3) := by decide +kernel
theorem dX13_takeArgument_41 : decode cX13_takeArgument 41 = .ok (.ldc2_w 223, 3) := by decide +kernel
theorem dX13_takeArgument_44 : decode cX13_takeArgument 44 = .ok (.invokestatic 37, 3) := by decide +kernel
theorem dX13_takeArgument_47 : decode cX13_takeArgument 47 = .ok (.istore 4, 2) := by decide +kernel
theorem dX13_takeArgument_49 : decode cX13_takeArgument 49 = .ok (.bipush 10, 2) := by decide +kernel
theorem dX13_takeArgument_51 : decode cX13_takeArgument 51 = .ok (.iload_n 3, 1) := by decide +kernel
theorem dX13_takeArgument_52 : decode cX13_takeArgument 52 = .ok (.imul, 1) := by decide +kernel
theorem dX13_takeArgument_53 : decode cX13_takeArgument 53 = .ok (.aload_n 0, 1) := by decide +kernel
theorem dX13_takeArgument_54 : decode cX13_takeArgument 54 = .ok (.getfield 16, 3) := by decide +kernel
theorem dX13_takeArgument_57 : decode cX13_takeArgument 57 = .ok (.iload 5, 2) := by decide +kernel
theorem dX13_takeArgument_59 : decode cX13_takeArgument 59 = .ok (.iaload, 1) := by decide +kernel
theorem dX13_takeArgument_60 : decode cX13_takeArgument 60 = .ok (.iadd, 1) := by decide +kernel
theorem dX13_takeArgument_61 : decode cX13_takeArgument 61 = .ok (.bipush 48, 2) := by decide +kernel
theorem dX13_takeArgument_63 : decode cX13_takeArgument 63 = .ok (.isub, 1) := by decide +kernel
theorem dX13_takeArgument_64 : decode cX13_takeArgument 64 = .ok (.istore_n 3, 1) := by decide +kernel
theorem dX13_takeArgument_65 : decode cX13_takeArgument 65 = .ok (.iinc 5 1, 3) := by decide +kernel
theorem dX13_takeArgument_68 : decode cX13_takeArgument 68 = .ok (.goto (-49), 3) := by decide +kernel
theorem dX13_takeArgument_71 : decode cX13_takeArgument 71 = .ok (.aload_n 0, 1) := by decide +kernel
theorem dX13_takeArgument_72 : decode cX13_takeArgument 72 = .ok (.aload_n 0, 1) := by decide +kernel
theorem dX13_takeArgument_73 : decode cX13_takeArgument 73 = .ok (.getfield 225, 3) := by decide +kernel
theorem dX13_takeArgument_76 : decode cX13_takeArgument 76 = .ok (.ifCond .eq 12, 3) := by decide +kernel
theorem dX13_takeArgument_79 : decode cX13_takeArgument 79 = .ok (.iload 4, 2) := by decide +kernel
theorem dX13_takeArgument_81 : decode cX13_takeArgument 81 = .ok (.ifCond .eq 7, 3) := by decide +kernel
theorem dX13_takeArgument_84 : decode cX13_takeArgument 84 = .ok (.iconst 1, 1) := by decide +kernel
theorem dX13_takeArgument_85 : decode cX13_takeArgument 85 = .ok (.goto 4, 3) := by decide +kernel
theorem dX13_takeArgument_88 : decode cX13_takeArgument 88 = .ok (.iconst 0, 1) := by decide +kernel
theorem dX13_takeArgument_89 : decode cX13_takeArgument 89 = .ok (.putfield 225, 3) := by decide +kernel
theorem dX13_takeArgument_92 : decode cX13_takeArgument 92 = .ok (.aload_n 0, 1) := by decide +kernel
theorem dX13_takeArgument_93 : decode cX13_takeArgument 93 = .ok (.getfield 20, 3) := by decide +kernel
theorem dX13_takeArgument_96 : decode cX13_takeArgument 96 = .ok (.aload_n 0, 1) := by decide +kernel
theorem dX13_takeArgument_97 : decode cX13_takeArgument 97 = .ok (.getfield 229, 3) := by decide +kernel
theorem dX13_takeArgument_100 : decode cX13_takeArgument 100 = .ok (.iload_n 3, 1) := by decide +kernel
theorem dX13_takeArgument_101 : decode cX13_takeArgument 101 = .ok (.iastore, 1) := by decide +kernel
theorem dX13_takeArgument_102 : decode cX13_takeArgument 102 = .ok (.aload_n 0, 1) := by decide +kernel
theorem dX13_takeArgument_103 : decode cX13_takeArgument 103 = .ok (.dup, 1) := by decide +kernel
theorem dX13_takeArgument_104 : decode cX13_takeArgument 104 = .ok (.getfield 229, 3) := by decide +kernel
theorem dX13_takeArgument_107 : decode cX13_takeArgument 107 = .ok (.iconst 1, 1) := by decide +kernel
theorem dX13_takeArgument_108 : decode cX13_takeArgument 108 = .ok (.iadd, 1) := by decide +kernel
theorem dX13_takeArgument_109 : decode cX13_takeArgument 109 = .ok (.putfield 229, 3) := by decide +kernel
theorem dX13_takeArgument_112 : decode cX13_takeArgument 112 = .ok (.return_, 1) := by decide +kernel
theorem dX13_read_0 : decode cX13_read 0 = .ok (.iload_n 1, 1) := by decide +kernel
theorem dX13_read_1 : decode cX13_read 1 = .ok (.istore_n 2, 1) := by decide +kernel
theorem dX13_read_2 : decode cX13_read 2 = .ok (.iconst 0, 1) := by decide +kernel
theorem dX13_read_3 : decode cX13_read 3 = .ok (.istore_n 3, 1) := by decide +kernel
theorem dX13_read_4 : decode cX13_read 4 = .ok (.aload_n 0, 1) := by decide +kernel
theorem dX13_read_5 : decode cX13_read 5 = .ok (.iconst 0, 1) := by decide +kernel
theorem dX13_read_6 : decode cX13_read 6 = .ok (.putfield 232, 3) := by decide +kernel
theorem dX13_read_9 : decode cX13_read 9 = .ok (.aload_n 0, 1) := by decide +kernel
theorem dX13_read_10 : decode cX13_read 10 = .ok (.iconst 0, 1) := by decide +kernel
theorem dX13_read_11 : decode cX13_read 11 = .ok (.putfield 229, 3) := by decide +kernel
theorem dX13_read_14 : decode cX13_read 14 = .ok (.aload_n 0, 1) := by decide +kernel
theorem dX13_read_15 : decode cX13_read 15 = .ok (.iconst 1, 1) := by decide +kernel
theorem dX13_read_16 : decode cX13_read 16 = .ok (.putfield 225, 3) := by decide +kernel
theorem dX13_read_19 : decode cX13_read 19 = .ok (.iload_n 2, 1) := by decide +kernel
theorem dX13_read_20 : decode cX13_read 20 = .ok (.aload_n 0, 1) := by decide +kernel
theorem dX13_read_21 : decode cX13_read 21 = .ok (.getfield 198, 3) := by decide +kernel
theorem dX13_read_24 : decode cX13_read 24 = .ok (.if_icmp .ge 134, 3) := by decide +kernel
theorem dX13_read_27 : decode cX13_read 27 = .ok (.aload_n 0, 1) := by decide +kernel
theorem dX13_read_28 : decode cX13_read 28 = .ok (.getfield 16, 3) := by decide +kernel
theorem dX13_read_31 : decode cX13_read 31 = .ok (.iload_n 2, 1) := by decide +kernel
theorem dX13_read_32 : decode cX13_read 32 = .ok (.iaload, 1) := by decide +kernel
theorem dX13_read_33 : decode cX13_read 33 = .ok (.bipush 59, 2) := by decide +kernel
theorem dX13_read_35 : decode cX13_read 35 = .ok (.if_icmp .eq 123, 3) := by decide +kernel
theorem dX13_read_38 : decode cX13_read 38 = .ok (.iload_n 2, 1) := by decide +kernel
theorem dX13_read_39 : decode cX13_read 39 = .ok (.istore 4, 2) := by decide +kernel
theorem dX13_read_41 : decode cX13_read 41 = .ok (.iload_n 2, 1) := by decide +kernel
theorem dX13_read_42 : decode cX13_read 42 = .ok (.aload_n 0, 1) := by decide +kernel
theorem dX13_read_43 : decode cX13_read 43 = .ok (.getfield 198, 3) := by decide +kernel
theorem dX13_read_46 : decode cX13_read 46 = .ok (.if_icmp .ge 31, 3) := by decide +kernel
theorem dX13_read_49 : decode cX13_read 49 = .ok (.aload_n 0, 1) := by decide +kernel
theorem dX13_read_50 : decode cX13_read 50 = .ok (.getfield 16, 3) := by decide +kernel
theorem dX13_read_53 : decode cX13_read 53 = .ok (.iload_n 2, 1) := by decide +kernel
theorem dX13_read_54 : decode cX13_read 54 = .ok (.iaload, 1) := by decide +kernel
theorem dX13_read_55 : decode cX13_read 55 = .ok (.bipush 59, 2) := by decide +kernel
theorem dX13_read_57 : decode cX13_read 57 = .ok (.if_icmp .eq 20, 3) := by decide +kernel
theorem dX13_read_60 : decode cX13_read 60 = .ok (.aload_n 0, 1) := by decide +kernel
theorem dX13_read_61 : decode cX13_read 61 = .ok (.getfield 16, 3) := by decide +kernel
theorem dX13_read_64 : decode cX13_read 64 = .ok (.iload_n 2, 1) := by decide +kernel
theorem dX13_read_65 : decode cX13_read 65 = .ok (.iaload, 1) := by decide +kernel
theorem dX13_read_66 : decode cX13_read 66 = .ok (.bipush 32, 2) := by decide +kernel
theorem dX13_read_68 : decode cX13_read 68 = .ok (.if_icmp .eq 9, 3) := by decide +kernel
theorem dX13_read_71 : decode cX13_read 71 = .ok (.iinc 2 1, 3) := by decide +kernel
theorem dX13_read_74 : decode cX13_read 74 = .ok (.goto (-33), 3) := by decide +kernel
theorem dX13_read_77 : decode cX13_read 77 = .ok (.iload_n 2, 1) := by decide +kernel
theorem dX13_read_78 : decode cX13_read 78 = .ok (.iload 4, 2) := by decide +kernel
theorem dX13_read_80 : decode cX13_read 80 = .ok (.if_icmp .le 21, 3) := by decide +kernel
theorem dX13_read_83 : decode cX13_read 83 = .ok (.iload_n 3, 1) := by decide +kernel
theorem dX13_read_84 : decode cX13_read 84 = .ok (.ifCond .ne 17, 3) := by decide +kernel
theorem dX13_read_87 : decode cX13_read 87 = .ok (.aload_n 0, 1) := by decide +kernel
theorem dX13_read_88 : decode cX13_read 88 = .ok (.aload_n 0, 1) := by decide +kernel
theorem dX13_read_89 : decode cX13_read 89 = .ok (.iload 4, 2) := by decide +kernel
theorem dX13_read_91 : decode cX13_read 91 = .ok (.iload_n 2, 1) := by decide +kernel
theorem dX13_read_92 : decode cX13_read 92 = .ok (.invokevirtual 235, 3) := by decide +kernel
theorem dX13_read_95 : decode cX13_read 95 = .ok (.putfield 232, 3) := by decide +kernel
theorem dX13_read_98 : decode cX13_read 98 = .ok (.goto 16, 3) := by decide +kernel
theorem dX13_read_101 : decode cX13_read 101 = .ok (.iload_n 2, 1) := by decide +kernel
theorem dX13_read_102 : decode cX13_read 102 = .ok (.iload 4, 2) := by decide +kernel
theorem dX13_read_104 : decode cX13_read 104 = .ok (.if_icmp .le 10, 3) := by decide +kernel
theorem dX13_read_107 : decode cX13_read 107 = .ok (.aload_n 0, 1) := by decide +kernel
theorem dX13_read_108 : decode cX13_read 108 = .ok (.iload 4, 2) := by decide +kernel
theorem dX13_read_110 : decode cX13_read 110 = .ok (.iload_n 2, 1) := by decide +kernel
theorem dX13_read_111 : decode cX13_read 111 = .ok (.invokevirtual 239, 3) := by decide +kernel
theorem dX13_read_114 : decode cX13_read 114 = .ok (.iload_n 3, 1) := by decide +kernel
theorem dX13_read_115 : decode cX13_read 115 = .ok (.iload_n 2, 1) := by decide +kernel
theorem dX13_read_116 : decode cX13_read 116 = .ok (.iload 4, 2) := by decide +kernel
theorem dX13_read_118 : decode cX13_read 118 = .ok (.if_icmp .le 7, 3) := by decide +kernel
theorem dX13_read_121 : decode cX13_read 121 = .ok (.iconst 1, 1) := by decide +kernel
theorem dX13_read_122 : decode cX13_read 122 = .ok (.goto 4, 3) := by decide +kernel
theorem dX13_read_125 : decode cX13_read 125 = .ok (.iconst 0, 1) := by decide +kernel
theorem dX13_read_126 : decode cX13_read 126 = .ok (.iadd, 1) := by decide +kernel
theorem dX13_read_127 : decode cX13_read 127 = .ok (.istore_n 3, 1) := by decide +kernel
theorem dX13_read_128 : decode cX13_read 128 = .ok (.iload_n 2, 1) := by decide +kernel
theorem dX13_read_129 : decode cX13_read 129 = .ok (.iload_n 2, 1) := by decide +kernel
theorem dX13_read_130 : decode cX13_read 130 = .ok (.aload_n 0, 1) := by decide +kernel
theorem dX13_read_131 : decode cX13_read 131 = .ok (.getfield 198, 3) := by decide +kernel
theorem dX13_read_134 : decode cX13_read 134 = .ok (.if_icmp .ge 18, 3) := by decide +kernel
theorem dX13_read_137 : decode cX13_read 137 = .ok (.aload_n 0, 1) := by decide +kernel
theorem dX13_read_138 : decode cX13_read 138 = .ok (.getfield 16, 3) := by decide +kernel
theorem dX13_read_141 : decode cX13_read 141 = .ok (.iload_n 2, 1) := by decide +kernel
theorem dX13_read_142 : decode cX13_read 142 = .ok (.iaload, 1) := by decide +kernel
theorem dX13_read_143 : decode cX13_read 143 = .ok (.bipush 32, 2) := by decide +kernel
theorem dX13_read_145 : decode cX13_read 145 = .ok (.if_icmp .ne 7, 3) := by decide +kernel
theorem dX13_read_148 : decode cX13_read 148 = .ok (.iconst 1, 1) := by decide +kernel
theorem dX13_read_149 : decode cX13_read 149 = .ok (.goto 4, 3) := by decide +kernel
theorem dX13_read_152 : decode cX13_read 152 = .ok (.iconst 0, 1) := by decide +kernel
theorem dX13_read_153 : decode cX13_read 153 = .ok (.iadd, 1) := by decide +kernel
theorem dX13_read_154 : decode cX13_read 154 = .ok (.istore_n 2, 1) := by decide +kernel
theorem dX13_read_155 : decode cX13_read 155 = .ok (.goto (-136), 3) := by decide +kernel
theorem dX13_read_158 : decode cX13_read 158 = .ok (.iload_n 2, 1) := by decide +kernel
theorem dX13_read_159 : decode cX13_read 159 = .ok (.ireturn, 1) := by decide +kernel
theorem dX13_errorKind_0 : decode cX13_errorKind 0 = .ok (.aload_n 0, 1) := by decide +kernel
theorem dX13_errorKind_1 : decode cX13_errorKind 1 = .ok (.getfield 232, 3) := by decide +kernel
theorem dX13_errorKind_4 : decode cX13_errorKind 4 = .ok (.iconst 1, 1) := by decide +kernel
theorem dX13_errorKind_5 : decode cX13_errorKind 5 = .ok (.if_icmp .eq 11, 3) := by decide +kernel
theorem dX13_errorKind_8 : decode cX13_errorKind 8 = .ok (.aload_n 0, 1) := by decide +kernel
theorem dX13_errorKind_9 : decode cX13_errorKind 9 = .ok (.getfield 232, 3) := by decide +kernel
theorem dX13_errorKind_12 : decode cX13_errorKind 12 = .ok (.iconst 5, 1) := by decide +kernel
theorem dX13_errorKind_13 : decode cX13_errorKind 13 = .ok (.if_icmp .ne 7, 3) := by decide +kernel
theorem dX13_errorKind_16 : decode cX13_errorKind 16 = .ok (.iconst 4, 1) := by decide +kernel
theorem dX13_errorKind_17 : decode cX13_errorKind 17 = .ok (.goto 28, 3) := by decide +kernel
theorem dX13_errorKind_20 : decode cX13_errorKind 20 = .ok (.aload_n 0, 1) := by decide +kernel
theorem dX13_errorKind_21 : decode cX13_errorKind 21 = .ok (.getfield 232, 3) := by decide +kernel
theorem dX13_errorKind_24 : decode cX13_errorKind 24 = .ok (.iconst 2, 1) := by decide +kernel
theorem dX13_errorKind_25 : decode cX13_errorKind 25 = .ok (.if_icmp .ne 7, 3) := by decide +kernel
theorem dX13_errorKind_28 : decode cX13_errorKind 28 = .ok (.iconst 1, 1) := by decide +kernel
theorem dX13_errorKind_29 : decode cX13_errorKind 29 = .ok (.goto 16, 3) := by decide +kernel
theorem dX13_errorKind_32 : decode cX13_errorKind 32 = .ok (.aload_n 0, 1) := by decide +kernel
theorem dX13_errorKind_33 : decode cX13_errorKind 33 = .ok (.getfield 232, 3) := by decide +kernel
theorem dX13_errorKind_36 : decode cX13_errorKind 36 = .ok (.iconst 4, 1) := by decide +kernel
theorem dX13_errorKind_37 : decode cX13_errorKind 37 = .ok (.if_icmp .ne 7, 3) := by decide +kernel
theorem dX13_errorKind_40 : decode cX13_errorKind 40 = .ok (.iconst 3, 1) := by decide +kernel
theorem dX13_errorKind_41 : decode cX13_errorKind 41 = .ok (.goto 4, 3) := by decide +kernel
theorem dX13_errorKind_44 : decode cX13_errorKind 44 = .ok (.iconst 0, 1) := by decide +kernel
theorem dX13_errorKind_45 : decode cX13_errorKind 45 = .ok (.istore_n 1, 1) := by decide +kernel
theorem dX13_errorKind_46 : decode cX13_errorKind 46 = .ok (.aload_n 0, 1) := by decide +kernel
theorem dX13_errorKind_47 : decode cX13_errorKind 47 = .ok (.getfield 232, 3) := by decide +kernel
theorem dX13_errorKind_50 : decode cX13_errorKind 50 = .ok (.ifCond .ne 7, 3) := by decide +kernel
theorem dX13_errorKind_53 : decode cX13_errorKind 53 = .ok (.iconst 1, 1) := by decide +kernel
theorem dX13_errorKind_54 : decode cX13_errorKind 54 = .ok (.goto 27, 3) := by decide +kernel
theorem dX13_errorKind_57 : decode cX13_errorKind 57 = .ok (.aload_n 0, 1) := by decide +kernel
theorem dX13_errorKind_58 : decode cX13_errorKind 58 = .ok (.getfield 229, 3) := by decide +kernel
theorem dX13_errorKind_61 : decode cX13_errorKind 61 = .ok (.iload_n 1, 1) := by decide +kernel
theorem dX13_errorKind_62 : decode cX13_errorKind 62 = .ok (.if_icmp .eq 7, 3) := by decide +kernel
theorem dX13_errorKind_65 : decode cX13_errorKind 65 = .ok (.iconst 2, 1) := by decide +kernel
theorem dX13_errorKind_66 : decode cX13_errorKind 66 = .ok (.goto 15, 3) := by decide +kernel
theorem dX13_errorKind_69 : decode cX13_errorKind 69 = .ok (.aload_n 0, 1) := by decide +kernel
theorem dX13_errorKind_70 : decode cX13_errorKind 70 = .ok (.getfield 225, 3) := by decide +kernel
theorem dX13_errorKind_73 : decode cX13_errorKind 73 = .ok (.ifCond .eq 7, 3) := by decide +kernel
theorem dX13_errorKind_76 : decode cX13_errorKind 76 = .ok (.iconst 0, 1) := by decide +kernel
theorem dX13_errorKind_77 : decode cX13_errorKind 77 = .ok (.goto 4, 3) := by decide +kernel
theorem dX13_errorKind_80 : decode cX13_errorKind 80 = .ok (.iconst 3, 1) := by decide +kernel
theorem dX13_errorKind_81 : decode cX13_errorKind 81 = .ok (.ireturn, 1) := by decide +kernel
theorem dX13_error_0 : decode cX13_error 0 = .ok (.iconst 0, 1) := by decide +kernel
theorem dX13_error_1 : decode cX13_error 1 = .ok (.istore_n 1, 1) := by decide +kernel
theorem dX13_error_2 : decode cX13_error 2 = .ok (.iconst 0, 1) := by decide +kernel
theorem dX13_error_3 : decode cX13_error 3 = .ok (.istore_n 2, 1) := by decide +kernel
theorem dX13_error_4 : decode cX13_error 4 = .ok (.iload_n 2, 1) := by decide +kernel
theorem dX13_error_5 : decode cX13_error 5 = .ok (.aload_n 0, 1) := by decide +kernel
theorem dX13_error_6 : decode cX13_error 6 = .ok (.getfield 198, 3) := by decide +kernel
theorem dX13_error_9 : decode cX13_error 9 = .ok (.if_icmp .gt 34, 3) := by decide +kernel
theorem dX13_error_12 : decode cX13_error 12 = .ok (.aload_n 0, 1) := by decide +kernel
theorem dX13_error_13 : decode cX13_error 13 = .ok (.iload_n 2, 1) := by decide +kernel
theorem dX13_error_14 : decode cX13_error 14 = .ok (.invokevirtual 243, 3) := by decide +kernel
theorem dX13_error_17 : decode cX13_error 17 = .ok (.iconst 1, 1) := by decide +kernel
theorem dX13_error_18 : decode cX13_error 18 = .ok (.iadd, 1) := by decide +kernel
theorem dX13_error_19 : decode cX13_error 19 = .ok (.istore_n 2, 1) := by decide +kernel
theorem dX13_error_20 : decode cX13_error 20 = .ok (.aload_n 0, 1) := by decide +kernel
theorem dX13_error_21 : decode cX13_error 21 = .ok (.invokevirtual 246, 3) := by decide +kernel
theorem dX13_error_24 : decode cX13_error 24 = .ok (.ifCond .le 13, 3) := by decide +kernel
theorem dX13_error_27 : decode cX13_error 27 = .ok (.bipush 10, 2) := by decide +kernel
theorem dX13_error_29 : decode cX13_error 29 = .ok (.iload_n 1, 1) := by decide +kernel
theorem dX13_error_30 : decode cX13_error 30 = .ok (.imul, 1) := by decide +kernel
theorem dX13_error_31 : decode cX13_error 31 = .ok (.aload_n 0, 1) := by decide +kernel
theorem dX13_error_32 : decode cX13_error 32 = .ok (.invokevirtual 246, 3) := by decide +kernel
theorem dX13_error_35 : decode cX13_error 35 = .ok (.iadd, 1) := by decide +kernel
theorem dX13_error_36 : decode cX13_error 36 = .ok (.ireturn, 1) := by decide +kernel
theorem dX13_error_37 : decode cX13_error 37 = .ok (.iinc 1 1, 3) := by decide +kernel
theorem dX13_error_40 : decode cX13_error 40 = .ok (.goto (-36), 3) := by decide +kernel
theorem dX13_error_43 : decode cX13_error 43 = .ok (.iconst (-1), 1) := by decide +kernel
theorem dX13_error_44 : decode cX13_error 44 = .ok (.ireturn, 1) := by decide +kernel
theorem dX13_firstError_0 : decode cX13_firstError 0 = .ok (.aload_n 0, 1) := by decide +kernel
theorem dX13_firstError_1 : decode cX13_firstError 1 = .ok (.iconst 0, 1) := by decide +kernel
theorem dX13_firstError_2 : decode cX13_firstError 2 = .ok (.putfield 31, 3) := by decide +kernel
theorem dX13_firstError_5 : decode cX13_firstError 5 = .ok (.aload_n 0, 1) := by decide +kernel
theorem dX13_firstError_6 : decode cX13_firstError 6 = .ok (.invokevirtual 249, 3) := by decide +kernel
theorem dX13_firstError_9 : decode cX13_firstError 9 = .ok (.ireturn, 1) := by decide +kernel
theorem dX13_isDone_0 : decode cX13_isDone 0 = .ok (.aload_n 0, 1) := by decide +kernel
theorem dX13_isDone_1 : decode cX13_isDone 1 = .ok (.getfield 20, 3) := by decide +kernel
theorem dX13_isDone_4 : decode cX13_isDone 4 = .ok (.iconst 0, 1) := by decide +kernel
theorem dX13_isDone_5 : decode cX13_isDone 5 = .ok (.iaload, 1) := by decide +kernel
theorem dX13_isDone_6 : decode cX13_isDone 6 = .ok (.istore_n 1, 1) := by decide +kernel
theorem dX13_isDone_7 : decode cX13_isDone 7 = .ok (.aload_n 0, 1) := by decide +kernel
theorem dX13_isDone_8 : decode cX13_isDone 8 = .ok (.getfield 20, 3) := by decide +kernel
theorem dX13_isDone_11 : decode cX13_isDone 11 = .ok (.iconst 1, 1) := by decide +kernel
theorem dX13_isDone_12 : decode cX13_isDone 12 = .ok (.iaload, 1) := by decide +kernel
theorem dX13_isDone_13 : decode cX13_isDone 13 = .ok (.istore_n 2, 1) := by decide +kernel
theorem dX13_isDone_14 : decode cX13_isDone 14 = .ok (.aload_n 0, 1) := by decide +kernel
theorem dX13_isDone_15 : decode cX13_isDone 15 = .ok (.getfield 20, 3) := by decide +kernel
theorem dX13_isDone_18 : decode cX13_isDone 18 = .ok (.iconst 2, 1) := by decide +kernel
theorem dX13_isDone_19 : decode cX13_isDone 19 = .ok (.iaload, 1) := by decide +kernel
theorem dX13_isDone_20 : decode cX13_isDone 20 = .ok (.istore_n 3, 1) := by decide +kernel
theorem dX13_isDone_21 : decode cX13_isDone 21 = .ok (.aload_n 0, 1) := by decide +kernel
theorem dX13_isDone_22 : decode cX13_isDone 22 = .ok (.getfield 20, 3) := by decide +kernel
theorem dX13_isDone_25 : decode cX13_isDone 25 = .ok (.iconst 3, 1) := by decide +kernel
theorem dX13_isDone_26 : decode cX13_isDone 26 = .ok (.iaload, 1) := by decide +kernel
theorem dX13_isDone_27 : decode cX13_isDone 27 = .ok (.istore 4, 2) := by decide +kernel
theorem dX13_isDone_29 : decode cX13_isDone 29 = .ok (.aload_n 0, 1) := by decide +kernel
theorem dX13_isDone_30 : decode cX13_isDone 30 = .ok (.getfield 232, 3) := by decide +kernel
theorem dX13_isDone_33 : decode cX13_isDone 33 = .ok (.iconst 1, 1) := by decide +kernel
theorem dX13_isDone_34 : decode cX13_isDone 34 = .ok (.if_icmp .ne 15, 3) := by decide +kernel
theorem dX13_isDone_37 : decode cX13_isDone 37 = .ok (.aload_n 0, 1) := by decide +kernel
theorem dX13_isDone_38 : decode cX13_isDone 38 = .ok (.iload_n 1, 1) := by decide +kernel
theorem dX13_isDone_39 : decode cX13_isDone 39 = .ok (.iload_n 2, 1) := by decide +kernel
theorem dX13_isDone_40 : decode cX13_isDone 40 = .ok (.iload_n 3, 1) := by decide +kernel
theorem dX13_isDone_41 : decode cX13_isDone 41 = .ok (.iload 4, 2) := by decide +kernel
theorem dX13_isDone_43 : decode cX13_isDone 43 = .ok (.invokevirtual 108, 3) := by decide +kernel
theorem dX13_isDone_46 : decode cX13_isDone 46 = .ok (.goto 58, 3) := by decide +kernel
theorem dX13_isDone_49 : decode cX13_isDone 49 = .ok (.aload_n 0, 1) := by decide +kernel
theorem dX13_isDone_50 : decode cX13_isDone 50 = .ok (.getfield 232, 3) := by decide +kernel
theorem dX13_isDone_53 : decode cX13_isDone 53 = .ok (.iconst 2, 1) := by decide +kernel
theorem dX13_isDone_54 : decode cX13_isDone 54 = .ok (.if_icmp .ne 11, 3) := by decide +kernel
theorem dX13_isDone_57 : decode cX13_isDone 57 = .ok (.aload_n 0, 1) := by decide +kernel
theorem dX13_isDone_58 : decode cX13_isDone 58 = .ok (.iload_n 1, 1) := by decide +kernel
theorem dX13_isDone_59 : decode cX13_isDone 59 = .ok (.invokevirtual 128, 3) := by decide +kernel
theorem dX13_isDone_62 : decode cX13_isDone 62 = .ok (.goto 42, 3) := by decide +kernel
theorem dX13_isDone_65 : decode cX13_isDone 65 = .ok (.aload_n 0, 1) := by decide +kernel
theorem dX13_isDone_66 : decode cX13_isDone 66 = .ok (.getfield 232, 3) := by decide +kernel
theorem dX13_isDone_69 : decode cX13_isDone 69 = .ok (.iconst 4, 1) := by decide +kernel
theorem dX13_isDone_70 : decode cX13_isDone 70 = .ok (.if_icmp .ne 13, 3) := by decide +kernel
theorem dX13_isDone_73 : decode cX13_isDone 73 = .ok (.aload_n 0, 1) := by decide +kernel
theorem dX13_isDone_74 : decode cX13_isDone 74 = .ok (.iload_n 1, 1) := by decide +kernel
theorem dX13_isDone_75 : decode cX13_isDone 75 = .ok (.iload_n 2, 1) := by decide +kernel
theorem dX13_isDone_76 : decode cX13_isDone 76 = .ok (.iload_n 3, 1) := by decide +kernel
theorem dX13_isDone_77 : decode cX13_isDone 77 = .ok (.invokevirtual 160, 3) := by decide +kernel
theorem dX13_isDone_80 : decode cX13_isDone 80 = .ok (.goto 24, 3) := by decide +kernel
theorem dX13_isDone_83 : decode cX13_isDone 83 = .ok (.aload_n 0, 1) := by decide +kernel
theorem dX13_isDone_84 : decode cX13_isDone 84 = .ok (.getfield 232, 3) := by decide +kernel
theorem dX13_isDone_87 : decode cX13_isDone 87 = .ok (.iconst 5, 1) := by decide +kernel
theorem dX13_isDone_88 : decode cX13_isDone 88 = .ok (.if_icmp .ne 15, 3) := by decide +kernel
theorem dX13_isDone_91 : decode cX13_isDone 91 = .ok (.aload_n 0, 1) := by decide +kernel
theorem dX13_isDone_92 : decode cX13_isDone 92 = .ok (.iload_n 1, 1) := by decide +kernel
theorem dX13_isDone_93 : decode cX13_isDone 93 = .ok (.iload_n 2, 1) := by decide +kernel
theorem dX13_isDone_94 : decode cX13_isDone 94 = .ok (.iload_n 3, 1) := by decide +kernel
theorem dX13_isDone_95 : decode cX13_isDone 95 = .ok (.iload 4, 2) := by decide +kernel
theorem dX13_isDone_97 : decode cX13_isDone 97 = .ok (.invokevirtual 170, 3) := by decide +kernel
theorem dX13_isDone_100 : decode cX13_isDone 100 = .ok (.goto 4, 3) := by decide +kernel
theorem dX13_isDone_103 : decode cX13_isDone 103 = .ok (.iconst 0, 1) := by decide +kernel
theorem dX13_isDone_104 : decode cX13_isDone 104 = .ok (.istore 5, 2) := by decide +kernel
theorem dX13_isDone_106 : decode cX13_isDone 106 = .ok (.iload 5, 2) := by decide +kernel
theorem dX13_isDone_108 : decode cX13_isDone 108 = .ok (.ifCond .le 5, 3) := by decide +kernel
theorem dX13_isDone_111 : decode cX13_isDone 111 = .ok (.iconst 0, 1) := by decide +kernel
theorem dX13_isDone_112 : decode cX13_isDone 112 = .ok (.ireturn, 1) := by decide +kernel
theorem dX13_isDone_113 : decode cX13_isDone 113 = .ok (.aload_n 0, 1) := by decide +kernel
theorem dX13_isDone_114 : decode cX13_isDone 114 = .ok (.getfield 232, 3) := by decide +kernel
theorem dX13_isDone_117 : decode cX13_isDone 117 = .ok (.iconst 1, 1) := by decide +kernel
theorem dX13_isDone_118 : decode cX13_isDone 118 = .ok (.if_icmp .ne 15, 3) := by decide +kernel
theorem dX13_isDone_121 : decode cX13_isDone 121 = .ok (.aload_n 0, 1) := by decide +kernel
theorem dX13_isDone_122 : decode cX13_isDone 122 = .ok (.iload_n 1, 1) := by decide +kernel
theorem dX13_isDone_123 : decode cX13_isDone 123 = .ok (.iload_n 2, 1) := by decide +kernel
theorem dX13_isDone_124 : decode cX13_isDone 124 = .ok (.iload_n 3, 1) := by decide +kernel
theorem dX13_isDone_125 : decode cX13_isDone 125 = .ok (.iload 4, 2) := by decide +kernel
theorem dX13_isDone_127 : decode cX13_isDone 127 = .ok (.invokevirtual 111, 3) := by decide +kernel
theorem dX13_isDone_130 : decode cX13_isDone 130 = .ok (.goto 61, 3) := by decide +kernel
theorem dX13_isDone_133 : decode cX13_isDone 133 = .ok (.aload_n 0, 1) := by decide +kernel
theorem dX13_isDone_134 : decode cX13_isDone 134 = .ok (.getfield 232, 3) := by decide +kernel
theorem dX13_isDone_137 : decode cX13_isDone 137 = .ok (.iconst 2, 1) := by decide +kernel
theorem dX13_isDone_138 : decode cX13_isDone 138 = .ok (.if_icmp .ne 11, 3) := by decide +kernel
theorem dX13_isDone_141 : decode cX13_isDone 141 = .ok (.aload_n 0, 1) := by decide +kernel
theorem dX13_isDone_142 : decode cX13_isDone 142 = .ok (.iload_n 1, 1) := by decide +kernel
theorem dX13_isDone_143 : decode cX13_isDone 143 = .ok (.invokevirtual 131, 3) := by decide +kernel
theorem dX13_isDone_146 : decode cX13_isDone 146 = .ok (.goto 45, 3) := by decide +kernel
theorem dX13_isDone_149 : decode cX13_isDone 149 = .ok (.aload_n 0, 1) := by decide +kernel
theorem dX13_isDone_150 : decode cX13_isDone 150 = .ok (.getfield 232, 3) := by decide +kernel
theorem dX13_isDone_153 : decode cX13_isDone 153 = .ok (.iconst 3, 1) := by decide +kernel
theorem dX13_isDone_154 : decode cX13_isDone 154 = .ok (.if_icmp .ne 10, 3) := by decide +kernel
theorem dX13_isDone_157 : decode cX13_isDone 157 = .ok (.aload_n 0, 1) := by decide +kernel
theorem dX13_isDone_158 : decode cX13_isDone 158 = .ok (.invokevirtual 134, 3) := by decide +kernel
theorem dX13_isDone_161 : decode cX13_isDone 161 = .ok (.goto 30, 3) := by decide +kernel
theorem dX13_isDone_164 : decode cX13_isDone 164 = .ok (.aload_n 0, 1) := by decide +kernel
theorem dX13_isDone_165 : decode cX13_isDone 165 = .ok (.getfield 232, 3) := by decide +kernel
theorem dX13_isDone_168 : decode cX13_isDone 168 = .ok (.iconst 4, 1) := by decide +kernel
theorem dX13_isDone_169 : decode cX13_isDone 169 = .ok (.if_icmp .ne 13, 3) := by decide +kernel
theorem dX13_isDone_172 : decode cX13_isDone 172 = .ok (.aload_n 0, 1) := by decide +kernel
theorem dX13_isDone_173 : decode cX13_isDone 173 = .ok (.iload_n 1, 1) := by decide +kernel
theorem dX13_isDone_174 : decode cX13_isDone 174 = .ok (.iload_n 2, 1) := by decide +kernel
theorem dX13_isDone_175 : decode cX13_isDone 175 = .ok (.iload_n 3, 1) := by decide +kernel
theorem dX13_isDone_176 : decode cX13_isDone 176 = .ok (.invokevirtual 163, 3) := by decide +kernel
theorem dX13_isDone_179 : decode cX13_isDone 179 = .ok (.goto 12, 3) := by decide +kernel
theorem dX13_isDone_182 : decode cX13_isDone 182 = .ok (.aload_n 0, 1) := by decide +kernel
theorem dX13_isDone_183 : decode cX13_isDone 183 = .ok (.iload_n 1, 1) := by decide +kernel
theorem dX13_isDone_184 : decode cX13_isDone 184 = .ok (.iload_n 2, 1) := by decide +kernel
theorem dX13_isDone_185 : decode cX13_isDone 185 = .ok (.iload_n 3, 1) := by decide +kernel
theorem dX13_isDone_186 : decode cX13_isDone 186 = .ok (.iload 4, 2) := by decide +kernel
theorem dX13_isDone_188 : decode cX13_isDone 188 = .ok (.invokevirtual 173, 3) := by decide +kernel
theorem dX13_isDone_191 : decode cX13_isDone 191 = .ok (.istore 6, 2) := by decide +kernel
theorem dX13_isDone_193 : decode cX13_isDone 193 = .ok (.iconst 1, 1) := by decide +kernel
theorem dX13_isDone_194 : decode cX13_isDone 194 = .ok (.ireturn, 1) := by decide +kernel
theorem dX13_execute_0 : decode cX13_execute 0 = .ok (.aload_n 0, 1) := by decide +kernel
theorem dX13_execute_1 : decode cX13_execute 1 = .ok (.iconst 0, 1) := by decide +kernel
theorem dX13_execute_2 : decode cX13_execute 2 = .ok (.putfield 31, 3) := by decide +kernel
theorem dX13_execute_5 : decode cX13_execute 5 = .ok (.aload_n 0, 1) := by decide +kernel
theorem dX13_execute_6 : decode cX13_execute 6 = .ok (.invokevirtual 249, 3) := by decide +kernel
theorem dX13_execute_9 : decode cX13_execute 9 = .ok (.iconst (-1), 1) := by decide +kernel
theorem dX13_execute_10 : decode cX13_execute 10 = .ok (.if_icmp .eq 9, 3) := by decide +kernel
theorem dX13_execute_13 : decode cX13_execute 13 = .ok (.aload_n 0, 1) := by decide +kernel
theorem dX13_execute_14 : decode cX13_execute 14 = .ok (.iconst 1, 1) := by decide +kernel
theorem dX13_execute_15 : decode cX13_execute 15 = .ok (.invokevirtual 54, 3) := by decide +kernel
theorem dX13_execute_18 : decode cX13_execute 18 = .ok (.ireturn, 1) := by decide +kernel
theorem dX13_execute_19 : decode cX13_execute 19 = .ok (.aload_n 0, 1) := by decide +kernel
theorem dX13_execute_20 : decode cX13_execute 20 = .ok (.invokevirtual 60, 3) := by decide +kernel
theorem dX13_execute_23 : decode cX13_execute 23 = .ok (.iconst 0, 1) := by decide +kernel
theorem dX13_execute_24 : decode cX13_execute 24 = .ok (.istore_n 1, 1) := by decide +kernel
theorem dX13_execute_25 : decode cX13_execute 25 = .ok (.iconst 0, 1) := by decide +kernel
theorem dX13_execute_26 : decode cX13_execute 26 = .ok (.istore_n 2, 1) := by decide +kernel
theorem dX13_execute_27 : decode cX13_execute 27 = .ok (.iconst 1, 1) := by decide +kernel
theorem dX13_execute_28 : decode cX13_execute 28 = .ok (.istore_n 3, 1) := by decide +kernel
theorem dX13_execute_29 : decode cX13_execute 29 = .ok (.iload_n 2, 1) := by decide +kernel
theorem dX13_execute_30 : decode cX13_execute 30 = .ok (.aload_n 0, 1) := by decide +kernel
theorem dX13_execute_31 : decode cX13_execute 31 = .ok (.getfield 198, 3) := by decide +kernel
theorem dX13_execute_34 : decode cX13_execute 34 = .ok (.if_icmp .gt 35, 3) := by decide +kernel
theorem dX13_execute_37 : decode cX13_execute 37 = .ok (.iload_n 3, 1) := by decide +kernel
theorem dX13_execute_38 : decode cX13_execute 38 = .ok (.ifCond .eq 31, 3) := by decide +kernel
theorem dX13_execute_41 : decode cX13_execute 41 = .ok (.aload_n 0, 1) := by decide +kernel
theorem dX13_execute_42 : decode cX13_execute 42 = .ok (.iload_n 2, 1) := by decide +kernel
theorem dX13_execute_43 : decode cX13_execute 43 = .ok (.invokevirtual 243, 3) := by decide +kernel
theorem dX13_execute_46 : decode cX13_execute 46 = .ok (.iconst 1, 1) := by decide +kernel
theorem dX13_execute_47 : decode cX13_execute 47 = .ok (.iadd, 1) := by decide +kernel
theorem dX13_execute_48 : decode cX13_execute 48 = .ok (.istore_n 2, 1) := by decide +kernel
theorem dX13_execute_49 : decode cX13_execute 49 = .ok (.aload_n 0, 1) := by decide +kernel
theorem dX13_execute_50 : decode cX13_execute 50 = .ok (.invokevirtual 252, 3) := by decide +kernel
theorem dX13_execute_53 : decode cX13_execute 53 = .ok (.istore_n 3, 1) := by decide +kernel
theorem dX13_execute_54 : decode cX13_execute 54 = .ok (.iload_n 1, 1) := by decide +kernel
theorem dX13_execute_55 : decode cX13_execute 55 = .ok (.iload_n 3, 1) := by decide +kernel
theorem dX13_execute_56 : decode cX13_execute 56 = .ok (.ifCond .eq 7, 3) := by decide +kernel
theorem dX13_execute_59 : decode cX13_execute 59 = .ok (.iconst 1, 1) := by decide +kernel
theorem dX13_execute_60 : decode cX13_execute 60 = .ok (.goto 4, 3) := by decide +kernel
theorem dX13_execute_63 : decode cX13_execute 63 = .ok (.iconst 0, 1) := by decide +kernel
theorem dX13_execute_64 : decode cX13_execute 64 = .ok (.iadd, 1) := by decide +kernel
theorem dX13_execute_65 : decode cX13_execute 65 = .ok (.istore_n 1, 1) := by decide +kernel
theorem dX13_execute_66 : decode cX13_execute 66 = .ok (.goto (-37), 3) := by decide +kernel
theorem dX13_execute_69 : decode cX13_execute 69 = .ok (.aload_n 0, 1) := by decide +kernel
theorem dX13_execute_70 : decode cX13_execute 70 = .ok (.iconst 0, 1) := by decide +kernel
theorem dX13_execute_71 : decode cX13_execute 71 = .ok (.putfield 198, 3) := by decide +kernel
theorem dX13_execute_74 : decode cX13_execute 74 = .ok (.iload_n 1, 1) := by decide +kernel
theorem dX13_execute_75 : decode cX13_execute 75 = .ok (.ireturn, 1) := by decide +kernel
theorem dJx29ce0_ordinal_8abf5_0 : decode cJx29ce0_ordinal_8abf5 0 = .ok (.aload_n 0, 1) := by decide +kernel
theorem dJx29ce0_ordinal_8abf5_1 : decode cJx29ce0_ordinal_8abf5 1 = .ok (.getfield 7, 3) := by decide +kernel
theorem dJx29ce0_ordinal_8abf5_4 : decode cJx29ce0_ordinal_8abf5 4 = .ok (.ireturn, 1) := by decide +kernel
theorem dJ9_floorDiv_7cf53_0 : decode cJ9_floorDiv_7cf53 0 = .ok (.iload_n 0, 1) := by decide +kernel
theorem dJ9_floorDiv_7cf53_1 : decode cJ9_floorDiv_7cf53 1 = .ok (.iload_n 1, 1) := by decide +kernel
theorem dJ9_floorDiv_7cf53_2 : decode cJ9_floorDiv_7cf53 2 = .ok (.idiv, 1) := by decide +kernel
theorem dJ9_floorDiv_7cf53_3 : decode cJ9_floorDiv_7cf53 3 = .ok (.istore_n 2, 1) := by decide +kernel
theorem dJ9_floorDiv_7cf53_4 : decode cJ9_floorDiv_7cf53 4 = .ok (.iload_n 0, 1) := by decide +kernel
theorem dJ9_floorDiv_7cf53_5 : decode cJ9_floorDiv_7cf53 5 = .ok (.iload_n 1, 1) := by decide +kernel
theorem dJ9_floorDiv_7cf53_6 : decode cJ9_floorDiv_7cf53 6 = .ok (.ixor, 1) := by decide +kernel
theorem dJ9_floorDiv_7cf53_7 : decode cJ9_floorDiv_7cf53 7 = .ok (.ifCond .ge 14, 3) := by decide +kernel
theorem dJ9_floorDiv_7cf53_10 : decode cJ9_floorDiv_7cf53 10 = .ok (.iload_n 2, 1) := by decide +kernel
theorem dJ9_floorDiv_7cf53_11 : decode cJ9_floorDiv_7cf53 11 = .ok (.iload_n 1, 1) := by decide +kernel
theorem dJ9_floorDiv_7cf53_12 : decode cJ9_floorDiv_7cf53 12 = .ok (.imul, 1) := by decide +kernel
theorem dJ9_floorDiv_7cf53_13 : decode cJ9_floorDiv_7cf53 13 = .ok (.iload_n 0, 1) := by decide +kernel
theorem dJ9_floorDiv_7cf53_14 : decode cJ9_floorDiv_7cf53 14 = .ok (.if_icmp .eq 7, 3) := by decide +kernel
theorem dJ9_floorDiv_7cf53_17 : decode cJ9_floorDiv_7cf53 17 = .ok (.iload_n 2, 1) := by decide +kernel
theorem dJ9_floorDiv_7cf53_18 : decode cJ9_floorDiv_7cf53 18 = .ok (.iconst 1, 1) := by decide +kernel
theorem dJ9_floorDiv_7cf53_19 : decode cJ9_floorDiv_7cf53 19 = .ok (.isub, 1) := by decide +kernel
theorem dJ9_floorDiv_7cf53_20 : decode cJ9_floorDiv_7cf53 20 = .ok (.ireturn, 1) := by decide +kernel
theorem dJ9_floorDiv_7cf53_21 : decode cJ9_floorDiv_7cf53 21 = .ok (.iload_n 2, 1) := by decide +kernel
theorem dJ9_floorDiv_7cf53_22 : decode cJ9_floorDiv_7cf53 22 = .ok (.ireturn, 1) := by decide +kernel
theorem dJ9_max_7cf53_0 : decode cJ9_max_7cf53 0 = .ok (.iload_n 0, 1) := by decide +kernel
theorem dJ9_max_7cf53_1 : decode cJ9_max_7cf53 1 = .ok (.iload_n 1, 1) := by decide +kernel
theorem dJ9_max_7cf53_2 : decode cJ9_max_7cf53 2 = .ok (.if_icmp .lt 7, 3) := by decide +kernel
theorem dJ9_max_7cf53_5 : decode cJ9_max_7cf53 5 = .ok (.iload_n 0, 1) := by decide +kernel
theorem dJ9_max_7cf53_6 : decode cJ9_max_7cf53 6 = .ok (.goto 4, 3) := by decide +kernel
theorem dJ9_max_7cf53_9 : decode cJ9_max_7cf53 9 = .ok (.iload_n 1, 1) := by decide +kernel
theorem dJ9_max_7cf53_10 : decode cJ9_max_7cf53 10 = .ok (.ireturn, 1) := by decide +kernel
theorem dJ9_min_7cf53_0 : decode cJ9_min_7cf53 0 = .ok (.iload_n 0, 1) := by decide +kernel
theorem dJ9_min_7cf53_1 : decode cJ9_min_7cf53 1 = .ok (.iload_n 1, 1) := by decide +kernel
theorem dJ9_min_7cf53_2 : decode cJ9_min_7cf53 2 = .ok (.if_icmp .gt 7, 3) := by decide +kernel
theorem dJ9_min_7cf53_5 : decode cJ9_min_7cf53 5 = .ok (.iload_n 0, 1) := by decide +kernel
theorem dJ9_min_7cf53_6 : decode cJ9_min_7cf53 6 = .ok (.goto 4, 3) := by decide +kernel
theorem dJ9_min_7cf53_9 : decode cJ9_min_7cf53 9 = .ok (.iload_n 1, 1) := by decide +kernel
theorem dJ9_min_7cf53_10 : decode cJ9_min_7cf53 10 = .ok (.ireturn, 1) := by decide +kernel
theorem dJ0_length_8abf5_0 : decode cJ0_length_8abf5 0 = .ok (.aload_n 0, 1) := by decide +kernel
theorem dJ0_length_8abf5_1 : decode cJ0_length_8abf5 1 = .ok (.getfield 9, 3) := by decide +kernel
theorem dJ0_length_8abf5_4 : decode cJ0_length_8abf5 4 = .ok (.arraylength, 1) := by decide +kernel
theorem dJ0_length_8abf5_5 : decode cJ0_length_8abf5 5 = .ok (.aload_n 0, 1) := by decide +kernel
theorem dJ0_length_8abf5_6 : decode cJ0_length_8abf5 6 = .ok (.invokevirtual 335, 3) := by decide +kernel
theorem dJ0_length_8abf5_9 : decode cJ0_length_8abf5 9 = .ok (.ishr, 1) := by decide +kernel
theorem dJ0_length_8abf5_10 : decode cJ0_length_8abf5 10 = .ok (.ireturn, 1) := by decide +kernel
theorem dJ0_charAt_5068e_0 : decode cJ0_charAt_5068e 0 = .ok (.aload_n 0, 1) := by decide +kernel
theorem dJ0_charAt_5068e_1 : decode cJ0_charAt_5068e 1 = .ok (.invokevirtual 492, 3) := by decide +kernel
theorem dJ0_charAt_5068e_4 : decode cJ0_charAt_5068e 4 = .ok (.ifCond .eq 12, 3) := by decide +kernel
theorem dJ0_charAt_5068e_7 : decode cJ0_charAt_5068e 7 = .ok (.aload_n 0, 1) := by decide +kernel
theorem dJ0_charAt_5068e_8 : decode cJ0_charAt_5068e 8 = .ok (.getfield 9, 3) := by decide +kernel
theorem dJ0_charAt_5068e_11 : decode cJ0_charAt_5068e 11 = .ok (.iload_n 1, 1) := by decide +kernel
theorem dJ0_charAt_5068e_12 : decode cJ0_charAt_5068e 12 = .ok (.invokestatic 495, 3) := by decide +kernel
theorem dJ0_charAt_5068e_15 : decode cJ0_charAt_5068e 15 = .ok (.ireturn, 1) := by decide +kernel
theorem dJ0_charAt_5068e_16 : decode cJ0_charAt_5068e 16 = .ok (.aload_n 0, 1) := by decide +kernel
theorem dJ0_charAt_5068e_17 : decode cJ0_charAt_5068e 17 = .ok (.getfield 9, 3) := by decide +kernel
theorem dJ0_charAt_5068e_20 : decode cJ0_charAt_5068e 20 = .ok (.iload_n 1, 1) := by decide +kernel
theorem dJ0_charAt_5068e_21 : decode cJ0_charAt_5068e 21 = .ok (.invokestatic 498, 3) := by decide +kernel
theorem dJ0_charAt_5068e_24 : decode cJ0_charAt_5068e 24 = .ok (.ireturn, 1) := by decide +kernel
theorem dJ0_coder_7d493_0 : decode cJ0_coder_7d493 0 = .ok (.getstatic 38, 3) := by decide +kernel
theorem dJ0_coder_7d493_3 : decode cJ0_coder_7d493 3 = .ok (.ifCond .eq 10, 3) := by decide +kernel
theorem dJ0_coder_7d493_6 : decode cJ0_coder_7d493 6 = .ok (.aload_n 0, 1) := by decide +kernel
theorem dJ0_coder_7d493_7 : decode cJ0_coder_7d493 7 = .ok (.getfield 15, 3) := by decide +kernel
theorem dJ0_coder_7d493_10 : decode cJ0_coder_7d493 10 = .ok (.goto 4, 3) := by decide +kernel
theorem dJ0_coder_7d493_13 : decode cJ0_coder_7d493 13 = .ok (.iconst 1, 1) := by decide +kernel
theorem dJ0_coder_7d493_14 : decode cJ0_coder_7d493 14 = .ok (.ireturn, 1) := by decide +kernel
theorem dJ0_isLatin1_aae02_0 : decode cJ0_isLatin1_aae02 0 = .ok (.getstatic 38, 3) := by decide +kernel
theorem dJ0_isLatin1_aae02_3 : decode cJ0_isLatin1_aae02 3 = .ok (.ifCond .eq 14, 3) := by decide +kernel
theorem dJ0_isLatin1_aae02_6 : decode cJ0_isLatin1_aae02 6 = .ok (.aload_n 0, 1) := by decide +kernel
theorem dJ0_isLatin1_aae02_7 : decode cJ0_isLatin1_aae02 7 = .ok (.getfield 15, 3) := by decide +kernel
theorem dJ0_isLatin1_aae02_10 : decode cJ0_isLatin1_aae02 10 = .ok (.ifCond .ne 7, 3) := by decide +kernel
theorem dJ0_isLatin1_aae02_13 : decode cJ0_isLatin1_aae02 13 = .ok (.iconst 1, 1) := by decide +kernel
theorem dJ0_isLatin1_aae02_14 : decode cJ0_isLatin1_aae02 14 = .ok (.goto 4, 3) := by decide +kernel
theorem dJ0_isLatin1_aae02_17 : decode cJ0_isLatin1_aae02 17 = .ok (.iconst 0, 1) := by decide +kernel
theorem dJ0_isLatin1_aae02_18 : decode cJ0_isLatin1_aae02 18 = .ok (.ireturn, 1) := by decide +kernel
theorem dJ0_checkIndex_df160_0 : decode cJ0_checkIndex_df160 0 = .ok (.iload_n 0, 1) := by decide +kernel
theorem dJ0_checkIndex_df160_1 : decode cJ0_checkIndex_df160 1 = .ok (.iload_n 1, 1) := by decide +kernel
theorem dJ0_checkIndex_df160_2 : decode cJ0_checkIndex_df160 2 = .ok (.getstatic 1053, 3) := by decide +kernel
theorem dJ0_checkIndex_df160_5 : decode cJ0_checkIndex_df160 5 = .ok (.invokestatic 1059, 3) := by decide +kernel
theorem dJ0_checkIndex_df160_8 : decode cJ0_checkIndex_df160 8 = .ok (.pop, 1) := by decide +kernel
theorem dJ0_checkIndex_df160_9 : decode cJ0_checkIndex_df160 9 = .ok (.return_, 1) := by decide +kernel
theorem dJ1_charAt_3b067_0 : decode cJ1_charAt_3b067 0 = .ok (.iload_n 1, 1) := by decide +kernel
theorem dJ1_charAt_3b067_1 : decode cJ1_charAt_3b067 1 = .ok (.aload_n 0, 1) := by decide +kernel
theorem dJ1_charAt_3b067_2 : decode cJ1_charAt_3b067 2 = .ok (.arraylength, 1) := by decide +kernel
theorem dJ1_charAt_3b067_3 : decode cJ1_charAt_3b067 3 = .ok (.invokestatic 9, 3) := by decide +kernel
theorem dJ1_charAt_3b067_6 : decode cJ1_charAt_3b067 6 = .ok (.aload_n 0, 1) := by decide +kernel
theorem dJ1_charAt_3b067_7 : decode cJ1_charAt_3b067 7 = .ok (.iload_n 1, 1) := by decide +kernel
theorem dJ1_charAt_3b067_8 : decode cJ1_charAt_3b067 8 = .ok (.baload, 1) := by decide +kernel
theorem dJ1_charAt_3b067_9 : decode cJ1_charAt_3b067 9 = .ok (.sipush 255, 3) := by decide +kernel
theorem dJ1_charAt_3b067_12 : decode cJ1_charAt_3b067 12 = .ok (.iand, 1) := by decide +kernel
theorem dJ1_charAt_3b067_13 : decode cJ1_charAt_3b067 13 = .ok (.i2c, 1) := by decide +kernel
theorem dJ1_charAt_3b067_14 : decode cJ1_charAt_3b067 14 = .ok (.ireturn, 1) := by decide +kernel
theorem dJ2_getChar_3b067_0 : decode cJ2_getChar_3b067 0 = .ok (.getstatic 44, 3) := by decide +kernel
theorem dJ2_getChar_3b067_3 : decode cJ2_getChar_3b067 3 = .ok (.ifCond .ne 25, 3) := by decide +kernel
theorem dJ2_getChar_3b067_6 : decode cJ2_getChar_3b067 6 = .ok (.iload_n 1, 1) := by decide +kernel
theorem dJ2_getChar_3b067_7 : decode cJ2_getChar_3b067 7 = .ok (.ifCond .lt 11, 3) := by decide +kernel
theorem dJ2_getChar_3b067_10 : decode cJ2_getChar_3b067 10 = .ok (.iload_n 1, 1) := by decide +kernel
theorem dJ2_getChar_3b067_11 : decode cJ2_getChar_3b067 11 = .ok (.aload_n 0, 1) := by decide +kernel
theorem dJ2_getChar_3b067_12 : decode cJ2_getChar_3b067 12 = .ok (.invokestatic 48, 3) := by decide +kernel
theorem dJ2_getChar_3b067_15 : decode cJ2_getChar_3b067 15 = .ok (.if_icmp .lt 13, 3) := by decide +kernel
theorem dJ2_getChar_3b067_18 : decode cJ2_getChar_3b067 18 = .ok (.new 52, 3) := by decide +kernel
theorem dJ2_getChar_3b067_21 : decode cJ2_getChar_3b067 21 = .ok (.dup, 1) := by decide +kernel
theorem dJ2_getChar_3b067_22 : decode cJ2_getChar_3b067 22 = .ok (.ldc 54, 2) := by decide +kernel
theorem dJ2_getChar_3b067_24 : decode cJ2_getChar_3b067 24 = .ok (.invokespecial 56, 3) := by decide +kernel
theorem dJ2_getChar_3b067_27 : decode cJ2_getChar_3b067 27 = .ok (.athrow, 1) := by decide +kernel
theorem dJ2_getChar_3b067_28 : decode cJ2_getChar_3b067 28 = .ok (.iload_n 1, 1) := by decide +kernel
theorem dJ2_getChar_3b067_29 : decode cJ2_getChar_3b067 29 = .ok (.iconst 1, 1) := by decide +kernel
theorem dJ2_getChar_3b067_30 : decode cJ2_getChar_3b067 30 = .ok (.ishl, 1) := by decide +kernel
theorem dJ2_getChar_3b067_31 : decode cJ2_getChar_3b067 31 = .ok (.istore_n 1, 1) := by decide +kernel
theorem dJ2_getChar_3b067_32 : decode cJ2_getChar_3b067 32 = .ok (.aload_n 0, 1) := by decide +kernel
theorem dJ2_getChar_3b067_33 : decode cJ2_getChar_3b067 33 = .ok (.iload_n 1, 1) := by decide +kernel
theorem dJ2_getChar_3b067_34 : decode cJ2_getChar_3b067 34 = .ok (.iinc 1 1, 3) := by decide +kernel
theorem dJ2_getChar_3b067_37 : decode cJ2_getChar_3b067 37 = .ok (.baload, 1) := by decide +kernel
theorem dJ2_getChar_3b067_38 : decode cJ2_getChar_3b067 38 = .ok (.sipush 255, 3) := by decide +kernel
theorem dJ2_getChar_3b067_41 : decode cJ2_getChar_3b067 41 = .ok (.iand, 1) := by decide +kernel
theorem dJ2_getChar_3b067_42 : decode cJ2_getChar_3b067 42 = .ok (.getstatic 59, 3) := by decide +kernel
theorem dJ2_getChar_3b067_45 : decode cJ2_getChar_3b067 45 = .ok (.ishl, 1) := by decide +kernel
theorem dJ2_getChar_3b067_46 : decode cJ2_getChar_3b067 46 = .ok (.aload_n 0, 1) := by decide +kernel
theorem dJ2_getChar_3b067_47 : decode cJ2_getChar_3b067 47 = .ok (.iload_n 1, 1) := by decide +kernel
theorem dJ2_getChar_3b067_48 : decode cJ2_getChar_3b067 48 = .ok (.baload, 1) := by decide +kernel
theorem dJ2_getChar_3b067_49 : decode cJ2_getChar_3b067 49 = .ok (.sipush 255, 3) := by decide +kernel
theorem dJ2_getChar_3b067_52 : decode cJ2_getChar_3b067 52 = .ok (.iand, 1) := by decide +kernel
theorem dJ2_getChar_3b067_53 : decode cJ2_getChar_3b067 53 = .ok (.getstatic 63, 3) := by decide +kernel
theorem dJ2_getChar_3b067_56 : decode cJ2_getChar_3b067 56 = .ok (.ishl, 1) := by decide +kernel
theorem dJ2_getChar_3b067_57 : decode cJ2_getChar_3b067 57 = .ok (.ior, 1) := by decide +kernel
theorem dJ2_getChar_3b067_58 : decode cJ2_getChar_3b067 58 = .ok (.i2c, 1) := by decide +kernel
theorem dJ2_getChar_3b067_59 : decode cJ2_getChar_3b067 59 = .ok (.ireturn, 1) := by decide +kernel
theorem dJ2_length_9d52b_0 : decode cJ2_length_9d52b 0 = .ok (.aload_n 0, 1) := by decide +kernel
theorem dJ2_length_9d52b_1 : decode cJ2_length_9d52b 1 = .ok (.arraylength, 1) := by decide +kernel
theorem dJ2_length_9d52b_2 : decode cJ2_length_9d52b 2 = .ok (.iconst 1, 1) := by decide +kernel
theorem dJ2_length_9d52b_3 : decode cJ2_length_9d52b 3 = .ok (.ishr, 1) := by decide +kernel
theorem dJ2_length_9d52b_4 : decode cJ2_length_9d52b 4 = .ok (.ireturn, 1) := by decide +kernel
theorem dJ2_charAt_3b067_0 : decode cJ2_charAt_3b067 0 = .ok (.iload_n 1, 1) := by decide +kernel
theorem dJ2_charAt_3b067_1 : decode cJ2_charAt_3b067 1 = .ok (.aload_n 0, 1) := by decide +kernel
theorem dJ2_charAt_3b067_2 : decode cJ2_charAt_3b067 2 = .ok (.invokestatic 67, 3) := by decide +kernel
theorem dJ2_charAt_3b067_5 : decode cJ2_charAt_3b067 5 = .ok (.aload_n 0, 1) := by decide +kernel
theorem dJ2_charAt_3b067_6 : decode cJ2_charAt_3b067 6 = .ok (.iload_n 1, 1) := by decide +kernel
theorem dJ2_charAt_3b067_7 : decode cJ2_charAt_3b067 7 = .ok (.invokestatic 71, 3) := by decide +kernel
theorem dJ2_charAt_3b067_10 : decode cJ2_charAt_3b067 10 = .ok (.ireturn, 1) := by decide +kernel
theorem dJ2_checkIndex_2214a_0 : decode cJ2_checkIndex_2214a 0 = .ok (.iload_n 0, 1) := by decide +kernel
theorem dJ2_checkIndex_2214a_1 : decode cJ2_checkIndex_2214a 1 = .ok (.aload_n 1, 1) := by decide +kernel
theorem dJ2_checkIndex_2214a_2 : decode cJ2_checkIndex_2214a 2 = .ok (.invokestatic 48, 3) := by decide +kernel
theorem dJ2_checkIndex_2214a_5 : decode cJ2_checkIndex_2214a 5 = .ok (.invokestatic 414, 3) := by decide +kernel
theorem dJ2_checkIndex_2214a_8 : decode cJ2_checkIndex_2214a 8 = .ok (.return_, 1) := by decide +kernel
theorem dJ3_checkIndex_8e157_0 : decode cJ3_checkIndex_8e157 0 = .ok (.iload_n 0, 1) := by decide +kernel
theorem dJ3_checkIndex_8e157_1 : decode cJ3_checkIndex_8e157 1 = .ok (.ifCond .lt 8, 3) := by decide +kernel
theorem dJ3_checkIndex_8e157_4 : decode cJ3_checkIndex_8e157 4 = .ok (.iload_n 0, 1) := by decide +kernel
theorem dJ3_checkIndex_8e157_5 : decode cJ3_checkIndex_8e157 5 = .ok (.iload_n 1, 1) := by decide +kernel
theorem dJ3_checkIndex_8e157_6 : decode cJ3_checkIndex_8e157 6 = .ok (.if_icmp .lt 10, 3) := by decide +kernel
theorem dJ3_checkIndex_8e157_9 : decode cJ3_checkIndex_8e157 9 = .ok (.aload_n 2, 1) := by decide +kernel
theorem dJ3_checkIndex_8e157_10 : decode cJ3_checkIndex_8e157 10 = .ok (.iload_n 0, 1) := by decide +kernel
theorem dJ3_checkIndex_8e157_11 : decode cJ3_checkIndex_8e157 11 = .ok (.iload_n 1, 1) := by decide +kernel
theorem dJ3_checkIndex_8e157_12 : decode cJ3_checkIndex_8e157 12 = .ok (.invokestatic 95, 3) := by decide +kernel
theorem dJ3_checkIndex_8e157_15 : decode cJ3_checkIndex_8e157 15 = .ok (.athrow, 1) := by decide +kernel
theorem dJ3_checkIndex_8e157_16 : decode cJ3_checkIndex_8e157 16 = .ok (.iload_n 0, 1) := by decide +kernel
theorem dJ3_checkIndex_8e157_17 : decode cJ3_checkIndex_8e157 17 = .ok (.ireturn, 1) := by decide +kernel
theorem dL_setGlaze_0 : decode cL_setGlaze 0 = .ok (.aload 4, 2) := by decide +kernel
theorem dL_setGlaze_2 : decode cL_setGlaze 2 = .ok (.iconst 0, 1) := by decide +kernel
theorem dL_setGlaze_3 : decode cL_setGlaze 3 = .ok (.aload_n 0, 1) := by decide +kernel
theorem dL_setGlaze_4 : decode cL_setGlaze 4 = .ok (.iload_n 1, 1) := by decide +kernel
theorem dL_setGlaze_5 : decode cL_setGlaze 5 = .ok (.iload_n 2, 1) := by decide +kernel
theorem dL_setGlaze_6 : decode cL_setGlaze 6 = .ok (.iload_n 3, 1) := by decide +kernel
theorem dL_setGlaze_7 : decode cL_setGlaze 7 = .ok (.invokevirtual 7, 3) := by decide +kernel
theorem dL_setGlaze_10 : decode cL_setGlaze 10 = .ok (.i2l, 1) := by decide +kernel
theorem dL_setGlaze_11 : decode cL_setGlaze 11 = .ok (.lastore, 1) := by decide +kernel
theorem dL_setGlaze_12 : decode cL_setGlaze 12 = .ok (.goto 11, 3) := by decide +kernel
theorem dL_setGlaze_15 : decode cL_setGlaze 15 = .ok (.astore 5, 2) := by decide +kernel
theorem dL_setGlaze_17 : decode cL_setGlaze 17 = .ok (.iconst 1, 1) := by decide +kernel
theorem dL_setGlaze_18 : decode cL_setGlaze 18 = .ok (.ireturn, 1) := by decide +kernel
theorem dL_setGlaze_19 : decode cL_setGlaze 19 = .ok (.astore 5, 2) := by decide +kernel
theorem dL_setGlaze_21 : decode cL_setGlaze 21 = .ok (.iconst 2, 1) := by decide +kernel
theorem dL_setGlaze_22 : decode cL_setGlaze 22 = .ok (.ireturn, 1) := by decide +kernel
theorem dL_setGlaze_23 : decode cL_setGlaze 23 = .ok (.iconst 0, 1) := by decide +kernel
theorem dL_setGlaze_24 : decode cL_setGlaze 24 = .ok (.ireturn, 1) := by decide +kernel
theorem dL_setQuality_0 : decode cL_setQuality 0 = .ok (.aload 4, 2) := by decide +kernel
theorem dL_setQuality_2 : decode cL_setQuality 2 = .ok (.iconst 0, 1) := by decide +kernel
theorem dL_setQuality_3 : decode cL_setQuality 3 = .ok (.aload_n 0, 1) := by decide +kernel
theorem dL_setQuality_4 : decode cL_setQuality 4 = .ok (.iload_n 1, 1) := by decide +kernel
theorem dL_setQuality_5 : decode cL_setQuality 5 = .ok (.iload_n 2, 1) := by decide +kernel
theorem dL_setQuality_6 : decode cL_setQuality 6 = .ok (.iload_n 3, 1) := by decide +kernel
theorem dL_setQuality_7 : decode cL_setQuality 7 = .ok (.invokevirtual 17, 3) := by decide +kernel
theorem dL_setQuality_10 : decode cL_setQuality 10 = .ok (.i2l, 1) := by decide +kernel
theorem dL_setQuality_11 : decode cL_setQuality 11 = .ok (.lastore, 1) := by decide +kernel
theorem dL_setQuality_12 : decode cL_setQuality 12 = .ok (.goto 11, 3) := by decide +kernel
theorem dL_setQuality_15 : decode cL_setQuality 15 = .ok (.astore 5, 2) := by decide +kernel
theorem dL_setQuality_17 : decode cL_setQuality 17 = .ok (.iconst 1, 1) := by decide +kernel
theorem dL_setQuality_18 : decode cL_setQuality 18 = .ok (.ireturn, 1) := by decide +kernel
theorem dL_setQuality_19 : decode cL_setQuality 19 = .ok (.astore 5, 2) := by decide +kernel
theorem dL_setQuality_21 : decode cL_setQuality 21 = .ok (.iconst 2, 1) := by decide +kernel
theorem dL_setQuality_22 : decode cL_setQuality 22 = .ok (.ireturn, 1) := by decide +kernel
theorem dL_setQuality_23 : decode cL_setQuality 23 = .ok (.iconst 0, 1) := by decide +kernel
theorem dL_setQuality_24 : decode cL_setQuality 24 = .ok (.ireturn, 1) := by decide +kernel
theorem dL_setPosition_0 : decode cL_setPosition 0 = .ok (.aload 5, 2) := by decide +kernel
theorem dL_setPosition_2 : decode cL_setPosition 2 = .ok (.iconst 0, 1) := by decide +kernel
theorem dL_setPosition_3 : decode cL_setPosition 3 = .ok (.aload_n 0, 1) := by decide +kernel
theorem dL_setPosition_4 : decode cL_setPosition 4 = .ok (.iload_n 1, 1) := by decide +kernel
theorem dL_setPosition_5 : decode cL_setPosition 5 = .ok (.iload_n 2, 1) := by decide +kernel
theorem dL_setPosition_6 : decode cL_setPosition 6 = .ok (.iload_n 3, 1) := by decide +kernel
theorem dL_setPosition_7 : decode cL_setPosition 7 = .ok (.iload 4, 2) := by decide +kernel
theorem dL_setPosition_9 : decode cL_setPosition 9 = .ok (.invokevirtual 20, 3) := by decide +kernel
theorem dL_setPosition_12 : decode cL_setPosition 12 = .ok (.i2l, 1) := by decide +kernel
theorem dL_setPosition_13 : decode cL_setPosition 13 = .ok (.lastore, 1) := by decide +kernel
theorem dL_setPosition_14 : decode cL_setPosition 14 = .ok (.goto 11, 3) := by decide +kernel
theorem dL_setPosition_17 : decode cL_setPosition 17 = .ok (.astore 6, 2) := by decide +kernel
theorem dL_setPosition_19 : decode cL_setPosition 19 = .ok (.iconst 1, 1) := by decide +kernel
theorem dL_setPosition_20 : decode cL_setPosition 20 = .ok (.ireturn, 1) := by decide +kernel
theorem dL_setPosition_21 : decode cL_setPosition 21 = .ok (.astore 6, 2) := by decide +kernel
theorem dL_setPosition_23 : decode cL_setPosition 23 = .ok (.iconst 2, 1) := by decide +kernel
theorem dL_setPosition_24 : decode cL_setPosition 24 = .ok (.ireturn, 1) := by decide +kernel
theorem dL_setPosition_25 : decode cL_setPosition 25 = .ok (.iconst 0, 1) := by decide +kernel
theorem dL_setPosition_26 : decode cL_setPosition 26 = .ok (.ireturn, 1) := by decide +kernel
theorem dL_setSharpness_0 : decode cL_setSharpness 0 = .ok (.aload_n 2, 1) := by decide +kernel
theorem dL_setSharpness_1 : decode cL_setSharpness 1 = .ok (.iconst 0, 1) := by decide +kernel
theorem dL_setSharpness_2 : decode cL_setSharpness 2 = .ok (.aload_n 0, 1) := by decide +kernel
theorem dL_setSharpness_3 : decode cL_setSharpness 3 = .ok (.iload_n 1, 1) := by decide +kernel
theorem dL_setSharpness_4 : decode cL_setSharpness 4 = .ok (.invokevirtual 24, 3) := by decide +kernel
theorem dL_setSharpness_7 : decode cL_setSharpness 7 = .ok (.i2l, 1) := by decide +kernel
theorem dL_setSharpness_8 : decode cL_setSharpness 8 = .ok (.lastore, 1) := by decide +kernel
theorem dL_setSharpness_9 : decode cL_setSharpness 9 = .ok (.goto 6, 3) := by decide +kernel
theorem dL_setSharpness_12 : decode cL_setSharpness 12 = .ok (.astore_n 3, 1) := by decide +kernel
theorem dL_setSharpness_13 : decode cL_setSharpness 13 = .ok (.iconst 1, 1) := by decide +kernel
theorem dL_setSharpness_14 : decode cL_setSharpness 14 = .ok (.ireturn, 1) := by decide +kernel
theorem dL_setSharpness_15 : decode cL_setSharpness 15 = .ok (.iconst 0, 1) := by decide +kernel
theorem dL_setSharpness_16 : decode cL_setSharpness 16 = .ok (.ireturn, 1) := by decide +kernel
theorem dL_setBoxSize_0 : decode cL_setBoxSize 0 = .ok (.aload_n 2, 1) := by decide +kernel
theorem dL_setBoxSize_1 : decode cL_setBoxSize 1 = .ok (.iconst 0, 1) := by decide +kernel
theorem dL_setBoxSize_2 : decode cL_setBoxSize 2 = .ok (.aload_n 0, 1) := by decide +kernel
theorem dL_setBoxSize_3 : decode cL_setBoxSize 3 = .ok (.iload_n 1, 1) := by decide +kernel
theorem dL_setBoxSize_4 : decode cL_setBoxSize 4 = .ok (.invokevirtual 28, 3) := by decide +kernel
theorem dL_setBoxSize_7 : decode cL_setBoxSize 7 = .ok (.i2l, 1) := by decide +kernel
theorem dL_setBoxSize_8 : decode cL_setBoxSize 8 = .ok (.lastore, 1) := by decide +kernel
theorem dL_setBoxSize_9 : decode cL_setBoxSize 9 = .ok (.goto 9, 3) := by decide +kernel
theorem dL_setBoxSize_12 : decode cL_setBoxSize 12 = .ok (.astore_n 3, 1) := by decide +kernel
theorem dL_setBoxSize_13 : decode cL_setBoxSize 13 = .ok (.iconst 1, 1) := by decide +kernel
theorem dL_setBoxSize_14 : decode cL_setBoxSize 14 = .ok (.ireturn, 1) := by decide +kernel
theorem dL_setBoxSize_15 : decode cL_setBoxSize 15 = .ok (.astore_n 3, 1) := by decide +kernel
theorem dL_setBoxSize_16 : decode cL_setBoxSize 16 = .ok (.iconst 2, 1) := by decide +kernel
theorem dL_setBoxSize_17 : decode cL_setBoxSize 17 = .ok (.ireturn, 1) := by decide +kernel
theorem dL_setBoxSize_18 : decode cL_setBoxSize 18 = .ok (.iconst 0, 1) := by decide +kernel
theorem dL_setBoxSize_19 : decode cL_setBoxSize 19 = .ok (.ireturn, 1) := by decide +kernel
theorem dL_fire_0 : decode cL_fire 0 = .ok (.aload 5, 2) := by decide +kernel
theorem dL_fire_2 : decode cL_fire 2 = .ok (.iconst 0, 1) := by decide +kernel
theorem dL_fire_3 : decode cL_fire 3 = .ok (.aload_n 0, 1) := by decide +kernel
theorem dL_fire_4 : decode cL_fire 4 = .ok (.iload_n 1, 1) := by decide +kernel
theorem dL_fire_5 : decode cL_fire 5 = .ok (.iload_n 2, 1) := by decide +kernel
theorem dL_fire_6 : decode cL_fire 6 = .ok (.iload_n 3, 1) := by decide +kernel
theorem dL_fire_7 : decode cL_fire 7 = .ok (.iload 4, 2) := by decide +kernel
theorem dL_fire_9 : decode cL_fire 9 = .ok (.invokevirtual 33, 3) := by decide +kernel
theorem dL_fire_12 : decode cL_fire 12 = .ok (.i2l, 1) := by decide +kernel
theorem dL_fire_13 : decode cL_fire 13 = .ok (.lastore, 1) := by decide +kernel
theorem dL_fire_14 : decode cL_fire 14 = .ok (.goto 15, 3) := by decide +kernel
theorem dL_fire_17 : decode cL_fire 17 = .ok (.astore 6, 2) := by decide +kernel
theorem dL_fire_19 : decode cL_fire 19 = .ok (.iconst 1, 1) := by decide +kernel
theorem dL_fire_20 : decode cL_fire 20 = .ok (.ireturn, 1) := by decide +kernel
theorem dL_fire_21 : decode cL_fire 21 = .ok (.astore 6, 2) := by decide +kernel
theorem dL_fire_23 : decode cL_fire 23 = .ok (.iconst 2, 1) := by decide +kernel
theorem dL_fire_24 : decode cL_fire 24 = .ok (.ireturn, 1) := by decide +kernel
theorem dL_fire_25 : decode cL_fire 25 = .ok (.astore 6, 2) := by decide +kernel
theorem dL_fire_27 : decode cL_fire 27 = .ok (.iconst 3, 1) := by decide +kernel
theorem dL_fire_28 : decode cL_fire 28 = .ok (.ireturn, 1) := by decide +kernel
theorem dL_fire_29 : decode cL_fire 29 = .ok (.iconst 0, 1) := by decide +kernel
theorem dL_fire_30 : decode cL_fire 30 = .ok (.ireturn, 1) := by decide +kernel
theorem dL_grade_0 : decode cL_grade 0 = .ok (.aload_n 2, 1) := by decide +kernel
theorem dL_grade_1 : decode cL_grade 1 = .ok (.iconst 0, 1) := by decide +kernel
theorem dL_grade_2 : decode cL_grade 2 = .ok (.aload_n 0, 1) := by decide +kernel
theorem dL_grade_3 : decode cL_grade 3 = .ok (.iload_n 1, 1) := by decide +kernel
theorem dL_grade_4 : decode cL_grade 4 = .ok (.invokevirtual 36, 3) := by decide +kernel
theorem dL_grade_7 : decode cL_grade 7 = .ok (.i2l, 1) := by decide +kernel
theorem dL_grade_8 : decode cL_grade 8 = .ok (.lastore, 1) := by decide +kernel
theorem dL_grade_9 : decode cL_grade 9 = .ok (.goto 9, 3) := by decide +kernel
theorem dL_grade_12 : decode cL_grade 12 = .ok (.astore_n 3, 1) := by decide +kernel
theorem dL_grade_13 : decode cL_grade 13 = .ok (.iconst 1, 1) := by decide +kernel
theorem dL_grade_14 : decode cL_grade 14 = .ok (.ireturn, 1) := by decide +kernel
theorem dL_grade_15 : decode cL_grade 15 = .ok (.astore_n 3, 1) := by decide +kernel
theorem dL_grade_16 : decode cL_grade 16 = .ok (.iconst 2, 1) := by decide +kernel
theorem dL_grade_17 : decode cL_grade 17 = .ok (.ireturn, 1) := by decide +kernel
theorem dL_grade_18 : decode cL_grade 18 = .ok (.iconst 0, 1) := by decide +kernel
theorem dL_grade_19 : decode cL_grade 19 = .ok (.ireturn, 1) := by decide +kernel
theorem dL_deliver_0 : decode cL_deliver 0 = .ok (.aload 4, 2) := by decide +kernel
theorem dL_deliver_2 : decode cL_deliver 2 = .ok (.iconst 0, 1) := by decide +kernel
theorem dL_deliver_3 : decode cL_deliver 3 = .ok (.aload_n 0, 1) := by decide +kernel
theorem dL_deliver_4 : decode cL_deliver 4 = .ok (.iload_n 1, 1) := by decide +kernel
theorem dL_deliver_5 : decode cL_deliver 5 = .ok (.iload_n 2, 1) := by decide +kernel
theorem dL_deliver_6 : decode cL_deliver 6 = .ok (.iload_n 3, 1) := by decide +kernel
theorem dL_deliver_7 : decode cL_deliver 7 = .ok (.invokevirtual 39, 3) := by decide +kernel
theorem dL_deliver_10 : decode cL_deliver 10 = .ok (.i2l, 1) := by decide +kernel
theorem dL_deliver_11 : decode cL_deliver 11 = .ok (.lastore, 1) := by decide +kernel
theorem dL_deliver_12 : decode cL_deliver 12 = .ok (.goto 15, 3) := by decide +kernel
theorem dL_deliver_15 : decode cL_deliver 15 = .ok (.astore 5, 2) := by decide +kernel
theorem dL_deliver_17 : decode cL_deliver 17 = .ok (.iconst 1, 1) := by decide +kernel
theorem dL_deliver_18 : decode cL_deliver 18 = .ok (.ireturn, 1) := by decide +kernel
theorem dL_deliver_19 : decode cL_deliver 19 = .ok (.astore 5, 2) := by decide +kernel
theorem dL_deliver_21 : decode cL_deliver 21 = .ok (.iconst 2, 1) := by decide +kernel
theorem dL_deliver_22 : decode cL_deliver 22 = .ok (.ireturn, 1) := by decide +kernel
theorem dL_deliver_23 : decode cL_deliver 23 = .ok (.astore 5, 2) := by decide +kernel
theorem dL_deliver_25 : decode cL_deliver 25 = .ok (.iconst 3, 1) := by decide +kernel
theorem dL_deliver_26 : decode cL_deliver 26 = .ok (.ireturn, 1) := by decide +kernel
theorem dL_deliver_27 : decode cL_deliver 27 = .ok (.iconst 0, 1) := by decide +kernel
theorem dL_deliver_28 : decode cL_deliver 28 = .ok (.ireturn, 1) := by decide +kernel
theorem dL_drop_0 : decode cL_drop 0 = .ok (.aload 5, 2) := by decide +kernel
theorem dL_drop_2 : decode cL_drop 2 = .ok (.iconst 0, 1) := by decide +kernel
theorem dL_drop_3 : decode cL_drop 3 = .ok (.aload_n 0, 1) := by decide +kernel
theorem dL_drop_4 : decode cL_drop 4 = .ok (.iload_n 1, 1) := by decide +kernel
theorem dL_drop_5 : decode cL_drop 5 = .ok (.iload_n 2, 1) := by decide +kernel
theorem dL_drop_6 : decode cL_drop 6 = .ok (.iload_n 3, 1) := by decide +kernel
theorem dL_drop_7 : decode cL_drop 7 = .ok (.iload 4, 2) := by decide +kernel
theorem dL_drop_9 : decode cL_drop 9 = .ok (.invokevirtual 42, 3) := by decide +kernel
theorem dL_drop_12 : decode cL_drop 12 = .ok (.i2l, 1) := by decide +kernel
theorem dL_drop_13 : decode cL_drop 13 = .ok (.lastore, 1) := by decide +kernel
theorem dL_drop_14 : decode cL_drop 14 = .ok (.goto 15, 3) := by decide +kernel
theorem dL_drop_17 : decode cL_drop 17 = .ok (.astore 6, 2) := by decide +kernel
theorem dL_drop_19 : decode cL_drop 19 = .ok (.iconst 1, 1) := by decide +kernel
theorem dL_drop_20 : decode cL_drop 20 = .ok (.ireturn, 1) := by decide +kernel
theorem dL_drop_21 : decode cL_drop 21 = .ok (.astore 6, 2) := by decide +kernel
theorem dL_drop_23 : decode cL_drop 23 = .ok (.iconst 2, 1) := by decide +kernel
theorem dL_drop_24 : decode cL_drop 24 = .ok (.ireturn, 1) := by decide +kernel
theorem dL_drop_25 : decode cL_drop 25 = .ok (.astore 6, 2) := by decide +kernel
theorem dL_drop_27 : decode cL_drop 27 = .ok (.iconst 3, 1) := by decide +kernel
theorem dL_drop_28 : decode cL_drop 28 = .ok (.ireturn, 1) := by decide +kernel
theorem dL_drop_29 : decode cL_drop 29 = .ok (.iconst 0, 1) := by decide +kernel
theorem dL_drop_30 : decode cL_drop 30 = .ok (.ireturn, 1) := by decide +kernel
theorem dL_takeBack_0 : decode cL_takeBack 0 = .ok (.aload 4, 2) := by decide +kernel
theorem dL_takeBack_2 : decode cL_takeBack 2 = .ok (.iconst 0, 1) := by decide +kernel
theorem dL_takeBack_3 : decode cL_takeBack 3 = .ok (.aload_n 0, 1) := by decide +kernel
theorem dL_takeBack_4 : decode cL_takeBack 4 = .ok (.iload_n 1, 1) := by decide +kernel
theorem dL_takeBack_5 : decode cL_takeBack 5 = .ok (.iload_n 2, 1) := by decide +kernel
theorem dL_takeBack_6 : decode cL_takeBack 6 = .ok (.iload_n 3, 1) := by decide +kernel
theorem dL_takeBack_7 : decode cL_takeBack 7 = .ok (.invokevirtual 45, 3) := by decide +kernel
theorem dL_takeBack_10 : decode cL_takeBack 10 = .ok (.i2l, 1) := by decide +kernel
theorem dL_takeBack_11 : decode cL_takeBack 11 = .ok (.lastore, 1) := by decide +kernel
theorem dL_takeBack_12 : decode cL_takeBack 12 = .ok (.goto 15, 3) := by decide +kernel
theorem dL_takeBack_15 : decode cL_takeBack 15 = .ok (.astore 5, 2) := by decide +kernel
theorem dL_takeBack_17 : decode cL_takeBack 17 = .ok (.iconst 1, 1) := by decide +kernel
theorem dL_takeBack_18 : decode cL_takeBack 18 = .ok (.ireturn, 1) := by decide +kernel
theorem dL_takeBack_19 : decode cL_takeBack 19 = .ok (.astore 5, 2) := by decide +kernel
theorem dL_takeBack_21 : decode cL_takeBack 21 = .ok (.iconst 2, 1) := by decide +kernel
theorem dL_takeBack_22 : decode cL_takeBack 22 = .ok (.ireturn, 1) := by decide +kernel
theorem dL_takeBack_23 : decode cL_takeBack 23 = .ok (.astore 5, 2) := by decide +kernel
theorem dL_takeBack_25 : decode cL_takeBack 25 = .ok (.iconst 3, 1) := by decide +kernel
theorem dL_takeBack_26 : decode cL_takeBack 26 = .ok (.ireturn, 1) := by decide +kernel
theorem dL_takeBack_27 : decode cL_takeBack 27 = .ok (.iconst 0, 1) := by decide +kernel
theorem dL_takeBack_28 : decode cL_takeBack 28 = .ok (.ireturn, 1) := by decide +kernel
theorem dL_replace_0 : decode cL_replace 0 = .ok (.aload_n 2, 1) := by decide +kernel
theorem dL_replace_1 : decode cL_replace 1 = .ok (.iconst 0, 1) := by decide +kernel
theorem dL_replace_2 : decode cL_replace 2 = .ok (.aload_n 0, 1) := by decide +kernel
theorem dL_replace_3 : decode cL_replace 3 = .ok (.iload_n 1, 1) := by decide +kernel
theorem dL_replace_4 : decode cL_replace 4 = .ok (.invokevirtual 48, 3) := by decide +kernel
theorem dL_replace_7 : decode cL_replace 7 = .ok (.i2l, 1) := by decide +kernel
theorem dL_replace_8 : decode cL_replace 8 = .ok (.lastore, 1) := by decide +kernel
theorem dL_replace_9 : decode cL_replace 9 = .ok (.goto 9, 3) := by decide +kernel
theorem dL_replace_12 : decode cL_replace 12 = .ok (.astore_n 3, 1) := by decide +kernel
theorem dL_replace_13 : decode cL_replace 13 = .ok (.iconst 1, 1) := by decide +kernel
theorem dL_replace_14 : decode cL_replace 14 = .ok (.ireturn, 1) := by decide +kernel
theorem dL_replace_15 : decode cL_replace 15 = .ok (.astore_n 3, 1) := by decide +kernel
theorem dL_replace_16 : decode cL_replace 16 = .ok (.iconst 2, 1) := by decide +kernel
theorem dL_replace_17 : decode cL_replace 17 = .ok (.ireturn, 1) := by decide +kernel
theorem dL_replace_18 : decode cL_replace 18 = .ok (.iconst 0, 1) := by decide +kernel
theorem dL_replace_19 : decode cL_replace 19 = .ok (.ireturn, 1) := by decide +kernel
theorem dL_undo_0 : decode cL_undo 0 = .ok (.aload_n 1, 1) := by decide +kernel
theorem dL_undo_1 : decode cL_undo 1 = .ok (.iconst 0, 1) := by decide +kernel
theorem dL_undo_2 : decode cL_undo 2 = .ok (.aload_n 0, 1) := by decide +kernel
theorem dL_undo_3 : decode cL_undo 3 = .ok (.invokevirtual 51, 3) := by decide +kernel
theorem dL_undo_6 : decode cL_undo 6 = .ok (.i2l, 1) := by decide +kernel
theorem dL_undo_7 : decode cL_undo 7 = .ok (.lastore, 1) := by decide +kernel
theorem dL_undo_8 : decode cL_undo 8 = .ok (.goto 6, 3) := by decide +kernel
theorem dL_undo_11 : decode cL_undo 11 = .ok (.astore_n 2, 1) := by decide +kernel
theorem dL_undo_12 : decode cL_undo 12 = .ok (.iconst 1, 1) := by decide +kernel
theorem dL_undo_13 : decode cL_undo 13 = .ok (.ireturn, 1) := by decide +kernel
theorem dL_undo_14 : decode cL_undo 14 = .ok (.iconst 0, 1) := by decide +kernel
theorem dL_undo_15 : decode cL_undo 15 = .ok (.ireturn, 1) := by decide +kernel
theorem dL_glaze_0 : decode cL_glaze 0 = .ok (.aload_n 3, 1) := by decide +kernel
theorem dL_glaze_1 : decode cL_glaze 1 = .ok (.iconst 0, 1) := by decide +kernel
theorem dL_glaze_2 : decode cL_glaze 2 = .ok (.aload_n 0, 1) := by decide +kernel
theorem dL_glaze_3 : decode cL_glaze 3 = .ok (.iload_n 1, 1) := by decide +kernel
theorem dL_glaze_4 : decode cL_glaze 4 = .ok (.iload_n 2, 1) := by decide +kernel
theorem dL_glaze_5 : decode cL_glaze 5 = .ok (.invokevirtual 55, 3) := by decide +kernel
theorem dL_glaze_8 : decode cL_glaze 8 = .ok (.i2l, 1) := by decide +kernel
theorem dL_glaze_9 : decode cL_glaze 9 = .ok (.lastore, 1) := by decide +kernel
theorem dL_glaze_10 : decode cL_glaze 10 = .ok (.goto 11, 3) := by decide +kernel
theorem dL_glaze_13 : decode cL_glaze 13 = .ok (.astore 4, 2) := by decide +kernel
theorem dL_glaze_15 : decode cL_glaze 15 = .ok (.iconst 1, 1) := by decide +kernel
theorem dL_glaze_16 : decode cL_glaze 16 = .ok (.ireturn, 1) := by decide +kernel
theorem dL_glaze_17 : decode cL_glaze 17 = .ok (.astore 4, 2) := by decide +kernel
theorem dL_glaze_19 : decode cL_glaze 19 = .ok (.iconst 2, 1) := by decide +kernel
theorem dL_glaze_20 : decode cL_glaze 20 = .ok (.ireturn, 1) := by decide +kernel
theorem dL_glaze_21 : decode cL_glaze 21 = .ok (.iconst 0, 1) := by decide +kernel
theorem dL_glaze_22 : decode cL_glaze 22 = .ok (.ireturn, 1) := by decide +kernel
theorem dL_position_0 : decode cL_position 0 = .ok (.aload 4, 2) := by decide +kernel
theorem dL_position_2 : decode cL_position 2 = .ok (.iconst 0, 1) := by decide +kernel
theorem dL_position_3 : decode cL_position 3 = .ok (.aload_n 0, 1) := by decide +kernel
theorem dL_position_4 : decode cL_position 4 = .ok (.iload_n 1, 1) := by decide +kernel
theorem dL_position_5 : decode cL_position 5 = .ok (.iload_n 2, 1) := by decide +kernel
theorem dL_position_6 : decode cL_position 6 = .ok (.iload_n 3, 1) := by decide +kernel
theorem dL_position_7 : decode cL_position 7 = .ok (.invokevirtual 59, 3) := by decide +kernel
theorem dL_position_10 : decode cL_position 10 = .ok (.i2l, 1) := by decide +kernel
theorem dL_position_11 : decode cL_position 11 = .ok (.lastore, 1) := by decide +kernel
theorem dL_position_12 : decode cL_position 12 = .ok (.goto 11, 3) := by decide +kernel
theorem dL_position_15 : decode cL_position 15 = .ok (.astore 5, 2) := by decide +kernel
theorem dL_position_17 : decode cL_position 17 = .ok (.iconst 1, 1) := by decide +kernel
theorem dL_position_18 : decode cL_position 18 = .ok (.ireturn, 1) := by decide +kernel
theorem dL_position_19 : decode cL_position 19 = .ok (.astore 5, 2) := by decide +kernel
theorem dL_position_21 : decode cL_position 21 = .ok (.iconst 2, 1) := by decide +kernel
theorem dL_position_22 : decode cL_position 22 = .ok (.ireturn, 1) := by decide +kernel
theorem dL_position_23 : decode cL_position 23 = .ok (.iconst 0, 1) := by decide +kernel
theorem dL_position_24 : decode cL_position 24 = .ok (.ireturn, 1) := by decide +kernel
theorem dL_pile_0 : decode cL_pile 0 = .ok (.aload_n 3, 1) := by decide +kernel
theorem dL_pile_1 : decode cL_pile 1 = .ok (.iconst 0, 1) := by decide +kernel
theorem dL_pile_2 : decode cL_pile 2 = .ok (.aload_n 0, 1) := by decide +kernel
theorem dL_pile_3 : decode cL_pile 3 = .ok (.iload_n 1, 1) := by decide +kernel
theorem dL_pile_4 : decode cL_pile 4 = .ok (.iload_n 2, 1) := by decide +kernel
theorem dL_pile_5 : decode cL_pile 5 = .ok (.invokevirtual 62, 3) := by decide +kernel
theorem dL_pile_8 : decode cL_pile 8 = .ok (.i2l, 1) := by decide +kernel
theorem dL_pile_9 : decode cL_pile 9 = .ok (.lastore, 1) := by decide +kernel
theorem dL_pile_10 : decode cL_pile 10 = .ok (.goto 11, 3) := by decide +kernel
theorem dL_pile_13 : decode cL_pile 13 = .ok (.astore 4, 2) := by decide +kernel
theorem dL_pile_15 : decode cL_pile 15 = .ok (.iconst 1, 1) := by decide +kernel
theorem dL_pile_16 : decode cL_pile 16 = .ok (.ireturn, 1) := by decide +kernel
theorem dL_pile_17 : decode cL_pile 17 = .ok (.astore 4, 2) := by decide +kernel
theorem dL_pile_19 : decode cL_pile 19 = .ok (.iconst 2, 1) := by decide +kernel
theorem dL_pile_20 : decode cL_pile 20 = .ok (.ireturn, 1) := by decide +kernel
theorem dL_pile_21 : decode cL_pile 21 = .ok (.iconst 0, 1) := by decide +kernel
theorem dL_pile_22 : decode cL_pile 22 = .ok (.ireturn, 1) := by decide +kernel
theorem dL_lot_0 : decode cL_lot 0 = .ok (.aload_n 3, 1) := by decide +kernel
theorem dL_lot_1 : decode cL_lot 1 = .ok (.iconst 0, 1) := by decide +kernel
theorem dL_lot_2 : decode cL_lot 2 = .ok (.aload_n 0, 1) := by decide +kernel
theorem dL_lot_3 : decode cL_lot 3 = .ok (.iload_n 1, 1) := by decide +kernel
theorem dL_lot_4 : decode cL_lot 4 = .ok (.iload_n 2, 1) := by decide +kernel
theorem dL_lot_5 : decode cL_lot 5 = .ok (.invokevirtual 65, 3) := by decide +kernel
theorem dL_lot_8 : decode cL_lot 8 = .ok (.i2l, 1) := by decide +kernel
theorem dL_lot_9 : decode cL_lot 9 = .ok (.lastore, 1) := by decide +kernel
theorem dL_lot_10 : decode cL_lot 10 = .ok (.goto 11, 3) := by decide +kernel
theorem dL_lot_13 : decode cL_lot 13 = .ok (.astore 4, 2) := by decide +kernel
theorem dL_lot_15 : decode cL_lot 15 = .ok (.iconst 1, 1) := by decide +kernel
theorem dL_lot_16 : decode cL_lot 16 = .ok (.ireturn, 1) := by decide +kernel
theorem dL_lot_17 : decode cL_lot 17 = .ok (.astore 4, 2) := by decide +kernel
theorem dL_lot_19 : decode cL_lot 19 = .ok (.iconst 2, 1) := by decide +kernel
theorem dL_lot_20 : decode cL_lot 20 = .ok (.ireturn, 1) := by decide +kernel
theorem dL_lot_21 : decode cL_lot 21 = .ok (.iconst 0, 1) := by decide +kernel
theorem dL_lot_22 : decode cL_lot 22 = .ok (.ireturn, 1) := by decide +kernel
theorem dL_findLot_0 : decode cL_findLot 0 = .ok (.aload 4, 2) := by decide +kernel
theorem dL_findLot_2 : decode cL_findLot 2 = .ok (.iconst 0, 1) := by decide +kernel
theorem dL_findLot_3 : decode cL_findLot 3 = .ok (.aload_n 0, 1) := by decide +kernel
theorem dL_findLot_4 : decode cL_findLot 4 = .ok (.iload_n 1, 1) := by decide +kernel
theorem dL_findLot_5 : decode cL_findLot 5 = .ok (.iload_n 2, 1) := by decide +kernel
theorem dL_findLot_6 : decode cL_findLot 6 = .ok (.iload_n 3, 1) := by decide +kernel
theorem dL_findLot_7 : decode cL_findLot 7 = .ok (.invokevirtual 68, 3) := by decide +kernel
theorem dL_findLot_10 : decode cL_findLot 10 = .ok (.i2l, 1) := by decide +kernel
theorem dL_findLot_11 : decode cL_findLot 11 = .ok (.lastore, 1) := by decide +kernel
theorem dL_findLot_12 : decode cL_findLot 12 = .ok (.goto 7, 3) := by decide +kernel
theorem dL_findLot_15 : decode cL_findLot 15 = .ok (.astore 5, 2) := by decide +kernel
theorem dL_findLot_17 : decode cL_findLot 17 = .ok (.iconst 1, 1) := by decide +kernel
theorem dL_findLot_18 : decode cL_findLot 18 = .ok (.ireturn, 1) := by decide +kernel
theorem dL_findLot_19 : decode cL_findLot 19 = .ok (.iconst 0, 1) := by decide +kernel
theorem dL_findLot_20 : decode cL_findLot 20 = .ok (.ireturn, 1) := by decide +kernel
theorem dL_delivery_0 : decode cL_delivery 0 = .ok (.aload_n 3, 1) := by decide +kernel
theorem dL_delivery_1 : decode cL_delivery 1 = .ok (.iconst 0, 1) := by decide +kernel
theorem dL_delivery_2 : decode cL_delivery 2 = .ok (.aload_n 0, 1) := by decide +kernel
theorem dL_delivery_3 : decode cL_delivery 3 = .ok (.iload_n 1, 1) := by decide +kernel
theorem dL_delivery_4 : decode cL_delivery 4 = .ok (.iload_n 2, 1) := by decide +kernel
theorem dL_delivery_5 : decode cL_delivery 5 = .ok (.invokevirtual 71, 3) := by decide +kernel
theorem dL_delivery_8 : decode cL_delivery 8 = .ok (.lastore, 1) := by decide +kernel
theorem dL_delivery_9 : decode cL_delivery 9 = .ok (.goto 11, 3) := by decide +kernel
theorem dL_delivery_12 : decode cL_delivery 12 = .ok (.astore 4, 2) := by decide +kernel
theorem dL_delivery_14 : decode cL_delivery 14 = .ok (.iconst 1, 1) := by decide +kernel
theorem dL_delivery_15 : decode cL_delivery 15 = .ok (.ireturn, 1) := by decide +kernel
theorem dL_delivery_16 : decode cL_delivery 16 = .ok (.astore 4, 2) := by decide +kernel
theorem dL_delivery_18 : decode cL_delivery 18 = .ok (.iconst 2, 1) := by decide +kernel
theorem dL_delivery_19 : decode cL_delivery 19 = .ok (.ireturn, 1) := by decide +kernel
theorem dL_delivery_20 : decode cL_delivery 20 = .ok (.iconst 0, 1) := by decide +kernel
theorem dL_delivery_21 : decode cL_delivery 21 = .ok (.ireturn, 1) := by decide +kernel
theorem dL_event_0 : decode cL_event 0 = .ok (.aload_n 3, 1) := by decide +kernel
theorem dL_event_1 : decode cL_event 1 = .ok (.iconst 0, 1) := by decide +kernel
theorem dL_event_2 : decode cL_event 2 = .ok (.aload_n 0, 1) := by decide +kernel
theorem dL_event_3 : decode cL_event 3 = .ok (.iload_n 1, 1) := by decide +kernel
theorem dL_event_4 : decode cL_event 4 = .ok (.iload_n 2, 1) := by decide +kernel
theorem dL_event_5 : decode cL_event 5 = .ok (.invokevirtual 75, 3) := by decide +kernel
theorem dL_event_8 : decode cL_event 8 = .ok (.i2l, 1) := by decide +kernel
theorem dL_event_9 : decode cL_event 9 = .ok (.lastore, 1) := by decide +kernel
theorem dL_event_10 : decode cL_event 10 = .ok (.goto 7, 3) := by decide +kernel
theorem dL_event_13 : decode cL_event 13 = .ok (.astore 4, 2) := by decide +kernel
theorem dL_event_15 : decode cL_event 15 = .ok (.iconst 1, 1) := by decide +kernel
theorem dL_event_16 : decode cL_event 16 = .ok (.ireturn, 1) := by decide +kernel
theorem dL_event_17 : decode cL_event 17 = .ok (.iconst 0, 1) := by decide +kernel
theorem dL_event_18 : decode cL_event 18 = .ok (.ireturn, 1) := by decide +kernel
theorem dL_total_0 : decode cL_total 0 = .ok (.aload_n 2, 1) := by decide +kernel
theorem dL_total_1 : decode cL_total 1 = .ok (.iconst 0, 1) := by decide +kernel
theorem dL_total_2 : decode cL_total 2 = .ok (.aload_n 0, 1) := by decide +kernel
theorem dL_total_3 : decode cL_total 3 = .ok (.iload_n 1, 1) := by decide +kernel
theorem dL_total_4 : decode cL_total 4 = .ok (.invokevirtual 78, 3) := by decide +kernel
theorem dL_total_7 : decode cL_total 7 = .ok (.lastore, 1) := by decide +kernel
theorem dL_total_8 : decode cL_total 8 = .ok (.goto 6, 3) := by decide +kernel
theorem dL_total_11 : decode cL_total 11 = .ok (.astore_n 3, 1) := by decide +kernel
theorem dL_total_12 : decode cL_total 12 = .ok (.iconst 1, 1) := by decide +kernel
theorem dL_total_13 : decode cL_total 13 = .ok (.ireturn, 1) := by decide +kernel
theorem dL_total_14 : decode cL_total 14 = .ok (.iconst 0, 1) := by decide +kernel
theorem dL_total_15 : decode cL_total 15 = .ok (.ireturn, 1) := by decide +kernel
theorem dL_shadeAt_0 : decode cL_shadeAt 0 = .ok (.aload 5, 2) := by decide +kernel
theorem dL_shadeAt_2 : decode cL_shadeAt 2 = .ok (.iconst 0, 1) := by decide +kernel
theorem dL_shadeAt_3 : decode cL_shadeAt 3 = .ok (.aload_n 0, 1) := by decide +kernel
theorem dL_shadeAt_4 : decode cL_shadeAt 4 = .ok (.iload_n 1, 1) := by decide +kernel
theorem dL_shadeAt_5 : decode cL_shadeAt 5 = .ok (.iload_n 2, 1) := by decide +kernel
theorem dL_shadeAt_6 : decode cL_shadeAt 6 = .ok (.iload_n 3, 1) := by decide +kernel
theorem dL_shadeAt_7 : decode cL_shadeAt 7 = .ok (.iload 4, 2) := by decide +kernel
theorem dL_shadeAt_9 : decode cL_shadeAt 9 = .ok (.invokevirtual 82, 3) := by decide +kernel
theorem dL_shadeAt_12 : decode cL_shadeAt 12 = .ok (.i2l, 1) := by decide +kernel
theorem dL_shadeAt_13 : decode cL_shadeAt 13 = .ok (.lastore, 1) := by decide +kernel
theorem dL_shadeAt_14 : decode cL_shadeAt 14 = .ok (.goto 11, 3) := by decide +kernel
theorem dL_shadeAt_17 : decode cL_shadeAt 17 = .ok (.astore 6, 2) := by decide +kernel
theorem dL_shadeAt_19 : decode cL_shadeAt 19 = .ok (.iconst 1, 1) := by decide +kernel
theorem dL_shadeAt_20 : decode cL_shadeAt 20 = .ok (.ireturn, 1) := by decide +kernel
theorem dL_shadeAt_21 : decode cL_shadeAt 21 = .ok (.astore 6, 2) := by decide +kernel
theorem dL_shadeAt_23 : decode cL_shadeAt 23 = .ok (.iconst 2, 1) := by decide +kernel
theorem dL_shadeAt_24 : decode cL_shadeAt 24 = .ok (.ireturn, 1) := by decide +kernel
theorem dL_shadeAt_25 : decode cL_shadeAt 25 = .ok (.iconst 0, 1) := by decide +kernel
theorem dL_shadeAt_26 : decode cL_shadeAt 26 = .ok (.ireturn, 1) := by decide +kernel
theorem dL_bestPeak_0 : decode cL_bestPeak 0 = .ok (.aload 4, 2) := by decide +kernel
theorem dL_bestPeak_2 : decode cL_bestPeak 2 = .ok (.iconst 0, 1) := by decide +kernel
theorem dL_bestPeak_3 : decode cL_bestPeak 3 = .ok (.aload_n 0, 1) := by decide +kernel
theorem dL_bestPeak_4 : decode cL_bestPeak 4 = .ok (.iload_n 1, 1) := by decide +kernel
theorem dL_bestPeak_5 : decode cL_bestPeak 5 = .ok (.iload_n 2, 1) := by decide +kernel
theorem dL_bestPeak_6 : decode cL_bestPeak 6 = .ok (.iload_n 3, 1) := by decide +kernel
theorem dL_bestPeak_7 : decode cL_bestPeak 7 = .ok (.invokevirtual 85, 3) := by decide +kernel
theorem dL_bestPeak_10 : decode cL_bestPeak 10 = .ok (.i2l, 1) := by decide +kernel
theorem dL_bestPeak_11 : decode cL_bestPeak 11 = .ok (.lastore, 1) := by decide +kernel
theorem dL_bestPeak_12 : decode cL_bestPeak 12 = .ok (.goto 11, 3) := by decide +kernel
theorem dL_bestPeak_15 : decode cL_bestPeak 15 = .ok (.astore 5, 2) := by decide +kernel
theorem dL_bestPeak_17 : decode cL_bestPeak 17 = .ok (.iconst 1, 1) := by decide +kernel
theorem dL_bestPeak_18 : decode cL_bestPeak 18 = .ok (.ireturn, 1) := by decide +kernel
theorem dL_bestPeak_19 : decode cL_bestPeak 19 = .ok (.astore 5, 2) := by decide +kernel
theorem dL_bestPeak_21 : decode cL_bestPeak 21 = .ok (.iconst 2, 1) := by decide +kernel
theorem dL_bestPeak_22 : decode cL_bestPeak 22 = .ok (.ireturn, 1) := by decide +kernel
theorem dL_bestPeak_23 : decode cL_bestPeak 23 = .ok (.iconst 0, 1) := by decide +kernel
theorem dL_bestPeak_24 : decode cL_bestPeak 24 = .ok (.ireturn, 1) := by decide +kernel
theorem dL_largest_0 : decode cL_largest 0 = .ok (.aload_n 3, 1) := by decide +kernel
theorem dL_largest_1 : decode cL_largest 1 = .ok (.iconst 0, 1) := by decide +kernel
theorem dL_largest_2 : decode cL_largest 2 = .ok (.aload_n 0, 1) := by decide +kernel
theorem dL_largest_3 : decode cL_largest 3 = .ok (.iload_n 1, 1) := by decide +kernel
theorem dL_largest_4 : decode cL_largest 4 = .ok (.iload_n 2, 1) := by decide +kernel
theorem dL_largest_5 : decode cL_largest 5 = .ok (.invokevirtual 88, 3) := by decide +kernel
theorem dL_largest_8 : decode cL_largest 8 = .ok (.i2l, 1) := by decide +kernel
theorem dL_largest_9 : decode cL_largest 9 = .ok (.lastore, 1) := by decide +kernel
theorem dL_largest_10 : decode cL_largest 10 = .ok (.goto 11, 3) := by decide +kernel
theorem dL_largest_13 : decode cL_largest 13 = .ok (.astore 4, 2) := by decide +kernel
theorem dL_largest_15 : decode cL_largest 15 = .ok (.iconst 1, 1) := by decide +kernel
theorem dL_largest_16 : decode cL_largest 16 = .ok (.ireturn, 1) := by decide +kernel
theorem dL_largest_17 : decode cL_largest 17 = .ok (.astore 4, 2) := by decide +kernel
theorem dL_largest_19 : decode cL_largest 19 = .ok (.iconst 2, 1) := by decide +kernel
theorem dL_largest_20 : decode cL_largest 20 = .ok (.ireturn, 1) := by decide +kernel
theorem dL_largest_21 : decode cL_largest 21 = .ok (.iconst 0, 1) := by decide +kernel
theorem dL_largest_22 : decode cL_largest 22 = .ok (.ireturn, 1) := by decide +kernel
theorem dL_possible_0 : decode cL_possible 0 = .ok (.aload 6, 2) := by decide +kernel
theorem dL_possible_2 : decode cL_possible 2 = .ok (.iconst 0, 1) := by decide +kernel
theorem dL_possible_3 : decode cL_possible 3 = .ok (.aload_n 0, 1) := by decide +kernel
theorem dL_possible_4 : decode cL_possible 4 = .ok (.iload_n 1, 1) := by decide +kernel
theorem dL_possible_5 : decode cL_possible 5 = .ok (.iload_n 2, 1) := by decide +kernel
theorem dL_possible_6 : decode cL_possible 6 = .ok (.iload_n 3, 1) := by decide +kernel
theorem dL_possible_7 : decode cL_possible 7 = .ok (.iload 4, 2) := by decide +kernel
theorem dL_possible_9 : decode cL_possible 9 = .ok (.iload 5, 2) := by decide +kernel
theorem dL_possible_11 : decode cL_possible 11 = .ok (.invokevirtual 91, 3) := by decide +kernel
theorem dL_possible_14 : decode cL_possible 14 = .ok (.i2l, 1) := by decide +kernel
theorem dL_possible_15 : decode cL_possible 15 = .ok (.lastore, 1) := by decide +kernel
theorem dL_possible_16 : decode cL_possible 16 = .ok (.goto 11, 3) := by decide +kernel
theorem dL_possible_19 : decode cL_possible 19 = .ok (.astore 7, 2) := by decide +kernel
theorem dL_possible_21 : decode cL_possible 21 = .ok (.iconst 1, 1) := by decide +kernel
theorem dL_possible_22 : decode cL_possible 22 = .ok (.ireturn, 1) := by decide +kernel
theorem dL_possible_23 : decode cL_possible 23 = .ok (.astore 7, 2) := by decide +kernel
theorem dL_possible_25 : decode cL_possible 25 = .ok (.iconst 2, 1) := by decide +kernel
theorem dL_possible_26 : decode cL_possible 26 = .ok (.ireturn, 1) := by decide +kernel
theorem dL_possible_27 : decode cL_possible 27 = .ok (.iconst 0, 1) := by decide +kernel
theorem dL_possible_28 : decode cL_possible 28 = .ok (.ireturn, 1) := by decide +kernel
theorem dL_wouldHide_0 : decode cL_wouldHide 0 = .ok (.aload_n 2, 1) := by decide +kernel
theorem dL_wouldHide_1 : decode cL_wouldHide 1 = .ok (.iconst 0, 1) := by decide +kernel
theorem dL_wouldHide_2 : decode cL_wouldHide 2 = .ok (.aload_n 0, 1) := by decide +kernel
theorem dL_wouldHide_3 : decode cL_wouldHide 3 = .ok (.iload_n 1, 1) := by decide +kernel
theorem dL_wouldHide_4 : decode cL_wouldHide 4 = .ok (.invokevirtual 95, 3) := by decide +kernel
theorem dL_wouldHide_7 : decode cL_wouldHide 7 = .ok (.i2l, 1) := by decide +kernel
theorem dL_wouldHide_8 : decode cL_wouldHide 8 = .ok (.lastore, 1) := by decide +kernel
theorem dL_wouldHide_9 : decode cL_wouldHide 9 = .ok (.goto 6, 3) := by decide +kernel
theorem dL_wouldHide_12 : decode cL_wouldHide 12 = .ok (.astore_n 3, 1) := by decide +kernel
theorem dL_wouldHide_13 : decode cL_wouldHide 13 = .ok (.iconst 1, 1) := by decide +kernel
theorem dL_wouldHide_14 : decode cL_wouldHide 14 = .ok (.ireturn, 1) := by decide +kernel
theorem dL_wouldHide_15 : decode cL_wouldHide 15 = .ok (.iconst 0, 1) := by decide +kernel
theorem dL_wouldHide_16 : decode cL_wouldHide 16 = .ok (.ireturn, 1) := by decide +kernel
theorem dL_append_0 : decode cL_append 0 = .ok (.aload_n 2, 1) := by decide +kernel
theorem dL_append_1 : decode cL_append 1 = .ok (.iconst 0, 1) := by decide +kernel
theorem dL_append_2 : decode cL_append 2 = .ok (.aload_n 0, 1) := by decide +kernel
theorem dL_append_3 : decode cL_append 3 = .ok (.iload_n 1, 1) := by decide +kernel
theorem dL_append_4 : decode cL_append 4 = .ok (.invokevirtual 98, 3) := by decide +kernel
theorem dL_append_7 : decode cL_append 7 = .ok (.i2l, 1) := by decide +kernel
theorem dL_append_8 : decode cL_append 8 = .ok (.lastore, 1) := by decide +kernel
theorem dL_append_9 : decode cL_append 9 = .ok (.goto 9, 3) := by decide +kernel
theorem dL_append_12 : decode cL_append 12 = .ok (.astore_n 3, 1) := by decide +kernel
theorem dL_append_13 : decode cL_append 13 = .ok (.iconst 1, 1) := by decide +kernel
theorem dL_append_14 : decode cL_append 14 = .ok (.ireturn, 1) := by decide +kernel
theorem dL_append_15 : decode cL_append 15 = .ok (.astore_n 3, 1) := by decide +kernel
theorem dL_append_16 : decode cL_append 16 = .ok (.iconst 2, 1) := by decide +kernel
theorem dL_append_17 : decode cL_append 17 = .ok (.ireturn, 1) := by decide +kernel
theorem dL_append_18 : decode cL_append 18 = .ok (.iconst 0, 1) := by decide +kernel
theorem dL_append_19 : decode cL_append 19 = .ok (.ireturn, 1) := by decide +kernel
theorem dL_execute_0 : decode cL_execute 0 = .ok (.aload_n 1, 1) := by decide +kernel
theorem dL_execute_1 : decode cL_execute 1 = .ok (.iconst 0, 1) := by decide +kernel
theorem dL_execute_2 : decode cL_execute 2 = .ok (.aload_n 0, 1) := by decide +kernel
theorem dL_execute_3 : decode cL_execute 3 = .ok (.invokevirtual 101, 3) := by decide +kernel
theorem dL_execute_6 : decode cL_execute 6 = .ok (.i2l, 1) := by decide +kernel
theorem dL_execute_7 : decode cL_execute 7 = .ok (.lastore, 1) := by decide +kernel
theorem dL_execute_8 : decode cL_execute 8 = .ok (.goto 6, 3) := by decide +kernel
theorem dL_execute_11 : decode cL_execute 11 = .ok (.astore_n 2, 1) := by decide +kernel
theorem dL_execute_12 : decode cL_execute 12 = .ok (.iconst 1, 1) := by decide +kernel
theorem dL_execute_13 : decode cL_execute 13 = .ok (.ireturn, 1) := by decide +kernel
theorem dL_execute_14 : decode cL_execute 14 = .ok (.iconst 0, 1) := by decide +kernel
theorem dL_execute_15 : decode cL_execute 15 = .ok (.ireturn, 1) := by decide +kernel
theorem dL_law_0 : decode cL_law 0 = .ok (.new 8, 3) := by decide +kernel
theorem dL_law_3 : decode cL_law 3 = .ok (.dup, 1) := by decide +kernel
theorem dL_law_4 : decode cL_law 4 = .ok (.invokespecial 104, 3) := by decide +kernel
theorem dL_law_7 : decode cL_law 7 = .ok (.astore_n 1, 1) := by decide +kernel
theorem dL_law_8 : decode cL_law 8 = .ok (.new 105, 3) := by decide +kernel
theorem dL_law_11 : decode cL_law 11 = .ok (.dup, 1) := by decide +kernel
theorem dL_law_12 : decode cL_law 12 = .ok (.invokespecial 107, 3) := by decide +kernel
theorem dL_law_15 : decode cL_law 15 = .ok (.astore_n 2, 1) := by decide +kernel
theorem dL_law_16 : decode cL_law 16 = .ok (.iconst 1, 1) := by decide +kernel
theorem dL_law_17 : decode cL_law 17 = .ok (.newarray .long, 2) := by decide +kernel
theorem dL_law_19 : decode cL_law 19 = .ok (.astore_n 3, 1) := by decide +kernel
theorem dL_law_20 : decode cL_law 20 = .ok (.iconst 0, 1) := by decide +kernel
theorem dL_law_21 : decode cL_law 21 = .ok (.istore 4, 2) := by decide +kernel
theorem dL_law_23 : decode cL_law 23 = .ok (.iload 4, 2) := by decide +kernel
theorem dL_law_25 : decode cL_law 25 = .ok (.aload_n 0, 1) := by decide +kernel
theorem dL_law_26 : decode cL_law 26 = .ok (.arraylength, 1) := by decide +kernel
theorem dL_law_27 : decode cL_law 27 = .ok (.bipush 6, 2) := by decide +kernel
theorem dL_law_29 : decode cL_law 29 = .ok (.isub, 1) := by decide +kernel
theorem dL_law_30 : decode cL_law 30 = .ok (.if_icmp .gt 2109, 3) := by decide +kernel
theorem dL_law_33 : decode cL_law 33 = .ok (.aload_n 0, 1) := by decide +kernel
theorem dL_law_34 : decode cL_law 34 = .ok (.iload 4, 2) := by decide +kernel
theorem dL_law_36 : decode cL_law 36 = .ok (.iaload, 1) := by decide +kernel
theorem dL_law_37 : decode cL_law 37 = .ok (.bipush 31, 2) := by decide +kernel
theorem dL_law_39 : decode cL_law 39 = .ok (.iand, 1) := by decide +kernel
theorem dL_law_40 : decode cL_law 40 = .ok (.tableswitch 2093 0 29 #[136, 216, 296, 388, 444, 500, 592, 648, 661, 741, 833, 913, 969, 1013, 1081, 1161, 1229, 1297, 1377, 1444, 1512, 1567, 1659, 1739, 1807, 1911, 1967, 2023, 2036, 2049], 136) := by decide +kernel
theorem dL_law_176 : decode cL_law 176 = .ok (.aload_n 1, 1) := by decide +kernel
theorem dL_law_177 : decode cL_law 177 = .ok (.aload_n 0, 1) := by decide +kernel
theorem dL_law_178 : decode cL_law 178 = .ok (.iload 4, 2) := by decide +kernel
theorem dL_law_180 : decode cL_law 180 = .ok (.iconst 1, 1) := by decide +kernel
theorem dL_law_181 : decode cL_law 181 = .ok (.iadd, 1) := by decide +kernel
theorem dL_law_182 : decode cL_law 182 = .ok (.iaload, 1) := by decide +kernel
theorem dL_law_183 : decode cL_law 183 = .ok (.aload_n 0, 1) := by decide +kernel
theorem dL_law_184 : decode cL_law 184 = .ok (.iload 4, 2) := by decide +kernel
theorem dL_law_186 : decode cL_law 186 = .ok (.iconst 2, 1) := by decide +kernel
theorem dL_law_187 : decode cL_law 187 = .ok (.iadd, 1) := by decide +kernel
theorem dL_law_188 : decode cL_law 188 = .ok (.iaload, 1) := by decide +kernel
theorem dL_law_189 : decode cL_law 189 = .ok (.aload_n 0, 1) := by decide +kernel
theorem dL_law_190 : decode cL_law 190 = .ok (.iload 4, 2) := by decide +kernel
theorem dL_law_192 : decode cL_law 192 = .ok (.iconst 3, 1) := by decide +kernel
theorem dL_law_193 : decode cL_law 193 = .ok (.iadd, 1) := by decide +kernel
theorem dL_law_194 : decode cL_law 194 = .ok (.iaload, 1) := by decide +kernel
theorem dL_law_195 : decode cL_law 195 = .ok (.aload_n 3, 1) := by decide +kernel
theorem dL_law_196 : decode cL_law 196 = .ok (.invokestatic 108, 3) := by decide +kernel
theorem dL_law_199 : decode cL_law 199 = .ok (.istore 5, 2) := by decide +kernel
theorem dL_law_201 : decode cL_law 201 = .ok (.aload_n 2, 1) := by decide +kernel
theorem dL_law_202 : decode cL_law 202 = .ok (.aload_n 0, 1) := by decide +kernel
theorem dL_law_203 : decode cL_law 203 = .ok (.iload 4, 2) := by decide +kernel
theorem dL_law_205 : decode cL_law 205 = .ok (.iconst 1, 1) := by decide +kernel
theorem dL_law_206 : decode cL_law 206 = .ok (.iadd, 1) := by decide +kernel
theorem dL_law_207 : decode cL_law 207 = .ok (.iaload, 1) := by decide +kernel
theorem dL_law_208 : decode cL_law 208 = .ok (.aload_n 0, 1) := by decide +kernel
theorem dL_law_209 : decode cL_law 209 = .ok (.iload 4, 2) := by decide +kernel
theorem dL_law_211 : decode cL_law 211 = .ok (.iconst 2, 1) := by decide +kernel
theorem dL_law_212 : decode cL_law 212 = .ok (.iadd, 1) := by decide +kernel
theorem dL_law_213 : decode cL_law 213 = .ok (.iaload, 1) := by decide +kernel
theorem dL_law_214 : decode cL_law 214 = .ok (.aload_n 0, 1) := by decide +kernel
theorem dL_law_215 : decode cL_law 215 = .ok (.iload 4, 2) := by decide +kernel
theorem dL_law_217 : decode cL_law 217 = .ok (.iconst 3, 1) := by decide +kernel
theorem dL_law_218 : decode cL_law 218 = .ok (.iadd, 1) := by decide +kernel
theorem dL_law_219 : decode cL_law 219 = .ok (.iaload, 1) := by decide +kernel
theorem dL_law_220 : decode cL_law 220 = .ok (.invokevirtual 113, 3) := by decide +kernel
theorem dL_law_223 : decode cL_law 223 = .ok (.istore 6, 2) := by decide +kernel
theorem dL_law_225 : decode cL_law 225 = .ok (.aload_n 2, 1) := by decide +kernel
theorem dL_law_226 : decode cL_law 226 = .ok (.invokevirtual 114, 3) := by decide +kernel
theorem dL_law_229 : decode cL_law 229 = .ok (.iload 5, 2) := by decide +kernel
theorem dL_law_231 : decode cL_law 231 = .ok (.if_icmp .eq 5, 3) := by decide +kernel
theorem dL_law_234 : decode cL_law 234 = .ok (.iconst 0, 1) := by decide +kernel
theorem dL_law_235 : decode cL_law 235 = .ok (.ireturn, 1) := by decide +kernel
theorem dL_law_236 : decode cL_law 236 = .ok (.iload 5, 2) := by decide +kernel
theorem dL_law_238 : decode cL_law 238 = .ok (.ifCond .ne 15, 3) := by decide +kernel
theorem dL_law_241 : decode cL_law 241 = .ok (.aload_n 3, 1) := by decide +kernel
theorem dL_law_242 : decode cL_law 242 = .ok (.iconst 0, 1) := by decide +kernel
theorem dL_law_243 : decode cL_law 243 = .ok (.laload, 1) := by decide +kernel
theorem dL_law_244 : decode cL_law 244 = .ok (.iload 6, 2) := by decide +kernel
theorem dL_law_246 : decode cL_law 246 = .ok (.i2l, 1) := by decide +kernel
theorem dL_law_247 : decode cL_law 247 = .ok (.lcmp, 1) := by decide +kernel
theorem dL_law_248 : decode cL_law 248 = .ok (.ifCond .eq 5, 3) := by decide +kernel
theorem dL_law_251 : decode cL_law 251 = .ok (.iconst 0, 1) := by decide +kernel
theorem dL_law_252 : decode cL_law 252 = .ok (.ireturn, 1) := by decide +kernel
theorem dL_law_253 : decode cL_law 253 = .ok (.goto 1880, 3) := by decide +kernel
theorem dL_law_256 : decode cL_law 256 = .ok (.aload_n 1, 1) := by decide +kernel
theorem dL_law_257 : decode cL_law 257 = .ok (.aload_n 0, 1) := by decide +kernel
theorem dL_law_258 : decode cL_law 258 = .ok (.iload 4, 2) := by decide +kernel
theorem dL_law_260 : decode cL_law 260 = .ok (.iconst 1, 1) := by decide +kernel
theorem dL_law_261 : decode cL_law 261 = .ok (.iadd, 1) := by decide +kernel
theorem dL_law_262 : decode cL_law 262 = .ok (.iaload, 1) := by decide +kernel
theorem dL_law_263 : decode cL_law 263 = .ok (.aload_n 0, 1) := by decide +kernel
theorem dL_law_264 : decode cL_law 264 = .ok (.iload 4, 2) := by decide +kernel
theorem dL_law_266 : decode cL_law 266 = .ok (.iconst 2, 1) := by decide +kernel
theorem dL_law_267 : decode cL_law 267 = .ok (.iadd, 1) := by decide +kernel
theorem dL_law_268 : decode cL_law 268 = .ok (.iaload, 1) := by decide +kernel
theorem dL_law_269 : decode cL_law 269 = .ok (.aload_n 0, 1) := by decide +kernel
theorem dL_law_270 : decode cL_law 270 = .ok (.iload 4, 2) := by decide +kernel
theorem dL_law_272 : decode cL_law 272 = .ok (.iconst 3, 1) := by decide +kernel
theorem dL_law_273 : decode cL_law 273 = .ok (.iadd, 1) := by decide +kernel
theorem dL_law_274 : decode cL_law 274 = .ok (.iaload, 1) := by decide +kernel
theorem dL_law_275 : decode cL_law 275 = .ok (.aload_n 3, 1) := by decide +kernel
theorem dL_law_276 : decode cL_law 276 = .ok (.invokestatic 117, 3) := by decide +kernel
theorem dL_law_279 : decode cL_law 279 = .ok (.istore 5, 2) := by decide +kernel
theorem dL_law_281 : decode cL_law 281 = .ok (.aload_n 2, 1) := by decide +kernel
theorem dL_law_282 : decode cL_law 282 = .ok (.aload_n 0, 1) := by decide +kernel
theorem dL_law_283 : decode cL_law 283 = .ok (.iload 4, 2) := by decide +kernel
theorem dL_law_285 : decode cL_law 285 = .ok (.iconst 1, 1) := by decide +kernel
theorem dL_law_286 : decode cL_law 286 = .ok (.iadd, 1) := by decide +kernel
theorem dL_law_287 : decode cL_law 287 = .ok (.iaload, 1) := by decide +kernel
theorem dL_law_288 : decode cL_law 288 = .ok (.aload_n 0, 1) := by decide +kernel
theorem dL_law_289 : decode cL_law 289 = .ok (.iload 4, 2) := by decide +kernel
theorem dL_law_291 : decode cL_law 291 = .ok (.iconst 2, 1) := by decide +kernel
theorem dL_law_292 : decode cL_law 292 = .ok (.iadd, 1) := by decide +kernel
theorem dL_law_293 : decode cL_law 293 = .ok (.iaload, 1) := by decide +kernel
theorem dL_law_294 : decode cL_law 294 = .ok (.aload_n 0, 1) := by decide +kernel
theorem dL_law_295 : decode cL_law 295 = .ok (.iload 4, 2) := by decide +kernel
theorem dL_law_297 : decode cL_law 297 = .ok (.iconst 3, 1) := by decide +kernel
theorem dL_law_298 : decode cL_law 298 = .ok (.iadd, 1) := by decide +kernel
theorem dL_law_299 : decode cL_law 299 = .ok (.iaload, 1) := by decide +kernel
theorem dL_law_300 : decode cL_law 300 = .ok (.invokevirtual 119, 3) := by decide +kernel
theorem dL_law_303 : decode cL_law 303 = .ok (.istore 6, 2) := by decide +kernel
theorem dL_law_305 : decode cL_law 305 = .ok (.aload_n 2, 1) := by decide +kernel
theorem dL_law_306 : decode cL_law 306 = .ok (.invokevirtual 114, 3) := by decide +kernel
theorem dL_law_309 : decode cL_law 309 = .ok (.iload 5, 2) := by decide +kernel
theorem dL_law_311 : decode cL_law 311 = .ok (.if_icmp .eq 5, 3) := by decide +kernel
theorem dL_law_314 : decode cL_law 314 = .ok (.iconst 0, 1) := by decide +kernel
theorem dL_law_315 : decode cL_law 315 = .ok (.ireturn, 1) := by decide +kernel
theorem dL_law_316 : decode cL_law 316 = .ok (.iload 5, 2) := by decide +kernel
theorem dL_law_318 : decode cL_law 318 = .ok (.ifCond .ne 15, 3) := by decide +kernel
theorem dL_law_321 : decode cL_law 321 = .ok (.aload_n 3, 1) := by decide +kernel
theorem dL_law_322 : decode cL_law 322 = .ok (.iconst 0, 1) := by decide +kernel
theorem dL_law_323 : decode cL_law 323 = .ok (.laload, 1) := by decide +kernel
theorem dL_law_324 : decode cL_law 324 = .ok (.iload 6, 2) := by decide +kernel
theorem dL_law_326 : decode cL_law 326 = .ok (.i2l, 1) := by decide +kernel
theorem dL_law_327 : decode cL_law 327 = .ok (.lcmp, 1) := by decide +kernel
theorem dL_law_328 : decode cL_law 328 = .ok (.ifCond .eq 5, 3) := by decide +kernel
theorem dL_law_331 : decode cL_law 331 = .ok (.iconst 0, 1) := by decide +kernel
theorem dL_law_332 : decode cL_law 332 = .ok (.ireturn, 1) := by decide +kernel
theorem dL_law_333 : decode cL_law 333 = .ok (.goto 1800, 3) := by decide +kernel
theorem dL_law_336 : decode cL_law 336 = .ok (.aload_n 1, 1) := by decide +kernel
theorem dL_law_337 : decode cL_law 337 = .ok (.aload_n 0, 1) := by decide +kernel
theorem dL_law_338 : decode cL_law 338 = .ok (.iload 4, 2) := by decide +kernel
theorem dL_law_340 : decode cL_law 340 = .ok (.iconst 1, 1) := by decide +kernel
theorem dL_law_341 : decode cL_law 341 = .ok (.iadd, 1) := by decide +kernel
theorem dL_law_342 : decode cL_law 342 = .ok (.iaload, 1) := by decide +kernel
theorem dL_law_343 : decode cL_law 343 = .ok (.aload_n 0, 1) := by decide +kernel
theorem dL_law_344 : decode cL_law 344 = .ok (.iload 4, 2) := by decide +kernel
theorem dL_law_346 : decode cL_law 346 = .ok (.iconst 2, 1) := by decide +kernel
theorem dL_law_347 : decode cL_law 347 = .ok (.iadd, 1) := by decide +kernel
theorem dL_law_348 : decode cL_law 348 = .ok (.iaload, 1) := by decide +kernel
theorem dL_law_349 : decode cL_law 349 = .ok (.aload_n 0, 1) := by decide +kernel
theorem dL_law_350 : decode cL_law 350 = .ok (.iload 4, 2) := by decide +kernel
theorem dL_law_352 : decode cL_law 352 = .ok (.iconst 3, 1) := by decide +kernel
theorem dL_law_353 : decode cL_law 353 = .ok (.iadd, 1) := by decide +kernel
theorem dL_law_354 : decode cL_law 354 = .ok (.iaload, 1) := by decide +kernel
theorem dL_law_355 : decode cL_law 355 = .ok (.aload_n 0, 1) := by decide +kernel
theorem dL_law_356 : decode cL_law 356 = .ok (.iload 4, 2) := by decide +kernel
theorem dL_law_358 : decode cL_law 358 = .ok (.iconst 4, 1) := by decide +kernel
theorem dL_law_359 : decode cL_law 359 = .ok (.iadd, 1) := by decide +kernel
theorem dL_law_360 : decode cL_law 360 = .ok (.iaload, 1) := by decide +kernel
theorem dL_law_361 : decode cL_law 361 = .ok (.aload_n 3, 1) := by decide +kernel
theorem dL_law_362 : decode cL_law 362 = .ok (.invokestatic 120, 3) := by decide +kernel
theorem dL_law_365 : decode cL_law 365 = .ok (.istore 5, 2) := by decide +kernel
theorem dL_law_367 : decode cL_law 367 = .ok (.aload_n 2, 1) := by decide +kernel
theorem dL_law_368 : decode cL_law 368 = .ok (.aload_n 0, 1) := by decide +kernel
theorem dL_law_369 : decode cL_law 369 = .ok (.iload 4, 2) := by decide +kernel
theorem dL_law_371 : decode cL_law 371 = .ok (.iconst 1, 1) := by decide +kernel
theorem dL_law_372 : decode cL_law 372 = .ok (.iadd, 1) := by decide +kernel
theorem dL_law_373 : decode cL_law 373 = .ok (.iaload, 1) := by decide +kernel
theorem dL_law_374 : decode cL_law 374 = .ok (.aload_n 0, 1) := by decide +kernel
theorem dL_law_375 : decode cL_law 375 = .ok (.iload 4, 2) := by decide +kernel
theorem dL_law_377 : decode cL_law 377 = .ok (.iconst 2, 1) := by decide +kernel
theorem dL_law_378 : decode cL_law 378 = .ok (.iadd, 1) := by decide +kernel
theorem dL_law_379 : decode cL_law 379 = .ok (.iaload, 1) := by decide +kernel
theorem dL_law_380 : decode cL_law 380 = .ok (.aload_n 0, 1) := by decide +kernel
theorem dL_law_381 : decode cL_law 381 = .ok (.iload 4, 2) := by decide +kernel
theorem dL_law_383 : decode cL_law 383 = .ok (.iconst 3, 1) := by decide +kernel
theorem dL_law_384 : decode cL_law 384 = .ok (.iadd, 1) := by decide +kernel
theorem dL_law_385 : decode cL_law 385 = .ok (.iaload, 1) := by decide +kernel
theorem dL_law_386 : decode cL_law 386 = .ok (.aload_n 0, 1) := by decide +kernel
theorem dL_law_387 : decode cL_law 387 = .ok (.iload 4, 2) := by decide +kernel
theorem dL_law_389 : decode cL_law 389 = .ok (.iconst 4, 1) := by decide +kernel
theorem dL_law_390 : decode cL_law 390 = .ok (.iadd, 1) := by decide +kernel
theorem dL_law_391 : decode cL_law 391 = .ok (.iaload, 1) := by decide +kernel
theorem dL_law_392 : decode cL_law 392 = .ok (.invokevirtual 123, 3) := by decide +kernel
theorem dL_law_395 : decode cL_law 395 = .ok (.istore 6, 2) := by decide +kernel
theorem dL_law_397 : decode cL_law 397 = .ok (.aload_n 2, 1) := by decide +kernel
theorem dL_law_398 : decode cL_law 398 = .ok (.invokevirtual 114, 3) := by decide +kernel
theorem dL_law_401 : decode cL_law 401 = .ok (.iload 5, 2) := by decide +kernel
theorem dL_law_403 : decode cL_law 403 = .ok (.if_icmp .eq 5, 3) := by decide +kernel
theorem dL_law_406 : decode cL_law 406 = .ok (.iconst 0, 1) := by decide +kernel
theorem dL_law_407 : decode cL_law 407 = .ok (.ireturn, 1) := by decide +kernel
theorem dL_law_408 : decode cL_law 408 = .ok (.iload 5, 2) := by decide +kernel
theorem dL_law_410 : decode cL_law 410 = .ok (.ifCond .ne 15, 3) := by decide +kernel
theorem dL_law_413 : decode cL_law 413 = .ok (.aload_n 3, 1) := by decide +kernel
theorem dL_law_414 : decode cL_law 414 = .ok (.iconst 0, 1) := by decide +kernel
theorem dL_law_415 : decode cL_law 415 = .ok (.laload, 1) := by decide +kernel
theorem dL_law_416 : decode cL_law 416 = .ok (.iload 6, 2) := by decide +kernel
theorem dL_law_418 : decode cL_law 418 = .ok (.i2l, 1) := by decide +kernel
theorem dL_law_419 : decode cL_law 419 = .ok (.lcmp, 1) := by decide +kernel
theorem dL_law_420 : decode cL_law 420 = .ok (.ifCond .eq 5, 3) := by decide +kernel
theorem dL_law_423 : decode cL_law 423 = .ok (.iconst 0, 1) := by decide +kernel
theorem dL_law_424 : decode cL_law 424 = .ok (.ireturn, 1) := by decide +kernel
theorem dL_law_425 : decode cL_law 425 = .ok (.goto 1708, 3) := by decide +kernel
theorem dL_law_428 : decode cL_law 428 = .ok (.aload_n 1, 1) := by decide +kernel
theorem dL_law_429 : decode cL_law 429 = .ok (.aload_n 0, 1) := by decide +kernel
theorem dL_law_430 : decode cL_law 430 = .ok (.iload 4, 2) := by decide +kernel
theorem dL_law_432 : decode cL_law 432 = .ok (.iconst 1, 1) := by decide +kernel
theorem dL_law_433 : decode cL_law 433 = .ok (.iadd, 1) := by decide +kernel
theorem dL_law_434 : decode cL_law 434 = .ok (.iaload, 1) := by decide +kernel
theorem dL_law_435 : decode cL_law 435 = .ok (.aload_n 3, 1) := by decide +kernel
theorem dL_law_436 : decode cL_law 436 = .ok (.invokestatic 124, 3) := by decide +kernel
theorem dL_law_439 : decode cL_law 439 = .ok (.istore 5, 2) := by decide +kernel
theorem dL_law_441 : decode cL_law 441 = .ok (.aload_n 2, 1) := by decide +kernel
theorem dL_law_442 : decode cL_law 442 = .ok (.aload_n 0, 1) := by decide +kernel
theorem dL_law_443 : decode cL_law 443 = .ok (.iload 4, 2) := by decide +kernel
theorem dL_law_445 : decode cL_law 445 = .ok (.iconst 1, 1) := by decide +kernel
theorem dL_law_446 : decode cL_law 446 = .ok (.iadd, 1) := by decide +kernel
theorem dL_law_447 : decode cL_law 447 = .ok (.iaload, 1) := by decide +kernel
theorem dL_law_448 : decode cL_law 448 = .ok (.invokevirtual 127, 3) := by decide +kernel
theorem dL_law_451 : decode cL_law 451 = .ok (.istore 6, 2) := by decide +kernel
theorem dL_law_453 : decode cL_law 453 = .ok (.aload_n 2, 1) := by decide +kernel
theorem dL_law_454 : decode cL_law 454 = .ok (.invokevirtual 114, 3) := by decide +kernel
theorem dL_law_457 : decode cL_law 457 = .ok (.iload 5, 2) := by decide +kernel
theorem dL_law_459 : decode cL_law 459 = .ok (.if_icmp .eq 5, 3) := by decide +kernel
theorem dL_law_462 : decode cL_law 462 = .ok (.iconst 0, 1) := by decide +kernel
theorem dL_law_463 : decode cL_law 463 = .ok (.ireturn, 1) := by decide +kernel
theorem dL_law_464 : decode cL_law 464 = .ok (.iload 5, 2) := by decide +kernel
theorem dL_law_466 : decode cL_law 466 = .ok (.ifCond .ne 15, 3) := by decide +kernel
theorem dL_law_469 : decode cL_law 469 = .ok (.aload_n 3, 1) := by decide +kernel
theorem dL_law_470 : decode cL_law 470 = .ok (.iconst 0, 1) := by decide +kernel
theorem dL_law_471 : decode cL_law 471 = .ok (.laload, 1) := by decide +kernel
theorem dL_law_472 : decode cL_law 472 = .ok (.iload 6, 2) := by decide +kernel
theorem dL_law_474 : decode cL_law 474 = .ok (.i2l, 1) := by decide +kernel
theorem dL_law_475 : decode cL_law 475 = .ok (.lcmp, 1) := by decide +kernel
theorem dL_law_476 : decode cL_law 476 = .ok (.ifCond .eq 5, 3) := by decide +kernel
theorem dL_law_479 : decode cL_law 479 = .ok (.iconst 0, 1) := by decide +kernel
theorem dL_law_480 : decode cL_law 480 = .ok (.ireturn, 1) := by decide +kernel
theorem dL_law_481 : decode cL_law 481 = .ok (.goto 1652, 3) := by decide +kernel
theorem dL_law_484 : decode cL_law 484 = .ok (.aload_n 1, 1) := by decide +kernel
theorem dL_law_485 : decode cL_law 485 = .ok (.aload_n 0, 1) := by decide +kernel
theorem dL_law_486 : decode cL_law 486 = .ok (.iload 4, 2) := by decide +kernel
theorem dL_law_488 : decode cL_law 488 = .ok (.iconst 1, 1) := by decide +kernel
theorem dL_law_489 : decode cL_law 489 = .ok (.iadd, 1) := by decide +kernel
theorem dL_law_490 : decode cL_law 490 = .ok (.iaload, 1) := by decide +kernel
theorem dL_law_491 : decode cL_law 491 = .ok (.aload_n 3, 1) := by decide +kernel
theorem dL_law_492 : decode cL_law 492 = .ok (.invokestatic 128, 3) := by decide +kernel
theorem dL_law_495 : decode cL_law 495 = .ok (.istore 5, 2) := by decide +kernel
theorem dL_law_497 : decode cL_law 497 = .ok (.aload_n 2, 1) := by decide +kernel
theorem dL_law_498 : decode cL_law 498 = .ok (.aload_n 0, 1) := by decide +kernel
theorem dL_law_499 : decode cL_law 499 = .ok (.iload 4, 2) := by decide +kernel
theorem dL_law_501 : decode cL_law 501 = .ok (.iconst 1, 1) := by decide +kernel
theorem dL_law_502 : decode cL_law 502 = .ok (.iadd, 1) := by decide +kernel
theorem dL_law_503 : decode cL_law 503 = .ok (.iaload, 1) := by decide +kernel
theorem dL_law_504 : decode cL_law 504 = .ok (.invokevirtual 130, 3) := by decide +kernel
theorem dL_law_507 : decode cL_law 507 = .ok (.istore 6, 2) := by decide +kernel
theorem dL_law_509 : decode cL_law 509 = .ok (.aload_n 2, 1) := by decide +kernel
theorem dL_law_510 : decode cL_law 510 = .ok (.invokevirtual 114, 3) := by decide +kernel
theorem dL_law_513 : decode cL_law 513 = .ok (.iload 5, 2) := by decide +kernel
theorem dL_law_515 : decode cL_law 515 = .ok (.if_icmp .eq 5, 3) := by decide +kernel
theorem dL_law_518 : decode cL_law 518 = .ok (.iconst 0, 1) := by decide +kernel
theorem dL_law_519 : decode cL_law 519 = .ok (.ireturn, 1) := by decide +kernel
theorem dL_law_520 : decode cL_law 520 = .ok (.iload 5, 2) := by decide +kernel
theorem dL_law_522 : decode cL_law 522 = .ok (.ifCond .ne 15, 3) := by decide +kernel
theorem dL_law_525 : decode cL_law 525 = .ok (.aload_n 3, 1) := by decide +kernel
theorem dL_law_526 : decode cL_law 526 = .ok (.iconst 0, 1) := by decide +kernel
theorem dL_law_527 : decode cL_law 527 = .ok (.laload, 1) := by decide +kernel
theorem dL_law_528 : decode cL_law 528 = .ok (.iload 6, 2) := by decide +kernel
theorem dL_law_530 : decode cL_law 530 = .ok (.i2l, 1) := by decide +kernel
theorem dL_law_531 : decode cL_law 531 = .ok (.lcmp, 1) := by decide +kernel
theorem dL_law_532 : decode cL_law 532 = .ok (.ifCond .eq 5, 3) := by decide +kernel
theorem dL_law_535 : decode cL_law 535 = .ok (.iconst 0, 1) := by decide +kernel
theorem dL_law_536 : decode cL_law 536 = .ok (.ireturn, 1) := by decide +kernel
theorem dL_law_537 : decode cL_law 537 = .ok (.goto 1596, 3) := by decide +kernel
theorem dL_law_540 : decode cL_law 540 = .ok (.aload_n 1, 1) := by decide +kernel
theorem dL_law_541 : decode cL_law 541 = .ok (.aload_n 0, 1) := by decide +kernel
theorem dL_law_542 : decode cL_law 542 = .ok (.iload 4, 2) := by decide +kernel
theorem dL_law_544 : decode cL_law 544 = .ok (.iconst 1, 1) := by decide +kernel
theorem dL_law_545 : decode cL_law 545 = .ok (.iadd, 1) := by decide +kernel
theorem dL_law_546 : decode cL_law 546 = .ok (.iaload, 1) := by decide +kernel
theorem dL_law_547 : decode cL_law 547 = .ok (.aload_n 0, 1) := by decide +kernel
theorem dL_law_548 : decode cL_law 548 = .ok (.iload 4, 2) := by decide +kernel
theorem dL_law_550 : decode cL_law 550 = .ok (.iconst 2, 1) := by decide +kernel
theorem dL_law_551 : decode cL_law 551 = .ok (.iadd, 1) := by decide +kernel
theorem dL_law_552 : decode cL_law 552 = .ok (.iaload, 1) := by decide +kernel
theorem dL_law_553 : decode cL_law 553 = .ok (.aload_n 0, 1) := by decide +kernel
theorem dL_law_554 : decode cL_law 554 = .ok (.iload 4, 2) := by decide +kernel
theorem dL_law_556 : decode cL_law 556 = .ok (.iconst 3, 1) := by decide +kernel
theorem dL_law_557 : decode cL_law 557 = .ok (.iadd, 1) := by decide +kernel
theorem dL_law_558 : decode cL_law 558 = .ok (.iaload, 1) := by decide +kernel
theorem dL_law_559 : decode cL_law 559 = .ok (.aload_n 0, 1) := by decide +kernel
theorem dL_law_560 : decode cL_law 560 = .ok (.iload 4, 2) := by decide +kernel
theorem dL_law_562 : decode cL_law 562 = .ok (.iconst 4, 1) := by decide +kernel
theorem dL_law_563 : decode cL_law 563 = .ok (.iadd, 1) := by decide +kernel
theorem dL_law_564 : decode cL_law 564 = .ok (.iaload, 1) := by decide +kernel
theorem dL_law_565 : decode cL_law 565 = .ok (.aload_n 3, 1) := by decide +kernel
theorem dL_law_566 : decode cL_law 566 = .ok (.invokestatic 131, 3) := by decide +kernel
theorem dL_law_569 : decode cL_law 569 = .ok (.istore 5, 2) := by decide +kernel
theorem dL_law_571 : decode cL_law 571 = .ok (.aload_n 2, 1) := by decide +kernel
theorem dL_law_572 : decode cL_law 572 = .ok (.aload_n 0, 1) := by decide +kernel
theorem dL_law_573 : decode cL_law 573 = .ok (.iload 4, 2) := by decide +kernel
theorem dL_law_575 : decode cL_law 575 = .ok (.iconst 1, 1) := by decide +kernel
theorem dL_law_576 : decode cL_law 576 = .ok (.iadd, 1) := by decide +kernel
theorem dL_law_577 : decode cL_law 577 = .ok (.iaload, 1) := by decide +kernel
theorem dL_law_578 : decode cL_law 578 = .ok (.aload_n 0, 1) := by decide +kernel
theorem dL_law_579 : decode cL_law 579 = .ok (.iload 4, 2) := by decide +kernel
theorem dL_law_581 : decode cL_law 581 = .ok (.iconst 2, 1) := by decide +kernel
theorem dL_law_582 : decode cL_law 582 = .ok (.iadd, 1) := by decide +kernel
theorem dL_law_583 : decode cL_law 583 = .ok (.iaload, 1) := by decide +kernel
theorem dL_law_584 : decode cL_law 584 = .ok (.aload_n 0, 1) := by decide +kernel
theorem dL_law_585 : decode cL_law 585 = .ok (.iload 4, 2) := by decide +kernel
theorem dL_law_587 : decode cL_law 587 = .ok (.iconst 3, 1) := by decide +kernel
theorem dL_law_588 : decode cL_law 588 = .ok (.iadd, 1) := by decide +kernel
theorem dL_law_589 : decode cL_law 589 = .ok (.iaload, 1) := by decide +kernel
theorem dL_law_590 : decode cL_law 590 = .ok (.aload_n 0, 1) := by decide +kernel
theorem dL_law_591 : decode cL_law 591 = .ok (.iload 4, 2) := by decide +kernel
theorem dL_law_593 : decode cL_law 593 = .ok (.iconst 4, 1) := by decide +kernel
theorem dL_law_594 : decode cL_law 594 = .ok (.iadd, 1) := by decide +kernel
theorem dL_law_595 : decode cL_law 595 = .ok (.iaload, 1) := by decide +kernel
theorem dL_law_596 : decode cL_law 596 = .ok (.invokevirtual 133, 3) := by decide +kernel
theorem dL_law_599 : decode cL_law 599 = .ok (.istore 6, 2) := by decide +kernel
theorem dL_law_601 : decode cL_law 601 = .ok (.aload_n 2, 1) := by decide +kernel
theorem dL_law_602 : decode cL_law 602 = .ok (.invokevirtual 114, 3) := by decide +kernel
theorem dL_law_605 : decode cL_law 605 = .ok (.iload 5, 2) := by decide +kernel
theorem dL_law_607 : decode cL_law 607 = .ok (.if_icmp .eq 5, 3) := by decide +kernel
theorem dL_law_610 : decode cL_law 610 = .ok (.iconst 0, 1) := by decide +kernel
theorem dL_law_611 : decode cL_law 611 = .ok (.ireturn, 1) := by decide +kernel
theorem dL_law_612 : decode cL_law 612 = .ok (.iload 5, 2) := by decide +kernel
theorem dL_law_614 : decode cL_law 614 = .ok (.ifCond .ne 15, 3) := by decide +kernel
theorem dL_law_617 : decode cL_law 617 = .ok (.aload_n 3, 1) := by decide +kernel
theorem dL_law_618 : decode cL_law 618 = .ok (.iconst 0, 1) := by decide +kernel
theorem dL_law_619 : decode cL_law 619 = .ok (.laload, 1) := by decide +kernel
theorem dL_law_620 : decode cL_law 620 = .ok (.iload 6, 2) := by decide +kernel
theorem dL_law_622 : decode cL_law 622 = .ok (.i2l, 1) := by decide +kernel
theorem dL_law_623 : decode cL_law 623 = .ok (.lcmp, 1) := by decide +kernel
theorem dL_law_624 : decode cL_law 624 = .ok (.ifCond .eq 5, 3) := by decide +kernel
theorem dL_law_627 : decode cL_law 627 = .ok (.iconst 0, 1) := by decide +kernel
theorem dL_law_628 : decode cL_law 628 = .ok (.ireturn, 1) := by decide +kernel
theorem dL_law_629 : decode cL_law 629 = .ok (.goto 1504, 3) := by decide +kernel
theorem dL_law_632 : decode cL_law 632 = .ok (.aload_n 1, 1) := by decide +kernel
theorem dL_law_633 : decode cL_law 633 = .ok (.aload_n 0, 1) := by decide +kernel
theorem dL_law_634 : decode cL_law 634 = .ok (.iload 4, 2) := by decide +kernel
theorem dL_law_636 : decode cL_law 636 = .ok (.iconst 1, 1) := by decide +kernel
theorem dL_law_637 : decode cL_law 637 = .ok (.iadd, 1) := by decide +kernel
theorem dL_law_638 : decode cL_law 638 = .ok (.iaload, 1) := by decide +kernel
theorem dL_law_639 : decode cL_law 639 = .ok (.aload_n 3, 1) := by decide +kernel
theorem dL_law_640 : decode cL_law 640 = .ok (.invokestatic 134, 3) := by decide +kernel
theorem dL_law_643 : decode cL_law 643 = .ok (.istore 5, 2) := by decide +kernel
theorem dL_law_645 : decode cL_law 645 = .ok (.aload_n 2, 1) := by decide +kernel
theorem dL_law_646 : decode cL_law 646 = .ok (.aload_n 0, 1) := by decide +kernel
theorem dL_law_647 : decode cL_law 647 = .ok (.iload 4, 2) := by decide +kernel
theorem dL_law_649 : decode cL_law 649 = .ok (.iconst 1, 1) := by decide +kernel
theorem dL_law_650 : decode cL_law 650 = .ok (.iadd, 1) := by decide +kernel
theorem dL_law_651 : decode cL_law 651 = .ok (.iaload, 1) := by decide +kernel
theorem dL_law_652 : decode cL_law 652 = .ok (.invokevirtual 136, 3) := by decide +kernel
theorem dL_law_655 : decode cL_law 655 = .ok (.istore 6, 2) := by decide +kernel
theorem dL_law_657 : decode cL_law 657 = .ok (.aload_n 2, 1) := by decide +kernel
theorem dL_law_658 : decode cL_law 658 = .ok (.invokevirtual 114, 3) := by decide +kernel
theorem dL_law_661 : decode cL_law 661 = .ok (.iload 5, 2) := by decide +kernel
theorem dL_law_663 : decode cL_law 663 = .ok (.if_icmp .eq 5, 3) := by decide +kernel
theorem dL_law_666 : decode cL_law 666 = .ok (.iconst 0, 1) := by decide +kernel
theorem dL_law_667 : decode cL_law 667 = .ok (.ireturn, 1) := by decide +kernel
theorem dL_law_668 : decode cL_law 668 = .ok (.iload 5, 2) := by decide +kernel
theorem dL_law_670 : decode cL_law 670 = .ok (.ifCond .ne 15, 3) := by decide +kernel
theorem dL_law_673 : decode cL_law 673 = .ok (.aload_n 3, 1) := by decide +kernel
theorem dL_law_674 : decode cL_law 674 = .ok (.iconst 0, 1) := by decide +kernel
theorem dL_law_675 : decode cL_law 675 = .ok (.laload, 1) := by decide +kernel
theorem dL_law_676 : decode cL_law 676 = .ok (.iload 6, 2) := by decide +kernel
theorem dL_law_678 : decode cL_law 678 = .ok (.i2l, 1) := by decide +kernel
theorem dL_law_679 : decode cL_law 679 = .ok (.lcmp, 1) := by decide +kernel
theorem dL_law_680 : decode cL_law 680 = .ok (.ifCond .eq 5, 3) := by decide +kernel
theorem dL_law_683 : decode cL_law 683 = .ok (.iconst 0, 1) := by decide +kernel
theorem dL_law_684 : decode cL_law 684 = .ok (.ireturn, 1) := by decide +kernel
theorem dL_law_685 : decode cL_law 685 = .ok (.goto 1448, 3) := by decide +kernel
theorem dL_law_688 : decode cL_law 688 = .ok (.aload_n 1, 1) := by decide +kernel
theorem dL_law_689 : decode cL_law 689 = .ok (.invokevirtual 137, 3) := by decide +kernel
theorem dL_law_692 : decode cL_law 692 = .ok (.aload_n 2, 1) := by decide +kernel
theorem dL_law_693 : decode cL_law 693 = .ok (.invokevirtual 140, 3) := by decide +kernel
theorem dL_law_696 : decode cL_law 696 = .ok (.if_icmp .eq 1437, 3) := by decide +kernel
theorem dL_law_699 : decode cL_law 699 = .ok (.iconst 0, 1) := by decide +kernel
theorem dL_law_700 : decode cL_law 700 = .ok (.ireturn, 1) := by decide +kernel
theorem dL_law_701 : decode cL_law 701 = .ok (.aload_n 1, 1) := by decide +kernel
theorem dL_law_702 : decode cL_law 702 = .ok (.aload_n 0, 1) := by decide +kernel
theorem dL_law_703 : decode cL_law 703 = .ok (.iload 4, 2) := by decide +kernel
theorem dL_law_705 : decode cL_law 705 = .ok (.iconst 1, 1) := by decide +kernel
theorem dL_law_706 : decode cL_law 706 = .ok (.iadd, 1) := by decide +kernel
theorem dL_law_707 : decode cL_law 707 = .ok (.iaload, 1) := by decide +kernel
theorem dL_law_708 : decode cL_law 708 = .ok (.aload_n 0, 1) := by decide +kernel
theorem dL_law_709 : decode cL_law 709 = .ok (.iload 4, 2) := by decide +kernel
theorem dL_law_711 : decode cL_law 711 = .ok (.iconst 2, 1) := by decide +kernel
theorem dL_law_712 : decode cL_law 712 = .ok (.iadd, 1) := by decide +kernel
theorem dL_law_713 : decode cL_law 713 = .ok (.iaload, 1) := by decide +kernel
theorem dL_law_714 : decode cL_law 714 = .ok (.aload_n 0, 1) := by decide +kernel
theorem dL_law_715 : decode cL_law 715 = .ok (.iload 4, 2) := by decide +kernel
theorem dL_law_717 : decode cL_law 717 = .ok (.iconst 3, 1) := by decide +kernel
theorem dL_law_718 : decode cL_law 718 = .ok (.iadd, 1) := by decide +kernel
theorem dL_law_719 : decode cL_law 719 = .ok (.iaload, 1) := by decide +kernel
theorem dL_law_720 : decode cL_law 720 = .ok (.aload_n 3, 1) := by decide +kernel
theorem dL_law_721 : decode cL_law 721 = .ok (.invokestatic 141, 3) := by decide +kernel
theorem dL_law_724 : decode cL_law 724 = .ok (.istore 5, 2) := by decide +kernel
theorem dL_law_726 : decode cL_law 726 = .ok (.aload_n 2, 1) := by decide +kernel
theorem dL_law_727 : decode cL_law 727 = .ok (.aload_n 0, 1) := by decide +kernel
theorem dL_law_728 : decode cL_law 728 = .ok (.iload 4, 2) := by decide +kernel
theorem dL_law_730 : decode cL_law 730 = .ok (.iconst 1, 1) := by decide +kernel
theorem dL_law_731 : decode cL_law 731 = .ok (.iadd, 1) := by decide +kernel
theorem dL_law_732 : decode cL_law 732 = .ok (.iaload, 1) := by decide +kernel
theorem dL_law_733 : decode cL_law 733 = .ok (.aload_n 0, 1) := by decide +kernel
theorem dL_law_734 : decode cL_law 734 = .ok (.iload 4, 2) := by decide +kernel
theorem dL_law_736 : decode cL_law 736 = .ok (.iconst 2, 1) := by decide +kernel
theorem dL_law_737 : decode cL_law 737 = .ok (.iadd, 1) := by decide +kernel
theorem dL_law_738 : decode cL_law 738 = .ok (.iaload, 1) := by decide +kernel
theorem dL_law_739 : decode cL_law 739 = .ok (.aload_n 0, 1) := by decide +kernel
theorem dL_law_740 : decode cL_law 740 = .ok (.iload 4, 2) := by decide +kernel
theorem dL_law_742 : decode cL_law 742 = .ok (.iconst 3, 1) := by decide +kernel
theorem dL_law_743 : decode cL_law 743 = .ok (.iadd, 1) := by decide +kernel
theorem dL_law_744 : decode cL_law 744 = .ok (.iaload, 1) := by decide +kernel
theorem dL_law_745 : decode cL_law 745 = .ok (.invokevirtual 143, 3) := by decide +kernel
theorem dL_law_748 : decode cL_law 748 = .ok (.istore 6, 2) := by decide +kernel
theorem dL_law_750 : decode cL_law 750 = .ok (.aload_n 2, 1) := by decide +kernel
theorem dL_law_751 : decode cL_law 751 = .ok (.invokevirtual 114, 3) := by decide +kernel
theorem dL_law_754 : decode cL_law 754 = .ok (.iload 5, 2) := by decide +kernel
theorem dL_law_756 : decode cL_law 756 = .ok (.if_icmp .eq 5, 3) := by decide +kernel
theorem dL_law_759 : decode cL_law 759 = .ok (.iconst 0, 1) := by decide +kernel
theorem dL_law_760 : decode cL_law 760 = .ok (.ireturn, 1) := by decide +kernel
theorem dL_law_761 : decode cL_law 761 = .ok (.iload 5, 2) := by decide +kernel
theorem dL_law_763 : decode cL_law 763 = .ok (.ifCond .ne 15, 3) := by decide +kernel
theorem dL_law_766 : decode cL_law 766 = .ok (.aload_n 3, 1) := by decide +kernel
theorem dL_law_767 : decode cL_law 767 = .ok (.iconst 0, 1) := by decide +kernel
theorem dL_law_768 : decode cL_law 768 = .ok (.laload, 1) := by decide +kernel
theorem dL_law_769 : decode cL_law 769 = .ok (.iload 6, 2) := by decide +kernel
theorem dL_law_771 : decode cL_law 771 = .ok (.i2l, 1) := by decide +kernel
theorem dL_law_772 : decode cL_law 772 = .ok (.lcmp, 1) := by decide +kernel
theorem dL_law_773 : decode cL_law 773 = .ok (.ifCond .eq 5, 3) := by decide +kernel
theorem dL_law_776 : decode cL_law 776 = .ok (.iconst 0, 1) := by decide +kernel
theorem dL_law_777 : decode cL_law 777 = .ok (.ireturn, 1) := by decide +kernel
theorem dL_law_778 : decode cL_law 778 = .ok (.goto 1355, 3) := by decide +kernel
theorem dL_law_781 : decode cL_law 781 = .ok (.aload_n 1, 1) := by decide +kernel
theorem dL_law_782 : decode cL_law 782 = .ok (.aload_n 0, 1) := by decide +kernel
theorem dL_law_783 : decode cL_law 783 = .ok (.iload 4, 2) := by decide +kernel
theorem dL_law_785 : decode cL_law 785 = .ok (.iconst 1, 1) := by decide +kernel
theorem dL_law_786 : decode cL_law 786 = .ok (.iadd, 1) := by decide +kernel
theorem dL_law_787 : decode cL_law 787 = .ok (.iaload, 1) := by decide +kernel
theorem dL_law_788 : decode cL_law 788 = .ok (.aload_n 0, 1) := by decide +kernel
theorem dL_law_789 : decode cL_law 789 = .ok (.iload 4, 2) := by decide +kernel
theorem dL_law_791 : decode cL_law 791 = .ok (.iconst 2, 1) := by decide +kernel
theorem dL_law_792 : decode cL_law 792 = .ok (.iadd, 1) := by decide +kernel
theorem dL_law_793 : decode cL_law 793 = .ok (.iaload, 1) := by decide +kernel
theorem dL_law_794 : decode cL_law 794 = .ok (.aload_n 0, 1) := by decide +kernel
theorem dL_law_795 : decode cL_law 795 = .ok (.iload 4, 2) := by decide +kernel
theorem dL_law_797 : decode cL_law 797 = .ok (.iconst 3, 1) := by decide +kernel
theorem dL_law_798 : decode cL_law 798 = .ok (.iadd, 1) := by decide +kernel
theorem dL_law_799 : decode cL_law 799 = .ok (.iaload, 1) := by decide +kernel
theorem dL_law_800 : decode cL_law 800 = .ok (.aload_n 0, 1) := by decide +kernel
theorem dL_law_801 : decode cL_law 801 = .ok (.iload 4, 2) := by decide +kernel
theorem dL_law_803 : decode cL_law 803 = .ok (.iconst 4, 1) := by decide +kernel
theorem dL_law_804 : decode cL_law 804 = .ok (.iadd, 1) := by decide +kernel
theorem dL_law_805 : decode cL_law 805 = .ok (.iaload, 1) := by decide +kernel
theorem dL_law_806 : decode cL_law 806 = .ok (.aload_n 3, 1) := by decide +kernel
theorem dL_law_807 : decode cL_law 807 = .ok (.invokestatic 144, 3) := by decide +kernel
theorem dL_law_810 : decode cL_law 810 = .ok (.istore 5, 2) := by decide +kernel
theorem dL_law_812 : decode cL_law 812 = .ok (.aload_n 2, 1) := by decide +kernel
theorem dL_law_813 : decode cL_law 813 = .ok (.aload_n 0, 1) := by decide +kernel
theorem dL_law_814 : decode cL_law 814 = .ok (.iload 4, 2) := by decide +kernel
theorem dL_law_816 : decode cL_law 816 = .ok (.iconst 1, 1) := by decide +kernel
theorem dL_law_817 : decode cL_law 817 = .ok (.iadd, 1) := by decide +kernel
theorem dL_law_818 : decode cL_law 818 = .ok (.iaload, 1) := by decide +kernel
theorem dL_law_819 : decode cL_law 819 = .ok (.aload_n 0, 1) := by decide +kernel
theorem dL_law_820 : decode cL_law 820 = .ok (.iload 4, 2) := by decide +kernel
theorem dL_law_822 : decode cL_law 822 = .ok (.iconst 2, 1) := by decide +kernel
theorem dL_law_823 : decode cL_law 823 = .ok (.iadd, 1) := by decide +kernel
theorem dL_law_824 : decode cL_law 824 = .ok (.iaload, 1) := by decide +kernel
theorem dL_law_825 : decode cL_law 825 = .ok (.aload_n 0, 1) := by decide +kernel
theorem dL_law_826 : decode cL_law 826 = .ok (.iload 4, 2) := by decide +kernel
theorem dL_law_828 : decode cL_law 828 = .ok (.iconst 3, 1) := by decide +kernel
theorem dL_law_829 : decode cL_law 829 = .ok (.iadd, 1) := by decide +kernel
theorem dL_law_830 : decode cL_law 830 = .ok (.iaload, 1) := by decide +kernel
theorem dL_law_831 : decode cL_law 831 = .ok (.aload_n 0, 1) := by decide +kernel
theorem dL_law_832 : decode cL_law 832 = .ok (.iload 4, 2) := by decide +kernel
theorem dL_law_834 : decode cL_law 834 = .ok (.iconst 4, 1) := by decide +kernel
theorem dL_law_835 : decode cL_law 835 = .ok (.iadd, 1) := by decide +kernel
theorem dL_law_836 : decode cL_law 836 = .ok (.iaload, 1) := by decide +kernel
theorem dL_law_837 : decode cL_law 837 = .ok (.invokevirtual 146, 3) := by decide +kernel
theorem dL_law_840 : decode cL_law 840 = .ok (.istore 6, 2) := by decide +kernel
theorem dL_law_842 : decode cL_law 842 = .ok (.aload_n 2, 1) := by decide +kernel
theorem dL_law_843 : decode cL_law 843 = .ok (.invokevirtual 114, 3) := by decide +kernel
theorem dL_law_846 : decode cL_law 846 = .ok (.iload 5, 2) := by decide +kernel
theorem dL_law_848 : decode cL_law 848 = .ok (.if_icmp .eq 5, 3) := by decide +kernel
theorem dL_law_851 : decode cL_law 851 = .ok (.iconst 0, 1) := by decide +kernel
theorem dL_law_852 : decode cL_law 852 = .ok (.ireturn, 1) := by decide +kernel
theorem dL_law_853 : decode cL_law 853 = .ok (.iload 5, 2) := by decide +kernel
theorem dL_law_855 : decode cL_law 855 = .ok (.ifCond .ne 15, 3) := by decide +kernel
theorem dL_law_858 : decode cL_law 858 = .ok (.aload_n 3, 1) := by decide +kernel
theorem dL_law_859 : decode cL_law 859 = .ok (.iconst 0, 1) := by decide +kernel
theorem dL_law_860 : decode cL_law 860 = .ok (.laload, 1) := by decide +kernel
theorem dL_law_861 : decode cL_law 861 = .ok (.iload 6, 2) := by decide +kernel
theorem dL_law_863 : decode cL_law 863 = .ok (.i2l, 1) := by decide +kernel
theorem dL_law_864 : decode cL_law 864 = .ok (.lcmp, 1) := by decide +kernel
theorem dL_law_865 : decode cL_law 865 = .ok (.ifCond .eq 5, 3) := by decide +kernel
theorem dL_law_868 : decode cL_law 868 = .ok (.iconst 0, 1) := by decide +kernel
theorem dL_law_869 : decode cL_law 869 = .ok (.ireturn, 1) := by decide +kernel
theorem dL_law_870 : decode cL_law 870 = .ok (.goto 1263, 3) := by decide +kernel
theorem dL_law_873 : decode cL_law 873 = .ok (.aload_n 1, 1) := by decide +kernel
theorem dL_law_874 : decode cL_law 874 = .ok (.aload_n 0, 1) := by decide +kernel
