theorem dX11_lawOn_42 : decode cX11_lawOn 42 = .ok (.sipush 278, 3) := by decide +kernel
theorem dX11_lawOn_45 : decode cX11_lawOn 45 = .ok (.iconst 2, 1) := by decide +kernel
theorem dX11_lawOn_46 : decode cX11_lawOn 46 = .ok (.iload 4, 2) := by decide +kernel
theorem dX11_lawOn_48 : decode cX11_lawOn 48 = .ok (.imul, 1) := by decide +kernel
theorem dX11_lawOn_49 : decode cX11_lawOn 49 = .ok (.iadd, 1) := by decide +kernel
theorem dX11_lawOn_50 : decode cX11_lawOn 50 = .ok (.iconst 1, 1) := by decide +kernel
theorem dX11_lawOn_51 : decode cX11_lawOn 51 = .ok (.iadd, 1) := by decide +kernel
theorem dX11_lawOn_52 : decode cX11_lawOn 52 = .ok (.laload, 1) := by decide +kernel
theorem dX11_lawOn_53 : decode cX11_lawOn 53 = .ok (.iload_n 2, 1) := by decide +kernel
theorem dX11_lawOn_54 : decode cX11_lawOn 54 = .ok (.i2l, 1) := by decide +kernel
theorem dX11_lawOn_55 : decode cX11_lawOn 55 = .ok (.lcmp, 1) := by decide +kernel
theorem dX11_lawOn_56 : decode cX11_lawOn 56 = .ok (.ifCond .gt 8, 3) := by decide +kernel
theorem dX11_lawOn_59 : decode cX11_lawOn 59 = .ok (.iload 4, 2) := by decide +kernel
theorem dX11_lawOn_61 : decode cX11_lawOn 61 = .ok (.goto 4, 3) := by decide +kernel
theorem dX11_lawOn_64 : decode cX11_lawOn 64 = .ok (.iload_n 3, 1) := by decide +kernel
theorem dX11_lawOn_65 : decode cX11_lawOn 65 = .ok (.istore_n 3, 1) := by decide +kernel
theorem dX11_lawOn_66 : decode cX11_lawOn 66 = .ok (.iinc 4 1, 3) := by decide +kernel
theorem dX11_lawOn_69 : decode cX11_lawOn 69 = .ok (.goto (-64), 3) := by decide +kernel
theorem dX11_lawOn_72 : decode cX11_lawOn 72 = .ok (.iload_n 3, 1) := by decide +kernel
theorem dX11_lawOn_73 : decode cX11_lawOn 73 = .ok (.ireturn, 1) := by decide +kernel
theorem dX11_owedOf_0 : decode cX11_owedOf 0 = .ok (.aload_n 0, 1) := by decide +kernel
theorem dX11_owedOf_1 : decode cX11_owedOf 1 = .ok (.getfield 9, 3) := by decide +kernel
theorem dX11_owedOf_4 : decode cX11_owedOf 4 = .ok (.iload_n 1, 1) := by decide +kernel
theorem dX11_owedOf_5 : decode cX11_owedOf 5 = .ok (.iconst 0, 1) := by decide +kernel
theorem dX11_owedOf_6 : decode cX11_owedOf 6 = .ok (.invokestatic 94, 3) := by decide +kernel
theorem dX11_owedOf_9 : decode cX11_owedOf 9 = .ok (.laload, 1) := by decide +kernel
theorem dX11_owedOf_10 : decode cX11_owedOf 10 = .ok (.l2i, 1) := by decide +kernel
theorem dX11_owedOf_11 : decode cX11_owedOf 11 = .ok (.istore_n 3, 1) := by decide +kernel
theorem dX11_owedOf_12 : decode cX11_owedOf 12 = .ok (.aload_n 0, 1) := by decide +kernel
theorem dX11_owedOf_13 : decode cX11_owedOf 13 = .ok (.getfield 9, 3) := by decide +kernel
theorem dX11_owedOf_16 : decode cX11_owedOf 16 = .ok (.iload_n 1, 1) := by decide +kernel
theorem dX11_owedOf_17 : decode cX11_owedOf 17 = .ok (.iconst 3, 1) := by decide +kernel
theorem dX11_owedOf_18 : decode cX11_owedOf 18 = .ok (.invokestatic 94, 3) := by decide +kernel
theorem dX11_owedOf_21 : decode cX11_owedOf 21 = .ok (.laload, 1) := by decide +kernel
theorem dX11_owedOf_22 : decode cX11_owedOf 22 = .ok (.lstore 4, 2) := by decide +kernel
theorem dX11_owedOf_24 : decode cX11_owedOf 24 = .ok (.iload_n 3, 1) := by decide +kernel
theorem dX11_owedOf_25 : decode cX11_owedOf 25 = .ok (.ifCond .eq 8, 3) := by decide +kernel
theorem dX11_owedOf_28 : decode cX11_owedOf 28 = .ok (.iload_n 3, 1) := by decide +kernel
theorem dX11_owedOf_29 : decode cX11_owedOf 29 = .ok (.iconst 5, 1) := by decide +kernel
theorem dX11_owedOf_30 : decode cX11_owedOf 30 = .ok (.if_icmp .ne 6, 3) := by decide +kernel
theorem dX11_owedOf_33 : decode cX11_owedOf 33 = .ok (.lload 4, 2) := by decide +kernel
theorem dX11_owedOf_35 : decode cX11_owedOf 35 = .ok (.lreturn, 1) := by decide +kernel
theorem dX11_owedOf_36 : decode cX11_owedOf 36 = .ok (.iload_n 3, 1) := by decide +kernel
theorem dX11_owedOf_37 : decode cX11_owedOf 37 = .ok (.iconst 2, 1) := by decide +kernel
theorem dX11_owedOf_38 : decode cX11_owedOf 38 = .ok (.if_icmp .ne 37, 3) := by decide +kernel
theorem dX11_owedOf_41 : decode cX11_owedOf 41 = .ok (.aload_n 0, 1) := by decide +kernel
theorem dX11_owedOf_42 : decode cX11_owedOf 42 = .ok (.aload_n 0, 1) := by decide +kernel
theorem dX11_owedOf_43 : decode cX11_owedOf 43 = .ok (.invokevirtual 108, 3) := by decide +kernel
theorem dX11_owedOf_46 : decode cX11_owedOf 46 = .ok (.invokevirtual 112, 3) := by decide +kernel
theorem dX11_owedOf_49 : decode cX11_owedOf 49 = .ok (.lstore 6, 2) := by decide +kernel
theorem dX11_owedOf_51 : decode cX11_owedOf 51 = .ok (.lload 4, 2) := by decide +kernel
theorem dX11_owedOf_53 : decode cX11_owedOf 53 = .ok (.ldc2_w 61, 3) := by decide +kernel
theorem dX11_owedOf_56 : decode cX11_owedOf 56 = .ok (.lload 6, 2) := by decide +kernel
theorem dX11_owedOf_58 : decode cX11_owedOf 58 = .ok (.ldiv, 1) := by decide +kernel
theorem dX11_owedOf_59 : decode cX11_owedOf 59 = .ok (.lcmp, 1) := by decide +kernel
theorem dX11_owedOf_60 : decode cX11_owedOf 60 = .ok (.ifCond .le 9, 3) := by decide +kernel
theorem dX11_owedOf_63 : decode cX11_owedOf 63 = .ok (.ldc2_w 61, 3) := by decide +kernel
theorem dX11_owedOf_66 : decode cX11_owedOf 66 = .ok (.goto 8, 3) := by decide +kernel
theorem dX11_owedOf_69 : decode cX11_owedOf 69 = .ok (.lload 4, 2) := by decide +kernel
theorem dX11_owedOf_71 : decode cX11_owedOf 71 = .ok (.lload 6, 2) := by decide +kernel
theorem dX11_owedOf_73 : decode cX11_owedOf 73 = .ok (.lmul, 1) := by decide +kernel
theorem dX11_owedOf_74 : decode cX11_owedOf 74 = .ok (.lreturn, 1) := by decide +kernel
theorem dX11_owedOf_75 : decode cX11_owedOf 75 = .ok (.aload_n 0, 1) := by decide +kernel
theorem dX11_owedOf_76 : decode cX11_owedOf 76 = .ok (.iload_n 2, 1) := by decide +kernel
theorem dX11_owedOf_77 : decode cX11_owedOf 77 = .ok (.aload_n 0, 1) := by decide +kernel
theorem dX11_owedOf_78 : decode cX11_owedOf 78 = .ok (.invokevirtual 108, 3) := by decide +kernel
theorem dX11_owedOf_81 : decode cX11_owedOf 81 = .ok (.invokevirtual 116, 3) := by decide +kernel
theorem dX11_owedOf_84 : decode cX11_owedOf 84 = .ok (.istore 6, 2) := by decide +kernel
theorem dX11_owedOf_86 : decode cX11_owedOf 86 = .ok (.iload 6, 2) := by decide +kernel
theorem dX11_owedOf_88 : decode cX11_owedOf 88 = .ok (.ifCond .ge 6, 3) := by decide +kernel
theorem dX11_owedOf_91 : decode cX11_owedOf 91 = .ok (.lload 4, 2) := by decide +kernel
theorem dX11_owedOf_93 : decode cX11_owedOf 93 = .ok (.lreturn, 1) := by decide +kernel
theorem dX11_owedOf_94 : decode cX11_owedOf 94 = .ok (.aload_n 0, 1) := by decide +kernel
theorem dX11_owedOf_95 : decode cX11_owedOf 95 = .ok (.sipush 168, 3) := by decide +kernel
theorem dX11_owedOf_98 : decode cX11_owedOf 98 = .ok (.iconst 5, 1) := by decide +kernel
theorem dX11_owedOf_99 : decode cX11_owedOf 99 = .ok (.iload 6, 2) := by decide +kernel
theorem dX11_owedOf_101 : decode cX11_owedOf 101 = .ok (.iadd, 1) := by decide +kernel
theorem dX11_owedOf_102 : decode cX11_owedOf 102 = .ok (.imul, 1) := by decide +kernel
theorem dX11_owedOf_103 : decode cX11_owedOf 103 = .ok (.iload_n 3, 1) := by decide +kernel
theorem dX11_owedOf_104 : decode cX11_owedOf 104 = .ok (.iconst 1, 1) := by decide +kernel
theorem dX11_owedOf_105 : decode cX11_owedOf 105 = .ok (.if_icmp .ne 7, 3) := by decide +kernel
theorem dX11_owedOf_108 : decode cX11_owedOf 108 = .ok (.iconst 0, 1) := by decide +kernel
theorem dX11_owedOf_109 : decode cX11_owedOf 109 = .ok (.goto 13, 3) := by decide +kernel
theorem dX11_owedOf_112 : decode cX11_owedOf 112 = .ok (.iload_n 3, 1) := by decide +kernel
theorem dX11_owedOf_113 : decode cX11_owedOf 113 = .ok (.iconst 3, 1) := by decide +kernel
theorem dX11_owedOf_114 : decode cX11_owedOf 114 = .ok (.if_icmp .ne 7, 3) := by decide +kernel
theorem dX11_owedOf_117 : decode cX11_owedOf 117 = .ok (.iconst 1, 1) := by decide +kernel
theorem dX11_owedOf_118 : decode cX11_owedOf 118 = .ok (.goto 4, 3) := by decide +kernel
theorem dX11_owedOf_121 : decode cX11_owedOf 121 = .ok (.iconst 2, 1) := by decide +kernel
theorem dX11_owedOf_122 : decode cX11_owedOf 122 = .ok (.iload_n 1, 1) := by decide +kernel
theorem dX11_owedOf_123 : decode cX11_owedOf 123 = .ok (.invokevirtual 119, 3) := by decide +kernel
theorem dX11_owedOf_126 : decode cX11_owedOf 126 = .ok (.lstore 7, 2) := by decide +kernel
theorem dX11_owedOf_128 : decode cX11_owedOf 128 = .ok (.lconst 0, 1) := by decide +kernel
theorem dX11_owedOf_129 : decode cX11_owedOf 129 = .ok (.ldc2_w 61, 3) := by decide +kernel
theorem dX11_owedOf_132 : decode cX11_owedOf 132 = .ok (.lload 7, 2) := by decide +kernel
theorem dX11_owedOf_134 : decode cX11_owedOf 134 = .ok (.invokestatic 123, 3) := by decide +kernel
theorem dX11_owedOf_137 : decode cX11_owedOf 137 = .ok (.invokestatic 129, 3) := by decide +kernel
theorem dX11_owedOf_140 : decode cX11_owedOf 140 = .ok (.lreturn, 1) := by decide +kernel
theorem dX11_owed_0 : decode cX11_owed 0 = .ok (.aload_n 0, 1) := by decide +kernel
theorem dX11_owed_1 : decode cX11_owed 1 = .ok (.iload_n 1, 1) := by decide +kernel
theorem dX11_owed_2 : decode cX11_owed 2 = .ok (.invokevirtual 99, 3) := by decide +kernel
theorem dX11_owed_5 : decode cX11_owed 5 = .ok (.ifCond .eq 13, 3) := by decide +kernel
theorem dX11_owed_8 : decode cX11_owed 8 = .ok (.iload_n 2, 1) := by decide +kernel
theorem dX11_owed_9 : decode cX11_owed 9 = .ok (.i2l, 1) := by decide +kernel
theorem dX11_owed_10 : decode cX11_owed 10 = .ok (.lconst 0, 1) := by decide +kernel
theorem dX11_owed_11 : decode cX11_owed 11 = .ok (.lconst 1, 1) := by decide +kernel
theorem dX11_owed_12 : decode cX11_owed 12 = .ok (.invokestatic 57, 3) := by decide +kernel
theorem dX11_owed_15 : decode cX11_owed 15 = .ok (.ifCond .ne 11, 3) := by decide +kernel
theorem dX11_owed_18 : decode cX11_owed 18 = .ok (.aload_n 0, 1) := by decide +kernel
theorem dX11_owed_19 : decode cX11_owed 19 = .ok (.ldc 67, 2) := by decide +kernel
theorem dX11_owed_21 : decode cX11_owed 21 = .ok (.invokevirtual 68, 3) := by decide +kernel
theorem dX11_owed_24 : decode cX11_owed 24 = .ok (.i2l, 1) := by decide +kernel
theorem dX11_owed_25 : decode cX11_owed 25 = .ok (.lreturn, 1) := by decide +kernel
theorem dX11_owed_26 : decode cX11_owed 26 = .ok (.aload_n 0, 1) := by decide +kernel
theorem dX11_owed_27 : decode cX11_owed 27 = .ok (.iload_n 1, 1) := by decide +kernel
theorem dX11_owed_28 : decode cX11_owed 28 = .ok (.invokevirtual 132, 3) := by decide +kernel
theorem dX11_owed_31 : decode cX11_owed 31 = .ok (.ifCond .eq 12, 3) := by decide +kernel
theorem dX11_owed_34 : decode cX11_owed 34 = .ok (.aload_n 0, 1) := by decide +kernel
theorem dX11_owed_35 : decode cX11_owed 35 = .ok (.iload_n 1, 1) := by decide +kernel
theorem dX11_owed_36 : decode cX11_owed 36 = .ok (.iload_n 2, 1) := by decide +kernel
theorem dX11_owed_37 : decode cX11_owed 37 = .ok (.invokevirtual 135, 3) := by decide +kernel
theorem dX11_owed_40 : decode cX11_owed 40 = .ok (.goto 10, 3) := by decide +kernel
theorem dX11_owed_43 : decode cX11_owed 43 = .ok (.aload_n 0, 1) := by decide +kernel
theorem dX11_owed_44 : decode cX11_owed 44 = .ok (.ldc 139, 2) := by decide +kernel
theorem dX11_owed_46 : decode cX11_owed 46 = .ok (.invokevirtual 68, 3) := by decide +kernel
theorem dX11_owed_49 : decode cX11_owed 49 = .ok (.i2l, 1) := by decide +kernel
theorem dX11_owed_50 : decode cX11_owed 50 = .ok (.lreturn, 1) := by decide +kernel
theorem dX11_settles_0 : decode cX11_settles 0 = .ok (.aload_n 0, 1) := by decide +kernel
theorem dX11_settles_1 : decode cX11_settles 1 = .ok (.getfield 9, 3) := by decide +kernel
theorem dX11_settles_4 : decode cX11_settles 4 = .ok (.iload_n 1, 1) := by decide +kernel
theorem dX11_settles_5 : decode cX11_settles 5 = .ok (.iconst 0, 1) := by decide +kernel
theorem dX11_settles_6 : decode cX11_settles 6 = .ok (.invokestatic 94, 3) := by decide +kernel
theorem dX11_settles_9 : decode cX11_settles 9 = .ok (.laload, 1) := by decide +kernel
theorem dX11_settles_10 : decode cX11_settles 10 = .ok (.lstore 4, 2) := by decide +kernel
theorem dX11_settles_12 : decode cX11_settles 12 = .ok (.aload_n 0, 1) := by decide +kernel
theorem dX11_settles_13 : decode cX11_settles 13 = .ok (.getfield 9, 3) := by decide +kernel
theorem dX11_settles_16 : decode cX11_settles 16 = .ok (.iload_n 1, 1) := by decide +kernel
theorem dX11_settles_17 : decode cX11_settles 17 = .ok (.bipush 6, 2) := by decide +kernel
theorem dX11_settles_19 : decode cX11_settles 19 = .ok (.invokestatic 94, 3) := by decide +kernel
theorem dX11_settles_22 : decode cX11_settles 22 = .ok (.lconst 1, 1) := by decide +kernel
theorem dX11_settles_23 : decode cX11_settles 23 = .ok (.lastore, 1) := by decide +kernel
theorem dX11_settles_24 : decode cX11_settles 24 = .ok (.lload 4, 2) := by decide +kernel
theorem dX11_settles_26 : decode cX11_settles 26 = .ok (.lconst 1, 1) := by decide +kernel
theorem dX11_settles_27 : decode cX11_settles 27 = .ok (.lcmp, 1) := by decide +kernel
theorem dX11_settles_28 : decode cX11_settles 28 = .ok (.ifCond .eq 12, 3) := by decide +kernel
theorem dX11_settles_31 : decode cX11_settles 31 = .ok (.lload 4, 2) := by decide +kernel
theorem dX11_settles_33 : decode cX11_settles 33 = .ok (.ldc2_w 85, 3) := by decide +kernel
theorem dX11_settles_36 : decode cX11_settles 36 = .ok (.lcmp, 1) := by decide +kernel
theorem dX11_settles_37 : decode cX11_settles 37 = .ok (.ifCond .ne 94, 3) := by decide +kernel
theorem dX11_settles_40 : decode cX11_settles 40 = .ok (.aload_n 0, 1) := by decide +kernel
theorem dX11_settles_41 : decode cX11_settles 41 = .ok (.getfield 9, 3) := by decide +kernel
theorem dX11_settles_44 : decode cX11_settles 44 = .ok (.iload_n 1, 1) := by decide +kernel
theorem dX11_settles_45 : decode cX11_settles 45 = .ok (.iconst 3, 1) := by decide +kernel
theorem dX11_settles_46 : decode cX11_settles 46 = .ok (.invokestatic 94, 3) := by decide +kernel
theorem dX11_settles_49 : decode cX11_settles 49 = .ok (.laload, 1) := by decide +kernel
theorem dX11_settles_50 : decode cX11_settles 50 = .ok (.aload_n 0, 1) := by decide +kernel
theorem dX11_settles_51 : decode cX11_settles 51 = .ok (.aload_n 0, 1) := by decide +kernel
theorem dX11_settles_52 : decode cX11_settles 52 = .ok (.getfield 9, 3) := by decide +kernel
theorem dX11_settles_55 : decode cX11_settles 55 = .ok (.iload_n 1, 1) := by decide +kernel
theorem dX11_settles_56 : decode cX11_settles 56 = .ok (.iconst 4, 1) := by decide +kernel
theorem dX11_settles_57 : decode cX11_settles 57 = .ok (.invokestatic 94, 3) := by decide +kernel
theorem dX11_settles_60 : decode cX11_settles 60 = .ok (.laload, 1) := by decide +kernel
theorem dX11_settles_61 : decode cX11_settles 61 = .ok (.l2i, 1) := by decide +kernel
theorem dX11_settles_62 : decode cX11_settles 62 = .ok (.invokevirtual 112, 3) := by decide +kernel
theorem dX11_settles_65 : decode cX11_settles 65 = .ok (.ldiv, 1) := by decide +kernel
theorem dX11_settles_66 : decode cX11_settles 66 = .ok (.lload_n 2, 1) := by decide +kernel
theorem dX11_settles_67 : decode cX11_settles 67 = .ok (.aload_n 0, 1) := by decide +kernel
theorem dX11_settles_68 : decode cX11_settles 68 = .ok (.aload_n 0, 1) := by decide +kernel
theorem dX11_settles_69 : decode cX11_settles 69 = .ok (.invokevirtual 108, 3) := by decide +kernel
theorem dX11_settles_72 : decode cX11_settles 72 = .ok (.invokevirtual 112, 3) := by decide +kernel
theorem dX11_settles_75 : decode cX11_settles 75 = .ok (.ldiv, 1) := by decide +kernel
theorem dX11_settles_76 : decode cX11_settles 76 = .ok (.lsub, 1) := by decide +kernel
theorem dX11_settles_77 : decode cX11_settles 77 = .ok (.lstore 6, 2) := by decide +kernel
theorem dX11_settles_79 : decode cX11_settles 79 = .ok (.aload_n 0, 1) := by decide +kernel
theorem dX11_settles_80 : decode cX11_settles 80 = .ok (.getfield 9, 3) := by decide +kernel
theorem dX11_settles_83 : decode cX11_settles 83 = .ok (.aload_n 0, 1) := by decide +kernel
theorem dX11_settles_84 : decode cX11_settles 84 = .ok (.getfield 9, 3) := by decide +kernel
theorem dX11_settles_87 : decode cX11_settles 87 = .ok (.iload_n 1, 1) := by decide +kernel
theorem dX11_settles_88 : decode cX11_settles 88 = .ok (.iconst 1, 1) := by decide +kernel
theorem dX11_settles_89 : decode cX11_settles 89 = .ok (.invokestatic 94, 3) := by decide +kernel
theorem dX11_settles_92 : decode cX11_settles 92 = .ok (.laload, 1) := by decide +kernel
theorem dX11_settles_93 : decode cX11_settles 93 = .ok (.l2i, 1) := by decide +kernel
theorem dX11_settles_94 : decode cX11_settles 94 = .ok (.bipush 8, 2) := by decide +kernel
theorem dX11_settles_96 : decode cX11_settles 96 = .ok (.invokestatic 73, 3) := by decide +kernel
theorem dX11_settles_99 : decode cX11_settles 99 = .ok (.dup2, 1) := by decide +kernel
theorem dX11_settles_100 : decode cX11_settles 100 = .ok (.laload, 1) := by decide +kernel
theorem dX11_settles_101 : decode cX11_settles 101 = .ok (.lload 6, 2) := by decide +kernel
theorem dX11_settles_103 : decode cX11_settles 103 = .ok (.ladd, 1) := by decide +kernel
theorem dX11_settles_104 : decode cX11_settles 104 = .ok (.lastore, 1) := by decide +kernel
theorem dX11_settles_105 : decode cX11_settles 105 = .ok (.aload_n 0, 1) := by decide +kernel
theorem dX11_settles_106 : decode cX11_settles 106 = .ok (.getfield 9, 3) := by decide +kernel
theorem dX11_settles_109 : decode cX11_settles 109 = .ok (.aload_n 0, 1) := by decide +kernel
theorem dX11_settles_110 : decode cX11_settles 110 = .ok (.getfield 9, 3) := by decide +kernel
theorem dX11_settles_113 : decode cX11_settles 113 = .ok (.iload_n 1, 1) := by decide +kernel
theorem dX11_settles_114 : decode cX11_settles 114 = .ok (.iconst 2, 1) := by decide +kernel
theorem dX11_settles_115 : decode cX11_settles 115 = .ok (.invokestatic 94, 3) := by decide +kernel
theorem dX11_settles_118 : decode cX11_settles 118 = .ok (.laload, 1) := by decide +kernel
theorem dX11_settles_119 : decode cX11_settles 119 = .ok (.l2i, 1) := by decide +kernel
theorem dX11_settles_120 : decode cX11_settles 120 = .ok (.bipush 9, 2) := by decide +kernel
theorem dX11_settles_122 : decode cX11_settles 122 = .ok (.invokestatic 73, 3) := by decide +kernel
theorem dX11_settles_125 : decode cX11_settles 125 = .ok (.dup2, 1) := by decide +kernel
theorem dX11_settles_126 : decode cX11_settles 126 = .ok (.laload, 1) := by decide +kernel
theorem dX11_settles_127 : decode cX11_settles 127 = .ok (.lload 6, 2) := by decide +kernel
theorem dX11_settles_129 : decode cX11_settles 129 = .ok (.ladd, 1) := by decide +kernel
theorem dX11_settles_130 : decode cX11_settles 130 = .ok (.lastore, 1) := by decide +kernel
theorem dX11_settles_131 : decode cX11_settles 131 = .ok (.return_, 1) := by decide +kernel
theorem dX11_pays_0 : decode cX11_pays 0 = .ok (.aload_n 0, 1) := by decide +kernel
theorem dX11_pays_1 : decode cX11_pays 1 = .ok (.getfield 9, 3) := by decide +kernel
theorem dX11_pays_4 : decode cX11_pays 4 = .ok (.aload_n 0, 1) := by decide +kernel
theorem dX11_pays_5 : decode cX11_pays 5 = .ok (.getfield 9, 3) := by decide +kernel
theorem dX11_pays_8 : decode cX11_pays 8 = .ok (.iload_n 1, 1) := by decide +kernel
theorem dX11_pays_9 : decode cX11_pays 9 = .ok (.iconst 1, 1) := by decide +kernel
theorem dX11_pays_10 : decode cX11_pays 10 = .ok (.invokestatic 94, 3) := by decide +kernel
theorem dX11_pays_13 : decode cX11_pays 13 = .ok (.laload, 1) := by decide +kernel
theorem dX11_pays_14 : decode cX11_pays 14 = .ok (.l2i, 1) := by decide +kernel
theorem dX11_pays_15 : decode cX11_pays 15 = .ok (.iconst 0, 1) := by decide +kernel
theorem dX11_pays_16 : decode cX11_pays 16 = .ok (.invokestatic 73, 3) := by decide +kernel
theorem dX11_pays_19 : decode cX11_pays 19 = .ok (.dup2, 1) := by decide +kernel
theorem dX11_pays_20 : decode cX11_pays 20 = .ok (.laload, 1) := by decide +kernel
theorem dX11_pays_21 : decode cX11_pays 21 = .ok (.lload_n 2, 1) := by decide +kernel
theorem dX11_pays_22 : decode cX11_pays 22 = .ok (.lsub, 1) := by decide +kernel
theorem dX11_pays_23 : decode cX11_pays 23 = .ok (.lastore, 1) := by decide +kernel
theorem dX11_pays_24 : decode cX11_pays 24 = .ok (.aload_n 0, 1) := by decide +kernel
theorem dX11_pays_25 : decode cX11_pays 25 = .ok (.aload_n 0, 1) := by decide +kernel
theorem dX11_pays_26 : decode cX11_pays 26 = .ok (.getfield 9, 3) := by decide +kernel
theorem dX11_pays_29 : decode cX11_pays 29 = .ok (.iload_n 1, 1) := by decide +kernel
theorem dX11_pays_30 : decode cX11_pays 30 = .ok (.iconst 2, 1) := by decide +kernel
theorem dX11_pays_31 : decode cX11_pays 31 = .ok (.invokestatic 94, 3) := by decide +kernel
theorem dX11_pays_34 : decode cX11_pays 34 = .ok (.laload, 1) := by decide +kernel
theorem dX11_pays_35 : decode cX11_pays 35 = .ok (.l2i, 1) := by decide +kernel
theorem dX11_pays_36 : decode cX11_pays 36 = .ok (.iconst 0, 1) := by decide +kernel
theorem dX11_pays_37 : decode cX11_pays 37 = .ok (.invokestatic 73, 3) := by decide +kernel
theorem dX11_pays_40 : decode cX11_pays 40 = .ok (.lload_n 2, 1) := by decide +kernel
theorem dX11_pays_41 : decode cX11_pays 41 = .ok (.invokevirtual 140, 3) := by decide +kernel
theorem dX11_pays_44 : decode cX11_pays 44 = .ok (.return_, 1) := by decide +kernel
theorem dX11_pay_0 : decode cX11_pay 0 = .ok (.aload_n 0, 1) := by decide +kernel
theorem dX11_pay_1 : decode cX11_pay 1 = .ok (.iload_n 1, 1) := by decide +kernel
theorem dX11_pay_2 : decode cX11_pay 2 = .ok (.invokevirtual 99, 3) := by decide +kernel
theorem dX11_pay_5 : decode cX11_pay 5 = .ok (.ifCond .ne 11, 3) := by decide +kernel
theorem dX11_pay_8 : decode cX11_pay 8 = .ok (.aload_n 0, 1) := by decide +kernel
theorem dX11_pay_9 : decode cX11_pay 9 = .ok (.ldc 67, 2) := by decide +kernel
theorem dX11_pay_11 : decode cX11_pay 11 = .ok (.invokevirtual 68, 3) := by decide +kernel
theorem dX11_pay_14 : decode cX11_pay 14 = .ok (.i2l, 1) := by decide +kernel
theorem dX11_pay_15 : decode cX11_pay 15 = .ok (.lreturn, 1) := by decide +kernel
theorem dX11_pay_16 : decode cX11_pay 16 = .ok (.aload_n 0, 1) := by decide +kernel
theorem dX11_pay_17 : decode cX11_pay 17 = .ok (.iload_n 1, 1) := by decide +kernel
theorem dX11_pay_18 : decode cX11_pay 18 = .ok (.invokevirtual 132, 3) := by decide +kernel
theorem dX11_pay_21 : decode cX11_pay 21 = .ok (.ifCond .ne 11, 3) := by decide +kernel
theorem dX11_pay_24 : decode cX11_pay 24 = .ok (.aload_n 0, 1) := by decide +kernel
theorem dX11_pay_25 : decode cX11_pay 25 = .ok (.ldc 139, 2) := by decide +kernel
theorem dX11_pay_27 : decode cX11_pay 27 = .ok (.invokevirtual 68, 3) := by decide +kernel
theorem dX11_pay_30 : decode cX11_pay 30 = .ok (.i2l, 1) := by decide +kernel
theorem dX11_pay_31 : decode cX11_pay 31 = .ok (.lreturn, 1) := by decide +kernel
theorem dX11_pay_32 : decode cX11_pay 32 = .ok (.aload_n 0, 1) := by decide +kernel
theorem dX11_pay_33 : decode cX11_pay 33 = .ok (.getfield 9, 3) := by decide +kernel
theorem dX11_pay_36 : decode cX11_pay 36 = .ok (.iload_n 1, 1) := by decide +kernel
theorem dX11_pay_37 : decode cX11_pay 37 = .ok (.iconst 0, 1) := by decide +kernel
theorem dX11_pay_38 : decode cX11_pay 38 = .ok (.invokestatic 94, 3) := by decide +kernel
theorem dX11_pay_41 : decode cX11_pay 41 = .ok (.laload, 1) := by decide +kernel
theorem dX11_pay_42 : decode cX11_pay 42 = .ok (.ldc2_w 144, 3) := by decide +kernel
theorem dX11_pay_45 : decode cX11_pay 45 = .ok (.lcmp, 1) := by decide +kernel
theorem dX11_pay_46 : decode cX11_pay 46 = .ok (.ifCond .eq 20, 3) := by decide +kernel
theorem dX11_pay_49 : decode cX11_pay 49 = .ok (.aload_n 0, 1) := by decide +kernel
theorem dX11_pay_50 : decode cX11_pay 50 = .ok (.getfield 9, 3) := by decide +kernel
theorem dX11_pay_53 : decode cX11_pay 53 = .ok (.iload_n 1, 1) := by decide +kernel
theorem dX11_pay_54 : decode cX11_pay 54 = .ok (.iconst 0, 1) := by decide +kernel
theorem dX11_pay_55 : decode cX11_pay 55 = .ok (.invokestatic 94, 3) := by decide +kernel
theorem dX11_pay_58 : decode cX11_pay 58 = .ok (.laload, 1) := by decide +kernel
theorem dX11_pay_59 : decode cX11_pay 59 = .ok (.ldc2_w 103, 3) := by decide +kernel
theorem dX11_pay_62 : decode cX11_pay 62 = .ok (.lcmp, 1) := by decide +kernel
theorem dX11_pay_63 : decode cX11_pay 63 = .ok (.ifCond .ne 11, 3) := by decide +kernel
theorem dX11_pay_66 : decode cX11_pay 66 = .ok (.aload_n 0, 1) := by decide +kernel
theorem dX11_pay_67 : decode cX11_pay 67 = .ok (.ldc 105, 2) := by decide +kernel
theorem dX11_pay_69 : decode cX11_pay 69 = .ok (.invokevirtual 68, 3) := by decide +kernel
theorem dX11_pay_72 : decode cX11_pay 72 = .ok (.i2l, 1) := by decide +kernel
theorem dX11_pay_73 : decode cX11_pay 73 = .ok (.lreturn, 1) := by decide +kernel
theorem dX11_pay_74 : decode cX11_pay 74 = .ok (.aload_n 0, 1) := by decide +kernel
theorem dX11_pay_75 : decode cX11_pay 75 = .ok (.iload_n 1, 1) := by decide +kernel
theorem dX11_pay_76 : decode cX11_pay 76 = .ok (.iconst 0, 1) := by decide +kernel
theorem dX11_pay_77 : decode cX11_pay 77 = .ok (.invokevirtual 135, 3) := by decide +kernel
theorem dX11_pay_80 : decode cX11_pay 80 = .ok (.lstore_n 2, 1) := by decide +kernel
theorem dX11_pay_81 : decode cX11_pay 81 = .ok (.aload_n 0, 1) := by decide +kernel
theorem dX11_pay_82 : decode cX11_pay 82 = .ok (.getfield 9, 3) := by decide +kernel
theorem dX11_pay_85 : decode cX11_pay 85 = .ok (.aload_n 0, 1) := by decide +kernel
theorem dX11_pay_86 : decode cX11_pay 86 = .ok (.getfield 9, 3) := by decide +kernel
theorem dX11_pay_89 : decode cX11_pay 89 = .ok (.iload_n 1, 1) := by decide +kernel
theorem dX11_pay_90 : decode cX11_pay 90 = .ok (.iconst 1, 1) := by decide +kernel
theorem dX11_pay_91 : decode cX11_pay 91 = .ok (.invokestatic 94, 3) := by decide +kernel
theorem dX11_pay_94 : decode cX11_pay 94 = .ok (.laload, 1) := by decide +kernel
theorem dX11_pay_95 : decode cX11_pay 95 = .ok (.l2i, 1) := by decide +kernel
theorem dX11_pay_96 : decode cX11_pay 96 = .ok (.iconst 0, 1) := by decide +kernel
theorem dX11_pay_97 : decode cX11_pay 97 = .ok (.invokestatic 73, 3) := by decide +kernel
theorem dX11_pay_100 : decode cX11_pay 100 = .ok (.laload, 1) := by decide +kernel
theorem dX11_pay_101 : decode cX11_pay 101 = .ok (.lload_n 2, 1) := by decide +kernel
theorem dX11_pay_102 : decode cX11_pay 102 = .ok (.lcmp, 1) := by decide +kernel
theorem dX11_pay_103 : decode cX11_pay 103 = .ok (.ifCond .ge 11, 3) := by decide +kernel
theorem dX11_pay_106 : decode cX11_pay 106 = .ok (.aload_n 0, 1) := by decide +kernel
theorem dX11_pay_107 : decode cX11_pay 107 = .ok (.ldc 146, 2) := by decide +kernel
theorem dX11_pay_109 : decode cX11_pay 109 = .ok (.invokevirtual 68, 3) := by decide +kernel
theorem dX11_pay_112 : decode cX11_pay 112 = .ok (.i2l, 1) := by decide +kernel
theorem dX11_pay_113 : decode cX11_pay 113 = .ok (.lreturn, 1) := by decide +kernel
theorem dX11_pay_114 : decode cX11_pay 114 = .ok (.aload_n 0, 1) := by decide +kernel
theorem dX11_pay_115 : decode cX11_pay 115 = .ok (.iload_n 1, 1) := by decide +kernel
theorem dX11_pay_116 : decode cX11_pay 116 = .ok (.lload_n 2, 1) := by decide +kernel
theorem dX11_pay_117 : decode cX11_pay 117 = .ok (.invokevirtual 147, 3) := by decide +kernel
theorem dX11_pay_120 : decode cX11_pay 120 = .ok (.aload_n 0, 1) := by decide +kernel
theorem dX11_pay_121 : decode cX11_pay 121 = .ok (.iload_n 1, 1) := by decide +kernel
theorem dX11_pay_122 : decode cX11_pay 122 = .ok (.lload_n 2, 1) := by decide +kernel
theorem dX11_pay_123 : decode cX11_pay 123 = .ok (.invokevirtual 150, 3) := by decide +kernel
theorem dX11_pay_126 : decode cX11_pay 126 = .ok (.lload_n 2, 1) := by decide +kernel
theorem dX11_pay_127 : decode cX11_pay 127 = .ok (.lreturn, 1) := by decide +kernel
theorem dX11_tear_0 : decode cX11_tear 0 = .ok (.aload_n 0, 1) := by decide +kernel
theorem dX11_tear_1 : decode cX11_tear 1 = .ok (.iload_n 1, 1) := by decide +kernel
theorem dX11_tear_2 : decode cX11_tear 2 = .ok (.invokevirtual 99, 3) := by decide +kernel
theorem dX11_tear_5 : decode cX11_tear 5 = .ok (.ifCond .ne 11, 3) := by decide +kernel
theorem dX11_tear_8 : decode cX11_tear 8 = .ok (.aload_n 0, 1) := by decide +kernel
theorem dX11_tear_9 : decode cX11_tear 9 = .ok (.ldc 67, 2) := by decide +kernel
theorem dX11_tear_11 : decode cX11_tear 11 = .ok (.invokevirtual 68, 3) := by decide +kernel
theorem dX11_tear_14 : decode cX11_tear 14 = .ok (.i2l, 1) := by decide +kernel
theorem dX11_tear_15 : decode cX11_tear 15 = .ok (.lreturn, 1) := by decide +kernel
theorem dX11_tear_16 : decode cX11_tear 16 = .ok (.aload_n 0, 1) := by decide +kernel
theorem dX11_tear_17 : decode cX11_tear 17 = .ok (.iload_n 1, 1) := by decide +kernel
theorem dX11_tear_18 : decode cX11_tear 18 = .ok (.invokevirtual 132, 3) := by decide +kernel
theorem dX11_tear_21 : decode cX11_tear 21 = .ok (.ifCond .ne 11, 3) := by decide +kernel
theorem dX11_tear_24 : decode cX11_tear 24 = .ok (.aload_n 0, 1) := by decide +kernel
theorem dX11_tear_25 : decode cX11_tear 25 = .ok (.ldc 139, 2) := by decide +kernel
theorem dX11_tear_27 : decode cX11_tear 27 = .ok (.invokevirtual 68, 3) := by decide +kernel
theorem dX11_tear_30 : decode cX11_tear 30 = .ok (.i2l, 1) := by decide +kernel
theorem dX11_tear_31 : decode cX11_tear 31 = .ok (.lreturn, 1) := by decide +kernel
theorem dX11_tear_32 : decode cX11_tear 32 = .ok (.aload_n 0, 1) := by decide +kernel
theorem dX11_tear_33 : decode cX11_tear 33 = .ok (.getfield 9, 3) := by decide +kernel
theorem dX11_tear_36 : decode cX11_tear 36 = .ok (.iload_n 1, 1) := by decide +kernel
theorem dX11_tear_37 : decode cX11_tear 37 = .ok (.bipush 6, 2) := by decide +kernel
theorem dX11_tear_39 : decode cX11_tear 39 = .ok (.invokestatic 94, 3) := by decide +kernel
theorem dX11_tear_42 : decode cX11_tear 42 = .ok (.ldc2_w 85, 3) := by decide +kernel
theorem dX11_tear_45 : decode cX11_tear 45 = .ok (.lastore, 1) := by decide +kernel
theorem dX11_tear_46 : decode cX11_tear 46 = .ok (.aload_n 0, 1) := by decide +kernel
theorem dX11_tear_47 : decode cX11_tear 47 = .ok (.getfield 9, 3) := by decide +kernel
theorem dX11_tear_50 : decode cX11_tear 50 = .ok (.iload_n 1, 1) := by decide +kernel
theorem dX11_tear_51 : decode cX11_tear 51 = .ok (.iconst 3, 1) := by decide +kernel
theorem dX11_tear_52 : decode cX11_tear 52 = .ok (.invokestatic 94, 3) := by decide +kernel
theorem dX11_tear_55 : decode cX11_tear 55 = .ok (.laload, 1) := by decide +kernel
theorem dX11_tear_56 : decode cX11_tear 56 = .ok (.lreturn, 1) := by decide +kernel
theorem dX11_thin_0 : decode cX11_thin 0 = .ok (.lconst 0, 1) := by decide +kernel
theorem dX11_thin_1 : decode cX11_thin 1 = .ok (.lstore_n 1, 1) := by decide +kernel
theorem dX11_thin_2 : decode cX11_thin 2 = .ok (.iconst 0, 1) := by decide +kernel
theorem dX11_thin_3 : decode cX11_thin 3 = .ok (.istore_n 3, 1) := by decide +kernel
theorem dX11_thin_4 : decode cX11_thin 4 = .ok (.iload_n 3, 1) := by decide +kernel
theorem dX11_thin_5 : decode cX11_thin 5 = .ok (.i2l, 1) := by decide +kernel
theorem dX11_thin_6 : decode cX11_thin 6 = .ok (.aload_n 0, 1) := by decide +kernel
theorem dX11_thin_7 : decode cX11_thin 7 = .ok (.getfield 9, 3) := by decide +kernel
theorem dX11_thin_10 : decode cX11_thin 10 = .ok (.iconst 4, 1) := by decide +kernel
theorem dX11_thin_11 : decode cX11_thin 11 = .ok (.laload, 1) := by decide +kernel
theorem dX11_thin_12 : decode cX11_thin 12 = .ok (.lcmp, 1) := by decide +kernel
theorem dX11_thin_13 : decode cX11_thin 13 = .ok (.ifCond .ge 124, 3) := by decide +kernel
theorem dX11_thin_16 : decode cX11_thin 16 = .ok (.lconst 0, 1) := by decide +kernel
theorem dX11_thin_17 : decode cX11_thin 17 = .ok (.lstore 4, 2) := by decide +kernel
theorem dX11_thin_19 : decode cX11_thin 19 = .ok (.iconst 0, 1) := by decide +kernel
theorem dX11_thin_20 : decode cX11_thin 20 = .ok (.istore 6, 2) := by decide +kernel
theorem dX11_thin_22 : decode cX11_thin 22 = .ok (.iload 6, 2) := by decide +kernel
theorem dX11_thin_24 : decode cX11_thin 24 = .ok (.i2l, 1) := by decide +kernel
theorem dX11_thin_25 : decode cX11_thin 25 = .ok (.aload_n 0, 1) := by decide +kernel
theorem dX11_thin_26 : decode cX11_thin 26 = .ok (.getfield 9, 3) := by decide +kernel
theorem dX11_thin_29 : decode cX11_thin 29 = .ok (.iconst 5, 1) := by decide +kernel
theorem dX11_thin_30 : decode cX11_thin 30 = .ok (.laload, 1) := by decide +kernel
theorem dX11_thin_31 : decode cX11_thin 31 = .ok (.lcmp, 1) := by decide +kernel
theorem dX11_thin_32 : decode cX11_thin 32 = .ok (.ifCond .ge 73, 3) := by decide +kernel
theorem dX11_thin_35 : decode cX11_thin 35 = .ok (.lload 4, 2) := by decide +kernel
theorem dX11_thin_37 : decode cX11_thin 37 = .ok (.aload_n 0, 1) := by decide +kernel
theorem dX11_thin_38 : decode cX11_thin 38 = .ok (.getfield 9, 3) := by decide +kernel
theorem dX11_thin_41 : decode cX11_thin 41 = .ok (.iload 6, 2) := by decide +kernel
theorem dX11_thin_43 : decode cX11_thin 43 = .ok (.iconst 0, 1) := by decide +kernel
theorem dX11_thin_44 : decode cX11_thin 44 = .ok (.invokestatic 94, 3) := by decide +kernel
theorem dX11_thin_47 : decode cX11_thin 47 = .ok (.laload, 1) := by decide +kernel
theorem dX11_thin_48 : decode cX11_thin 48 = .ok (.ldc2_w 77, 3) := by decide +kernel
theorem dX11_thin_51 : decode cX11_thin 51 = .ok (.lcmp, 1) := by decide +kernel
theorem dX11_thin_52 : decode cX11_thin 52 = .ok (.ifCond .ne 43, 3) := by decide +kernel
theorem dX11_thin_55 : decode cX11_thin 55 = .ok (.aload_n 0, 1) := by decide +kernel
theorem dX11_thin_56 : decode cX11_thin 56 = .ok (.iload 6, 2) := by decide +kernel
theorem dX11_thin_58 : decode cX11_thin 58 = .ok (.invokevirtual 132, 3) := by decide +kernel
theorem dX11_thin_61 : decode cX11_thin 61 = .ok (.ifCond .eq 34, 3) := by decide +kernel
theorem dX11_thin_64 : decode cX11_thin 64 = .ok (.aload_n 0, 1) := by decide +kernel
theorem dX11_thin_65 : decode cX11_thin 65 = .ok (.getfield 9, 3) := by decide +kernel
theorem dX11_thin_68 : decode cX11_thin 68 = .ok (.iload 6, 2) := by decide +kernel
theorem dX11_thin_70 : decode cX11_thin 70 = .ok (.iconst 1, 1) := by decide +kernel
theorem dX11_thin_71 : decode cX11_thin 71 = .ok (.invokestatic 94, 3) := by decide +kernel
theorem dX11_thin_74 : decode cX11_thin 74 = .ok (.laload, 1) := by decide +kernel
theorem dX11_thin_75 : decode cX11_thin 75 = .ok (.iload_n 3, 1) := by decide +kernel
theorem dX11_thin_76 : decode cX11_thin 76 = .ok (.i2l, 1) := by decide +kernel
theorem dX11_thin_77 : decode cX11_thin 77 = .ok (.lcmp, 1) := by decide +kernel
theorem dX11_thin_78 : decode cX11_thin 78 = .ok (.ifCond .ne 17, 3) := by decide +kernel
theorem dX11_thin_81 : decode cX11_thin 81 = .ok (.aload_n 0, 1) := by decide +kernel
theorem dX11_thin_82 : decode cX11_thin 82 = .ok (.getfield 9, 3) := by decide +kernel
theorem dX11_thin_85 : decode cX11_thin 85 = .ok (.iload 6, 2) := by decide +kernel
theorem dX11_thin_87 : decode cX11_thin 87 = .ok (.iconst 3, 1) := by decide +kernel
theorem dX11_thin_88 : decode cX11_thin 88 = .ok (.invokestatic 94, 3) := by decide +kernel
theorem dX11_thin_91 : decode cX11_thin 91 = .ok (.laload, 1) := by decide +kernel
theorem dX11_thin_92 : decode cX11_thin 92 = .ok (.goto 4, 3) := by decide +kernel
theorem dX11_thin_95 : decode cX11_thin 95 = .ok (.lconst 0, 1) := by decide +kernel
theorem dX11_thin_96 : decode cX11_thin 96 = .ok (.ladd, 1) := by decide +kernel
theorem dX11_thin_97 : decode cX11_thin 97 = .ok (.lstore 4, 2) := by decide +kernel
theorem dX11_thin_99 : decode cX11_thin 99 = .ok (.iinc 6 1, 3) := by decide +kernel
theorem dX11_thin_102 : decode cX11_thin 102 = .ok (.goto (-80), 3) := by decide +kernel
theorem dX11_thin_105 : decode cX11_thin 105 = .ok (.lload_n 1, 1) := by decide +kernel
theorem dX11_thin_106 : decode cX11_thin 106 = .ok (.lload 4, 2) := by decide +kernel
theorem dX11_thin_108 : decode cX11_thin 108 = .ok (.aload_n 0, 1) := by decide +kernel
theorem dX11_thin_109 : decode cX11_thin 109 = .ok (.getfield 9, 3) := by decide +kernel
theorem dX11_thin_112 : decode cX11_thin 112 = .ok (.iload_n 3, 1) := by decide +kernel
theorem dX11_thin_113 : decode cX11_thin 113 = .ok (.iconst 0, 1) := by decide +kernel
theorem dX11_thin_114 : decode cX11_thin 114 = .ok (.invokestatic 73, 3) := by decide +kernel
theorem dX11_thin_117 : decode cX11_thin 117 = .ok (.laload, 1) := by decide +kernel
theorem dX11_thin_118 : decode cX11_thin 118 = .ok (.lcmp, 1) := by decide +kernel
theorem dX11_thin_119 : decode cX11_thin 119 = .ok (.ifCond .le 9, 3) := by decide +kernel
theorem dX11_thin_122 : decode cX11_thin 122 = .ok (.lconst 1, 1) := by decide +kernel
theorem dX11_thin_123 : decode cX11_thin 123 = .ok (.iload_n 3, 1) := by decide +kernel
theorem dX11_thin_124 : decode cX11_thin 124 = .ok (.lshl, 1) := by decide +kernel
theorem dX11_thin_125 : decode cX11_thin 125 = .ok (.goto 4, 3) := by decide +kernel
theorem dX11_thin_128 : decode cX11_thin 128 = .ok (.lconst 0, 1) := by decide +kernel
theorem dX11_thin_129 : decode cX11_thin 129 = .ok (.lor, 1) := by decide +kernel
theorem dX11_thin_130 : decode cX11_thin 130 = .ok (.lstore_n 1, 1) := by decide +kernel
theorem dX11_thin_131 : decode cX11_thin 131 = .ok (.iinc 3 1, 3) := by decide +kernel
theorem dX11_thin_134 : decode cX11_thin 134 = .ok (.goto (-130), 3) := by decide +kernel
theorem dX11_thin_137 : decode cX11_thin 137 = .ok (.lload_n 1, 1) := by decide +kernel
theorem dX11_thin_138 : decode cX11_thin 138 = .ok (.lreturn, 1) := by decide +kernel
theorem dX11_feed_0 : decode cX11_feed 0 = .ok (.iload_n 1, 1) := by decide +kernel
theorem dX11_feed_1 : decode cX11_feed 1 = .ok (.i2l, 1) := by decide +kernel
theorem dX11_feed_2 : decode cX11_feed 2 = .ok (.lconst 1, 1) := by decide +kernel
theorem dX11_feed_3 : decode cX11_feed 3 = .ok (.ldc2_w 153, 3) := by decide +kernel
theorem dX11_feed_6 : decode cX11_feed 6 = .ok (.invokestatic 57, 3) := by decide +kernel
theorem dX11_feed_9 : decode cX11_feed 9 = .ok (.ifCond .ne 11, 3) := by decide +kernel
theorem dX11_feed_12 : decode cX11_feed 12 = .ok (.aload_n 0, 1) := by decide +kernel
theorem dX11_feed_13 : decode cX11_feed 13 = .ok (.ldc 67, 2) := by decide +kernel
theorem dX11_feed_15 : decode cX11_feed 15 = .ok (.invokevirtual 68, 3) := by decide +kernel
theorem dX11_feed_18 : decode cX11_feed 18 = .ok (.i2l, 1) := by decide +kernel
theorem dX11_feed_19 : decode cX11_feed 19 = .ok (.lreturn, 1) := by decide +kernel
theorem dX11_feed_20 : decode cX11_feed 20 = .ok (.aload_n 0, 1) := by decide +kernel
theorem dX11_feed_21 : decode cX11_feed 21 = .ok (.getfield 155, 3) := by decide +kernel
theorem dX11_feed_24 : decode cX11_feed 24 = .ok (.iload_n 1, 1) := by decide +kernel
theorem dX11_feed_25 : decode cX11_feed 25 = .ok (.iadd, 1) := by decide +kernel
theorem dX11_feed_26 : decode cX11_feed 26 = .ok (.sipush 160, 3) := by decide +kernel
theorem dX11_feed_29 : decode cX11_feed 29 = .ok (.if_icmp .le 11, 3) := by decide +kernel
theorem dX11_feed_32 : decode cX11_feed 32 = .ok (.aload_n 0, 1) := by decide +kernel
theorem dX11_feed_33 : decode cX11_feed 33 = .ok (.ldc 72, 2) := by decide +kernel
theorem dX11_feed_35 : decode cX11_feed 35 = .ok (.invokevirtual 68, 3) := by decide +kernel
theorem dX11_feed_38 : decode cX11_feed 38 = .ok (.i2l, 1) := by decide +kernel
theorem dX11_feed_39 : decode cX11_feed 39 = .ok (.lreturn, 1) := by decide +kernel
theorem dX11_feed_40 : decode cX11_feed 40 = .ok (.iconst 0, 1) := by decide +kernel
theorem dX11_feed_41 : decode cX11_feed 41 = .ok (.istore 4, 2) := by decide +kernel
theorem dX11_feed_43 : decode cX11_feed 43 = .ok (.iload 4, 2) := by decide +kernel
theorem dX11_feed_45 : decode cX11_feed 45 = .ok (.iload_n 1, 1) := by decide +kernel
theorem dX11_feed_46 : decode cX11_feed 46 = .ok (.if_icmp .ge 40, 3) := by decide +kernel
theorem dX11_feed_49 : decode cX11_feed 49 = .ok (.aload_n 0, 1) := by decide +kernel
theorem dX11_feed_50 : decode cX11_feed 50 = .ok (.getfield 26, 3) := by decide +kernel
theorem dX11_feed_53 : decode cX11_feed 53 = .ok (.aload_n 0, 1) := by decide +kernel
theorem dX11_feed_54 : decode cX11_feed 54 = .ok (.getfield 155, 3) := by decide +kernel
theorem dX11_feed_57 : decode cX11_feed 57 = .ok (.lload_n 2, 1) := by decide +kernel
theorem dX11_feed_58 : decode cX11_feed 58 = .ok (.bipush 8, 2) := by decide +kernel
theorem dX11_feed_60 : decode cX11_feed 60 = .ok (.iload 4, 2) := by decide +kernel
theorem dX11_feed_62 : decode cX11_feed 62 = .ok (.imul, 1) := by decide +kernel
theorem dX11_feed_63 : decode cX11_feed 63 = .ok (.lshr, 1) := by decide +kernel
theorem dX11_feed_64 : decode cX11_feed 64 = .ok (.ldc2_w 158, 3) := by decide +kernel
theorem dX11_feed_67 : decode cX11_feed 67 = .ok (.land, 1) := by decide +kernel
theorem dX11_feed_68 : decode cX11_feed 68 = .ok (.l2i, 1) := by decide +kernel
theorem dX11_feed_69 : decode cX11_feed 69 = .ok (.iastore, 1) := by decide +kernel
theorem dX11_feed_70 : decode cX11_feed 70 = .ok (.aload_n 0, 1) := by decide +kernel
theorem dX11_feed_71 : decode cX11_feed 71 = .ok (.dup, 1) := by decide +kernel
theorem dX11_feed_72 : decode cX11_feed 72 = .ok (.getfield 155, 3) := by decide +kernel
theorem dX11_feed_75 : decode cX11_feed 75 = .ok (.iconst 1, 1) := by decide +kernel
theorem dX11_feed_76 : decode cX11_feed 76 = .ok (.iadd, 1) := by decide +kernel
theorem dX11_feed_77 : decode cX11_feed 77 = .ok (.putfield 155, 3) := by decide +kernel
theorem dX11_feed_80 : decode cX11_feed 80 = .ok (.iinc 4 1, 3) := by decide +kernel
theorem dX11_feed_83 : decode cX11_feed 83 = .ok (.goto (-40), 3) := by decide +kernel
theorem dX11_feed_86 : decode cX11_feed 86 = .ok (.aload_n 0, 1) := by decide +kernel
theorem dX11_feed_87 : decode cX11_feed 87 = .ok (.getfield 155, 3) := by decide +kernel
theorem dX11_feed_90 : decode cX11_feed 90 = .ok (.i2l, 1) := by decide +kernel
theorem dX11_feed_91 : decode cX11_feed 91 = .ok (.lreturn, 1) := by decide +kernel
theorem dX11_isIn_0 : decode cX11_isIn 0 = .ok (.iload_n 1, 1) := by decide +kernel
theorem dX11_isIn_1 : decode cX11_isIn 1 = .ok (.aload_n 0, 1) := by decide +kernel
theorem dX11_isIn_2 : decode cX11_isIn 2 = .ok (.getfield 155, 3) := by decide +kernel
theorem dX11_isIn_5 : decode cX11_isIn 5 = .ok (.if_icmp .ge 24, 3) := by decide +kernel
theorem dX11_isIn_8 : decode cX11_isIn 8 = .ok (.aload_n 0, 1) := by decide +kernel
theorem dX11_isIn_9 : decode cX11_isIn 9 = .ok (.getfield 26, 3) := by decide +kernel
theorem dX11_isIn_12 : decode cX11_isIn 12 = .ok (.iload_n 1, 1) := by decide +kernel
theorem dX11_isIn_13 : decode cX11_isIn 13 = .ok (.iaload, 1) := by decide +kernel
theorem dX11_isIn_14 : decode cX11_isIn 14 = .ok (.i2l, 1) := by decide +kernel
theorem dX11_isIn_15 : decode cX11_isIn 15 = .ok (.iload_n 2, 1) := by decide +kernel
theorem dX11_isIn_16 : decode cX11_isIn 16 = .ok (.i2l, 1) := by decide +kernel
theorem dX11_isIn_17 : decode cX11_isIn 17 = .ok (.iload_n 3, 1) := by decide +kernel
theorem dX11_isIn_18 : decode cX11_isIn 18 = .ok (.i2l, 1) := by decide +kernel
theorem dX11_isIn_19 : decode cX11_isIn 19 = .ok (.invokestatic 57, 3) := by decide +kernel
theorem dX11_isIn_22 : decode cX11_isIn 22 = .ok (.ifCond .eq 7, 3) := by decide +kernel
theorem dX11_isIn_25 : decode cX11_isIn 25 = .ok (.iconst 1, 1) := by decide +kernel
theorem dX11_isIn_26 : decode cX11_isIn 26 = .ok (.goto 4, 3) := by decide +kernel
theorem dX11_isIn_29 : decode cX11_isIn 29 = .ok (.iconst 0, 1) := by decide +kernel
theorem dX11_isIn_30 : decode cX11_isIn 30 = .ok (.ireturn, 1) := by decide +kernel
theorem dX11_wordHere_0 : decode cX11_wordHere 0 = .ok (.iconst 0, 1) := by decide +kernel
theorem dX11_wordHere_1 : decode cX11_wordHere 1 = .ok (.istore_n 1, 1) := by decide +kernel
theorem dX11_wordHere_2 : decode cX11_wordHere 2 = .ok (.iload_n 1, 1) := by decide +kernel
theorem dX11_wordHere_3 : decode cX11_wordHere 3 = .ok (.aload_n 0, 1) := by decide +kernel
theorem dX11_wordHere_4 : decode cX11_wordHere 4 = .ok (.getfield 160, 3) := by decide +kernel
theorem dX11_wordHere_7 : decode cX11_wordHere 7 = .ok (.iadd, 1) := by decide +kernel
theorem dX11_wordHere_8 : decode cX11_wordHere 8 = .ok (.aload_n 0, 1) := by decide +kernel
theorem dX11_wordHere_9 : decode cX11_wordHere 9 = .ok (.getfield 163, 3) := by decide +kernel
theorem dX11_wordHere_12 : decode cX11_wordHere 12 = .ok (.isub, 1) := by decide +kernel
theorem dX11_wordHere_13 : decode cX11_wordHere 13 = .ok (.iconst 1, 1) := by decide +kernel
theorem dX11_wordHere_14 : decode cX11_wordHere 14 = .ok (.iadd, 1) := by decide +kernel
theorem dX11_wordHere_15 : decode cX11_wordHere 15 = .ok (.ldc 166, 2) := by decide +kernel
theorem dX11_wordHere_17 : decode cX11_wordHere 17 = .ok (.invokevirtual 168, 3) := by decide +kernel
theorem dX11_wordHere_20 : decode cX11_wordHere 20 = .ok (.if_icmp .ge 110, 3) := by decide +kernel
theorem dX11_wordHere_23 : decode cX11_wordHere 23 = .ok (.ldc 166, 2) := by decide +kernel
theorem dX11_wordHere_25 : decode cX11_wordHere 25 = .ok (.iload_n 1, 1) := by decide +kernel
theorem dX11_wordHere_26 : decode cX11_wordHere 26 = .ok (.invokevirtual 173, 3) := by decide +kernel
theorem dX11_wordHere_29 : decode cX11_wordHere 29 = .ok (.bipush 32, 2) := by decide +kernel
theorem dX11_wordHere_31 : decode cX11_wordHere 31 = .ok (.if_icmp .ne 30, 3) := by decide +kernel
theorem dX11_wordHere_34 : decode cX11_wordHere 34 = .ok (.ldc 166, 2) := by decide +kernel
theorem dX11_wordHere_36 : decode cX11_wordHere 36 = .ok (.iload_n 1, 1) := by decide +kernel
theorem dX11_wordHere_37 : decode cX11_wordHere 37 = .ok (.iconst 1, 1) := by decide +kernel
theorem dX11_wordHere_38 : decode cX11_wordHere 38 = .ok (.iadd, 1) := by decide +kernel
theorem dX11_wordHere_39 : decode cX11_wordHere 39 = .ok (.aload_n 0, 1) := by decide +kernel
theorem dX11_wordHere_40 : decode cX11_wordHere 40 = .ok (.getfield 160, 3) := by decide +kernel
theorem dX11_wordHere_43 : decode cX11_wordHere 43 = .ok (.iadd, 1) := by decide +kernel
theorem dX11_wordHere_44 : decode cX11_wordHere 44 = .ok (.aload_n 0, 1) := by decide +kernel
theorem dX11_wordHere_45 : decode cX11_wordHere 45 = .ok (.getfield 163, 3) := by decide +kernel
theorem dX11_wordHere_48 : decode cX11_wordHere 48 = .ok (.isub, 1) := by decide +kernel
theorem dX11_wordHere_49 : decode cX11_wordHere 49 = .ok (.invokevirtual 173, 3) := by decide +kernel
theorem dX11_wordHere_52 : decode cX11_wordHere 52 = .ok (.bipush 32, 2) := by decide +kernel
theorem dX11_wordHere_54 : decode cX11_wordHere 54 = .ok (.if_icmp .ne 7, 3) := by decide +kernel
theorem dX11_wordHere_57 : decode cX11_wordHere 57 = .ok (.iconst 1, 1) := by decide +kernel
theorem dX11_wordHere_58 : decode cX11_wordHere 58 = .ok (.goto 4, 3) := by decide +kernel
theorem dX11_wordHere_61 : decode cX11_wordHere 61 = .ok (.iconst 0, 1) := by decide +kernel
theorem dX11_wordHere_62 : decode cX11_wordHere 62 = .ok (.istore_n 2, 1) := by decide +kernel
theorem dX11_wordHere_63 : decode cX11_wordHere 63 = .ok (.iconst 0, 1) := by decide +kernel
theorem dX11_wordHere_64 : decode cX11_wordHere 64 = .ok (.istore_n 3, 1) := by decide +kernel
theorem dX11_wordHere_65 : decode cX11_wordHere 65 = .ok (.iload_n 2, 1) := by decide +kernel
theorem dX11_wordHere_66 : decode cX11_wordHere 66 = .ok (.ifCond .eq 52, 3) := by decide +kernel
theorem dX11_wordHere_69 : decode cX11_wordHere 69 = .ok (.iload_n 3, 1) := by decide +kernel
theorem dX11_wordHere_70 : decode cX11_wordHere 70 = .ok (.aload_n 0, 1) := by decide +kernel
theorem dX11_wordHere_71 : decode cX11_wordHere 71 = .ok (.getfield 160, 3) := by decide +kernel
theorem dX11_wordHere_74 : decode cX11_wordHere 74 = .ok (.aload_n 0, 1) := by decide +kernel
theorem dX11_wordHere_75 : decode cX11_wordHere 75 = .ok (.getfield 163, 3) := by decide +kernel
theorem dX11_wordHere_78 : decode cX11_wordHere 78 = .ok (.isub, 1) := by decide +kernel
theorem dX11_wordHere_79 : decode cX11_wordHere 79 = .ok (.if_icmp .ge 39, 3) := by decide +kernel
theorem dX11_wordHere_82 : decode cX11_wordHere 82 = .ok (.ldc 166, 2) := by decide +kernel
theorem dX11_wordHere_84 : decode cX11_wordHere 84 = .ok (.iload_n 1, 1) := by decide +kernel
theorem dX11_wordHere_85 : decode cX11_wordHere 85 = .ok (.iconst 1, 1) := by decide +kernel
theorem dX11_wordHere_86 : decode cX11_wordHere 86 = .ok (.iadd, 1) := by decide +kernel
theorem dX11_wordHere_87 : decode cX11_wordHere 87 = .ok (.iload_n 3, 1) := by decide +kernel
theorem dX11_wordHere_88 : decode cX11_wordHere 88 = .ok (.iadd, 1) := by decide +kernel
theorem dX11_wordHere_89 : decode cX11_wordHere 89 = .ok (.invokevirtual 173, 3) := by decide +kernel
theorem dX11_wordHere_92 : decode cX11_wordHere 92 = .ok (.aload_n 0, 1) := by decide +kernel
theorem dX11_wordHere_93 : decode cX11_wordHere 93 = .ok (.getfield 26, 3) := by decide +kernel
theorem dX11_wordHere_96 : decode cX11_wordHere 96 = .ok (.aload_n 0, 1) := by decide +kernel
theorem dX11_wordHere_97 : decode cX11_wordHere 97 = .ok (.getfield 163, 3) := by decide +kernel
theorem dX11_wordHere_100 : decode cX11_wordHere 100 = .ok (.iload_n 3, 1) := by decide +kernel
theorem dX11_wordHere_101 : decode cX11_wordHere 101 = .ok (.iadd, 1) := by decide +kernel
theorem dX11_wordHere_102 : decode cX11_wordHere 102 = .ok (.iaload, 1) := by decide +kernel
theorem dX11_wordHere_103 : decode cX11_wordHere 103 = .ok (.if_icmp .ne 7, 3) := by decide +kernel
theorem dX11_wordHere_106 : decode cX11_wordHere 106 = .ok (.iconst 1, 1) := by decide +kernel
theorem dX11_wordHere_107 : decode cX11_wordHere 107 = .ok (.goto 4, 3) := by decide +kernel
theorem dX11_wordHere_110 : decode cX11_wordHere 110 = .ok (.iconst 0, 1) := by decide +kernel
theorem dX11_wordHere_111 : decode cX11_wordHere 111 = .ok (.istore_n 2, 1) := by decide +kernel
theorem dX11_wordHere_112 : decode cX11_wordHere 112 = .ok (.iinc 3 1, 3) := by decide +kernel
theorem dX11_wordHere_115 : decode cX11_wordHere 115 = .ok (.goto (-50), 3) := by decide +kernel
theorem dX11_wordHere_118 : decode cX11_wordHere 118 = .ok (.iload_n 2, 1) := by decide +kernel
theorem dX11_wordHere_119 : decode cX11_wordHere 119 = .ok (.ifCond .eq 5, 3) := by decide +kernel
theorem dX11_wordHere_122 : decode cX11_wordHere 122 = .ok (.iload_n 1, 1) := by decide +kernel
theorem dX11_wordHere_123 : decode cX11_wordHere 123 = .ok (.ireturn, 1) := by decide +kernel
theorem dX11_wordHere_124 : decode cX11_wordHere 124 = .ok (.iinc 1 1, 3) := by decide +kernel
theorem dX11_wordHere_127 : decode cX11_wordHere 127 = .ok (.goto (-125), 3) := by decide +kernel
theorem dX11_wordHere_130 : decode cX11_wordHere 130 = .ok (.iconst (-1), 1) := by decide +kernel
theorem dX11_wordHere_131 : decode cX11_wordHere 131 = .ok (.ireturn, 1) := by decide +kernel
theorem dX11_next_0 : decode cX11_next 0 = .ok (.aload_n 0, 1) := by decide +kernel
theorem dX11_next_1 : decode cX11_next 1 = .ok (.aload_n 0, 1) := by decide +kernel
theorem dX11_next_2 : decode cX11_next 2 = .ok (.getfield 160, 3) := by decide +kernel
theorem dX11_next_5 : decode cX11_next 5 = .ok (.putfield 163, 3) := by decide +kernel
theorem dX11_next_8 : decode cX11_next 8 = .ok (.aload_n 0, 1) := by decide +kernel
theorem dX11_next_9 : decode cX11_next 9 = .ok (.getfield 163, 3) := by decide +kernel
theorem dX11_next_12 : decode cX11_next 12 = .ok (.aload_n 0, 1) := by decide +kernel
theorem dX11_next_13 : decode cX11_next 13 = .ok (.getfield 155, 3) := by decide +kernel
theorem dX11_next_16 : decode cX11_next 16 = .ok (.if_icmp .ge 30, 3) := by decide +kernel
theorem dX11_next_19 : decode cX11_next 19 = .ok (.aload_n 0, 1) := by decide +kernel
theorem dX11_next_20 : decode cX11_next 20 = .ok (.getfield 26, 3) := by decide +kernel
theorem dX11_next_23 : decode cX11_next 23 = .ok (.aload_n 0, 1) := by decide +kernel
theorem dX11_next_24 : decode cX11_next 24 = .ok (.getfield 163, 3) := by decide +kernel
theorem dX11_next_27 : decode cX11_next 27 = .ok (.iaload, 1) := by decide +kernel
theorem dX11_next_28 : decode cX11_next 28 = .ok (.bipush 32, 2) := by decide +kernel
theorem dX11_next_30 : decode cX11_next 30 = .ok (.if_icmp .ne 16, 3) := by decide +kernel
theorem dX11_next_33 : decode cX11_next 33 = .ok (.aload_n 0, 1) := by decide +kernel
theorem dX11_next_34 : decode cX11_next 34 = .ok (.dup, 1) := by decide +kernel
theorem dX11_next_35 : decode cX11_next 35 = .ok (.getfield 163, 3) := by decide +kernel
theorem dX11_next_38 : decode cX11_next 38 = .ok (.iconst 1, 1) := by decide +kernel
theorem dX11_next_39 : decode cX11_next 39 = .ok (.iadd, 1) := by decide +kernel
theorem dX11_next_40 : decode cX11_next 40 = .ok (.putfield 163, 3) := by decide +kernel
theorem dX11_next_43 : decode cX11_next 43 = .ok (.goto (-35), 3) := by decide +kernel
theorem dX11_next_46 : decode cX11_next 46 = .ok (.aload_n 0, 1) := by decide +kernel
theorem dX11_next_47 : decode cX11_next 47 = .ok (.aload_n 0, 1) := by decide +kernel
theorem dX11_next_48 : decode cX11_next 48 = .ok (.getfield 163, 3) := by decide +kernel
theorem dX11_next_51 : decode cX11_next 51 = .ok (.putfield 160, 3) := by decide +kernel
theorem dX11_next_54 : decode cX11_next 54 = .ok (.aload_n 0, 1) := by decide +kernel
theorem dX11_next_55 : decode cX11_next 55 = .ok (.getfield 163, 3) := by decide +kernel
theorem dX11_next_58 : decode cX11_next 58 = .ok (.aload_n 0, 1) := by decide +kernel
theorem dX11_next_59 : decode cX11_next 59 = .ok (.getfield 155, 3) := by decide +kernel
theorem dX11_next_62 : decode cX11_next 62 = .ok (.if_icmp .ne 9, 3) := by decide +kernel
theorem dX11_next_65 : decode cX11_next 65 = .ok (.aload_n 0, 1) := by decide +kernel
theorem dX11_next_66 : decode cX11_next 66 = .ok (.iconst 0, 1) := by decide +kernel
theorem dX11_next_67 : decode cX11_next 67 = .ok (.putfield 177, 3) := by decide +kernel
theorem dX11_next_70 : decode cX11_next 70 = .ok (.return_, 1) := by decide +kernel
theorem dX11_next_71 : decode cX11_next 71 = .ok (.aload_n 0, 1) := by decide +kernel
theorem dX11_next_72 : decode cX11_next 72 = .ok (.aload_n 0, 1) := by decide +kernel
theorem dX11_next_73 : decode cX11_next 73 = .ok (.aload_n 0, 1) := by decide +kernel
theorem dX11_next_74 : decode cX11_next 74 = .ok (.getfield 163, 3) := by decide +kernel
theorem dX11_next_77 : decode cX11_next 77 = .ok (.bipush 97, 2) := by decide +kernel
theorem dX11_next_79 : decode cX11_next 79 = .ok (.bipush 122, 2) := by decide +kernel
theorem dX11_next_81 : decode cX11_next 81 = .ok (.invokevirtual 180, 3) := by decide +kernel
theorem dX11_next_84 : decode cX11_next 84 = .ok (.ifCond .eq 7, 3) := by decide +kernel
theorem dX11_next_87 : decode cX11_next 87 = .ok (.iconst 1, 1) := by decide +kernel
theorem dX11_next_88 : decode cX11_next 88 = .ok (.goto 23, 3) := by decide +kernel
theorem dX11_next_91 : decode cX11_next 91 = .ok (.aload_n 0, 1) := by decide +kernel
theorem dX11_next_92 : decode cX11_next 92 = .ok (.aload_n 0, 1) := by decide +kernel
theorem dX11_next_93 : decode cX11_next 93 = .ok (.getfield 163, 3) := by decide +kernel
theorem dX11_next_96 : decode cX11_next 96 = .ok (.bipush 48, 2) := by decide +kernel
theorem dX11_next_98 : decode cX11_next 98 = .ok (.bipush 57, 2) := by decide +kernel
theorem dX11_next_100 : decode cX11_next 100 = .ok (.invokevirtual 180, 3) := by decide +kernel
theorem dX11_next_103 : decode cX11_next 103 = .ok (.ifCond .eq 7, 3) := by decide +kernel
theorem dX11_next_106 : decode cX11_next 106 = .ok (.iconst 2, 1) := by decide +kernel
theorem dX11_next_107 : decode cX11_next 107 = .ok (.goto 4, 3) := by decide +kernel
theorem dX11_next_110 : decode cX11_next 110 = .ok (.iconst 3, 1) := by decide +kernel
theorem dX11_next_111 : decode cX11_next 111 = .ok (.putfield 177, 3) := by decide +kernel
theorem dX11_next_114 : decode cX11_next 114 = .ok (.aload_n 0, 1) := by decide +kernel
theorem dX11_next_115 : decode cX11_next 115 = .ok (.dup, 1) := by decide +kernel
theorem dX11_next_116 : decode cX11_next 116 = .ok (.getfield 160, 3) := by decide +kernel
theorem dX11_next_119 : decode cX11_next 119 = .ok (.iconst 1, 1) := by decide +kernel
theorem dX11_next_120 : decode cX11_next 120 = .ok (.iadd, 1) := by decide +kernel
theorem dX11_next_121 : decode cX11_next 121 = .ok (.putfield 160, 3) := by decide +kernel
theorem dX11_next_124 : decode cX11_next 124 = .ok (.aload_n 0, 1) := by decide +kernel
theorem dX11_next_125 : decode cX11_next 125 = .ok (.getfield 177, 3) := by decide +kernel
theorem dX11_next_128 : decode cX11_next 128 = .ok (.iconst 1, 1) := by decide +kernel
theorem dX11_next_129 : decode cX11_next 129 = .ok (.if_icmp .ne 18, 3) := by decide +kernel
theorem dX11_next_132 : decode cX11_next 132 = .ok (.aload_n 0, 1) := by decide +kernel
theorem dX11_next_133 : decode cX11_next 133 = .ok (.aload_n 0, 1) := by decide +kernel
theorem dX11_next_134 : decode cX11_next 134 = .ok (.getfield 160, 3) := by decide +kernel
theorem dX11_next_137 : decode cX11_next 137 = .ok (.bipush 97, 2) := by decide +kernel
theorem dX11_next_139 : decode cX11_next 139 = .ok (.bipush 122, 2) := by decide +kernel
theorem dX11_next_141 : decode cX11_next 141 = .ok (.invokevirtual 180, 3) := by decide +kernel
theorem dX11_next_144 : decode cX11_next 144 = .ok (.ifCond .ne 26, 3) := by decide +kernel
theorem dX11_next_147 : decode cX11_next 147 = .ok (.aload_n 0, 1) := by decide +kernel
theorem dX11_next_148 : decode cX11_next 148 = .ok (.getfield 177, 3) := by decide +kernel
theorem dX11_next_151 : decode cX11_next 151 = .ok (.iconst 2, 1) := by decide +kernel
theorem dX11_next_152 : decode cX11_next 152 = .ok (.if_icmp .ne 31, 3) := by decide +kernel
theorem dX11_next_155 : decode cX11_next 155 = .ok (.aload_n 0, 1) := by decide +kernel
theorem dX11_next_156 : decode cX11_next 156 = .ok (.aload_n 0, 1) := by decide +kernel
theorem dX11_next_157 : decode cX11_next 157 = .ok (.getfield 160, 3) := by decide +kernel
theorem dX11_next_160 : decode cX11_next 160 = .ok (.bipush 48, 2) := by decide +kernel
theorem dX11_next_162 : decode cX11_next 162 = .ok (.bipush 57, 2) := by decide +kernel
theorem dX11_next_164 : decode cX11_next 164 = .ok (.invokevirtual 180, 3) := by decide +kernel
theorem dX11_next_167 : decode cX11_next 167 = .ok (.ifCond .eq 16, 3) := by decide +kernel
theorem dX11_next_170 : decode cX11_next 170 = .ok (.aload_n 0, 1) := by decide +kernel
theorem dX11_next_171 : decode cX11_next 171 = .ok (.dup, 1) := by decide +kernel
theorem dX11_next_172 : decode cX11_next 172 = .ok (.getfield 160, 3) := by decide +kernel
theorem dX11_next_175 : decode cX11_next 175 = .ok (.iconst 1, 1) := by decide +kernel
theorem dX11_next_176 : decode cX11_next 176 = .ok (.iadd, 1) := by decide +kernel
theorem dX11_next_177 : decode cX11_next 177 = .ok (.putfield 160, 3) := by decide +kernel
theorem dX11_next_180 : decode cX11_next 180 = .ok (.goto (-56), 3) := by decide +kernel
theorem dX11_next_183 : decode cX11_next 183 = .ok (.aload_n 0, 1) := by decide +kernel
theorem dX11_next_184 : decode cX11_next 184 = .ok (.aload_n 0, 1) := by decide +kernel
theorem dX11_next_185 : decode cX11_next 185 = .ok (.getfield 177, 3) := by decide +kernel
theorem dX11_next_188 : decode cX11_next 188 = .ok (.iconst 1, 1) := by decide +kernel
theorem dX11_next_189 : decode cX11_next 189 = .ok (.if_icmp .ne 10, 3) := by decide +kernel
theorem dX11_next_192 : decode cX11_next 192 = .ok (.aload_n 0, 1) := by decide +kernel
theorem dX11_next_193 : decode cX11_next 193 = .ok (.invokevirtual 184, 3) := by decide +kernel
theorem dX11_next_196 : decode cX11_next 196 = .ok (.goto 29, 3) := by decide +kernel
theorem dX11_next_199 : decode cX11_next 199 = .ok (.aload_n 0, 1) := by decide +kernel
theorem dX11_next_200 : decode cX11_next 200 = .ok (.getfield 177, 3) := by decide +kernel
theorem dX11_next_203 : decode cX11_next 203 = .ok (.iconst 3, 1) := by decide +kernel
theorem dX11_next_204 : decode cX11_next 204 = .ok (.if_icmp .ne 20, 3) := by decide +kernel
theorem dX11_next_207 : decode cX11_next 207 = .ok (.ldc 187, 2) := by decide +kernel
theorem dX11_next_209 : decode cX11_next 209 = .ok (.aload_n 0, 1) := by decide +kernel
theorem dX11_next_210 : decode cX11_next 210 = .ok (.getfield 26, 3) := by decide +kernel
theorem dX11_next_213 : decode cX11_next 213 = .ok (.aload_n 0, 1) := by decide +kernel
theorem dX11_next_214 : decode cX11_next 214 = .ok (.getfield 163, 3) := by decide +kernel
theorem dX11_next_217 : decode cX11_next 217 = .ok (.iaload, 1) := by decide +kernel
theorem dX11_next_218 : decode cX11_next 218 = .ok (.invokevirtual 189, 3) := by decide +kernel
theorem dX11_next_221 : decode cX11_next 221 = .ok (.goto 4, 3) := by decide +kernel
theorem dX11_next_224 : decode cX11_next 224 = .ok (.iconst 0, 1) := by decide +kernel
theorem dX11_next_225 : decode cX11_next 225 = .ok (.putfield 192, 3) := by decide +kernel
theorem dX11_next_228 : decode cX11_next 228 = .ok (.aload_n 0, 1) := by decide +kernel
theorem dX11_next_229 : decode cX11_next 229 = .ok (.getfield 192, 3) := by decide +kernel
theorem dX11_next_232 : decode cX11_next 232 = .ok (.ifCond .lt 25, 3) := by decide +kernel
theorem dX11_next_235 : decode cX11_next 235 = .ok (.aload_n 0, 1) := by decide +kernel
theorem dX11_next_236 : decode cX11_next 236 = .ok (.getfield 177, 3) := by decide +kernel
theorem dX11_next_239 : decode cX11_next 239 = .ok (.iconst 2, 1) := by decide +kernel
theorem dX11_next_240 : decode cX11_next 240 = .ok (.if_icmp .ne 22, 3) := by decide +kernel
theorem dX11_next_243 : decode cX11_next 243 = .ok (.aload_n 0, 1) := by decide +kernel
theorem dX11_next_244 : decode cX11_next 244 = .ok (.getfield 160, 3) := by decide +kernel
theorem dX11_next_247 : decode cX11_next 247 = .ok (.aload_n 0, 1) := by decide +kernel
theorem dX11_next_248 : decode cX11_next 248 = .ok (.getfield 163, 3) := by decide +kernel
theorem dX11_next_251 : decode cX11_next 251 = .ok (.isub, 1) := by decide +kernel
theorem dX11_next_252 : decode cX11_next 252 = .ok (.bipush 6, 2) := by decide +kernel
theorem dX11_next_254 : decode cX11_next 254 = .ok (.if_icmp .le 8, 3) := by decide +kernel
theorem dX11_next_257 : decode cX11_next 257 = .ok (.aload_n 0, 1) := by decide +kernel
theorem dX11_next_258 : decode cX11_next 258 = .ok (.iconst 4, 1) := by decide +kernel
theorem dX11_next_259 : decode cX11_next 259 = .ok (.putfield 177, 3) := by decide +kernel
theorem dX11_next_262 : decode cX11_next 262 = .ok (.return_, 1) := by decide +kernel
theorem dX11_isWord_0 : decode cX11_isWord 0 = .ok (.aload_n 0, 1) := by decide +kernel
theorem dX11_isWord_1 : decode cX11_isWord 1 = .ok (.getfield 195, 3) := by decide +kernel
theorem dX11_isWord_4 : decode cX11_isWord 4 = .ok (.ifCond .ne 23, 3) := by decide +kernel
theorem dX11_isWord_7 : decode cX11_isWord 7 = .ok (.aload_n 0, 1) := by decide +kernel
theorem dX11_isWord_8 : decode cX11_isWord 8 = .ok (.getfield 177, 3) := by decide +kernel
theorem dX11_isWord_11 : decode cX11_isWord 11 = .ok (.iconst 1, 1) := by decide +kernel
theorem dX11_isWord_12 : decode cX11_isWord 12 = .ok (.if_icmp .ne 15, 3) := by decide +kernel
theorem dX11_isWord_15 : decode cX11_isWord 15 = .ok (.aload_n 0, 1) := by decide +kernel
theorem dX11_isWord_16 : decode cX11_isWord 16 = .ok (.getfield 192, 3) := by decide +kernel
theorem dX11_isWord_19 : decode cX11_isWord 19 = .ok (.iload_n 1, 1) := by decide +kernel
theorem dX11_isWord_20 : decode cX11_isWord 20 = .ok (.if_icmp .ne 7, 3) := by decide +kernel
theorem dX11_isWord_23 : decode cX11_isWord 23 = .ok (.iconst 1, 1) := by decide +kernel
theorem dX11_isWord_24 : decode cX11_isWord 24 = .ok (.goto 4, 3) := by decide +kernel
theorem dX11_isWord_27 : decode cX11_isWord 27 = .ok (.iconst 0, 1) := by decide +kernel
theorem dX11_isWord_28 : decode cX11_isWord 28 = .ok (.ireturn, 1) := by decide +kernel
theorem dX11_isSign_0 : decode cX11_isSign 0 = .ok (.aload_n 0, 1) := by decide +kernel
theorem dX11_isSign_1 : decode cX11_isSign 1 = .ok (.getfield 195, 3) := by decide +kernel
theorem dX11_isSign_4 : decode cX11_isSign 4 = .ok (.ifCond .ne 28, 3) := by decide +kernel
theorem dX11_isSign_7 : decode cX11_isSign 7 = .ok (.aload_n 0, 1) := by decide +kernel
theorem dX11_isSign_8 : decode cX11_isSign 8 = .ok (.getfield 177, 3) := by decide +kernel
theorem dX11_isSign_11 : decode cX11_isSign 11 = .ok (.iconst 3, 1) := by decide +kernel
theorem dX11_isSign_12 : decode cX11_isSign 12 = .ok (.if_icmp .ne 20, 3) := by decide +kernel
theorem dX11_isSign_15 : decode cX11_isSign 15 = .ok (.aload_n 0, 1) := by decide +kernel
theorem dX11_isSign_16 : decode cX11_isSign 16 = .ok (.getfield 26, 3) := by decide +kernel
theorem dX11_isSign_19 : decode cX11_isSign 19 = .ok (.aload_n 0, 1) := by decide +kernel
theorem dX11_isSign_20 : decode cX11_isSign 20 = .ok (.getfield 163, 3) := by decide +kernel
theorem dX11_isSign_23 : decode cX11_isSign 23 = .ok (.iaload, 1) := by decide +kernel
theorem dX11_isSign_24 : decode cX11_isSign 24 = .ok (.iload_n 1, 1) := by decide +kernel
theorem dX11_isSign_25 : decode cX11_isSign 25 = .ok (.if_icmp .ne 7, 3) := by decide +kernel
theorem dX11_isSign_28 : decode cX11_isSign 28 = .ok (.iconst 1, 1) := by decide +kernel
theorem dX11_isSign_29 : decode cX11_isSign 29 = .ok (.goto 4, 3) := by decide +kernel
theorem dX11_isSign_32 : decode cX11_isSign 32 = .ok (.iconst 0, 1) := by decide +kernel
theorem dX11_isSign_33 : decode cX11_isSign 33 = .ok (.ireturn, 1) := by decide +kernel
theorem dX11_need_0 : decode cX11_need 0 = .ok (.aload_n 0, 1) := by decide +kernel
theorem dX11_need_1 : decode cX11_need 1 = .ok (.aload_n 0, 1) := by decide +kernel
theorem dX11_need_2 : decode cX11_need 2 = .ok (.getfield 195, 3) := by decide +kernel
theorem dX11_need_5 : decode cX11_need 5 = .ok (.ifCond .ne 7, 3) := by decide +kernel
theorem dX11_need_8 : decode cX11_need 8 = .ok (.iload_n 1, 1) := by decide +kernel
theorem dX11_need_9 : decode cX11_need 9 = .ok (.ifCond .ne 7, 3) := by decide +kernel
theorem dX11_need_12 : decode cX11_need 12 = .ok (.iconst 1, 1) := by decide +kernel
theorem dX11_need_13 : decode cX11_need 13 = .ok (.goto 4, 3) := by decide +kernel
theorem dX11_need_16 : decode cX11_need 16 = .ok (.iconst 0, 1) := by decide +kernel
theorem dX11_need_17 : decode cX11_need 17 = .ok (.putfield 195, 3) := by decide +kernel
theorem dX11_need_20 : decode cX11_need 20 = .ok (.aload_n 0, 1) := by decide +kernel
theorem dX11_need_21 : decode cX11_need 21 = .ok (.getfield 195, 3) := by decide +kernel
theorem dX11_need_24 : decode cX11_need 24 = .ok (.ifCond .ne 7, 3) := by decide +kernel
theorem dX11_need_27 : decode cX11_need 27 = .ok (.aload_n 0, 1) := by decide +kernel
theorem dX11_need_28 : decode cX11_need 28 = .ok (.invokevirtual 199, 3) := by decide +kernel
theorem dX11_need_31 : decode cX11_need 31 = .ok (.return_, 1) := by decide +kernel
theorem dX11_codes_0 : decode cX11_codes 0 = .ok (.aload_n 0, 1) := by decide +kernel
theorem dX11_codes_1 : decode cX11_codes 1 = .ok (.getfield 195, 3) := by decide +kernel
theorem dX11_codes_4 : decode cX11_codes 4 = .ok (.ifCond .ne 23, 3) := by decide +kernel
theorem dX11_codes_7 : decode cX11_codes 7 = .ok (.aload_n 0, 1) := by decide +kernel
theorem dX11_codes_8 : decode cX11_codes 8 = .ok (.getfield 38, 3) := by decide +kernel
theorem dX11_codes_11 : decode cX11_codes 11 = .ok (.aload_n 0, 1) := by decide +kernel
theorem dX11_codes_12 : decode cX11_codes 12 = .ok (.getfield 202, 3) := by decide +kernel
theorem dX11_codes_15 : decode cX11_codes 15 = .ok (.iload_n 1, 1) := by decide +kernel
theorem dX11_codes_16 : decode cX11_codes 16 = .ok (.iastore, 1) := by decide +kernel
theorem dX11_codes_17 : decode cX11_codes 17 = .ok (.aload_n 0, 1) := by decide +kernel
theorem dX11_codes_18 : decode cX11_codes 18 = .ok (.dup, 1) := by decide +kernel
theorem dX11_codes_19 : decode cX11_codes 19 = .ok (.getfield 202, 3) := by decide +kernel
theorem dX11_codes_22 : decode cX11_codes 22 = .ok (.iconst 1, 1) := by decide +kernel
theorem dX11_codes_23 : decode cX11_codes 23 = .ok (.iadd, 1) := by decide +kernel
theorem dX11_codes_24 : decode cX11_codes 24 = .ok (.putfield 202, 3) := by decide +kernel
theorem dX11_codes_27 : decode cX11_codes 27 = .ok (.return_, 1) := by decide +kernel
theorem dX11_either_0 : decode cX11_either 0 = .ok (.aload_n 0, 1) := by decide +kernel
theorem dX11_either_1 : decode cX11_either 1 = .ok (.invokevirtual 205, 3) := by decide +kernel
theorem dX11_either_4 : decode cX11_either 4 = .ok (.aload_n 0, 1) := by decide +kernel
theorem dX11_either_5 : decode cX11_either 5 = .ok (.bipush 54, 2) := by decide +kernel
theorem dX11_either_7 : decode cX11_either 7 = .ok (.invokevirtual 208, 3) := by decide +kernel
theorem dX11_either_10 : decode cX11_either 10 = .ok (.ifCond .eq 20, 3) := by decide +kernel
theorem dX11_either_13 : decode cX11_either 13 = .ok (.aload_n 0, 1) := by decide +kernel
theorem dX11_either_14 : decode cX11_either 14 = .ok (.invokevirtual 199, 3) := by decide +kernel
theorem dX11_either_17 : decode cX11_either 17 = .ok (.aload_n 0, 1) := by decide +kernel
theorem dX11_either_18 : decode cX11_either 18 = .ok (.invokevirtual 205, 3) := by decide +kernel
theorem dX11_either_21 : decode cX11_either 21 = .ok (.aload_n 0, 1) := by decide +kernel
theorem dX11_either_22 : decode cX11_either 22 = .ok (.ldc 211, 2) := by decide +kernel
theorem dX11_either_24 : decode cX11_either 24 = .ok (.invokevirtual 212, 3) := by decide +kernel
theorem dX11_either_27 : decode cX11_either 27 = .ok (.goto (-23), 3) := by decide +kernel
theorem dX11_either_30 : decode cX11_either 30 = .ok (.return_, 1) := by decide +kernel
theorem dX11_both_0 : decode cX11_both 0 = .ok (.aload_n 0, 1) := by decide +kernel
theorem dX11_both_1 : decode cX11_both 1 = .ok (.invokevirtual 215, 3) := by decide +kernel
theorem dX11_both_4 : decode cX11_both 4 = .ok (.aload_n 0, 1) := by decide +kernel
theorem dX11_both_5 : decode cX11_both 5 = .ok (.bipush 50, 2) := by decide +kernel
theorem dX11_both_7 : decode cX11_both 7 = .ok (.invokevirtual 208, 3) := by decide +kernel
theorem dX11_both_10 : decode cX11_both 10 = .ok (.ifCond .eq 20, 3) := by decide +kernel
theorem dX11_both_13 : decode cX11_both 13 = .ok (.aload_n 0, 1) := by decide +kernel
theorem dX11_both_14 : decode cX11_both 14 = .ok (.invokevirtual 199, 3) := by decide +kernel
theorem dX11_both_17 : decode cX11_both 17 = .ok (.aload_n 0, 1) := by decide +kernel
theorem dX11_both_18 : decode cX11_both 18 = .ok (.invokevirtual 215, 3) := by decide +kernel
theorem dX11_both_21 : decode cX11_both 21 = .ok (.aload_n 0, 1) := by decide +kernel
theorem dX11_both_22 : decode cX11_both 22 = .ok (.ldc 218, 2) := by decide +kernel
theorem dX11_both_24 : decode cX11_both 24 = .ok (.invokevirtual 212, 3) := by decide +kernel
theorem dX11_both_27 : decode cX11_both 27 = .ok (.goto (-23), 3) := by decide +kernel
theorem dX11_both_30 : decode cX11_both 30 = .ok (.return_, 1) := by decide +kernel
theorem dX11_notOf_0 : decode cX11_notOf 0 = .ok (.aload_n 0, 1) := by decide +kernel
theorem dX11_notOf_1 : decode cX11_notOf 1 = .ok (.bipush 57, 2) := by decide +kernel
theorem dX11_notOf_3 : decode cX11_notOf 3 = .ok (.invokevirtual 208, 3) := by decide +kernel
theorem dX11_notOf_6 : decode cX11_notOf 6 = .ok (.ifCond .eq 56, 3) := by decide +kernel
theorem dX11_notOf_9 : decode cX11_notOf 9 = .ok (.aload_n 0, 1) := by decide +kernel
theorem dX11_notOf_10 : decode cX11_notOf 10 = .ok (.aload_n 0, 1) := by decide +kernel
theorem dX11_notOf_11 : decode cX11_notOf 11 = .ok (.getfield 219, 3) := by decide +kernel
theorem dX11_notOf_14 : decode cX11_notOf 14 = .ok (.iconst 4, 1) := by decide +kernel
theorem dX11_notOf_15 : decode cX11_notOf 15 = .ok (.if_icmp .ne 7, 3) := by decide +kernel
theorem dX11_notOf_18 : decode cX11_notOf 18 = .ok (.iconst 1, 1) := by decide +kernel
theorem dX11_notOf_19 : decode cX11_notOf 19 = .ok (.goto 4, 3) := by decide +kernel
theorem dX11_notOf_22 : decode cX11_notOf 22 = .ok (.iconst 0, 1) := by decide +kernel
theorem dX11_notOf_23 : decode cX11_notOf 23 = .ok (.putfield 195, 3) := by decide +kernel
theorem dX11_notOf_26 : decode cX11_notOf 26 = .ok (.aload_n 0, 1) := by decide +kernel
theorem dX11_notOf_27 : decode cX11_notOf 27 = .ok (.dup, 1) := by decide +kernel
theorem dX11_notOf_28 : decode cX11_notOf 28 = .ok (.getfield 219, 3) := by decide +kernel
theorem dX11_notOf_31 : decode cX11_notOf 31 = .ok (.iconst 1, 1) := by decide +kernel
theorem dX11_notOf_32 : decode cX11_notOf 32 = .ok (.iadd, 1) := by decide +kernel
theorem dX11_notOf_33 : decode cX11_notOf 33 = .ok (.putfield 219, 3) := by decide +kernel
theorem dX11_notOf_36 : decode cX11_notOf 36 = .ok (.aload_n 0, 1) := by decide +kernel
theorem dX11_notOf_37 : decode cX11_notOf 37 = .ok (.iconst 1, 1) := by decide +kernel
theorem dX11_notOf_38 : decode cX11_notOf 38 = .ok (.invokevirtual 222, 3) := by decide +kernel
theorem dX11_notOf_41 : decode cX11_notOf 41 = .ok (.aload_n 0, 1) := by decide +kernel
theorem dX11_notOf_42 : decode cX11_notOf 42 = .ok (.invokevirtual 215, 3) := by decide +kernel
theorem dX11_notOf_45 : decode cX11_notOf 45 = .ok (.aload_n 0, 1) := by decide +kernel
theorem dX11_notOf_46 : decode cX11_notOf 46 = .ok (.dup, 1) := by decide +kernel
theorem dX11_notOf_47 : decode cX11_notOf 47 = .ok (.getfield 219, 3) := by decide +kernel
theorem dX11_notOf_50 : decode cX11_notOf 50 = .ok (.iconst 1, 1) := by decide +kernel
theorem dX11_notOf_51 : decode cX11_notOf 51 = .ok (.isub, 1) := by decide +kernel
theorem dX11_notOf_52 : decode cX11_notOf 52 = .ok (.putfield 219, 3) := by decide +kernel
theorem dX11_notOf_55 : decode cX11_notOf 55 = .ok (.aload_n 0, 1) := by decide +kernel
theorem dX11_notOf_56 : decode cX11_notOf 56 = .ok (.ldc 226, 2) := by decide +kernel
theorem dX11_notOf_58 : decode cX11_notOf 58 = .ok (.invokevirtual 212, 3) := by decide +kernel
theorem dX11_notOf_61 : decode cX11_notOf 61 = .ok (.return_, 1) := by decide +kernel
theorem dX11_notOf_62 : decode cX11_notOf 62 = .ok (.aload_n 0, 1) := by decide +kernel
theorem dX11_notOf_63 : decode cX11_notOf 63 = .ok (.invokevirtual 227, 3) := by decide +kernel
theorem dX11_notOf_66 : decode cX11_notOf 66 = .ok (.aload_n 0, 1) := by decide +kernel
theorem dX11_notOf_67 : decode cX11_notOf 67 = .ok (.bipush 60, 2) := by decide +kernel
theorem dX11_notOf_69 : decode cX11_notOf 69 = .ok (.invokevirtual 230, 3) := by decide +kernel
theorem dX11_notOf_72 : decode cX11_notOf 72 = .ok (.ifCond .ne 12, 3) := by decide +kernel
theorem dX11_notOf_75 : decode cX11_notOf 75 = .ok (.aload_n 0, 1) := by decide +kernel
theorem dX11_notOf_76 : decode cX11_notOf 76 = .ok (.bipush 61, 2) := by decide +kernel
theorem dX11_notOf_78 : decode cX11_notOf 78 = .ok (.invokevirtual 230, 3) := by decide +kernel
theorem dX11_notOf_81 : decode cX11_notOf 81 = .ok (.ifCond .eq 33, 3) := by decide +kernel
theorem dX11_notOf_84 : decode cX11_notOf 84 = .ok (.aload_n 0, 1) := by decide +kernel
theorem dX11_notOf_85 : decode cX11_notOf 85 = .ok (.bipush 60, 2) := by decide +kernel
theorem dX11_notOf_87 : decode cX11_notOf 87 = .ok (.invokevirtual 230, 3) := by decide +kernel
theorem dX11_notOf_90 : decode cX11_notOf 90 = .ok (.ifCond .eq 8, 3) := by decide +kernel
theorem dX11_notOf_93 : decode cX11_notOf 93 = .ok (.ldc 233, 2) := by decide +kernel
theorem dX11_notOf_95 : decode cX11_notOf 95 = .ok (.goto 5, 3) := by decide +kernel
theorem dX11_notOf_98 : decode cX11_notOf 98 = .ok (.ldc 234, 2) := by decide +kernel
theorem dX11_notOf_100 : decode cX11_notOf 100 = .ok (.istore_n 1, 1) := by decide +kernel
theorem dX11_notOf_101 : decode cX11_notOf 101 = .ok (.aload_n 0, 1) := by decide +kernel
theorem dX11_notOf_102 : decode cX11_notOf 102 = .ok (.invokevirtual 199, 3) := by decide +kernel
theorem dX11_notOf_105 : decode cX11_notOf 105 = .ok (.aload_n 0, 1) := by decide +kernel
theorem dX11_notOf_106 : decode cX11_notOf 106 = .ok (.invokevirtual 227, 3) := by decide +kernel
theorem dX11_notOf_109 : decode cX11_notOf 109 = .ok (.aload_n 0, 1) := by decide +kernel
theorem dX11_notOf_110 : decode cX11_notOf 110 = .ok (.iload_n 1, 1) := by decide +kernel
theorem dX11_notOf_111 : decode cX11_notOf 111 = .ok (.invokevirtual 212, 3) := by decide +kernel
theorem dX11_notOf_114 : decode cX11_notOf 114 = .ok (.return_, 1) := by decide +kernel
theorem dX11_sumOf_0 : decode cX11_sumOf 0 = .ok (.aload_n 0, 1) := by decide +kernel
theorem dX11_sumOf_1 : decode cX11_sumOf 1 = .ok (.invokevirtual 235, 3) := by decide +kernel
theorem dX11_sumOf_4 : decode cX11_sumOf 4 = .ok (.aload_n 0, 1) := by decide +kernel
theorem dX11_sumOf_5 : decode cX11_sumOf 5 = .ok (.bipush 43, 2) := by decide +kernel
theorem dX11_sumOf_7 : decode cX11_sumOf 7 = .ok (.invokevirtual 230, 3) := by decide +kernel
theorem dX11_sumOf_10 : decode cX11_sumOf 10 = .ok (.ifCond .ne 12, 3) := by decide +kernel
theorem dX11_sumOf_13 : decode cX11_sumOf 13 = .ok (.aload_n 0, 1) := by decide +kernel
theorem dX11_sumOf_14 : decode cX11_sumOf 14 = .ok (.bipush 45, 2) := by decide +kernel
theorem dX11_sumOf_16 : decode cX11_sumOf 16 = .ok (.invokevirtual 230, 3) := by decide +kernel
theorem dX11_sumOf_19 : decode cX11_sumOf 19 = .ok (.ifCond .eq 36, 3) := by decide +kernel
theorem dX11_sumOf_22 : decode cX11_sumOf 22 = .ok (.aload_n 0, 1) := by decide +kernel
theorem dX11_sumOf_23 : decode cX11_sumOf 23 = .ok (.bipush 43, 2) := by decide +kernel
theorem dX11_sumOf_25 : decode cX11_sumOf 25 = .ok (.invokevirtual 230, 3) := by decide +kernel
theorem dX11_sumOf_28 : decode cX11_sumOf 28 = .ok (.ifCond .eq 8, 3) := by decide +kernel
theorem dX11_sumOf_31 : decode cX11_sumOf 31 = .ok (.ldc 238, 2) := by decide +kernel
theorem dX11_sumOf_33 : decode cX11_sumOf 33 = .ok (.goto 5, 3) := by decide +kernel
theorem dX11_sumOf_36 : decode cX11_sumOf 36 = .ok (.ldc 239, 2) := by decide +kernel
theorem dX11_sumOf_38 : decode cX11_sumOf 38 = .ok (.istore_n 1, 1) := by decide +kernel
theorem dX11_sumOf_39 : decode cX11_sumOf 39 = .ok (.aload_n 0, 1) := by decide +kernel
theorem dX11_sumOf_40 : decode cX11_sumOf 40 = .ok (.invokevirtual 199, 3) := by decide +kernel
theorem dX11_sumOf_43 : decode cX11_sumOf 43 = .ok (.aload_n 0, 1) := by decide +kernel
theorem dX11_sumOf_44 : decode cX11_sumOf 44 = .ok (.invokevirtual 235, 3) := by decide +kernel
theorem dX11_sumOf_47 : decode cX11_sumOf 47 = .ok (.aload_n 0, 1) := by decide +kernel
theorem dX11_sumOf_48 : decode cX11_sumOf 48 = .ok (.iload_n 1, 1) := by decide +kernel
theorem dX11_sumOf_49 : decode cX11_sumOf 49 = .ok (.invokevirtual 212, 3) := by decide +kernel
theorem dX11_sumOf_52 : decode cX11_sumOf 52 = .ok (.goto (-48), 3) := by decide +kernel
theorem dX11_sumOf_55 : decode cX11_sumOf 55 = .ok (.return_, 1) := by decide +kernel
theorem dX11_oneOf_0 : decode cX11_oneOf 0 = .ok (.aload_n 0, 1) := by decide +kernel
theorem dX11_oneOf_1 : decode cX11_oneOf 1 = .ok (.invokevirtual 240, 3) := by decide +kernel
theorem dX11_oneOf_4 : decode cX11_oneOf 4 = .ok (.aload_n 0, 1) := by decide +kernel
theorem dX11_oneOf_5 : decode cX11_oneOf 5 = .ok (.bipush 42, 2) := by decide +kernel
theorem dX11_oneOf_7 : decode cX11_oneOf 7 = .ok (.invokevirtual 230, 3) := by decide +kernel
theorem dX11_oneOf_10 : decode cX11_oneOf 10 = .ok (.ifCond .ne 12, 3) := by decide +kernel
theorem dX11_oneOf_13 : decode cX11_oneOf 13 = .ok (.aload_n 0, 1) := by decide +kernel
theorem dX11_oneOf_14 : decode cX11_oneOf 14 = .ok (.bipush 47, 2) := by decide +kernel
theorem dX11_oneOf_16 : decode cX11_oneOf 16 = .ok (.invokevirtual 230, 3) := by decide +kernel
theorem dX11_oneOf_19 : decode cX11_oneOf 19 = .ok (.ifCond .eq 36, 3) := by decide +kernel
theorem dX11_oneOf_22 : decode cX11_oneOf 22 = .ok (.aload_n 0, 1) := by decide +kernel
theorem dX11_oneOf_23 : decode cX11_oneOf 23 = .ok (.bipush 42, 2) := by decide +kernel
theorem dX11_oneOf_25 : decode cX11_oneOf 25 = .ok (.invokevirtual 230, 3) := by decide +kernel
theorem dX11_oneOf_28 : decode cX11_oneOf 28 = .ok (.ifCond .eq 8, 3) := by decide +kernel
theorem dX11_oneOf_31 : decode cX11_oneOf 31 = .ok (.ldc 243, 2) := by decide +kernel
theorem dX11_oneOf_33 : decode cX11_oneOf 33 = .ok (.goto 5, 3) := by decide +kernel
theorem dX11_oneOf_36 : decode cX11_oneOf 36 = .ok (.ldc 244, 2) := by decide +kernel
theorem dX11_oneOf_38 : decode cX11_oneOf 38 = .ok (.istore_n 1, 1) := by decide +kernel
theorem dX11_oneOf_39 : decode cX11_oneOf 39 = .ok (.aload_n 0, 1) := by decide +kernel
theorem dX11_oneOf_40 : decode cX11_oneOf 40 = .ok (.invokevirtual 199, 3) := by decide +kernel
theorem dX11_oneOf_43 : decode cX11_oneOf 43 = .ok (.aload_n 0, 1) := by decide +kernel
theorem dX11_oneOf_44 : decode cX11_oneOf 44 = .ok (.invokevirtual 240, 3) := by decide +kernel
theorem dX11_oneOf_47 : decode cX11_oneOf 47 = .ok (.aload_n 0, 1) := by decide +kernel
theorem dX11_oneOf_48 : decode cX11_oneOf 48 = .ok (.iload_n 1, 1) := by decide +kernel
theorem dX11_oneOf_49 : decode cX11_oneOf 49 = .ok (.invokevirtual 212, 3) := by decide +kernel
theorem dX11_oneOf_52 : decode cX11_oneOf 52 = .ok (.goto (-48), 3) := by decide +kernel
theorem dX11_oneOf_55 : decode cX11_oneOf 55 = .ok (.return_, 1) := by decide +kernel
theorem dX11_value_0 : decode cX11_value 0 = .ok (.aload_n 0, 1) := by decide +kernel
theorem dX11_value_1 : decode cX11_value 1 = .ok (.bipush 40, 2) := by decide +kernel
theorem dX11_value_3 : decode cX11_value 3 = .ok (.invokevirtual 230, 3) := by decide +kernel
theorem dX11_value_6 : decode cX11_value 6 = .ok (.ifCond .eq 60, 3) := by decide +kernel
theorem dX11_value_9 : decode cX11_value 9 = .ok (.aload_n 0, 1) := by decide +kernel
theorem dX11_value_10 : decode cX11_value 10 = .ok (.aload_n 0, 1) := by decide +kernel
theorem dX11_value_11 : decode cX11_value 11 = .ok (.getfield 219, 3) := by decide +kernel
theorem dX11_value_14 : decode cX11_value 14 = .ok (.iconst 4, 1) := by decide +kernel
theorem dX11_value_15 : decode cX11_value 15 = .ok (.if_icmp .ne 7, 3) := by decide +kernel
theorem dX11_value_18 : decode cX11_value 18 = .ok (.iconst 1, 1) := by decide +kernel
theorem dX11_value_19 : decode cX11_value 19 = .ok (.goto 4, 3) := by decide +kernel
theorem dX11_value_22 : decode cX11_value 22 = .ok (.iconst 0, 1) := by decide +kernel
theorem dX11_value_23 : decode cX11_value 23 = .ok (.putfield 195, 3) := by decide +kernel
theorem dX11_value_26 : decode cX11_value 26 = .ok (.aload_n 0, 1) := by decide +kernel
theorem dX11_value_27 : decode cX11_value 27 = .ok (.dup, 1) := by decide +kernel
theorem dX11_value_28 : decode cX11_value 28 = .ok (.getfield 219, 3) := by decide +kernel
theorem dX11_value_31 : decode cX11_value 31 = .ok (.iconst 1, 1) := by decide +kernel
theorem dX11_value_32 : decode cX11_value 32 = .ok (.iadd, 1) := by decide +kernel
theorem dX11_value_33 : decode cX11_value 33 = .ok (.putfield 219, 3) := by decide +kernel
theorem dX11_value_36 : decode cX11_value 36 = .ok (.aload_n 0, 1) := by decide +kernel
theorem dX11_value_37 : decode cX11_value 37 = .ok (.iconst 1, 1) := by decide +kernel
theorem dX11_value_38 : decode cX11_value 38 = .ok (.invokevirtual 222, 3) := by decide +kernel
theorem dX11_value_41 : decode cX11_value 41 = .ok (.aload_n 0, 1) := by decide +kernel
theorem dX11_value_42 : decode cX11_value 42 = .ok (.invokevirtual 245, 3) := by decide +kernel
theorem dX11_value_45 : decode cX11_value 45 = .ok (.aload_n 0, 1) := by decide +kernel
theorem dX11_value_46 : decode cX11_value 46 = .ok (.dup, 1) := by decide +kernel
theorem dX11_value_47 : decode cX11_value 47 = .ok (.getfield 219, 3) := by decide +kernel
theorem dX11_value_50 : decode cX11_value 50 = .ok (.iconst 1, 1) := by decide +kernel
theorem dX11_value_51 : decode cX11_value 51 = .ok (.isub, 1) := by decide +kernel
theorem dX11_value_52 : decode cX11_value 52 = .ok (.putfield 219, 3) := by decide +kernel
theorem dX11_value_55 : decode cX11_value 55 = .ok (.aload_n 0, 1) := by decide +kernel
theorem dX11_value_56 : decode cX11_value 56 = .ok (.aload_n 0, 1) := by decide +kernel
theorem dX11_value_57 : decode cX11_value 57 = .ok (.bipush 41, 2) := by decide +kernel
theorem dX11_value_59 : decode cX11_value 59 = .ok (.invokevirtual 230, 3) := by decide +kernel
theorem dX11_value_62 : decode cX11_value 62 = .ok (.invokevirtual 222, 3) := by decide +kernel
theorem dX11_value_65 : decode cX11_value 65 = .ok (.return_, 1) := by decide +kernel
theorem dX11_value_66 : decode cX11_value 66 = .ok (.aload_n 0, 1) := by decide +kernel
theorem dX11_value_67 : decode cX11_value 67 = .ok (.getfield 195, 3) := by decide +kernel
theorem dX11_value_70 : decode cX11_value 70 = .ok (.ifCond .eq 4, 3) := by decide +kernel
theorem dX11_value_73 : decode cX11_value 73 = .ok (.return_, 1) := by decide +kernel
theorem dX11_value_74 : decode cX11_value 74 = .ok (.aload_n 0, 1) := by decide +kernel
theorem dX11_value_75 : decode cX11_value 75 = .ok (.getfield 177, 3) := by decide +kernel
theorem dX11_value_78 : decode cX11_value 78 = .ok (.iconst 2, 1) := by decide +kernel
theorem dX11_value_79 : decode cX11_value 79 = .ok (.if_icmp .ne 47, 3) := by decide +kernel
theorem dX11_value_82 : decode cX11_value 82 = .ok (.iconst 0, 1) := by decide +kernel
theorem dX11_value_83 : decode cX11_value 83 = .ok (.istore_n 1, 1) := by decide +kernel
theorem dX11_value_84 : decode cX11_value 84 = .ok (.aload_n 0, 1) := by decide +kernel
theorem dX11_value_85 : decode cX11_value 85 = .ok (.getfield 163, 3) := by decide +kernel
theorem dX11_value_88 : decode cX11_value 88 = .ok (.istore_n 2, 1) := by decide +kernel
theorem dX11_value_89 : decode cX11_value 89 = .ok (.iload_n 2, 1) := by decide +kernel
theorem dX11_value_90 : decode cX11_value 90 = .ok (.aload_n 0, 1) := by decide +kernel
theorem dX11_value_91 : decode cX11_value 91 = .ok (.getfield 160, 3) := by decide +kernel
theorem dX11_value_94 : decode cX11_value 94 = .ok (.if_icmp .ge 24, 3) := by decide +kernel
theorem dX11_value_97 : decode cX11_value 97 = .ok (.bipush 10, 2) := by decide +kernel
theorem dX11_value_99 : decode cX11_value 99 = .ok (.iload_n 1, 1) := by decide +kernel
theorem dX11_value_100 : decode cX11_value 100 = .ok (.imul, 1) := by decide +kernel
theorem dX11_value_101 : decode cX11_value 101 = .ok (.aload_n 0, 1) := by decide +kernel
theorem dX11_value_102 : decode cX11_value 102 = .ok (.getfield 26, 3) := by decide +kernel
theorem dX11_value_105 : decode cX11_value 105 = .ok (.iload_n 2, 1) := by decide +kernel
theorem dX11_value_106 : decode cX11_value 106 = .ok (.iaload, 1) := by decide +kernel
theorem dX11_value_107 : decode cX11_value 107 = .ok (.iadd, 1) := by decide +kernel
theorem dX11_value_108 : decode cX11_value 108 = .ok (.bipush 48, 2) := by decide +kernel
theorem dX11_value_110 : decode cX11_value 110 = .ok (.isub, 1) := by decide +kernel
theorem dX11_value_111 : decode cX11_value 111 = .ok (.istore_n 1, 1) := by decide +kernel
theorem dX11_value_112 : decode cX11_value 112 = .ok (.iinc 2 1, 3) := by decide +kernel
theorem dX11_value_115 : decode cX11_value 115 = .ok (.goto (-26), 3) := by decide +kernel
theorem dX11_value_118 : decode cX11_value 118 = .ok (.aload_n 0, 1) := by decide +kernel
theorem dX11_value_119 : decode cX11_value 119 = .ok (.iload_n 1, 1) := by decide +kernel
theorem dX11_value_120 : decode cX11_value 120 = .ok (.invokevirtual 212, 3) := by decide +kernel
theorem dX11_value_123 : decode cX11_value 123 = .ok (.goto 39, 3) := by decide +kernel
theorem dX11_value_126 : decode cX11_value 126 = .ok (.aload_n 0, 1) := by decide +kernel
theorem dX11_value_127 : decode cX11_value 127 = .ok (.getfield 177, 3) := by decide +kernel
theorem dX11_value_130 : decode cX11_value 130 = .ok (.iconst 1, 1) := by decide +kernel
theorem dX11_value_131 : decode cX11_value 131 = .ok (.if_icmp .ne 26, 3) := by decide +kernel
theorem dX11_value_134 : decode cX11_value 134 = .ok (.aload_n 0, 1) := by decide +kernel
theorem dX11_value_135 : decode cX11_value 135 = .ok (.getfield 192, 3) := by decide +kernel
theorem dX11_value_138 : decode cX11_value 138 = .ok (.bipush 30, 2) := by decide +kernel
theorem dX11_value_140 : decode cX11_value 140 = .ok (.if_icmp .gt 17, 3) := by decide +kernel
theorem dX11_value_143 : decode cX11_value 143 = .ok (.aload_n 0, 1) := by decide +kernel
theorem dX11_value_144 : decode cX11_value 144 = .ok (.ldc 248, 2) := by decide +kernel
theorem dX11_value_146 : decode cX11_value 146 = .ok (.aload_n 0, 1) := by decide +kernel
theorem dX11_value_147 : decode cX11_value 147 = .ok (.getfield 192, 3) := by decide +kernel
theorem dX11_value_150 : decode cX11_value 150 = .ok (.iadd, 1) := by decide +kernel
theorem dX11_value_151 : decode cX11_value 151 = .ok (.invokevirtual 212, 3) := by decide +kernel
theorem dX11_value_154 : decode cX11_value 154 = .ok (.goto 8, 3) := by decide +kernel
theorem dX11_value_157 : decode cX11_value 157 = .ok (.aload_n 0, 1) := by decide +kernel
theorem dX11_value_158 : decode cX11_value 158 = .ok (.iconst 1, 1) := by decide +kernel
theorem dX11_value_159 : decode cX11_value 159 = .ok (.putfield 195, 3) := by decide +kernel
theorem dX11_value_162 : decode cX11_value 162 = .ok (.aload_n 0, 1) := by decide +kernel
theorem dX11_value_163 : decode cX11_value 163 = .ok (.iconst 1, 1) := by decide +kernel
theorem dX11_value_164 : decode cX11_value 164 = .ok (.invokevirtual 222, 3) := by decide +kernel
theorem dX11_value_167 : decode cX11_value 167 = .ok (.return_, 1) := by decide +kernel
theorem dX11_clause_0 : decode cX11_clause 0 = .ok (.aload_n 0, 1) := by decide +kernel
theorem dX11_clause_1 : decode cX11_clause 1 = .ok (.aload_n 0, 1) := by decide +kernel
theorem dX11_clause_2 : decode cX11_clause 2 = .ok (.iload_n 1, 1) := by decide +kernel
theorem dX11_clause_3 : decode cX11_clause 3 = .ok (.invokevirtual 208, 3) := by decide +kernel
theorem dX11_clause_6 : decode cX11_clause 6 = .ok (.invokevirtual 222, 3) := by decide +kernel
theorem dX11_clause_9 : decode cX11_clause 9 = .ok (.aload_n 0, 1) := by decide +kernel
theorem dX11_clause_10 : decode cX11_clause 10 = .ok (.invokevirtual 245, 3) := by decide +kernel
theorem dX11_clause_13 : decode cX11_clause 13 = .ok (.aload_n 0, 1) := by decide +kernel
theorem dX11_clause_14 : decode cX11_clause 14 = .ok (.aload_n 0, 1) := by decide +kernel
theorem dX11_clause_15 : decode cX11_clause 15 = .ok (.bipush 59, 2) := by decide +kernel
theorem dX11_clause_17 : decode cX11_clause 17 = .ok (.invokevirtual 230, 3) := by decide +kernel
theorem dX11_clause_20 : decode cX11_clause 20 = .ok (.invokevirtual 222, 3) := by decide +kernel
theorem dX11_clause_23 : decode cX11_clause 23 = .ok (.aload_n 0, 1) := by decide +kernel
theorem dX11_clause_24 : decode cX11_clause 24 = .ok (.ldc 249, 2) := by decide +kernel
theorem dX11_clause_26 : decode cX11_clause 26 = .ok (.invokevirtual 212, 3) := by decide +kernel
theorem dX11_clause_29 : decode cX11_clause 29 = .ok (.return_, 1) := by decide +kernel
theorem dX11_text_0 : decode cX11_text 0 = .ok (.iload_n 1, 1) := by decide +kernel
theorem dX11_text_1 : decode cX11_text 1 = .ok (.i2l, 1) := by decide +kernel
theorem dX11_text_2 : decode cX11_text 2 = .ok (.lconst 0, 1) := by decide +kernel
theorem dX11_text_3 : decode cX11_text 3 = .ok (.ldc2_w 103, 3) := by decide +kernel
theorem dX11_text_6 : decode cX11_text 6 = .ok (.invokestatic 57, 3) := by decide +kernel
theorem dX11_text_9 : decode cX11_text 9 = .ok (.ifCond .ne 11, 3) := by decide +kernel
theorem dX11_text_12 : decode cX11_text 12 = .ok (.aload_n 0, 1) := by decide +kernel
theorem dX11_text_13 : decode cX11_text 13 = .ok (.ldc 67, 2) := by decide +kernel
theorem dX11_text_15 : decode cX11_text 15 = .ok (.invokevirtual 68, 3) := by decide +kernel
theorem dX11_text_18 : decode cX11_text 18 = .ok (.i2l, 1) := by decide +kernel
theorem dX11_text_19 : decode cX11_text 19 = .ok (.lreturn, 1) := by decide +kernel
theorem dX11_text_20 : decode cX11_text 20 = .ok (.aload_n 0, 1) := by decide +kernel
theorem dX11_text_21 : decode cX11_text 21 = .ok (.iconst 0, 1) := by decide +kernel
theorem dX11_text_22 : decode cX11_text 22 = .ok (.putfield 160, 3) := by decide +kernel
theorem dX11_text_25 : decode cX11_text 25 = .ok (.aload_n 0, 1) := by decide +kernel
theorem dX11_text_26 : decode cX11_text 26 = .ok (.iconst 0, 1) := by decide +kernel
theorem dX11_text_27 : decode cX11_text 27 = .ok (.putfield 195, 3) := by decide +kernel
theorem dX11_text_30 : decode cX11_text 30 = .ok (.aload_n 0, 1) := by decide +kernel
theorem dX11_text_31 : decode cX11_text 31 = .ok (.iconst 0, 1) := by decide +kernel
theorem dX11_text_32 : decode cX11_text 32 = .ok (.putfield 219, 3) := by decide +kernel
theorem dX11_text_35 : decode cX11_text 35 = .ok (.aload_n 0, 1) := by decide +kernel
theorem dX11_text_36 : decode cX11_text 36 = .ok (.iconst 0, 1) := by decide +kernel
theorem dX11_text_37 : decode cX11_text 37 = .ok (.putfield 202, 3) := by decide +kernel
theorem dX11_text_40 : decode cX11_text 40 = .ok (.aload_n 0, 1) := by decide +kernel
theorem dX11_text_41 : decode cX11_text 41 = .ok (.invokevirtual 199, 3) := by decide +kernel
theorem dX11_text_44 : decode cX11_text 44 = .ok (.aload_n 0, 1) := by decide +kernel
theorem dX11_text_45 : decode cX11_text 45 = .ok (.bipush 35, 2) := by decide +kernel
theorem dX11_text_47 : decode cX11_text 47 = .ok (.invokevirtual 250, 3) := by decide +kernel
theorem dX11_text_50 : decode cX11_text 50 = .ok (.aload_n 0, 1) := by decide +kernel
theorem dX11_text_51 : decode cX11_text 51 = .ok (.bipush 40, 2) := by decide +kernel
theorem dX11_text_53 : decode cX11_text 53 = .ok (.invokevirtual 250, 3) := by decide +kernel
theorem dX11_text_56 : decode cX11_text 56 = .ok (.aload_n 0, 1) := by decide +kernel
theorem dX11_text_57 : decode cX11_text 57 = .ok (.bipush 45, 2) := by decide +kernel
theorem dX11_text_59 : decode cX11_text 59 = .ok (.invokevirtual 250, 3) := by decide +kernel
theorem dX11_text_62 : decode cX11_text 62 = .ok (.aload_n 0, 1) := by decide +kernel
theorem dX11_text_63 : decode cX11_text 63 = .ok (.aload_n 0, 1) := by decide +kernel
theorem dX11_text_64 : decode cX11_text 64 = .ok (.getfield 195, 3) := by decide +kernel
theorem dX11_text_67 : decode cX11_text 67 = .ok (.ifCond .ne 10, 3) := by decide +kernel
theorem dX11_text_70 : decode cX11_text 70 = .ok (.aload_n 0, 1) := by decide +kernel
theorem dX11_text_71 : decode cX11_text 71 = .ok (.getfield 177, 3) := by decide +kernel
theorem dX11_text_74 : decode cX11_text 74 = .ok (.ifCond .eq 7, 3) := by decide +kernel
theorem dX11_text_77 : decode cX11_text 77 = .ok (.iconst 1, 1) := by decide +kernel
theorem dX11_text_78 : decode cX11_text 78 = .ok (.goto 4, 3) := by decide +kernel
theorem dX11_text_81 : decode cX11_text 81 = .ok (.iconst 0, 1) := by decide +kernel
theorem dX11_text_82 : decode cX11_text 82 = .ok (.putfield 195, 3) := by decide +kernel
theorem dX11_text_85 : decode cX11_text 85 = .ok (.aload_n 0, 1) := by decide +kernel
theorem dX11_text_86 : decode cX11_text 86 = .ok (.getfield 163, 3) := by decide +kernel
theorem dX11_text_89 : decode cX11_text 89 = .ok (.istore_n 2, 1) := by decide +kernel
theorem dX11_text_90 : decode cX11_text 90 = .ok (.aload_n 0, 1) := by decide +kernel
theorem dX11_text_91 : decode cX11_text 91 = .ok (.iconst 0, 1) := by decide +kernel
theorem dX11_text_92 : decode cX11_text 92 = .ok (.putfield 155, 3) := by decide +kernel
theorem dX11_text_95 : decode cX11_text 95 = .ok (.aload_n 0, 1) := by decide +kernel
theorem dX11_text_96 : decode cX11_text 96 = .ok (.getfield 195, 3) := by decide +kernel
theorem dX11_text_99 : decode cX11_text 99 = .ok (.ifCond .eq 6, 3) := by decide +kernel
theorem dX11_text_102 : decode cX11_text 102 = .ok (.iload_n 2, 1) := by decide +kernel
theorem dX11_text_103 : decode cX11_text 103 = .ok (.i2l, 1) := by decide +kernel
theorem dX11_text_104 : decode cX11_text 104 = .ok (.lreturn, 1) := by decide +kernel
theorem dX11_text_105 : decode cX11_text 105 = .ok (.iconst 0, 1) := by decide +kernel
theorem dX11_text_106 : decode cX11_text 106 = .ok (.istore_n 3, 1) := by decide +kernel
theorem dX11_text_107 : decode cX11_text 107 = .ok (.iload_n 3, 1) := by decide +kernel
theorem dX11_text_108 : decode cX11_text 108 = .ok (.aload_n 0, 1) := by decide +kernel
theorem dX11_text_109 : decode cX11_text 109 = .ok (.getfield 202, 3) := by decide +kernel
theorem dX11_text_112 : decode cX11_text 112 = .ok (.if_icmp .ge 27, 3) := by decide +kernel
theorem dX11_text_115 : decode cX11_text 115 = .ok (.aload_n 0, 1) := by decide +kernel
theorem dX11_text_116 : decode cX11_text 116 = .ok (.getfield 19, 3) := by decide +kernel
theorem dX11_text_119 : decode cX11_text 119 = .ok (.sipush 168, 3) := by decide +kernel
theorem dX11_text_122 : decode cX11_text 122 = .ok (.iload_n 1, 1) := by decide +kernel
theorem dX11_text_123 : decode cX11_text 123 = .ok (.imul, 1) := by decide +kernel
theorem dX11_text_124 : decode cX11_text 124 = .ok (.iload_n 3, 1) := by decide +kernel
theorem dX11_text_125 : decode cX11_text 125 = .ok (.iadd, 1) := by decide +kernel
theorem dX11_text_126 : decode cX11_text 126 = .ok (.aload_n 0, 1) := by decide +kernel
theorem dX11_text_127 : decode cX11_text 127 = .ok (.getfield 38, 3) := by decide +kernel
theorem dX11_text_130 : decode cX11_text 130 = .ok (.iload_n 3, 1) := by decide +kernel
theorem dX11_text_131 : decode cX11_text 131 = .ok (.iaload, 1) := by decide +kernel
theorem dX11_text_132 : decode cX11_text 132 = .ok (.iastore, 1) := by decide +kernel
theorem dX11_text_133 : decode cX11_text 133 = .ok (.iinc 3 1, 3) := by decide +kernel
theorem dX11_text_136 : decode cX11_text 136 = .ok (.goto (-29), 3) := by decide +kernel
theorem dX11_text_139 : decode cX11_text 139 = .ok (.aload_n 0, 1) := by decide +kernel
theorem dX11_text_140 : decode cX11_text 140 = .ok (.getfield 9, 3) := by decide +kernel
theorem dX11_text_143 : decode cX11_text 143 = .ok (.sipush 302, 3) := by decide +kernel
theorem dX11_text_146 : decode cX11_text 146 = .ok (.iload_n 1, 1) := by decide +kernel
theorem dX11_text_147 : decode cX11_text 147 = .ok (.iadd, 1) := by decide +kernel
theorem dX11_text_148 : decode cX11_text 148 = .ok (.lconst 1, 1) := by decide +kernel
theorem dX11_text_149 : decode cX11_text 149 = .ok (.lastore, 1) := by decide +kernel
theorem dX11_text_150 : decode cX11_text 150 = .ok (.ldc2_w 97, 3) := by decide +kernel
theorem dX11_text_153 : decode cX11_text 153 = .ok (.lreturn, 1) := by decide +kernel
theorem dX11_named_0 : decode cX11_named 0 = .ok (.aload_n 0, 1) := by decide +kernel
theorem dX11_named_1 : decode cX11_named 1 = .ok (.invokevirtual 108, 3) := by decide +kernel
theorem dX11_named_4 : decode cX11_named 4 = .ok (.istore_n 3, 1) := by decide +kernel
theorem dX11_named_5 : decode cX11_named 5 = .ok (.iload_n 1, 1) := by decide +kernel
theorem dX11_named_6 : decode cX11_named 6 = .ok (.lookupswitch 128 #[(0, 58), (4, 69), (8, 83), (14, 89), (20, 105), (25, 117)], 58) := by decide +kernel
theorem dX11_named_64 : decode cX11_named 64 = .ok (.aload_n 0, 1) := by decide +kernel
theorem dX11_named_65 : decode cX11_named 65 = .ok (.getfield 9, 3) := by decide +kernel
theorem dX11_named_68 : decode cX11_named 68 = .ok (.iload_n 2, 1) := by decide +kernel
theorem dX11_named_69 : decode cX11_named 69 = .ok (.iconst 3, 1) := by decide +kernel
theorem dX11_named_70 : decode cX11_named 70 = .ok (.invokestatic 94, 3) := by decide +kernel
theorem dX11_named_73 : decode cX11_named 73 = .ok (.laload, 1) := by decide +kernel
theorem dX11_named_74 : decode cX11_named 74 = .ok (.lreturn, 1) := by decide +kernel
theorem dX11_named_75 : decode cX11_named 75 = .ok (.iload_n 3, 1) := by decide +kernel
theorem dX11_named_76 : decode cX11_named 76 = .ok (.i2l, 1) := by decide +kernel
theorem dX11_named_77 : decode cX11_named 77 = .ok (.aload_n 0, 1) := by decide +kernel
theorem dX11_named_78 : decode cX11_named 78 = .ok (.getfield 9, 3) := by decide +kernel
theorem dX11_named_81 : decode cX11_named 81 = .ok (.iload_n 2, 1) := by decide +kernel
theorem dX11_named_82 : decode cX11_named 82 = .ok (.iconst 4, 1) := by decide +kernel
theorem dX11_named_83 : decode cX11_named 83 = .ok (.invokestatic 94, 3) := by decide +kernel
theorem dX11_named_86 : decode cX11_named 86 = .ok (.laload, 1) := by decide +kernel
theorem dX11_named_87 : decode cX11_named 87 = .ok (.lsub, 1) := by decide +kernel
theorem dX11_named_88 : decode cX11_named 88 = .ok (.lreturn, 1) := by decide +kernel
theorem dX11_named_89 : decode cX11_named 89 = .ok (.aload_n 0, 1) := by decide +kernel
theorem dX11_named_90 : decode cX11_named 90 = .ok (.iload_n 3, 1) := by decide +kernel
theorem dX11_named_91 : decode cX11_named 91 = .ok (.invokevirtual 112, 3) := by decide +kernel
theorem dX11_named_94 : decode cX11_named 94 = .ok (.lreturn, 1) := by decide +kernel
theorem dX11_named_95 : decode cX11_named 95 = .ok (.aload_n 0, 1) := by decide +kernel
theorem dX11_named_96 : decode cX11_named 96 = .ok (.aload_n 0, 1) := by decide +kernel
theorem dX11_named_97 : decode cX11_named 97 = .ok (.getfield 9, 3) := by decide +kernel
theorem dX11_named_100 : decode cX11_named 100 = .ok (.iload_n 2, 1) := by decide +kernel
theorem dX11_named_101 : decode cX11_named 101 = .ok (.iconst 4, 1) := by decide +kernel
theorem dX11_named_102 : decode cX11_named 102 = .ok (.invokestatic 94, 3) := by decide +kernel
theorem dX11_named_105 : decode cX11_named 105 = .ok (.laload, 1) := by decide +kernel
theorem dX11_named_106 : decode cX11_named 106 = .ok (.l2i, 1) := by decide +kernel
theorem dX11_named_107 : decode cX11_named 107 = .ok (.invokevirtual 112, 3) := by decide +kernel
theorem dX11_named_110 : decode cX11_named 110 = .ok (.lreturn, 1) := by decide +kernel
theorem dX11_named_111 : decode cX11_named 111 = .ok (.aload_n 0, 1) := by decide +kernel
theorem dX11_named_112 : decode cX11_named 112 = .ok (.iconst 0, 1) := by decide +kernel
theorem dX11_named_113 : decode cX11_named 113 = .ok (.iload_n 3, 1) := by decide +kernel
theorem dX11_named_114 : decode cX11_named 114 = .ok (.iconst 3, 1) := by decide +kernel
theorem dX11_named_115 : decode cX11_named 115 = .ok (.isub, 1) := by decide +kernel
theorem dX11_named_116 : decode cX11_named 116 = .ok (.invokestatic 253, 3) := by decide +kernel
theorem dX11_named_119 : decode cX11_named 119 = .ok (.invokevirtual 112, 3) := by decide +kernel
theorem dX11_named_122 : decode cX11_named 122 = .ok (.lreturn, 1) := by decide +kernel
theorem dX11_named_123 : decode cX11_named 123 = .ok (.aload_n 0, 1) := by decide +kernel
theorem dX11_named_124 : decode cX11_named 124 = .ok (.iload_n 3, 1) := by decide +kernel
theorem dX11_named_125 : decode cX11_named 125 = .ok (.iload_n 3, 1) := by decide +kernel
theorem dX11_named_126 : decode cX11_named 126 = .ok (.bipush 7, 2) := by decide +kernel
theorem dX11_named_128 : decode cX11_named 128 = .ok (.irem, 1) := by decide +kernel
theorem dX11_named_129 : decode cX11_named 129 = .ok (.isub, 1) := by decide +kernel
theorem dX11_named_130 : decode cX11_named 130 = .ok (.invokevirtual 112, 3) := by decide +kernel
theorem dX11_named_133 : decode cX11_named 133 = .ok (.lreturn, 1) := by decide +kernel
theorem dX11_named_134 : decode cX11_named 134 = .ok (.aload_n 0, 1) := by decide +kernel
theorem dX11_named_135 : decode cX11_named 135 = .ok (.getfield 9, 3) := by decide +kernel
theorem dX11_named_138 : decode cX11_named 138 = .ok (.iload_n 2, 1) := by decide +kernel
theorem dX11_named_139 : decode cX11_named 139 = .ok (.iconst 0, 1) := by decide +kernel
theorem dX11_named_140 : decode cX11_named 140 = .ok (.invokestatic 94, 3) := by decide +kernel
theorem dX11_named_143 : decode cX11_named 143 = .ok (.laload, 1) := by decide +kernel
theorem dX11_named_144 : decode cX11_named 144 = .ok (.lreturn, 1) := by decide +kernel
theorem dX11_done_0 : decode cX11_done 0 = .ok (.iload_n 0, 1) := by decide +kernel
theorem dX11_done_1 : decode cX11_done 1 = .ok (.tableswitch 115 0 6 #[43, 61, 79, 91, 103, 107, 111], 43) := by decide +kernel
theorem dX11_done_44 : decode cX11_done 44 = .ok (.lload_n 1, 1) := by decide +kernel
theorem dX11_done_45 : decode cX11_done 45 = .ok (.lconst 0, 1) := by decide +kernel
theorem dX11_done_46 : decode cX11_done 46 = .ok (.lcmp, 1) := by decide +kernel
theorem dX11_done_47 : decode cX11_done 47 = .ok (.ifCond .ne 9, 3) := by decide +kernel
theorem dX11_done_50 : decode cX11_done 50 = .ok (.lload_n 3, 1) := by decide +kernel
theorem dX11_done_51 : decode cX11_done 51 = .ok (.lconst 0, 1) := by decide +kernel
theorem dX11_done_52 : decode cX11_done 52 = .ok (.lcmp, 1) := by decide +kernel
theorem dX11_done_53 : decode cX11_done 53 = .ok (.ifCond .eq 7, 3) := by decide +kernel
theorem dX11_done_56 : decode cX11_done 56 = .ok (.lconst 1, 1) := by decide +kernel
theorem dX11_done_57 : decode cX11_done 57 = .ok (.goto 4, 3) := by decide +kernel
theorem dX11_done_60 : decode cX11_done 60 = .ok (.lconst 0, 1) := by decide +kernel
theorem dX11_done_61 : decode cX11_done 61 = .ok (.lreturn, 1) := by decide +kernel
theorem dX11_done_62 : decode cX11_done 62 = .ok (.lload_n 1, 1) := by decide +kernel
theorem dX11_done_63 : decode cX11_done 63 = .ok (.lconst 0, 1) := by decide +kernel
theorem dX11_done_64 : decode cX11_done 64 = .ok (.lcmp, 1) := by decide +kernel
theorem dX11_done_65 : decode cX11_done 65 = .ok (.ifCond .eq 13, 3) := by decide +kernel
theorem dX11_done_68 : decode cX11_done 68 = .ok (.lload_n 3, 1) := by decide +kernel
theorem dX11_done_69 : decode cX11_done 69 = .ok (.lconst 0, 1) := by decide +kernel
theorem dX11_done_70 : decode cX11_done 70 = .ok (.lcmp, 1) := by decide +kernel
theorem dX11_done_71 : decode cX11_done 71 = .ok (.ifCond .eq 7, 3) := by decide +kernel
theorem dX11_done_74 : decode cX11_done 74 = .ok (.lconst 1, 1) := by decide +kernel
theorem dX11_done_75 : decode cX11_done 75 = .ok (.goto 4, 3) := by decide +kernel
theorem dX11_done_78 : decode cX11_done 78 = .ok (.lconst 0, 1) := by decide +kernel
theorem dX11_done_79 : decode cX11_done 79 = .ok (.lreturn, 1) := by decide +kernel
theorem dX11_done_80 : decode cX11_done 80 = .ok (.lload_n 1, 1) := by decide +kernel
theorem dX11_done_81 : decode cX11_done 81 = .ok (.lload_n 3, 1) := by decide +kernel
theorem dX11_done_82 : decode cX11_done 82 = .ok (.lcmp, 1) := by decide +kernel
theorem dX11_done_83 : decode cX11_done 83 = .ok (.ifCond .ge 7, 3) := by decide +kernel
theorem dX11_done_86 : decode cX11_done 86 = .ok (.lconst 1, 1) := by decide +kernel
theorem dX11_done_87 : decode cX11_done 87 = .ok (.goto 4, 3) := by decide +kernel
theorem dX11_done_90 : decode cX11_done 90 = .ok (.lconst 0, 1) := by decide +kernel
theorem dX11_done_91 : decode cX11_done 91 = .ok (.lreturn, 1) := by decide +kernel
theorem dX11_done_92 : decode cX11_done 92 = .ok (.lload_n 1, 1) := by decide +kernel
theorem dX11_done_93 : decode cX11_done 93 = .ok (.lload_n 3, 1) := by decide +kernel
theorem dX11_done_94 : decode cX11_done 94 = .ok (.lcmp, 1) := by decide +kernel
theorem dX11_done_95 : decode cX11_done 95 = .ok (.ifCond .ne 7, 3) := by decide +kernel
theorem dX11_done_98 : decode cX11_done 98 = .ok (.lconst 1, 1) := by decide +kernel
theorem dX11_done_99 : decode cX11_done 99 = .ok (.goto 4, 3) := by decide +kernel
theorem dX11_done_102 : decode cX11_done 102 = .ok (.lconst 0, 1) := by decide +kernel
theorem dX11_done_103 : decode cX11_done 103 = .ok (.lreturn, 1) := by decide +kernel
theorem dX11_done_104 : decode cX11_done 104 = .ok (.lload_n 1, 1) := by decide +kernel
theorem dX11_done_105 : decode cX11_done 105 = .ok (.lload_n 3, 1) := by decide +kernel
