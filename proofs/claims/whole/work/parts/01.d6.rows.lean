theorem dX11_putAside_27 : decode cX11_putAside 27 = .ok (.return_, 1) := by decide +kernel
theorem dX11_comesBack_0 : decode cX11_comesBack 0 = .ok (.iconst 0, 1) := by decide +kernel
theorem dX11_comesBack_1 : decode cX11_comesBack 1 = .ok (.istore_n 1, 1) := by decide +kernel
theorem dX11_comesBack_2 : decode cX11_comesBack 2 = .ok (.iload_n 1, 1) := by decide +kernel
theorem dX11_comesBack_3 : decode cX11_comesBack 3 = .ok (.sipush 611, 3) := by decide +kernel
theorem dX11_comesBack_6 : decode cX11_comesBack 6 = .ok (.if_icmp .ge 21, 3) := by decide +kernel
theorem dX11_comesBack_9 : decode cX11_comesBack 9 = .ok (.aload_n 0, 1) := by decide +kernel
theorem dX11_comesBack_10 : decode cX11_comesBack 10 = .ok (.getfield 9, 3) := by decide +kernel
theorem dX11_comesBack_13 : decode cX11_comesBack 13 = .ok (.iload_n 1, 1) := by decide +kernel
theorem dX11_comesBack_14 : decode cX11_comesBack 14 = .ok (.aload_n 0, 1) := by decide +kernel
theorem dX11_comesBack_15 : decode cX11_comesBack 15 = .ok (.getfield 13, 3) := by decide +kernel
theorem dX11_comesBack_18 : decode cX11_comesBack 18 = .ok (.iload_n 1, 1) := by decide +kernel
theorem dX11_comesBack_19 : decode cX11_comesBack 19 = .ok (.laload, 1) := by decide +kernel
theorem dX11_comesBack_20 : decode cX11_comesBack 20 = .ok (.lastore, 1) := by decide +kernel
theorem dX11_comesBack_21 : decode cX11_comesBack 21 = .ok (.iinc 1 1, 3) := by decide +kernel
theorem dX11_comesBack_24 : decode cX11_comesBack 24 = .ok (.goto (-22), 3) := by decide +kernel
theorem dX11_comesBack_27 : decode cX11_comesBack 27 = .ok (.return_, 1) := by decide +kernel
theorem dX11_notAhead_0 : decode cX11_notAhead 0 = .ok (.iload_n 1, 1) := by decide +kernel
theorem dX11_notAhead_1 : decode cX11_notAhead 1 = .ok (.i2l, 1) := by decide +kernel
theorem dX11_notAhead_2 : decode cX11_notAhead 2 = .ok (.lconst 1, 1) := by decide +kernel
theorem dX11_notAhead_3 : decode cX11_notAhead 3 = .ok (.iload_n 2, 1) := by decide +kernel
theorem dX11_notAhead_4 : decode cX11_notAhead 4 = .ok (.i2l, 1) := by decide +kernel
theorem dX11_notAhead_5 : decode cX11_notAhead 5 = .ok (.invokestatic 57, 3) := by decide +kernel
theorem dX11_notAhead_8 : decode cX11_notAhead 8 = .ok (.ifCond .ne 12, 3) := by decide +kernel
theorem dX11_notAhead_11 : decode cX11_notAhead 11 = .ok (.aload_n 0, 1) := by decide +kernel
theorem dX11_notAhead_12 : decode cX11_notAhead 12 = .ok (.ldc 67, 2) := by decide +kernel
theorem dX11_notAhead_14 : decode cX11_notAhead 14 = .ok (.invokevirtual 68, 3) := by decide +kernel
theorem dX11_notAhead_17 : decode cX11_notAhead 17 = .ok (.goto 29, 3) := by decide +kernel
theorem dX11_notAhead_20 : decode cX11_notAhead 20 = .ok (.aload_n 0, 1) := by decide +kernel
theorem dX11_notAhead_21 : decode cX11_notAhead 21 = .ok (.getfield 9, 3) := by decide +kernel
theorem dX11_notAhead_24 : decode cX11_notAhead 24 = .ok (.iconst 0, 1) := by decide +kernel
theorem dX11_notAhead_25 : decode cX11_notAhead 25 = .ok (.laload, 1) := by decide +kernel
theorem dX11_notAhead_26 : decode cX11_notAhead 26 = .ok (.iload_n 1, 1) := by decide +kernel
theorem dX11_notAhead_27 : decode cX11_notAhead 27 = .ok (.i2l, 1) := by decide +kernel
theorem dX11_notAhead_28 : decode cX11_notAhead 28 = .ok (.ladd, 1) := by decide +kernel
theorem dX11_notAhead_29 : decode cX11_notAhead 29 = .ok (.ldc2_w 91, 3) := by decide +kernel
theorem dX11_notAhead_32 : decode cX11_notAhead 32 = .ok (.lcmp, 1) := by decide +kernel
theorem dX11_notAhead_33 : decode cX11_notAhead 33 = .ok (.ifCond .le 12, 3) := by decide +kernel
theorem dX11_notAhead_36 : decode cX11_notAhead 36 = .ok (.aload_n 0, 1) := by decide +kernel
theorem dX11_notAhead_37 : decode cX11_notAhead 37 = .ok (.ldc 72, 2) := by decide +kernel
theorem dX11_notAhead_39 : decode cX11_notAhead 39 = .ok (.invokevirtual 68, 3) := by decide +kernel
theorem dX11_notAhead_42 : decode cX11_notAhead 42 = .ok (.goto 4, 3) := by decide +kernel
theorem dX11_notAhead_45 : decode cX11_notAhead 45 = .ok (.iconst 0, 1) := by decide +kernel
theorem dX11_notAhead_46 : decode cX11_notAhead 46 = .ok (.ireturn, 1) := by decide +kernel
theorem dX11_need__0 : decode cX11_need_ 0 = .ok (.aload_n 0, 1) := by decide +kernel
theorem dX11_need__1 : decode cX11_need_ 1 = .ok (.iload_n 1, 1) := by decide +kernel
theorem dX11_need__2 : decode cX11_need_ 2 = .ok (.bipush 30, 2) := by decide +kernel
theorem dX11_need__4 : decode cX11_need_ 4 = .ok (.invokevirtual 300, 3) := by decide +kernel
theorem dX11_need__7 : decode cX11_need_ 7 = .ok (.istore_n 2, 1) := by decide +kernel
theorem dX11_need__8 : decode cX11_need_ 8 = .ok (.iload_n 2, 1) := by decide +kernel
theorem dX11_need__9 : decode cX11_need_ 9 = .ok (.ifCond .eq 6, 3) := by decide +kernel
theorem dX11_need__12 : decode cX11_need_ 12 = .ok (.iload_n 2, 1) := by decide +kernel
theorem dX11_need__13 : decode cX11_need_ 13 = .ok (.i2l, 1) := by decide +kernel
theorem dX11_need__14 : decode cX11_need_ 14 = .ok (.lreturn, 1) := by decide +kernel
theorem dX11_need__15 : decode cX11_need_ 15 = .ok (.aload_n 0, 1) := by decide +kernel
theorem dX11_need__16 : decode cX11_need_ 16 = .ok (.invokevirtual 303, 3) := by decide +kernel
theorem dX11_need__19 : decode cX11_need_ 19 = .ok (.iconst 0, 1) := by decide +kernel
theorem dX11_need__20 : decode cX11_need_ 20 = .ok (.istore_n 3, 1) := by decide +kernel
theorem dX11_need__21 : decode cX11_need_ 21 = .ok (.iload_n 3, 1) := by decide +kernel
theorem dX11_need__22 : decode cX11_need_ 22 = .ok (.iload_n 1, 1) := by decide +kernel
theorem dX11_need__23 : decode cX11_need_ 23 = .ok (.if_icmp .ge 13, 3) := by decide +kernel
theorem dX11_need__26 : decode cX11_need_ 26 = .ok (.aload_n 0, 1) := by decide +kernel
theorem dX11_need__27 : decode cX11_need_ 27 = .ok (.invokevirtual 285, 3) := by decide +kernel
theorem dX11_need__30 : decode cX11_need_ 30 = .ok (.iinc 3 1, 3) := by decide +kernel
theorem dX11_need__33 : decode cX11_need_ 33 = .ok (.goto (-12), 3) := by decide +kernel
theorem dX11_need__36 : decode cX11_need_ 36 = .ok (.aload_n 0, 1) := by decide +kernel
theorem dX11_need__37 : decode cX11_need_ 37 = .ok (.getfield 9, 3) := by decide +kernel
theorem dX11_need__40 : decode cX11_need_ 40 = .ok (.iconst 2, 1) := by decide +kernel
theorem dX11_need__41 : decode cX11_need_ 41 = .ok (.laload, 1) := by decide +kernel
theorem dX11_need__42 : decode cX11_need_ 42 = .ok (.aload_n 0, 1) := by decide +kernel
theorem dX11_need__43 : decode cX11_need_ 43 = .ok (.getfield 13, 3) := by decide +kernel
theorem dX11_need__46 : decode cX11_need_ 46 = .ok (.iconst 2, 1) := by decide +kernel
theorem dX11_need__47 : decode cX11_need_ 47 = .ok (.laload, 1) := by decide +kernel
theorem dX11_need__48 : decode cX11_need_ 48 = .ok (.lsub, 1) := by decide +kernel
theorem dX11_need__49 : decode cX11_need_ 49 = .ok (.lstore_n 3, 1) := by decide +kernel
theorem dX11_need__50 : decode cX11_need_ 50 = .ok (.aload_n 0, 1) := by decide +kernel
theorem dX11_need__51 : decode cX11_need_ 51 = .ok (.invokevirtual 306, 3) := by decide +kernel
theorem dX11_need__54 : decode cX11_need_ 54 = .ok (.lload_n 3, 1) := by decide +kernel
theorem dX11_need__55 : decode cX11_need_ 55 = .ok (.lreturn, 1) := by decide +kernel
theorem dX11_melts_0 : decode cX11_melts 0 = .ok (.aload_n 0, 1) := by decide +kernel
theorem dX11_melts_1 : decode cX11_melts 1 = .ok (.iload_n 1, 1) := by decide +kernel
theorem dX11_melts_2 : decode cX11_melts 2 = .ok (.bipush 30, 2) := by decide +kernel
theorem dX11_melts_4 : decode cX11_melts 4 = .ok (.invokevirtual 300, 3) := by decide +kernel
theorem dX11_melts_7 : decode cX11_melts 7 = .ok (.istore_n 2, 1) := by decide +kernel
theorem dX11_melts_8 : decode cX11_melts 8 = .ok (.iload_n 2, 1) := by decide +kernel
theorem dX11_melts_9 : decode cX11_melts 9 = .ok (.ifCond .eq 6, 3) := by decide +kernel
theorem dX11_melts_12 : decode cX11_melts 12 = .ok (.iload_n 2, 1) := by decide +kernel
theorem dX11_melts_13 : decode cX11_melts 13 = .ok (.i2l, 1) := by decide +kernel
theorem dX11_melts_14 : decode cX11_melts 14 = .ok (.lreturn, 1) := by decide +kernel
theorem dX11_melts_15 : decode cX11_melts 15 = .ok (.aload_n 0, 1) := by decide +kernel
theorem dX11_melts_16 : decode cX11_melts 16 = .ok (.invokevirtual 303, 3) := by decide +kernel
theorem dX11_melts_19 : decode cX11_melts 19 = .ok (.iconst 0, 1) := by decide +kernel
theorem dX11_melts_20 : decode cX11_melts 20 = .ok (.istore_n 3, 1) := by decide +kernel
theorem dX11_melts_21 : decode cX11_melts 21 = .ok (.iconst 1, 1) := by decide +kernel
theorem dX11_melts_22 : decode cX11_melts 22 = .ok (.istore 4, 2) := by decide +kernel
theorem dX11_melts_24 : decode cX11_melts 24 = .ok (.iload 4, 2) := by decide +kernel
theorem dX11_melts_26 : decode cX11_melts 26 = .ok (.iload_n 1, 1) := by decide +kernel
theorem dX11_melts_27 : decode cX11_melts 27 = .ok (.if_icmp .gt 50, 3) := by decide +kernel
theorem dX11_melts_30 : decode cX11_melts 30 = .ok (.iload_n 3, 1) := by decide +kernel
theorem dX11_melts_31 : decode cX11_melts 31 = .ok (.ifCond .ne 46, 3) := by decide +kernel
theorem dX11_melts_34 : decode cX11_melts 34 = .ok (.aload_n 0, 1) := by decide +kernel
theorem dX11_melts_35 : decode cX11_melts 35 = .ok (.invokevirtual 285, 3) := by decide +kernel
theorem dX11_melts_38 : decode cX11_melts 38 = .ok (.aload_n 0, 1) := by decide +kernel
theorem dX11_melts_39 : decode cX11_melts 39 = .ok (.aload_n 0, 1) := by decide +kernel
theorem dX11_melts_40 : decode cX11_melts 40 = .ok (.invokevirtual 108, 3) := by decide +kernel
theorem dX11_melts_43 : decode cX11_melts 43 = .ok (.invokevirtual 112, 3) := by decide +kernel
theorem dX11_melts_46 : decode cX11_melts 46 = .ok (.ldc2_w 85, 3) := by decide +kernel
theorem dX11_melts_49 : decode cX11_melts 49 = .ok (.aload_n 0, 1) := by decide +kernel
theorem dX11_melts_50 : decode cX11_melts 50 = .ok (.aload_n 0, 1) := by decide +kernel
theorem dX11_melts_51 : decode cX11_melts 51 = .ok (.invokevirtual 108, 3) := by decide +kernel
theorem dX11_melts_54 : decode cX11_melts 54 = .ok (.iconst 1, 1) := by decide +kernel
theorem dX11_melts_55 : decode cX11_melts 55 = .ok (.isub, 1) := by decide +kernel
theorem dX11_melts_56 : decode cX11_melts 56 = .ok (.invokevirtual 112, 3) := by decide +kernel
theorem dX11_melts_59 : decode cX11_melts 59 = .ok (.lmul, 1) := by decide +kernel
theorem dX11_melts_60 : decode cX11_melts 60 = .ok (.lcmp, 1) := by decide +kernel
theorem dX11_melts_61 : decode cX11_melts 61 = .ok (.ifCond .lt 8, 3) := by decide +kernel
theorem dX11_melts_64 : decode cX11_melts 64 = .ok (.iload 4, 2) := by decide +kernel
theorem dX11_melts_66 : decode cX11_melts 66 = .ok (.goto 4, 3) := by decide +kernel
theorem dX11_melts_69 : decode cX11_melts 69 = .ok (.iconst 0, 1) := by decide +kernel
theorem dX11_melts_70 : decode cX11_melts 70 = .ok (.istore_n 3, 1) := by decide +kernel
theorem dX11_melts_71 : decode cX11_melts 71 = .ok (.iinc 4 1, 3) := by decide +kernel
theorem dX11_melts_74 : decode cX11_melts 74 = .ok (.goto (-50), 3) := by decide +kernel
theorem dX11_melts_77 : decode cX11_melts 77 = .ok (.aload_n 0, 1) := by decide +kernel
theorem dX11_melts_78 : decode cX11_melts 78 = .ok (.invokevirtual 306, 3) := by decide +kernel
theorem dX11_melts_81 : decode cX11_melts 81 = .ok (.iload_n 3, 1) := by decide +kernel
theorem dX11_melts_82 : decode cX11_melts 82 = .ok (.ifCond .ne 13, 3) := by decide +kernel
theorem dX11_melts_85 : decode cX11_melts 85 = .ok (.aload_n 0, 1) := by decide +kernel
theorem dX11_melts_86 : decode cX11_melts 86 = .ok (.ldc 139, 2) := by decide +kernel
theorem dX11_melts_88 : decode cX11_melts 88 = .ok (.invokevirtual 68, 3) := by decide +kernel
theorem dX11_melts_91 : decode cX11_melts 91 = .ok (.i2l, 1) := by decide +kernel
theorem dX11_melts_92 : decode cX11_melts 92 = .ok (.goto 5, 3) := by decide +kernel
theorem dX11_melts_95 : decode cX11_melts 95 = .ok (.iload_n 3, 1) := by decide +kernel
theorem dX11_melts_96 : decode cX11_melts 96 = .ok (.i2l, 1) := by decide +kernel
theorem dX11_melts_97 : decode cX11_melts 97 = .ok (.lreturn, 1) := by decide +kernel
theorem dX11_hungers_0 : decode cX11_hungers 0 = .ok (.lconst 0, 1) := by decide +kernel
theorem dX11_hungers_1 : decode cX11_hungers 1 = .ok (.lstore_n 1, 1) := by decide +kernel
theorem dX11_hungers_2 : decode cX11_hungers 2 = .ok (.iconst 0, 1) := by decide +kernel
theorem dX11_hungers_3 : decode cX11_hungers 3 = .ok (.istore_n 3, 1) := by decide +kernel
theorem dX11_hungers_4 : decode cX11_hungers 4 = .ok (.iload_n 3, 1) := by decide +kernel
theorem dX11_hungers_5 : decode cX11_hungers 5 = .ok (.i2l, 1) := by decide +kernel
theorem dX11_hungers_6 : decode cX11_hungers 6 = .ok (.aload_n 0, 1) := by decide +kernel
theorem dX11_hungers_7 : decode cX11_hungers 7 = .ok (.getfield 9, 3) := by decide +kernel
theorem dX11_hungers_10 : decode cX11_hungers 10 = .ok (.iconst 4, 1) := by decide +kernel
theorem dX11_hungers_11 : decode cX11_hungers 11 = .ok (.laload, 1) := by decide +kernel
theorem dX11_hungers_12 : decode cX11_hungers 12 = .ok (.lcmp, 1) := by decide +kernel
theorem dX11_hungers_13 : decode cX11_hungers 13 = .ok (.ifCond .ge 22, 3) := by decide +kernel
theorem dX11_hungers_16 : decode cX11_hungers 16 = .ok (.lload_n 1, 1) := by decide +kernel
theorem dX11_hungers_17 : decode cX11_hungers 17 = .ok (.aload_n 0, 1) := by decide +kernel
theorem dX11_hungers_18 : decode cX11_hungers 18 = .ok (.getfield 9, 3) := by decide +kernel
theorem dX11_hungers_21 : decode cX11_hungers 21 = .ok (.iload_n 3, 1) := by decide +kernel
theorem dX11_hungers_22 : decode cX11_hungers 22 = .ok (.iconst 5, 1) := by decide +kernel
theorem dX11_hungers_23 : decode cX11_hungers 23 = .ok (.invokestatic 73, 3) := by decide +kernel
theorem dX11_hungers_26 : decode cX11_hungers 26 = .ok (.laload, 1) := by decide +kernel
theorem dX11_hungers_27 : decode cX11_hungers 27 = .ok (.ladd, 1) := by decide +kernel
theorem dX11_hungers_28 : decode cX11_hungers 28 = .ok (.lstore_n 1, 1) := by decide +kernel
theorem dX11_hungers_29 : decode cX11_hungers 29 = .ok (.iinc 3 1, 3) := by decide +kernel
theorem dX11_hungers_32 : decode cX11_hungers 32 = .ok (.goto (-28), 3) := by decide +kernel
theorem dX11_hungers_35 : decode cX11_hungers 35 = .ok (.lload_n 1, 1) := by decide +kernel
theorem dX11_hungers_36 : decode cX11_hungers 36 = .ok (.lreturn, 1) := by decide +kernel
theorem dX11_choices_0 : decode cX11_choices 0 = .ok (.iload_n 2, 1) := by decide +kernel
theorem dX11_choices_1 : decode cX11_choices 1 = .ok (.i2l, 1) := by decide +kernel
theorem dX11_choices_2 : decode cX11_choices 2 = .ok (.lconst 0, 1) := by decide +kernel
theorem dX11_choices_3 : decode cX11_choices 3 = .ok (.ldc2_w 85, 3) := by decide +kernel
theorem dX11_choices_6 : decode cX11_choices 6 = .ok (.invokestatic 57, 3) := by decide +kernel
theorem dX11_choices_9 : decode cX11_choices 9 = .ok (.ifCond .ne 12, 3) := by decide +kernel
theorem dX11_choices_12 : decode cX11_choices 12 = .ok (.aload_n 0, 1) := by decide +kernel
theorem dX11_choices_13 : decode cX11_choices 13 = .ok (.ldc 67, 2) := by decide +kernel
theorem dX11_choices_15 : decode cX11_choices 15 = .ok (.invokevirtual 68, 3) := by decide +kernel
theorem dX11_choices_18 : decode cX11_choices 18 = .ok (.goto 10, 3) := by decide +kernel
theorem dX11_choices_21 : decode cX11_choices 21 = .ok (.aload_n 0, 1) := by decide +kernel
theorem dX11_choices_22 : decode cX11_choices 22 = .ok (.iload_n 1, 1) := by decide +kernel
theorem dX11_choices_23 : decode cX11_choices 23 = .ok (.bipush 8, 2) := by decide +kernel
theorem dX11_choices_25 : decode cX11_choices 25 = .ok (.invokevirtual 300, 3) := by decide +kernel
theorem dX11_choices_28 : decode cX11_choices 28 = .ok (.istore_n 3, 1) := by decide +kernel
theorem dX11_choices_29 : decode cX11_choices 29 = .ok (.iload_n 3, 1) := by decide +kernel
theorem dX11_choices_30 : decode cX11_choices 30 = .ok (.ifCond .eq 6, 3) := by decide +kernel
theorem dX11_choices_33 : decode cX11_choices 33 = .ok (.iload_n 3, 1) := by decide +kernel
theorem dX11_choices_34 : decode cX11_choices 34 = .ok (.i2l, 1) := by decide +kernel
theorem dX11_choices_35 : decode cX11_choices 35 = .ok (.lreturn, 1) := by decide +kernel
theorem dX11_choices_36 : decode cX11_choices 36 = .ok (.aload_n 0, 1) := by decide +kernel
theorem dX11_choices_37 : decode cX11_choices 37 = .ok (.invokevirtual 303, 3) := by decide +kernel
theorem dX11_choices_40 : decode cX11_choices 40 = .ok (.aload_n 0, 1) := by decide +kernel
theorem dX11_choices_41 : decode cX11_choices 41 = .ok (.invokevirtual 309, 3) := by decide +kernel
theorem dX11_choices_44 : decode cX11_choices 44 = .ok (.lstore 4, 2) := by decide +kernel
theorem dX11_choices_46 : decode cX11_choices 46 = .ok (.ldc2_w 97, 3) := by decide +kernel
theorem dX11_choices_49 : decode cX11_choices 49 = .ok (.lstore 6, 2) := by decide +kernel
theorem dX11_choices_51 : decode cX11_choices 51 = .ok (.lconst 0, 1) := by decide +kernel
theorem dX11_choices_52 : decode cX11_choices 52 = .ok (.lstore 8, 2) := by decide +kernel
theorem dX11_choices_54 : decode cX11_choices 54 = .ok (.iconst 0, 1) := by decide +kernel
theorem dX11_choices_55 : decode cX11_choices 55 = .ok (.istore 10, 2) := by decide +kernel
theorem dX11_choices_57 : decode cX11_choices 57 = .ok (.iconst 0, 1) := by decide +kernel
theorem dX11_choices_58 : decode cX11_choices 58 = .ok (.istore 11, 2) := by decide +kernel
theorem dX11_choices_60 : decode cX11_choices 60 = .ok (.iconst 0, 1) := by decide +kernel
theorem dX11_choices_61 : decode cX11_choices 61 = .ok (.istore 12, 2) := by decide +kernel
theorem dX11_choices_63 : decode cX11_choices 63 = .ok (.iload 12, 2) := by decide +kernel
theorem dX11_choices_65 : decode cX11_choices 65 = .ok (.iconst 1, 1) := by decide +kernel
theorem dX11_choices_66 : decode cX11_choices 66 = .ok (.iload_n 1, 1) := by decide +kernel
theorem dX11_choices_67 : decode cX11_choices 67 = .ok (.ishl, 1) := by decide +kernel
theorem dX11_choices_68 : decode cX11_choices 68 = .ok (.if_icmp .ge 148, 3) := by decide +kernel
theorem dX11_choices_71 : decode cX11_choices 71 = .ok (.iconst 0, 1) := by decide +kernel
theorem dX11_choices_72 : decode cX11_choices 72 = .ok (.istore 13, 2) := by decide +kernel
theorem dX11_choices_74 : decode cX11_choices 74 = .ok (.iconst 0, 1) := by decide +kernel
theorem dX11_choices_75 : decode cX11_choices 75 = .ok (.istore 14, 2) := by decide +kernel
theorem dX11_choices_77 : decode cX11_choices 77 = .ok (.iload 14, 2) := by decide +kernel
theorem dX11_choices_79 : decode cX11_choices 79 = .ok (.iload_n 1, 1) := by decide +kernel
theorem dX11_choices_80 : decode cX11_choices 80 = .ok (.if_icmp .ge 33, 3) := by decide +kernel
theorem dX11_choices_83 : decode cX11_choices 83 = .ok (.iload 12, 2) := by decide +kernel
theorem dX11_choices_85 : decode cX11_choices 85 = .ok (.iload 14, 2) := by decide +kernel
theorem dX11_choices_87 : decode cX11_choices 87 = .ok (.ishr, 1) := by decide +kernel
theorem dX11_choices_88 : decode cX11_choices 88 = .ok (.iconst 1, 1) := by decide +kernel
theorem dX11_choices_89 : decode cX11_choices 89 = .ok (.iand, 1) := by decide +kernel
theorem dX11_choices_90 : decode cX11_choices 90 = .ok (.iconst 1, 1) := by decide +kernel
theorem dX11_choices_91 : decode cX11_choices 91 = .ok (.if_icmp .ne 12, 3) := by decide +kernel
theorem dX11_choices_94 : decode cX11_choices 94 = .ok (.aload_n 0, 1) := by decide +kernel
theorem dX11_choices_95 : decode cX11_choices 95 = .ok (.invokevirtual 291, 3) := by decide +kernel
theorem dX11_choices_98 : decode cX11_choices 98 = .ok (.lstore 15, 2) := by decide +kernel
theorem dX11_choices_100 : decode cX11_choices 100 = .ok (.iinc 13 1, 3) := by decide +kernel
theorem dX11_choices_103 : decode cX11_choices 103 = .ok (.aload_n 0, 1) := by decide +kernel
theorem dX11_choices_104 : decode cX11_choices 104 = .ok (.invokevirtual 285, 3) := by decide +kernel
theorem dX11_choices_107 : decode cX11_choices 107 = .ok (.iinc 14 1, 3) := by decide +kernel
theorem dX11_choices_110 : decode cX11_choices 110 = .ok (.goto (-33), 3) := by decide +kernel
theorem dX11_choices_113 : decode cX11_choices 113 = .ok (.aload_n 0, 1) := by decide +kernel
theorem dX11_choices_114 : decode cX11_choices 114 = .ok (.invokevirtual 309, 3) := by decide +kernel
theorem dX11_choices_117 : decode cX11_choices 117 = .ok (.lload 4, 2) := by decide +kernel
theorem dX11_choices_119 : decode cX11_choices 119 = .ok (.lsub, 1) := by decide +kernel
theorem dX11_choices_120 : decode cX11_choices 120 = .ok (.lstore 14, 2) := by decide +kernel
theorem dX11_choices_122 : decode cX11_choices 122 = .ok (.aload_n 0, 1) := by decide +kernel
theorem dX11_choices_123 : decode cX11_choices 123 = .ok (.aload_n 0, 1) := by decide +kernel
theorem dX11_choices_124 : decode cX11_choices 124 = .ok (.invokevirtual 108, 3) := by decide +kernel
theorem dX11_choices_127 : decode cX11_choices 127 = .ok (.invokevirtual 112, 3) := by decide +kernel
theorem dX11_choices_130 : decode cX11_choices 130 = .ok (.lstore 16, 2) := by decide +kernel
theorem dX11_choices_132 : decode cX11_choices 132 = .ok (.lload 14, 2) := by decide +kernel
theorem dX11_choices_134 : decode cX11_choices 134 = .ok (.lload 6, 2) := by decide +kernel
theorem dX11_choices_136 : decode cX11_choices 136 = .ok (.lcmp, 1) := by decide +kernel
theorem dX11_choices_137 : decode cX11_choices 137 = .ok (.ifCond .lt 34, 3) := by decide +kernel
theorem dX11_choices_140 : decode cX11_choices 140 = .ok (.lload 14, 2) := by decide +kernel
theorem dX11_choices_142 : decode cX11_choices 142 = .ok (.lload 6, 2) := by decide +kernel
theorem dX11_choices_144 : decode cX11_choices 144 = .ok (.lcmp, 1) := by decide +kernel
theorem dX11_choices_145 : decode cX11_choices 145 = .ok (.ifCond .ne 30, 3) := by decide +kernel
theorem dX11_choices_148 : decode cX11_choices 148 = .ok (.lload 16, 2) := by decide +kernel
theorem dX11_choices_150 : decode cX11_choices 150 = .ok (.lload 8, 2) := by decide +kernel
theorem dX11_choices_152 : decode cX11_choices 152 = .ok (.lcmp, 1) := by decide +kernel
theorem dX11_choices_153 : decode cX11_choices 153 = .ok (.ifCond .lt 18, 3) := by decide +kernel
theorem dX11_choices_156 : decode cX11_choices 156 = .ok (.lload 16, 2) := by decide +kernel
theorem dX11_choices_158 : decode cX11_choices 158 = .ok (.lload 8, 2) := by decide +kernel
theorem dX11_choices_160 : decode cX11_choices 160 = .ok (.lcmp, 1) := by decide +kernel
theorem dX11_choices_161 : decode cX11_choices 161 = .ok (.ifCond .ne 14, 3) := by decide +kernel
theorem dX11_choices_164 : decode cX11_choices 164 = .ok (.iload 13, 2) := by decide +kernel
theorem dX11_choices_166 : decode cX11_choices 166 = .ok (.iload 10, 2) := by decide +kernel
theorem dX11_choices_168 : decode cX11_choices 168 = .ok (.if_icmp .ge 7, 3) := by decide +kernel
theorem dX11_choices_171 : decode cX11_choices 171 = .ok (.iconst 1, 1) := by decide +kernel
theorem dX11_choices_172 : decode cX11_choices 172 = .ok (.goto 4, 3) := by decide +kernel
theorem dX11_choices_175 : decode cX11_choices 175 = .ok (.iconst 0, 1) := by decide +kernel
theorem dX11_choices_176 : decode cX11_choices 176 = .ok (.istore 18, 2) := by decide +kernel
theorem dX11_choices_178 : decode cX11_choices 178 = .ok (.lload 6, 2) := by decide +kernel
theorem dX11_choices_180 : decode cX11_choices 180 = .ok (.lconst 0, 1) := by decide +kernel
theorem dX11_choices_181 : decode cX11_choices 181 = .ok (.lcmp, 1) := by decide +kernel
theorem dX11_choices_182 : decode cX11_choices 182 = .ok (.ifCond .lt 8, 3) := by decide +kernel
theorem dX11_choices_185 : decode cX11_choices 185 = .ok (.iload 18, 2) := by decide +kernel
theorem dX11_choices_187 : decode cX11_choices 187 = .ok (.ifCond .eq 19, 3) := by decide +kernel
theorem dX11_choices_190 : decode cX11_choices 190 = .ok (.lload 14, 2) := by decide +kernel
theorem dX11_choices_192 : decode cX11_choices 192 = .ok (.lstore 6, 2) := by decide +kernel
theorem dX11_choices_194 : decode cX11_choices 194 = .ok (.lload 16, 2) := by decide +kernel
theorem dX11_choices_196 : decode cX11_choices 196 = .ok (.lstore 8, 2) := by decide +kernel
theorem dX11_choices_198 : decode cX11_choices 198 = .ok (.iload 13, 2) := by decide +kernel
theorem dX11_choices_200 : decode cX11_choices 200 = .ok (.istore 10, 2) := by decide +kernel
theorem dX11_choices_202 : decode cX11_choices 202 = .ok (.iload 12, 2) := by decide +kernel
theorem dX11_choices_204 : decode cX11_choices 204 = .ok (.istore 11, 2) := by decide +kernel
theorem dX11_choices_206 : decode cX11_choices 206 = .ok (.aload_n 0, 1) := by decide +kernel
theorem dX11_choices_207 : decode cX11_choices 207 = .ok (.invokevirtual 306, 3) := by decide +kernel
theorem dX11_choices_210 : decode cX11_choices 210 = .ok (.iinc 12 1, 3) := by decide +kernel
theorem dX11_choices_213 : decode cX11_choices 213 = .ok (.goto (-150), 3) := by decide +kernel
theorem dX11_choices_216 : decode cX11_choices 216 = .ok (.iload_n 2, 1) := by decide +kernel
theorem dX11_choices_217 : decode cX11_choices 217 = .ok (.ifCond .ne 9, 3) := by decide +kernel
theorem dX11_choices_220 : decode cX11_choices 220 = .ok (.iload 11, 2) := by decide +kernel
theorem dX11_choices_222 : decode cX11_choices 222 = .ok (.i2l, 1) := by decide +kernel
theorem dX11_choices_223 : decode cX11_choices 223 = .ok (.goto 15, 3) := by decide +kernel
theorem dX11_choices_226 : decode cX11_choices 226 = .ok (.iload_n 2, 1) := by decide +kernel
theorem dX11_choices_227 : decode cX11_choices 227 = .ok (.iconst 1, 1) := by decide +kernel
theorem dX11_choices_228 : decode cX11_choices 228 = .ok (.if_icmp .ne 8, 3) := by decide +kernel
theorem dX11_choices_231 : decode cX11_choices 231 = .ok (.lload 6, 2) := by decide +kernel
theorem dX11_choices_233 : decode cX11_choices 233 = .ok (.goto 5, 3) := by decide +kernel
theorem dX11_choices_236 : decode cX11_choices 236 = .ok (.lload 8, 2) := by decide +kernel
theorem dX11_choices_238 : decode cX11_choices 238 = .ok (.lreturn, 1) := by decide +kernel
theorem dX11_proves_0 : decode cX11_proves 0 = .ok (.iload_n 1, 1) := by decide +kernel
theorem dX11_proves_1 : decode cX11_proves 1 = .ok (.i2l, 1) := by decide +kernel
theorem dX11_proves_2 : decode cX11_proves 2 = .ok (.lconst 0, 1) := by decide +kernel
theorem dX11_proves_3 : decode cX11_proves 3 = .ok (.ldc2_w 63, 3) := by decide +kernel
theorem dX11_proves_6 : decode cX11_proves 6 = .ok (.invokestatic 57, 3) := by decide +kernel
theorem dX11_proves_9 : decode cX11_proves 9 = .ok (.ifCond .eq 10, 3) := by decide +kernel
theorem dX11_proves_12 : decode cX11_proves 12 = .ok (.iload_n 2, 1) := by decide +kernel
theorem dX11_proves_13 : decode cX11_proves 13 = .ok (.invokestatic 312, 3) := by decide +kernel
theorem dX11_proves_16 : decode cX11_proves 16 = .ok (.ifCond .ne 11, 3) := by decide +kernel
theorem dX11_proves_19 : decode cX11_proves 19 = .ok (.aload_n 0, 1) := by decide +kernel
theorem dX11_proves_20 : decode cX11_proves 20 = .ok (.ldc 67, 2) := by decide +kernel
theorem dX11_proves_22 : decode cX11_proves 22 = .ok (.invokevirtual 68, 3) := by decide +kernel
theorem dX11_proves_25 : decode cX11_proves 25 = .ok (.i2l, 1) := by decide +kernel
theorem dX11_proves_26 : decode cX11_proves 26 = .ok (.lreturn, 1) := by decide +kernel
theorem dX11_proves_27 : decode cX11_proves 27 = .ok (.aload_n 0, 1) := by decide +kernel
theorem dX11_proves_28 : decode cX11_proves 28 = .ok (.getfield 29, 3) := by decide +kernel
theorem dX11_proves_31 : decode cX11_proves 31 = .ok (.iload_n 2, 1) := by decide +kernel
theorem dX11_proves_32 : decode cX11_proves 32 = .ok (.iaload, 1) := by decide +kernel
theorem dX11_proves_33 : decode cX11_proves 33 = .ok (.ifCond .ne 12, 3) := by decide +kernel
theorem dX11_proves_36 : decode cX11_proves 36 = .ok (.aload_n 0, 1) := by decide +kernel
theorem dX11_proves_37 : decode cX11_proves 37 = .ok (.ldc_w 315, 3) := by decide +kernel
theorem dX11_proves_40 : decode cX11_proves 40 = .ok (.invokevirtual 68, 3) := by decide +kernel
theorem dX11_proves_43 : decode cX11_proves 43 = .ok (.i2l, 1) := by decide +kernel
theorem dX11_proves_44 : decode cX11_proves 44 = .ok (.lreturn, 1) := by decide +kernel
theorem dX11_proves_45 : decode cX11_proves 45 = .ok (.aload_n 0, 1) := by decide +kernel
theorem dX11_proves_46 : decode cX11_proves 46 = .ok (.getfield 32, 3) := by decide +kernel
theorem dX11_proves_49 : decode cX11_proves 49 = .ok (.iload_n 2, 1) := by decide +kernel
theorem dX11_proves_50 : decode cX11_proves 50 = .ok (.iaload, 1) := by decide +kernel
theorem dX11_proves_51 : decode cX11_proves 51 = .ok (.istore_n 3, 1) := by decide +kernel
theorem dX11_proves_52 : decode cX11_proves 52 = .ok (.aload_n 0, 1) := by decide +kernel
theorem dX11_proves_53 : decode cX11_proves 53 = .ok (.getfield 9, 3) := by decide +kernel
theorem dX11_proves_56 : decode cX11_proves 56 = .ok (.iconst 0, 1) := by decide +kernel
theorem dX11_proves_57 : decode cX11_proves 57 = .ok (.laload, 1) := by decide +kernel
theorem dX11_proves_58 : decode cX11_proves 58 = .ok (.iload_n 3, 1) := by decide +kernel
theorem dX11_proves_59 : decode cX11_proves 59 = .ok (.i2l, 1) := by decide +kernel
theorem dX11_proves_60 : decode cX11_proves 60 = .ok (.ladd, 1) := by decide +kernel
theorem dX11_proves_61 : decode cX11_proves 61 = .ok (.ldc2_w 91, 3) := by decide +kernel
theorem dX11_proves_64 : decode cX11_proves 64 = .ok (.lcmp, 1) := by decide +kernel
theorem dX11_proves_65 : decode cX11_proves 65 = .ok (.ifCond .le 11, 3) := by decide +kernel
theorem dX11_proves_68 : decode cX11_proves 68 = .ok (.aload_n 0, 1) := by decide +kernel
theorem dX11_proves_69 : decode cX11_proves 69 = .ok (.ldc 72, 2) := by decide +kernel
theorem dX11_proves_71 : decode cX11_proves 71 = .ok (.invokevirtual 68, 3) := by decide +kernel
theorem dX11_proves_74 : decode cX11_proves 74 = .ok (.i2l, 1) := by decide +kernel
theorem dX11_proves_75 : decode cX11_proves 75 = .ok (.lreturn, 1) := by decide +kernel
theorem dX11_proves_76 : decode cX11_proves 76 = .ok (.iconst 0, 1) := by decide +kernel
theorem dX11_proves_77 : decode cX11_proves 77 = .ok (.istore 4, 2) := by decide +kernel
theorem dX11_proves_79 : decode cX11_proves 79 = .ok (.iload 4, 2) := by decide +kernel
theorem dX11_proves_81 : decode cX11_proves 81 = .ok (.iload_n 3, 1) := by decide +kernel
theorem dX11_proves_82 : decode cX11_proves 82 = .ok (.if_icmp .ge 34, 3) := by decide +kernel
theorem dX11_proves_85 : decode cX11_proves 85 = .ok (.aload_n 0, 1) := by decide +kernel
theorem dX11_proves_86 : decode cX11_proves 86 = .ok (.getfield 35, 3) := by decide +kernel
theorem dX11_proves_89 : decode cX11_proves 89 = .ok (.bipush 20, 2) := by decide +kernel
theorem dX11_proves_91 : decode cX11_proves 91 = .ok (.iload_n 2, 1) := by decide +kernel
theorem dX11_proves_92 : decode cX11_proves 92 = .ok (.imul, 1) := by decide +kernel
theorem dX11_proves_93 : decode cX11_proves 93 = .ok (.iload 4, 2) := by decide +kernel
theorem dX11_proves_95 : decode cX11_proves 95 = .ok (.iadd, 1) := by decide +kernel
theorem dX11_proves_96 : decode cX11_proves 96 = .ok (.iaload, 1) := by decide +kernel
theorem dX11_proves_97 : decode cX11_proves 97 = .ok (.i2l, 1) := by decide +kernel
theorem dX11_proves_98 : decode cX11_proves 98 = .ok (.lconst 0, 1) := by decide +kernel
theorem dX11_proves_99 : decode cX11_proves 99 = .ok (.lconst 1, 1) := by decide +kernel
theorem dX11_proves_100 : decode cX11_proves 100 = .ok (.invokestatic 57, 3) := by decide +kernel
theorem dX11_proves_103 : decode cX11_proves 103 = .ok (.ifCond .ne 7, 3) := by decide +kernel
theorem dX11_proves_106 : decode cX11_proves 106 = .ok (.iload 4, 2) := by decide +kernel
theorem dX11_proves_108 : decode cX11_proves 108 = .ok (.i2l, 1) := by decide +kernel
theorem dX11_proves_109 : decode cX11_proves 109 = .ok (.lreturn, 1) := by decide +kernel
theorem dX11_proves_110 : decode cX11_proves 110 = .ok (.iinc 4 1, 3) := by decide +kernel
theorem dX11_proves_113 : decode cX11_proves 113 = .ok (.goto (-34), 3) := by decide +kernel
theorem dX11_proves_116 : decode cX11_proves 116 = .ok (.aload_n 0, 1) := by decide +kernel
theorem dX11_proves_117 : decode cX11_proves 117 = .ok (.invokevirtual 303, 3) := by decide +kernel
theorem dX11_proves_120 : decode cX11_proves 120 = .ok (.aload_n 0, 1) := by decide +kernel
theorem dX11_proves_121 : decode cX11_proves 121 = .ok (.invokevirtual 309, 3) := by decide +kernel
theorem dX11_proves_124 : decode cX11_proves 124 = .ok (.lstore 4, 2) := by decide +kernel
theorem dX11_proves_126 : decode cX11_proves 126 = .ok (.iconst 0, 1) := by decide +kernel
theorem dX11_proves_127 : decode cX11_proves 127 = .ok (.istore 6, 2) := by decide +kernel
theorem dX11_proves_129 : decode cX11_proves 129 = .ok (.iload 6, 2) := by decide +kernel
theorem dX11_proves_131 : decode cX11_proves 131 = .ok (.iload_n 3, 1) := by decide +kernel
theorem dX11_proves_132 : decode cX11_proves 132 = .ok (.if_icmp .ge 39, 3) := by decide +kernel
theorem dX11_proves_135 : decode cX11_proves 135 = .ok (.aload_n 0, 1) := by decide +kernel
theorem dX11_proves_136 : decode cX11_proves 136 = .ok (.getfield 35, 3) := by decide +kernel
theorem dX11_proves_139 : decode cX11_proves 139 = .ok (.bipush 20, 2) := by decide +kernel
theorem dX11_proves_141 : decode cX11_proves 141 = .ok (.iload_n 2, 1) := by decide +kernel
theorem dX11_proves_142 : decode cX11_proves 142 = .ok (.imul, 1) := by decide +kernel
theorem dX11_proves_143 : decode cX11_proves 143 = .ok (.iload 6, 2) := by decide +kernel
theorem dX11_proves_145 : decode cX11_proves 145 = .ok (.iadd, 1) := by decide +kernel
theorem dX11_proves_146 : decode cX11_proves 146 = .ok (.iaload, 1) := by decide +kernel
theorem dX11_proves_147 : decode cX11_proves 147 = .ok (.iconst 1, 1) := by decide +kernel
theorem dX11_proves_148 : decode cX11_proves 148 = .ok (.if_icmp .ne 10, 3) := by decide +kernel
theorem dX11_proves_151 : decode cX11_proves 151 = .ok (.aload_n 0, 1) := by decide +kernel
theorem dX11_proves_152 : decode cX11_proves 152 = .ok (.invokevirtual 291, 3) := by decide +kernel
theorem dX11_proves_155 : decode cX11_proves 155 = .ok (.goto 4, 3) := by decide +kernel
theorem dX11_proves_158 : decode cX11_proves 158 = .ok (.lconst 0, 1) := by decide +kernel
theorem dX11_proves_159 : decode cX11_proves 159 = .ok (.lstore 7, 2) := by decide +kernel
theorem dX11_proves_161 : decode cX11_proves 161 = .ok (.aload_n 0, 1) := by decide +kernel
theorem dX11_proves_162 : decode cX11_proves 162 = .ok (.invokevirtual 285, 3) := by decide +kernel
theorem dX11_proves_165 : decode cX11_proves 165 = .ok (.iinc 6 1, 3) := by decide +kernel
theorem dX11_proves_168 : decode cX11_proves 168 = .ok (.goto (-39), 3) := by decide +kernel
theorem dX11_proves_171 : decode cX11_proves 171 = .ok (.aload_n 0, 1) := by decide +kernel
theorem dX11_proves_172 : decode cX11_proves 172 = .ok (.invokevirtual 309, 3) := by decide +kernel
theorem dX11_proves_175 : decode cX11_proves 175 = .ok (.lload 4, 2) := by decide +kernel
theorem dX11_proves_177 : decode cX11_proves 177 = .ok (.lsub, 1) := by decide +kernel
theorem dX11_proves_178 : decode cX11_proves 178 = .ok (.lstore 6, 2) := by decide +kernel
theorem dX11_proves_180 : decode cX11_proves 180 = .ok (.aload_n 0, 1) := by decide +kernel
theorem dX11_proves_181 : decode cX11_proves 181 = .ok (.invokevirtual 306, 3) := by decide +kernel
theorem dX11_proves_184 : decode cX11_proves 184 = .ok (.lload 6, 2) := by decide +kernel
theorem dX11_proves_186 : decode cX11_proves 186 = .ok (.iload_n 1, 1) := by decide +kernel
theorem dX11_proves_187 : decode cX11_proves 187 = .ok (.i2l, 1) := by decide +kernel
theorem dX11_proves_188 : decode cX11_proves 188 = .ok (.lcmp, 1) := by decide +kernel
theorem dX11_proves_189 : decode cX11_proves 189 = .ok (.ifCond .gt 9, 3) := by decide +kernel
theorem dX11_proves_192 : decode cX11_proves 192 = .ok (.ldc2_w 97, 3) := by decide +kernel
theorem dX11_proves_195 : decode cX11_proves 195 = .ok (.goto 5, 3) := by decide +kernel
theorem dX11_proves_198 : decode cX11_proves 198 = .ok (.iload_n 3, 1) := by decide +kernel
theorem dX11_proves_199 : decode cX11_proves 199 = .ok (.i2l, 1) := by decide +kernel
theorem dX11_proves_200 : decode cX11_proves 200 = .ok (.lreturn, 1) := by decide +kernel
theorem dX11_beside_0 : decode cX11_beside 0 = .ok (.aload_n 0, 1) := by decide +kernel
theorem dX11_beside_1 : decode cX11_beside 1 = .ok (.iload_n 1, 1) := by decide +kernel
theorem dX11_beside_2 : decode cX11_beside 2 = .ok (.i2l, 1) := by decide +kernel
theorem dX11_beside_3 : decode cX11_beside 3 = .ok (.invokevirtual 81, 3) := by decide +kernel
theorem dX11_beside_6 : decode cX11_beside 6 = .ok (.ifCond .eq 14, 3) := by decide +kernel
theorem dX11_beside_9 : decode cX11_beside 9 = .ok (.lload_n 2, 1) := by decide +kernel
theorem dX11_beside_10 : decode cX11_beside 10 = .ok (.lconst 0, 1) := by decide +kernel
theorem dX11_beside_11 : decode cX11_beside 11 = .ok (.ldc2_w 61, 3) := by decide +kernel
theorem dX11_beside_14 : decode cX11_beside 14 = .ok (.invokestatic 57, 3) := by decide +kernel
theorem dX11_beside_17 : decode cX11_beside 17 = .ok (.ifCond .ne 11, 3) := by decide +kernel
theorem dX11_beside_20 : decode cX11_beside 20 = .ok (.aload_n 0, 1) := by decide +kernel
theorem dX11_beside_21 : decode cX11_beside 21 = .ok (.ldc 67, 2) := by decide +kernel
theorem dX11_beside_23 : decode cX11_beside 23 = .ok (.invokevirtual 68, 3) := by decide +kernel
theorem dX11_beside_26 : decode cX11_beside 26 = .ok (.i2l, 1) := by decide +kernel
theorem dX11_beside_27 : decode cX11_beside 27 = .ok (.lreturn, 1) := by decide +kernel
theorem dX11_beside_28 : decode cX11_beside 28 = .ok (.aload_n 0, 1) := by decide +kernel
theorem dX11_beside_29 : decode cX11_beside 29 = .ok (.iload 4, 2) := by decide +kernel
theorem dX11_beside_31 : decode cX11_beside 31 = .ok (.bipush 30, 2) := by decide +kernel
theorem dX11_beside_33 : decode cX11_beside 33 = .ok (.invokevirtual 300, 3) := by decide +kernel
theorem dX11_beside_36 : decode cX11_beside 36 = .ok (.istore 5, 2) := by decide +kernel
theorem dX11_beside_38 : decode cX11_beside 38 = .ok (.iload 5, 2) := by decide +kernel
theorem dX11_beside_40 : decode cX11_beside 40 = .ok (.ifCond .eq 7, 3) := by decide +kernel
theorem dX11_beside_43 : decode cX11_beside 43 = .ok (.iload 5, 2) := by decide +kernel
theorem dX11_beside_45 : decode cX11_beside 45 = .ok (.i2l, 1) := by decide +kernel
theorem dX11_beside_46 : decode cX11_beside 46 = .ok (.lreturn, 1) := by decide +kernel
theorem dX11_beside_47 : decode cX11_beside 47 = .ok (.aload_n 0, 1) := by decide +kernel
theorem dX11_beside_48 : decode cX11_beside 48 = .ok (.invokevirtual 303, 3) := by decide +kernel
theorem dX11_beside_51 : decode cX11_beside 51 = .ok (.iconst 0, 1) := by decide +kernel
theorem dX11_beside_52 : decode cX11_beside 52 = .ok (.istore 6, 2) := by decide +kernel
theorem dX11_beside_54 : decode cX11_beside 54 = .ok (.iload 6, 2) := by decide +kernel
theorem dX11_beside_56 : decode cX11_beside 56 = .ok (.iload 4, 2) := by decide +kernel
theorem dX11_beside_58 : decode cX11_beside 58 = .ok (.if_icmp .ge 13, 3) := by decide +kernel
theorem dX11_beside_61 : decode cX11_beside 61 = .ok (.aload_n 0, 1) := by decide +kernel
theorem dX11_beside_62 : decode cX11_beside 62 = .ok (.invokevirtual 285, 3) := by decide +kernel
theorem dX11_beside_65 : decode cX11_beside 65 = .ok (.iinc 6 1, 3) := by decide +kernel
theorem dX11_beside_68 : decode cX11_beside 68 = .ok (.goto (-14), 3) := by decide +kernel
theorem dX11_beside_71 : decode cX11_beside 71 = .ok (.aload_n 0, 1) := by decide +kernel
theorem dX11_beside_72 : decode cX11_beside 72 = .ok (.aload_n 0, 1) := by decide +kernel
theorem dX11_beside_73 : decode cX11_beside 73 = .ok (.invokevirtual 108, 3) := by decide +kernel
theorem dX11_beside_76 : decode cX11_beside 76 = .ok (.invokevirtual 112, 3) := by decide +kernel
theorem dX11_beside_79 : decode cX11_beside 79 = .ok (.lstore 6, 2) := by decide +kernel
theorem dX11_beside_81 : decode cX11_beside 81 = .ok (.aload_n 0, 1) := by decide +kernel
theorem dX11_beside_82 : decode cX11_beside 82 = .ok (.invokevirtual 306, 3) := by decide +kernel
theorem dX11_beside_85 : decode cX11_beside 85 = .ok (.aload_n 0, 1) := by decide +kernel
theorem dX11_beside_86 : decode cX11_beside 86 = .ok (.getfield 9, 3) := by decide +kernel
theorem dX11_beside_89 : decode cX11_beside 89 = .ok (.iconst 2, 1) := by decide +kernel
theorem dX11_beside_90 : decode cX11_beside 90 = .ok (.dup2, 1) := by decide +kernel
theorem dX11_beside_91 : decode cX11_beside 91 = .ok (.laload, 1) := by decide +kernel
theorem dX11_beside_92 : decode cX11_beside 92 = .ok (.lload_n 2, 1) := by decide +kernel
theorem dX11_beside_93 : decode cX11_beside 93 = .ok (.ladd, 1) := by decide +kernel
theorem dX11_beside_94 : decode cX11_beside 94 = .ok (.lastore, 1) := by decide +kernel
theorem dX11_beside_95 : decode cX11_beside 95 = .ok (.aload_n 0, 1) := by decide +kernel
theorem dX11_beside_96 : decode cX11_beside 96 = .ok (.iload_n 1, 1) := by decide +kernel
theorem dX11_beside_97 : decode cX11_beside 97 = .ok (.iconst 0, 1) := by decide +kernel
theorem dX11_beside_98 : decode cX11_beside 98 = .ok (.invokestatic 73, 3) := by decide +kernel
theorem dX11_beside_101 : decode cX11_beside 101 = .ok (.lload_n 2, 1) := by decide +kernel
theorem dX11_beside_102 : decode cX11_beside 102 = .ok (.invokevirtual 140, 3) := by decide +kernel
theorem dX11_beside_105 : decode cX11_beside 105 = .ok (.iconst 0, 1) := by decide +kernel
theorem dX11_beside_106 : decode cX11_beside 106 = .ok (.istore 8, 2) := by decide +kernel
theorem dX11_beside_108 : decode cX11_beside 108 = .ok (.iload 8, 2) := by decide +kernel
theorem dX11_beside_110 : decode cX11_beside 110 = .ok (.iload 4, 2) := by decide +kernel
theorem dX11_beside_112 : decode cX11_beside 112 = .ok (.if_icmp .ge 13, 3) := by decide +kernel
theorem dX11_beside_115 : decode cX11_beside 115 = .ok (.aload_n 0, 1) := by decide +kernel
theorem dX11_beside_116 : decode cX11_beside 116 = .ok (.invokevirtual 285, 3) := by decide +kernel
theorem dX11_beside_119 : decode cX11_beside 119 = .ok (.iinc 8 1, 3) := by decide +kernel
theorem dX11_beside_122 : decode cX11_beside 122 = .ok (.goto (-14), 3) := by decide +kernel
theorem dX11_beside_125 : decode cX11_beside 125 = .ok (.aload_n 0, 1) := by decide +kernel
theorem dX11_beside_126 : decode cX11_beside 126 = .ok (.aload_n 0, 1) := by decide +kernel
theorem dX11_beside_127 : decode cX11_beside 127 = .ok (.invokevirtual 108, 3) := by decide +kernel
theorem dX11_beside_130 : decode cX11_beside 130 = .ok (.invokevirtual 112, 3) := by decide +kernel
theorem dX11_beside_133 : decode cX11_beside 133 = .ok (.lstore 8, 2) := by decide +kernel
theorem dX11_beside_135 : decode cX11_beside 135 = .ok (.aload_n 0, 1) := by decide +kernel
theorem dX11_beside_136 : decode cX11_beside 136 = .ok (.invokevirtual 306, 3) := by decide +kernel
theorem dX11_beside_139 : decode cX11_beside 139 = .ok (.lload 8, 2) := by decide +kernel
theorem dX11_beside_141 : decode cX11_beside 141 = .ok (.lload 6, 2) := by decide +kernel
theorem dX11_beside_143 : decode cX11_beside 143 = .ok (.lsub, 1) := by decide +kernel
theorem dX11_beside_144 : decode cX11_beside 144 = .ok (.lreturn, 1) := by decide +kernel
theorem dX11_isSheet_0 : decode cX11_isSheet 0 = .ok (.iload_n 0, 1) := by decide +kernel
theorem dX11_isSheet_1 : decode cX11_isSheet 1 = .ok (.i2l, 1) := by decide +kernel
theorem dX11_isSheet_2 : decode cX11_isSheet 2 = .ok (.lconst 0, 1) := by decide +kernel
theorem dX11_isSheet_3 : decode cX11_isSheet 3 = .ok (.ldc2_w 144, 3) := by decide +kernel
theorem dX11_isSheet_6 : decode cX11_isSheet 6 = .ok (.invokestatic 57, 3) := by decide +kernel
theorem dX11_isSheet_9 : decode cX11_isSheet 9 = .ok (.ireturn, 1) := by decide +kernel
theorem dX11_sheet_0 : decode cX11_sheet 0 = .ok (.iload_n 1, 1) := by decide +kernel
theorem dX11_sheet_1 : decode cX11_sheet 1 = .ok (.invokestatic 312, 3) := by decide +kernel
theorem dX11_sheet_4 : decode cX11_sheet 4 = .ok (.ifCond .eq 25, 3) := by decide +kernel
theorem dX11_sheet_7 : decode cX11_sheet 7 = .ok (.iload_n 2, 1) := by decide +kernel
theorem dX11_sheet_8 : decode cX11_sheet 8 = .ok (.ifCond .eq 29, 3) := by decide +kernel
theorem dX11_sheet_11 : decode cX11_sheet 11 = .ok (.iload_n 2, 1) := by decide +kernel
theorem dX11_sheet_12 : decode cX11_sheet 12 = .ok (.bipush 8, 2) := by decide +kernel
theorem dX11_sheet_14 : decode cX11_sheet 14 = .ok (.if_icmp .eq 23, 3) := by decide +kernel
theorem dX11_sheet_17 : decode cX11_sheet 17 = .ok (.iload_n 2, 1) := by decide +kernel
theorem dX11_sheet_18 : decode cX11_sheet 18 = .ok (.bipush 16, 2) := by decide +kernel
theorem dX11_sheet_20 : decode cX11_sheet 20 = .ok (.if_icmp .eq 17, 3) := by decide +kernel
theorem dX11_sheet_23 : decode cX11_sheet 23 = .ok (.iload_n 2, 1) := by decide +kernel
theorem dX11_sheet_24 : decode cX11_sheet 24 = .ok (.bipush 32, 2) := by decide +kernel
theorem dX11_sheet_26 : decode cX11_sheet 26 = .ok (.if_icmp .eq 11, 3) := by decide +kernel
theorem dX11_sheet_29 : decode cX11_sheet 29 = .ok (.aload_n 0, 1) := by decide +kernel
theorem dX11_sheet_30 : decode cX11_sheet 30 = .ok (.ldc 67, 2) := by decide +kernel
theorem dX11_sheet_32 : decode cX11_sheet 32 = .ok (.invokevirtual 68, 3) := by decide +kernel
theorem dX11_sheet_35 : decode cX11_sheet 35 = .ok (.i2l, 1) := by decide +kernel
theorem dX11_sheet_36 : decode cX11_sheet 36 = .ok (.lreturn, 1) := by decide +kernel
theorem dX11_sheet_37 : decode cX11_sheet 37 = .ok (.iload_n 3, 1) := by decide +kernel
theorem dX11_sheet_38 : decode cX11_sheet 38 = .ok (.ifCond .ge 11, 3) := by decide +kernel
theorem dX11_sheet_41 : decode cX11_sheet 41 = .ok (.aload_n 0, 1) := by decide +kernel
theorem dX11_sheet_42 : decode cX11_sheet 42 = .ok (.ldc 93, 2) := by decide +kernel
theorem dX11_sheet_44 : decode cX11_sheet 44 = .ok (.invokevirtual 68, 3) := by decide +kernel
theorem dX11_sheet_47 : decode cX11_sheet 47 = .ok (.i2l, 1) := by decide +kernel
theorem dX11_sheet_48 : decode cX11_sheet 48 = .ok (.lreturn, 1) := by decide +kernel
theorem dX11_sheet_49 : decode cX11_sheet 49 = .ok (.iload_n 3, 1) := by decide +kernel
theorem dX11_sheet_50 : decode cX11_sheet 50 = .ok (.bipush 20, 2) := by decide +kernel
theorem dX11_sheet_52 : decode cX11_sheet 52 = .ok (.if_icmp .le 11, 3) := by decide +kernel
theorem dX11_sheet_55 : decode cX11_sheet 55 = .ok (.aload_n 0, 1) := by decide +kernel
theorem dX11_sheet_56 : decode cX11_sheet 56 = .ok (.ldc 67, 2) := by decide +kernel
theorem dX11_sheet_58 : decode cX11_sheet 58 = .ok (.invokevirtual 68, 3) := by decide +kernel
theorem dX11_sheet_61 : decode cX11_sheet 61 = .ok (.i2l, 1) := by decide +kernel
theorem dX11_sheet_62 : decode cX11_sheet 62 = .ok (.lreturn, 1) := by decide +kernel
theorem dX11_sheet_63 : decode cX11_sheet 63 = .ok (.aload_n 0, 1) := by decide +kernel
theorem dX11_sheet_64 : decode cX11_sheet 64 = .ok (.getfield 29, 3) := by decide +kernel
theorem dX11_sheet_67 : decode cX11_sheet 67 = .ok (.iload_n 1, 1) := by decide +kernel
theorem dX11_sheet_68 : decode cX11_sheet 68 = .ok (.iload_n 2, 1) := by decide +kernel
theorem dX11_sheet_69 : decode cX11_sheet 69 = .ok (.iastore, 1) := by decide +kernel
theorem dX11_sheet_70 : decode cX11_sheet 70 = .ok (.aload_n 0, 1) := by decide +kernel
theorem dX11_sheet_71 : decode cX11_sheet 71 = .ok (.getfield 32, 3) := by decide +kernel
theorem dX11_sheet_74 : decode cX11_sheet 74 = .ok (.iload_n 1, 1) := by decide +kernel
theorem dX11_sheet_75 : decode cX11_sheet 75 = .ok (.iload_n 2, 1) := by decide +kernel
theorem dX11_sheet_76 : decode cX11_sheet 76 = .ok (.ifCond .ne 7, 3) := by decide +kernel
theorem dX11_sheet_79 : decode cX11_sheet 79 = .ok (.iconst 0, 1) := by decide +kernel
theorem dX11_sheet_80 : decode cX11_sheet 80 = .ok (.goto 4, 3) := by decide +kernel
theorem dX11_sheet_83 : decode cX11_sheet 83 = .ok (.iload_n 3, 1) := by decide +kernel
theorem dX11_sheet_84 : decode cX11_sheet 84 = .ok (.iastore, 1) := by decide +kernel
theorem dX11_sheet_85 : decode cX11_sheet 85 = .ok (.iconst 0, 1) := by decide +kernel
theorem dX11_sheet_86 : decode cX11_sheet 86 = .ok (.istore 4, 2) := by decide +kernel
theorem dX11_sheet_88 : decode cX11_sheet 88 = .ok (.iload 4, 2) := by decide +kernel
theorem dX11_sheet_90 : decode cX11_sheet 90 = .ok (.bipush 20, 2) := by decide +kernel
theorem dX11_sheet_92 : decode cX11_sheet 92 = .ok (.if_icmp .ge 22, 3) := by decide +kernel
theorem dX11_sheet_95 : decode cX11_sheet 95 = .ok (.aload_n 0, 1) := by decide +kernel
theorem dX11_sheet_96 : decode cX11_sheet 96 = .ok (.getfield 35, 3) := by decide +kernel
theorem dX11_sheet_99 : decode cX11_sheet 99 = .ok (.bipush 20, 2) := by decide +kernel
theorem dX11_sheet_101 : decode cX11_sheet 101 = .ok (.iload_n 1, 1) := by decide +kernel
theorem dX11_sheet_102 : decode cX11_sheet 102 = .ok (.imul, 1) := by decide +kernel
theorem dX11_sheet_103 : decode cX11_sheet 103 = .ok (.iload 4, 2) := by decide +kernel
theorem dX11_sheet_105 : decode cX11_sheet 105 = .ok (.iadd, 1) := by decide +kernel
theorem dX11_sheet_106 : decode cX11_sheet 106 = .ok (.iconst 0, 1) := by decide +kernel
theorem dX11_sheet_107 : decode cX11_sheet 107 = .ok (.iastore, 1) := by decide +kernel
theorem dX11_sheet_108 : decode cX11_sheet 108 = .ok (.iinc 4 1, 3) := by decide +kernel
theorem dX11_sheet_111 : decode cX11_sheet 111 = .ok (.goto (-23), 3) := by decide +kernel
theorem dX11_sheet_114 : decode cX11_sheet 114 = .ok (.aload_n 0, 1) := by decide +kernel
theorem dX11_sheet_115 : decode cX11_sheet 115 = .ok (.getfield 32, 3) := by decide +kernel
theorem dX11_sheet_118 : decode cX11_sheet 118 = .ok (.iload_n 1, 1) := by decide +kernel
theorem dX11_sheet_119 : decode cX11_sheet 119 = .ok (.iaload, 1) := by decide +kernel
theorem dX11_sheet_120 : decode cX11_sheet 120 = .ok (.i2l, 1) := by decide +kernel
theorem dX11_sheet_121 : decode cX11_sheet 121 = .ok (.lreturn, 1) := by decide +kernel
theorem dX11_put_0 : decode cX11_put 0 = .ok (.iload_n 1, 1) := by decide +kernel
theorem dX11_put_1 : decode cX11_put 1 = .ok (.invokestatic 312, 3) := by decide +kernel
theorem dX11_put_4 : decode cX11_put 4 = .ok (.ifCond .ne 11, 3) := by decide +kernel
theorem dX11_put_7 : decode cX11_put 7 = .ok (.aload_n 0, 1) := by decide +kernel
theorem dX11_put_8 : decode cX11_put 8 = .ok (.ldc 67, 2) := by decide +kernel
theorem dX11_put_10 : decode cX11_put 10 = .ok (.invokevirtual 68, 3) := by decide +kernel
theorem dX11_put_13 : decode cX11_put 13 = .ok (.i2l, 1) := by decide +kernel
theorem dX11_put_14 : decode cX11_put 14 = .ok (.lreturn, 1) := by decide +kernel
theorem dX11_put_15 : decode cX11_put 15 = .ok (.aload_n 0, 1) := by decide +kernel
theorem dX11_put_16 : decode cX11_put 16 = .ok (.getfield 29, 3) := by decide +kernel
theorem dX11_put_19 : decode cX11_put 19 = .ok (.iload_n 1, 1) := by decide +kernel
theorem dX11_put_20 : decode cX11_put 20 = .ok (.iaload, 1) := by decide +kernel
theorem dX11_put_21 : decode cX11_put 21 = .ok (.ifCond .ne 12, 3) := by decide +kernel
theorem dX11_put_24 : decode cX11_put 24 = .ok (.aload_n 0, 1) := by decide +kernel
theorem dX11_put_25 : decode cX11_put 25 = .ok (.ldc_w 315, 3) := by decide +kernel
theorem dX11_put_28 : decode cX11_put 28 = .ok (.invokevirtual 68, 3) := by decide +kernel
theorem dX11_put_31 : decode cX11_put 31 = .ok (.i2l, 1) := by decide +kernel
theorem dX11_put_32 : decode cX11_put 32 = .ok (.lreturn, 1) := by decide +kernel
theorem dX11_put_33 : decode cX11_put 33 = .ok (.iload_n 2, 1) := by decide +kernel
theorem dX11_put_34 : decode cX11_put 34 = .ok (.i2l, 1) := by decide +kernel
theorem dX11_put_35 : decode cX11_put 35 = .ok (.lconst 0, 1) := by decide +kernel
theorem dX11_put_36 : decode cX11_put 36 = .ok (.aload_n 0, 1) := by decide +kernel
theorem dX11_put_37 : decode cX11_put 37 = .ok (.getfield 32, 3) := by decide +kernel
theorem dX11_put_40 : decode cX11_put 40 = .ok (.iload_n 1, 1) := by decide +kernel
theorem dX11_put_41 : decode cX11_put 41 = .ok (.iaload, 1) := by decide +kernel
theorem dX11_put_42 : decode cX11_put 42 = .ok (.iconst 1, 1) := by decide +kernel
theorem dX11_put_43 : decode cX11_put 43 = .ok (.isub, 1) := by decide +kernel
theorem dX11_put_44 : decode cX11_put 44 = .ok (.i2l, 1) := by decide +kernel
theorem dX11_put_45 : decode cX11_put 45 = .ok (.invokestatic 57, 3) := by decide +kernel
theorem dX11_put_48 : decode cX11_put 48 = .ok (.ifCond .ne 11, 3) := by decide +kernel
theorem dX11_put_51 : decode cX11_put 51 = .ok (.aload_n 0, 1) := by decide +kernel
theorem dX11_put_52 : decode cX11_put 52 = .ok (.ldc 67, 2) := by decide +kernel
theorem dX11_put_54 : decode cX11_put 54 = .ok (.invokevirtual 68, 3) := by decide +kernel
theorem dX11_put_57 : decode cX11_put 57 = .ok (.i2l, 1) := by decide +kernel
theorem dX11_put_58 : decode cX11_put 58 = .ok (.lreturn, 1) := by decide +kernel
theorem dX11_put_59 : decode cX11_put 59 = .ok (.aload_n 0, 1) := by decide +kernel
theorem dX11_put_60 : decode cX11_put 60 = .ok (.getfield 35, 3) := by decide +kernel
theorem dX11_put_63 : decode cX11_put 63 = .ok (.bipush 20, 2) := by decide +kernel
theorem dX11_put_65 : decode cX11_put 65 = .ok (.iload_n 1, 1) := by decide +kernel
theorem dX11_put_66 : decode cX11_put 66 = .ok (.imul, 1) := by decide +kernel
theorem dX11_put_67 : decode cX11_put 67 = .ok (.iload_n 2, 1) := by decide +kernel
theorem dX11_put_68 : decode cX11_put 68 = .ok (.iadd, 1) := by decide +kernel
theorem dX11_put_69 : decode cX11_put 69 = .ok (.aload_n 0, 1) := by decide +kernel
theorem dX11_put_70 : decode cX11_put 70 = .ok (.getfield 29, 3) := by decide +kernel
theorem dX11_put_73 : decode cX11_put 73 = .ok (.iload_n 1, 1) := by decide +kernel
theorem dX11_put_74 : decode cX11_put 74 = .ok (.iaload, 1) := by decide +kernel
theorem dX11_put_75 : decode cX11_put 75 = .ok (.bipush 8, 2) := by decide +kernel
theorem dX11_put_77 : decode cX11_put 77 = .ok (.if_icmp .ne 8, 3) := by decide +kernel
theorem dX11_put_80 : decode cX11_put 80 = .ok (.iload_n 3, 1) := by decide +kernel
theorem dX11_put_81 : decode cX11_put 81 = .ok (.i2b, 1) := by decide +kernel
theorem dX11_put_82 : decode cX11_put 82 = .ok (.goto 20, 3) := by decide +kernel
theorem dX11_put_85 : decode cX11_put 85 = .ok (.aload_n 0, 1) := by decide +kernel
theorem dX11_put_86 : decode cX11_put 86 = .ok (.getfield 29, 3) := by decide +kernel
theorem dX11_put_89 : decode cX11_put 89 = .ok (.iload_n 1, 1) := by decide +kernel
theorem dX11_put_90 : decode cX11_put 90 = .ok (.iaload, 1) := by decide +kernel
theorem dX11_put_91 : decode cX11_put 91 = .ok (.bipush 16, 2) := by decide +kernel
theorem dX11_put_93 : decode cX11_put 93 = .ok (.if_icmp .ne 8, 3) := by decide +kernel
theorem dX11_put_96 : decode cX11_put 96 = .ok (.iload_n 3, 1) := by decide +kernel
theorem dX11_put_97 : decode cX11_put 97 = .ok (.i2s, 1) := by decide +kernel
theorem dX11_put_98 : decode cX11_put 98 = .ok (.goto 4, 3) := by decide +kernel
theorem dX11_put_101 : decode cX11_put 101 = .ok (.iload_n 3, 1) := by decide +kernel
theorem dX11_put_102 : decode cX11_put 102 = .ok (.iastore, 1) := by decide +kernel
theorem dX11_put_103 : decode cX11_put 103 = .ok (.lconst 0, 1) := by decide +kernel
theorem dX11_put_104 : decode cX11_put 104 = .ok (.lreturn, 1) := by decide +kernel
theorem dX11_copy_0 : decode cX11_copy 0 = .ok (.iload_n 1, 1) := by decide +kernel
theorem dX11_copy_1 : decode cX11_copy 1 = .ok (.invokestatic 312, 3) := by decide +kernel
theorem dX11_copy_4 : decode cX11_copy 4 = .ok (.ifCond .eq 10, 3) := by decide +kernel
theorem dX11_copy_7 : decode cX11_copy 7 = .ok (.iload_n 3, 1) := by decide +kernel
theorem dX11_copy_8 : decode cX11_copy 8 = .ok (.invokestatic 312, 3) := by decide +kernel
theorem dX11_copy_11 : decode cX11_copy 11 = .ok (.ifCond .ne 11, 3) := by decide +kernel
theorem dX11_copy_14 : decode cX11_copy 14 = .ok (.aload_n 0, 1) := by decide +kernel
theorem dX11_copy_15 : decode cX11_copy 15 = .ok (.ldc 67, 2) := by decide +kernel
theorem dX11_copy_17 : decode cX11_copy 17 = .ok (.invokevirtual 68, 3) := by decide +kernel
theorem dX11_copy_20 : decode cX11_copy 20 = .ok (.i2l, 1) := by decide +kernel
theorem dX11_copy_21 : decode cX11_copy 21 = .ok (.lreturn, 1) := by decide +kernel
theorem dX11_copy_22 : decode cX11_copy 22 = .ok (.aload_n 0, 1) := by decide +kernel
theorem dX11_copy_23 : decode cX11_copy 23 = .ok (.getfield 29, 3) := by decide +kernel
theorem dX11_copy_26 : decode cX11_copy 26 = .ok (.iload_n 1, 1) := by decide +kernel
theorem dX11_copy_27 : decode cX11_copy 27 = .ok (.iaload, 1) := by decide +kernel
theorem dX11_copy_28 : decode cX11_copy 28 = .ok (.ifCond .eq 12, 3) := by decide +kernel
theorem dX11_copy_31 : decode cX11_copy 31 = .ok (.aload_n 0, 1) := by decide +kernel
theorem dX11_copy_32 : decode cX11_copy 32 = .ok (.getfield 29, 3) := by decide +kernel
theorem dX11_copy_35 : decode cX11_copy 35 = .ok (.iload_n 3, 1) := by decide +kernel
theorem dX11_copy_36 : decode cX11_copy 36 = .ok (.iaload, 1) := by decide +kernel
theorem dX11_copy_37 : decode cX11_copy 37 = .ok (.ifCond .ne 12, 3) := by decide +kernel
theorem dX11_copy_40 : decode cX11_copy 40 = .ok (.aload_n 0, 1) := by decide +kernel
theorem dX11_copy_41 : decode cX11_copy 41 = .ok (.ldc_w 315, 3) := by decide +kernel
theorem dX11_copy_44 : decode cX11_copy 44 = .ok (.invokevirtual 68, 3) := by decide +kernel
theorem dX11_copy_47 : decode cX11_copy 47 = .ok (.i2l, 1) := by decide +kernel
theorem dX11_copy_48 : decode cX11_copy 48 = .ok (.lreturn, 1) := by decide +kernel
theorem dX11_copy_49 : decode cX11_copy 49 = .ok (.aload_n 0, 1) := by decide +kernel
theorem dX11_copy_50 : decode cX11_copy 50 = .ok (.getfield 29, 3) := by decide +kernel
theorem dX11_copy_53 : decode cX11_copy 53 = .ok (.iload_n 1, 1) := by decide +kernel
theorem dX11_copy_54 : decode cX11_copy 54 = .ok (.iaload, 1) := by decide +kernel
theorem dX11_copy_55 : decode cX11_copy 55 = .ok (.aload_n 0, 1) := by decide +kernel
theorem dX11_copy_56 : decode cX11_copy 56 = .ok (.getfield 29, 3) := by decide +kernel
theorem dX11_copy_59 : decode cX11_copy 59 = .ok (.iload_n 3, 1) := by decide +kernel
theorem dX11_copy_60 : decode cX11_copy 60 = .ok (.iaload, 1) := by decide +kernel
theorem dX11_copy_61 : decode cX11_copy 61 = .ok (.if_icmp .eq 11, 3) := by decide +kernel
theorem dX11_copy_64 : decode cX11_copy 64 = .ok (.aload_n 0, 1) := by decide +kernel
theorem dX11_copy_65 : decode cX11_copy 65 = .ok (.ldc 105, 2) := by decide +kernel
theorem dX11_copy_67 : decode cX11_copy 67 = .ok (.invokevirtual 68, 3) := by decide +kernel
theorem dX11_copy_70 : decode cX11_copy 70 = .ok (.i2l, 1) := by decide +kernel
theorem dX11_copy_71 : decode cX11_copy 71 = .ok (.lreturn, 1) := by decide +kernel
theorem dX11_copy_72 : decode cX11_copy 72 = .ok (.iload_n 2, 1) := by decide +kernel
theorem dX11_copy_73 : decode cX11_copy 73 = .ok (.ifCond .lt 48, 3) := by decide +kernel
theorem dX11_copy_76 : decode cX11_copy 76 = .ok (.iload 4, 2) := by decide +kernel
theorem dX11_copy_78 : decode cX11_copy 78 = .ok (.ifCond .lt 43, 3) := by decide +kernel
theorem dX11_copy_81 : decode cX11_copy 81 = .ok (.iload 5, 2) := by decide +kernel
theorem dX11_copy_83 : decode cX11_copy 83 = .ok (.ifCond .lt 38, 3) := by decide +kernel
theorem dX11_copy_86 : decode cX11_copy 86 = .ok (.iload_n 2, 1) := by decide +kernel
theorem dX11_copy_87 : decode cX11_copy 87 = .ok (.i2l, 1) := by decide +kernel
theorem dX11_copy_88 : decode cX11_copy 88 = .ok (.iload 5, 2) := by decide +kernel
theorem dX11_copy_90 : decode cX11_copy 90 = .ok (.i2l, 1) := by decide +kernel
theorem dX11_copy_91 : decode cX11_copy 91 = .ok (.ladd, 1) := by decide +kernel
theorem dX11_copy_92 : decode cX11_copy 92 = .ok (.aload_n 0, 1) := by decide +kernel
theorem dX11_copy_93 : decode cX11_copy 93 = .ok (.getfield 32, 3) := by decide +kernel
theorem dX11_copy_96 : decode cX11_copy 96 = .ok (.iload_n 1, 1) := by decide +kernel
theorem dX11_copy_97 : decode cX11_copy 97 = .ok (.iaload, 1) := by decide +kernel
theorem dX11_copy_98 : decode cX11_copy 98 = .ok (.i2l, 1) := by decide +kernel
theorem dX11_copy_99 : decode cX11_copy 99 = .ok (.lcmp, 1) := by decide +kernel
theorem dX11_copy_100 : decode cX11_copy 100 = .ok (.ifCond .gt 21, 3) := by decide +kernel
theorem dX11_copy_103 : decode cX11_copy 103 = .ok (.iload 4, 2) := by decide +kernel
theorem dX11_copy_105 : decode cX11_copy 105 = .ok (.i2l, 1) := by decide +kernel
theorem dX11_copy_106 : decode cX11_copy 106 = .ok (.iload 5, 2) := by decide +kernel
theorem dX11_copy_108 : decode cX11_copy 108 = .ok (.i2l, 1) := by decide +kernel
theorem dX11_copy_109 : decode cX11_copy 109 = .ok (.ladd, 1) := by decide +kernel
theorem dX11_copy_110 : decode cX11_copy 110 = .ok (.aload_n 0, 1) := by decide +kernel
theorem dX11_copy_111 : decode cX11_copy 111 = .ok (.getfield 32, 3) := by decide +kernel
theorem dX11_copy_114 : decode cX11_copy 114 = .ok (.iload_n 3, 1) := by decide +kernel
theorem dX11_copy_115 : decode cX11_copy 115 = .ok (.iaload, 1) := by decide +kernel
theorem dX11_copy_116 : decode cX11_copy 116 = .ok (.i2l, 1) := by decide +kernel
theorem dX11_copy_117 : decode cX11_copy 117 = .ok (.lcmp, 1) := by decide +kernel
theorem dX11_copy_118 : decode cX11_copy 118 = .ok (.ifCond .le 11, 3) := by decide +kernel
theorem dX11_copy_121 : decode cX11_copy 121 = .ok (.aload_n 0, 1) := by decide +kernel
theorem dX11_copy_122 : decode cX11_copy 122 = .ok (.ldc 67, 2) := by decide +kernel
theorem dX11_copy_124 : decode cX11_copy 124 = .ok (.invokevirtual 68, 3) := by decide +kernel
theorem dX11_copy_127 : decode cX11_copy 127 = .ok (.i2l, 1) := by decide +kernel
theorem dX11_copy_128 : decode cX11_copy 128 = .ok (.lreturn, 1) := by decide +kernel
theorem dX11_copy_129 : decode cX11_copy 129 = .ok (.iconst 0, 1) := by decide +kernel
theorem dX11_copy_130 : decode cX11_copy 130 = .ok (.istore 6, 2) := by decide +kernel
theorem dX11_copy_132 : decode cX11_copy 132 = .ok (.iload 6, 2) := by decide +kernel
theorem dX11_copy_134 : decode cX11_copy 134 = .ok (.iload 5, 2) := by decide +kernel
theorem dX11_copy_136 : decode cX11_copy 136 = .ok (.if_icmp .ge 30, 3) := by decide +kernel
theorem dX11_copy_139 : decode cX11_copy 139 = .ok (.aload_n 0, 1) := by decide +kernel
theorem dX11_copy_140 : decode cX11_copy 140 = .ok (.getfield 50, 3) := by decide +kernel
theorem dX11_copy_143 : decode cX11_copy 143 = .ok (.iload 6, 2) := by decide +kernel
theorem dX11_copy_145 : decode cX11_copy 145 = .ok (.aload_n 0, 1) := by decide +kernel
theorem dX11_copy_146 : decode cX11_copy 146 = .ok (.getfield 35, 3) := by decide +kernel
theorem dX11_copy_149 : decode cX11_copy 149 = .ok (.bipush 20, 2) := by decide +kernel
theorem dX11_copy_151 : decode cX11_copy 151 = .ok (.iload_n 1, 1) := by decide +kernel
theorem dX11_copy_152 : decode cX11_copy 152 = .ok (.imul, 1) := by decide +kernel
theorem dX11_copy_153 : decode cX11_copy 153 = .ok (.iload_n 2, 1) := by decide +kernel
theorem dX11_copy_154 : decode cX11_copy 154 = .ok (.iadd, 1) := by decide +kernel
theorem dX11_copy_155 : decode cX11_copy 155 = .ok (.iload 6, 2) := by decide +kernel
theorem dX11_copy_157 : decode cX11_copy 157 = .ok (.iadd, 1) := by decide +kernel
theorem dX11_copy_158 : decode cX11_copy 158 = .ok (.iaload, 1) := by decide +kernel
theorem dX11_copy_159 : decode cX11_copy 159 = .ok (.iastore, 1) := by decide +kernel
theorem dX11_copy_160 : decode cX11_copy 160 = .ok (.iinc 6 1, 3) := by decide +kernel
theorem dX11_copy_163 : decode cX11_copy 163 = .ok (.goto (-31), 3) := by decide +kernel
theorem dX11_copy_166 : decode cX11_copy 166 = .ok (.iconst 0, 1) := by decide +kernel
theorem dX11_copy_167 : decode cX11_copy 167 = .ok (.istore 6, 2) := by decide +kernel
theorem dX11_copy_169 : decode cX11_copy 169 = .ok (.iload 6, 2) := by decide +kernel
theorem dX11_copy_171 : decode cX11_copy 171 = .ok (.iload 5, 2) := by decide +kernel
theorem dX11_copy_173 : decode cX11_copy 173 = .ok (.if_icmp .ge 31, 3) := by decide +kernel
theorem dX11_copy_176 : decode cX11_copy 176 = .ok (.aload_n 0, 1) := by decide +kernel
theorem dX11_copy_177 : decode cX11_copy 177 = .ok (.getfield 35, 3) := by decide +kernel
theorem dX11_copy_180 : decode cX11_copy 180 = .ok (.bipush 20, 2) := by decide +kernel
theorem dX11_copy_182 : decode cX11_copy 182 = .ok (.iload_n 3, 1) := by decide +kernel
theorem dX11_copy_183 : decode cX11_copy 183 = .ok (.imul, 1) := by decide +kernel
theorem dX11_copy_184 : decode cX11_copy 184 = .ok (.iload 4, 2) := by decide +kernel
theorem dX11_copy_186 : decode cX11_copy 186 = .ok (.iadd, 1) := by decide +kernel
theorem dX11_copy_187 : decode cX11_copy 187 = .ok (.iload 6, 2) := by decide +kernel
theorem dX11_copy_189 : decode cX11_copy 189 = .ok (.iadd, 1) := by decide +kernel
theorem dX11_copy_190 : decode cX11_copy 190 = .ok (.aload_n 0, 1) := by decide +kernel
theorem dX11_copy_191 : decode cX11_copy 191 = .ok (.getfield 50, 3) := by decide +kernel
theorem dX11_copy_194 : decode cX11_copy 194 = .ok (.iload 6, 2) := by decide +kernel
theorem dX11_copy_196 : decode cX11_copy 196 = .ok (.iaload, 1) := by decide +kernel
theorem dX11_copy_197 : decode cX11_copy 197 = .ok (.iastore, 1) := by decide +kernel
theorem dX11_copy_198 : decode cX11_copy 198 = .ok (.iinc 6 1, 3) := by decide +kernel
theorem dX11_copy_201 : decode cX11_copy 201 = .ok (.goto (-32), 3) := by decide +kernel
theorem dX11_copy_204 : decode cX11_copy 204 = .ok (.iload 5, 2) := by decide +kernel
theorem dX11_copy_206 : decode cX11_copy 206 = .ok (.i2l, 1) := by decide +kernel
theorem dX11_copy_207 : decode cX11_copy 207 = .ok (.lreturn, 1) := by decide +kernel
theorem dX11_image_0 : decode cX11_image 0 = .ok (.iconst 0, 1) := by decide +kernel
theorem dX11_image_1 : decode cX11_image 1 = .ok (.istore_n 1, 1) := by decide +kernel
theorem dX11_image_2 : decode cX11_image 2 = .ok (.iload_n 1, 1) := by decide +kernel
theorem dX11_image_3 : decode cX11_image 3 = .ok (.sipush 611, 3) := by decide +kernel
theorem dX11_image_6 : decode cX11_image 6 = .ok (.if_icmp .ge 21, 3) := by decide +kernel
theorem dX11_image_9 : decode cX11_image 9 = .ok (.aload_n 0, 1) := by decide +kernel
theorem dX11_image_10 : decode cX11_image 10 = .ok (.getfield 16, 3) := by decide +kernel
theorem dX11_image_13 : decode cX11_image 13 = .ok (.iload_n 1, 1) := by decide +kernel
theorem dX11_image_14 : decode cX11_image 14 = .ok (.aload_n 0, 1) := by decide +kernel
theorem dX11_image_15 : decode cX11_image 15 = .ok (.getfield 9, 3) := by decide +kernel
theorem dX11_image_18 : decode cX11_image 18 = .ok (.iload_n 1, 1) := by decide +kernel
theorem dX11_image_19 : decode cX11_image 19 = .ok (.laload, 1) := by decide +kernel
theorem dX11_image_20 : decode cX11_image 20 = .ok (.lastore, 1) := by decide +kernel
theorem dX11_image_21 : decode cX11_image 21 = .ok (.iinc 1 1, 3) := by decide +kernel
theorem dX11_image_24 : decode cX11_image 24 = .ok (.goto (-22), 3) := by decide +kernel
theorem dX11_image_27 : decode cX11_image 27 = .ok (.iconst 0, 1) := by decide +kernel
theorem dX11_image_28 : decode cX11_image 28 = .ok (.istore_n 1, 1) := by decide +kernel
theorem dX11_image_29 : decode cX11_image 29 = .ok (.iload_n 1, 1) := by decide +kernel
theorem dX11_image_30 : decode cX11_image 30 = .ok (.aload_n 0, 1) := by decide +kernel
theorem dX11_image_31 : decode cX11_image 31 = .ok (.getfield 19, 3) := by decide +kernel
theorem dX11_image_34 : decode cX11_image 34 = .ok (.arraylength, 1) := by decide +kernel
theorem dX11_image_35 : decode cX11_image 35 = .ok (.if_icmp .ge 21, 3) := by decide +kernel
theorem dX11_image_38 : decode cX11_image 38 = .ok (.aload_n 0, 1) := by decide +kernel
theorem dX11_image_39 : decode cX11_image 39 = .ok (.getfield 23, 3) := by decide +kernel
theorem dX11_image_42 : decode cX11_image 42 = .ok (.iload_n 1, 1) := by decide +kernel
theorem dX11_image_43 : decode cX11_image 43 = .ok (.aload_n 0, 1) := by decide +kernel
theorem dX11_image_44 : decode cX11_image 44 = .ok (.getfield 19, 3) := by decide +kernel
theorem dX11_image_47 : decode cX11_image 47 = .ok (.iload_n 1, 1) := by decide +kernel
theorem dX11_image_48 : decode cX11_image 48 = .ok (.iaload, 1) := by decide +kernel
theorem dX11_image_49 : decode cX11_image 49 = .ok (.iastore, 1) := by decide +kernel
theorem dX11_image_50 : decode cX11_image 50 = .ok (.iinc 1 1, 3) := by decide +kernel
theorem dX11_image_53 : decode cX11_image 53 = .ok (.goto (-24), 3) := by decide +kernel
theorem dX11_image_56 : decode cX11_image 56 = .ok (.aload_n 0, 1) := by decide +kernel
theorem dX11_image_57 : decode cX11_image 57 = .ok (.iconst 1, 1) := by decide +kernel
theorem dX11_image_58 : decode cX11_image 58 = .ok (.putfield 316, 3) := by decide +kernel
theorem dX11_image_61 : decode cX11_image 61 = .ok (.aload_n 0, 1) := by decide +kernel
theorem dX11_image_62 : decode cX11_image 62 = .ok (.getfield 9, 3) := by decide +kernel
theorem dX11_image_65 : decode cX11_image 65 = .ok (.iconst 0, 1) := by decide +kernel
theorem dX11_image_66 : decode cX11_image 66 = .ok (.laload, 1) := by decide +kernel
theorem dX11_image_67 : decode cX11_image 67 = .ok (.lreturn, 1) := by decide +kernel
theorem dX11_restore_0 : decode cX11_restore 0 = .ok (.aload_n 0, 1) := by decide +kernel
theorem dX11_restore_1 : decode cX11_restore 1 = .ok (.getfield 316, 3) := by decide +kernel
theorem dX11_restore_4 : decode cX11_restore 4 = .ok (.ifCond .ne 11, 3) := by decide +kernel
theorem dX11_restore_7 : decode cX11_restore 7 = .ok (.aload_n 0, 1) := by decide +kernel
theorem dX11_restore_8 : decode cX11_restore 8 = .ok (.ldc 139, 2) := by decide +kernel
theorem dX11_restore_10 : decode cX11_restore 10 = .ok (.invokevirtual 68, 3) := by decide +kernel
theorem dX11_restore_13 : decode cX11_restore 13 = .ok (.i2l, 1) := by decide +kernel
theorem dX11_restore_14 : decode cX11_restore 14 = .ok (.lreturn, 1) := by decide +kernel
theorem dX11_restore_15 : decode cX11_restore 15 = .ok (.iconst 0, 1) := by decide +kernel
theorem dX11_restore_16 : decode cX11_restore 16 = .ok (.istore_n 1, 1) := by decide +kernel
theorem dX11_restore_17 : decode cX11_restore 17 = .ok (.iload_n 1, 1) := by decide +kernel
theorem dX11_restore_18 : decode cX11_restore 18 = .ok (.sipush 611, 3) := by decide +kernel
theorem dX11_restore_21 : decode cX11_restore 21 = .ok (.if_icmp .ge 21, 3) := by decide +kernel
theorem dX11_restore_24 : decode cX11_restore 24 = .ok (.aload_n 0, 1) := by decide +kernel
theorem dX11_restore_25 : decode cX11_restore 25 = .ok (.getfield 9, 3) := by decide +kernel
theorem dX11_restore_28 : decode cX11_restore 28 = .ok (.iload_n 1, 1) := by decide +kernel
theorem dX11_restore_29 : decode cX11_restore 29 = .ok (.aload_n 0, 1) := by decide +kernel
theorem dX11_restore_30 : decode cX11_restore 30 = .ok (.getfield 16, 3) := by decide +kernel
theorem dX11_restore_33 : decode cX11_restore 33 = .ok (.iload_n 1, 1) := by decide +kernel
theorem dX11_restore_34 : decode cX11_restore 34 = .ok (.laload, 1) := by decide +kernel
theorem dX11_restore_35 : decode cX11_restore 35 = .ok (.lastore, 1) := by decide +kernel
theorem dX11_restore_36 : decode cX11_restore 36 = .ok (.iinc 1 1, 3) := by decide +kernel
theorem dX11_restore_39 : decode cX11_restore 39 = .ok (.goto (-22), 3) := by decide +kernel
theorem dX11_restore_42 : decode cX11_restore 42 = .ok (.iconst 0, 1) := by decide +kernel
theorem dX11_restore_43 : decode cX11_restore 43 = .ok (.istore_n 1, 1) := by decide +kernel
theorem dX11_restore_44 : decode cX11_restore 44 = .ok (.iload_n 1, 1) := by decide +kernel
theorem dX11_restore_45 : decode cX11_restore 45 = .ok (.aload_n 0, 1) := by decide +kernel
theorem dX11_restore_46 : decode cX11_restore 46 = .ok (.getfield 19, 3) := by decide +kernel
theorem dX11_restore_49 : decode cX11_restore 49 = .ok (.arraylength, 1) := by decide +kernel
theorem dX11_restore_50 : decode cX11_restore 50 = .ok (.if_icmp .ge 21, 3) := by decide +kernel
theorem dX11_restore_53 : decode cX11_restore 53 = .ok (.aload_n 0, 1) := by decide +kernel
theorem dX11_restore_54 : decode cX11_restore 54 = .ok (.getfield 19, 3) := by decide +kernel
theorem dX11_restore_57 : decode cX11_restore 57 = .ok (.iload_n 1, 1) := by decide +kernel
theorem dX11_restore_58 : decode cX11_restore 58 = .ok (.aload_n 0, 1) := by decide +kernel
theorem dX11_restore_59 : decode cX11_restore 59 = .ok (.getfield 23, 3) := by decide +kernel
theorem dX11_restore_62 : decode cX11_restore 62 = .ok (.iload_n 1, 1) := by decide +kernel
theorem dX11_restore_63 : decode cX11_restore 63 = .ok (.iaload, 1) := by decide +kernel
theorem dX11_restore_64 : decode cX11_restore 64 = .ok (.iastore, 1) := by decide +kernel
theorem dX11_restore_65 : decode cX11_restore 65 = .ok (.iinc 1 1, 3) := by decide +kernel
theorem dX11_restore_68 : decode cX11_restore 68 = .ok (.goto (-24), 3) := by decide +kernel
theorem dX11_restore_71 : decode cX11_restore 71 = .ok (.aload_n 0, 1) := by decide +kernel
theorem dX11_restore_72 : decode cX11_restore 72 = .ok (.getfield 9, 3) := by decide +kernel
theorem dX11_restore_75 : decode cX11_restore 75 = .ok (.iconst 0, 1) := by decide +kernel
theorem dX11_restore_76 : decode cX11_restore 76 = .ok (.laload, 1) := by decide +kernel
theorem dX11_restore_77 : decode cX11_restore 77 = .ok (.lreturn, 1) := by decide +kernel
theorem dX11_allOf_0 : decode cX11_allOf 0 = .ok (.lconst 0, 1) := by decide +kernel
theorem dX11_allOf_1 : decode cX11_allOf 1 = .ok (.lstore_n 2, 1) := by decide +kernel
theorem dX11_allOf_2 : decode cX11_allOf 2 = .ok (.iconst 0, 1) := by decide +kernel
theorem dX11_allOf_3 : decode cX11_allOf 3 = .ok (.istore 4, 2) := by decide +kernel
theorem dX11_allOf_5 : decode cX11_allOf 5 = .ok (.iload 4, 2) := by decide +kernel
theorem dX11_allOf_7 : decode cX11_allOf 7 = .ok (.i2l, 1) := by decide +kernel
theorem dX11_allOf_8 : decode cX11_allOf 8 = .ok (.aload_n 0, 1) := by decide +kernel
theorem dX11_allOf_9 : decode cX11_allOf 9 = .ok (.getfield 9, 3) := by decide +kernel
theorem dX11_allOf_12 : decode cX11_allOf 12 = .ok (.iconst 4, 1) := by decide +kernel
theorem dX11_allOf_13 : decode cX11_allOf 13 = .ok (.laload, 1) := by decide +kernel
theorem dX11_allOf_14 : decode cX11_allOf 14 = .ok (.lcmp, 1) := by decide +kernel
theorem dX11_allOf_15 : decode cX11_allOf 15 = .ok (.ifCond .ge 23, 3) := by decide +kernel
theorem dX11_allOf_18 : decode cX11_allOf 18 = .ok (.lload_n 2, 1) := by decide +kernel
theorem dX11_allOf_19 : decode cX11_allOf 19 = .ok (.aload_n 0, 1) := by decide +kernel
theorem dX11_allOf_20 : decode cX11_allOf 20 = .ok (.getfield 9, 3) := by decide +kernel
theorem dX11_allOf_23 : decode cX11_allOf 23 = .ok (.iload 4, 2) := by decide +kernel
theorem dX11_allOf_25 : decode cX11_allOf 25 = .ok (.iload_n 1, 1) := by decide +kernel
theorem dX11_allOf_26 : decode cX11_allOf 26 = .ok (.invokestatic 73, 3) := by decide +kernel
theorem dX11_allOf_29 : decode cX11_allOf 29 = .ok (.laload, 1) := by decide +kernel
theorem dX11_allOf_30 : decode cX11_allOf 30 = .ok (.ladd, 1) := by decide +kernel
theorem dX11_allOf_31 : decode cX11_allOf 31 = .ok (.lstore_n 2, 1) := by decide +kernel
theorem dX11_allOf_32 : decode cX11_allOf 32 = .ok (.iinc 4 1, 3) := by decide +kernel
theorem dX11_allOf_35 : decode cX11_allOf 35 = .ok (.goto (-30), 3) := by decide +kernel
theorem dX11_allOf_38 : decode cX11_allOf 38 = .ok (.lload_n 2, 1) := by decide +kernel
theorem dX11_allOf_39 : decode cX11_allOf 39 = .ok (.lreturn, 1) := by decide +kernel
theorem dX11_count_0 : decode cX11_count 0 = .ok (.lconst 0, 1) := by decide +kernel
theorem dX11_count_1 : decode cX11_count 1 = .ok (.lstore_n 2, 1) := by decide +kernel
theorem dX11_count_2 : decode cX11_count 2 = .ok (.iconst 0, 1) := by decide +kernel
theorem dX11_count_3 : decode cX11_count 3 = .ok (.istore 4, 2) := by decide +kernel
theorem dX11_count_5 : decode cX11_count 5 = .ok (.iload 4, 2) := by decide +kernel
theorem dX11_count_7 : decode cX11_count 7 = .ok (.i2l, 1) := by decide +kernel
theorem dX11_count_8 : decode cX11_count 8 = .ok (.aload_n 0, 1) := by decide +kernel
theorem dX11_count_9 : decode cX11_count 9 = .ok (.getfield 9, 3) := by decide +kernel
theorem dX11_count_12 : decode cX11_count 12 = .ok (.iconst 5, 1) := by decide +kernel
theorem dX11_count_13 : decode cX11_count 13 = .ok (.laload, 1) := by decide +kernel
theorem dX11_count_14 : decode cX11_count 14 = .ok (.lcmp, 1) := by decide +kernel
theorem dX11_count_15 : decode cX11_count 15 = .ok (.ifCond .ge 26, 3) := by decide +kernel
theorem dX11_count_18 : decode cX11_count 18 = .ok (.lload_n 2, 1) := by decide +kernel
theorem dX11_count_19 : decode cX11_count 19 = .ok (.aload_n 0, 1) := by decide +kernel
theorem dX11_count_20 : decode cX11_count 20 = .ok (.iload 4, 2) := by decide +kernel
theorem dX11_count_22 : decode cX11_count 22 = .ok (.invokevirtual 132, 3) := by decide +kernel
theorem dX11_count_25 : decode cX11_count 25 = .ok (.ifCond .eq 7, 3) := by decide +kernel
theorem dX11_count_28 : decode cX11_count 28 = .ok (.lconst 1, 1) := by decide +kernel
theorem dX11_count_29 : decode cX11_count 29 = .ok (.goto 4, 3) := by decide +kernel
theorem dX11_count_32 : decode cX11_count 32 = .ok (.lconst 0, 1) := by decide +kernel
theorem dX11_count_33 : decode cX11_count 33 = .ok (.ladd, 1) := by decide +kernel
theorem dX11_count_34 : decode cX11_count 34 = .ok (.lstore_n 2, 1) := by decide +kernel
theorem dX11_count_35 : decode cX11_count 35 = .ok (.iinc 4 1, 3) := by decide +kernel
theorem dX11_count_38 : decode cX11_count 38 = .ok (.goto (-33), 3) := by decide +kernel
theorem dX11_count_41 : decode cX11_count 41 = .ok (.iload_n 1, 1) := by decide +kernel
theorem dX11_count_42 : decode cX11_count 42 = .ok (.tableswitch 116 0 9 #[54, 61, 68, 70, 77, 84, 90, 97, 104, 110], 54) := by decide +kernel
theorem dX11_count_96 : decode cX11_count 96 = .ok (.aload_n 0, 1) := by decide +kernel
theorem dX11_count_97 : decode cX11_count 97 = .ok (.getfield 9, 3) := by decide +kernel
theorem dX11_count_100 : decode cX11_count 100 = .ok (.iconst 4, 1) := by decide +kernel
theorem dX11_count_101 : decode cX11_count 101 = .ok (.laload, 1) := by decide +kernel
theorem dX11_count_102 : decode cX11_count 102 = .ok (.lreturn, 1) := by decide +kernel
theorem dX11_count_103 : decode cX11_count 103 = .ok (.aload_n 0, 1) := by decide +kernel
theorem dX11_count_104 : decode cX11_count 104 = .ok (.getfield 9, 3) := by decide +kernel
theorem dX11_count_107 : decode cX11_count 107 = .ok (.iconst 5, 1) := by decide +kernel
theorem dX11_count_108 : decode cX11_count 108 = .ok (.laload, 1) := by decide +kernel
theorem dX11_count_109 : decode cX11_count 109 = .ok (.lreturn, 1) := by decide +kernel
theorem dX11_count_110 : decode cX11_count 110 = .ok (.lload_n 2, 1) := by decide +kernel
theorem dX11_count_111 : decode cX11_count 111 = .ok (.lreturn, 1) := by decide +kernel
theorem dX11_count_112 : decode cX11_count 112 = .ok (.aload_n 0, 1) := by decide +kernel
theorem dX11_count_113 : decode cX11_count 113 = .ok (.getfield 9, 3) := by decide +kernel
theorem dX11_count_116 : decode cX11_count 116 = .ok (.iconst 0, 1) := by decide +kernel
theorem dX11_count_117 : decode cX11_count 117 = .ok (.laload, 1) := by decide +kernel
theorem dX11_count_118 : decode cX11_count 118 = .ok (.lreturn, 1) := by decide +kernel
theorem dX11_count_119 : decode cX11_count 119 = .ok (.aload_n 0, 1) := by decide +kernel
theorem dX11_count_120 : decode cX11_count 120 = .ok (.getfield 9, 3) := by decide +kernel
theorem dX11_count_123 : decode cX11_count 123 = .ok (.iconst 1, 1) := by decide +kernel
theorem dX11_count_124 : decode cX11_count 124 = .ok (.laload, 1) := by decide +kernel
theorem dX11_count_125 : decode cX11_count 125 = .ok (.lreturn, 1) := by decide +kernel
theorem dX11_count_126 : decode cX11_count 126 = .ok (.aload_n 0, 1) := by decide +kernel
theorem dX11_count_127 : decode cX11_count 127 = .ok (.iconst 0, 1) := by decide +kernel
theorem dX11_count_128 : decode cX11_count 128 = .ok (.invokevirtual 319, 3) := by decide +kernel
theorem dX11_count_131 : decode cX11_count 131 = .ok (.lreturn, 1) := by decide +kernel
theorem dX11_count_132 : decode cX11_count 132 = .ok (.aload_n 0, 1) := by decide +kernel
theorem dX11_count_133 : decode cX11_count 133 = .ok (.getfield 9, 3) := by decide +kernel
theorem dX11_count_136 : decode cX11_count 136 = .ok (.iconst 2, 1) := by decide +kernel
theorem dX11_count_137 : decode cX11_count 137 = .ok (.laload, 1) := by decide +kernel
theorem dX11_count_138 : decode cX11_count 138 = .ok (.lreturn, 1) := by decide +kernel
theorem dX11_count_139 : decode cX11_count 139 = .ok (.aload_n 0, 1) := by decide +kernel
theorem dX11_count_140 : decode cX11_count 140 = .ok (.getfield 9, 3) := by decide +kernel
theorem dX11_count_143 : decode cX11_count 143 = .ok (.iconst 3, 1) := by decide +kernel
theorem dX11_count_144 : decode cX11_count 144 = .ok (.laload, 1) := by decide +kernel
theorem dX11_count_145 : decode cX11_count 145 = .ok (.lreturn, 1) := by decide +kernel
theorem dX11_count_146 : decode cX11_count 146 = .ok (.aload_n 0, 1) := by decide +kernel
theorem dX11_count_147 : decode cX11_count 147 = .ok (.iconst 1, 1) := by decide +kernel
theorem dX11_count_148 : decode cX11_count 148 = .ok (.invokevirtual 319, 3) := by decide +kernel
theorem dX11_count_151 : decode cX11_count 151 = .ok (.lreturn, 1) := by decide +kernel
theorem dX11_count_152 : decode cX11_count 152 = .ok (.aload_n 0, 1) := by decide +kernel
theorem dX11_count_153 : decode cX11_count 153 = .ok (.getfield 53, 3) := by decide +kernel
theorem dX11_count_156 : decode cX11_count 156 = .ok (.i2l, 1) := by decide +kernel
theorem dX11_count_157 : decode cX11_count 157 = .ok (.lreturn, 1) := by decide +kernel
theorem dX11_count_158 : decode cX11_count 158 = .ok (.aload_n 0, 1) := by decide +kernel
theorem dX11_count_159 : decode cX11_count 159 = .ok (.ldc 67, 2) := by decide +kernel
theorem dX11_count_161 : decode cX11_count 161 = .ok (.invokevirtual 68, 3) := by decide +kernel
theorem dX11_count_164 : decode cX11_count 164 = .ok (.i2l, 1) := by decide +kernel
theorem dX11_count_165 : decode cX11_count 165 = .ok (.lreturn, 1) := by decide +kernel
theorem dJ11_isValidCodePoint_9a6ad_0 : decode cJ11_isValidCodePoint_9a6ad 0 = .ok (.iload_n 0, 1) := by decide +kernel
theorem dJ11_isValidCodePoint_9a6ad_1 : decode cJ11_isValidCodePoint_9a6ad 1 = .ok (.bipush 16, 2) := by decide +kernel
theorem dJ11_isValidCodePoint_9a6ad_3 : decode cJ11_isValidCodePoint_9a6ad 3 = .ok (.iushr, 1) := by decide +kernel
theorem dJ11_isValidCodePoint_9a6ad_4 : decode cJ11_isValidCodePoint_9a6ad 4 = .ok (.istore_n 1, 1) := by decide +kernel
theorem dJ11_isValidCodePoint_9a6ad_5 : decode cJ11_isValidCodePoint_9a6ad 5 = .ok (.iload_n 1, 1) := by decide +kernel
theorem dJ11_isValidCodePoint_9a6ad_6 : decode cJ11_isValidCodePoint_9a6ad 6 = .ok (.bipush 17, 2) := by decide +kernel
theorem dJ11_isValidCodePoint_9a6ad_8 : decode cJ11_isValidCodePoint_9a6ad 8 = .ok (.if_icmp .ge 7, 3) := by decide +kernel
theorem dJ11_isValidCodePoint_9a6ad_11 : decode cJ11_isValidCodePoint_9a6ad 11 = .ok (.iconst 1, 1) := by decide +kernel
theorem dJ11_isValidCodePoint_9a6ad_12 : decode cJ11_isValidCodePoint_9a6ad 12 = .ok (.goto 4, 3) := by decide +kernel
theorem dJ11_isValidCodePoint_9a6ad_15 : decode cJ11_isValidCodePoint_9a6ad 15 = .ok (.iconst 0, 1) := by decide +kernel
theorem dJ11_isValidCodePoint_9a6ad_16 : decode cJ11_isValidCodePoint_9a6ad 16 = .ok (.ireturn, 1) := by decide +kernel
theorem dJ11_highSurrogate_5068e_0 : decode cJ11_highSurrogate_5068e 0 = .ok (.iload_n 0, 1) := by decide +kernel
theorem dJ11_highSurrogate_5068e_1 : decode cJ11_highSurrogate_5068e 1 = .ok (.bipush 10, 2) := by decide +kernel
theorem dJ11_highSurrogate_5068e_3 : decode cJ11_highSurrogate_5068e 3 = .ok (.iushr, 1) := by decide +kernel
theorem dJ11_highSurrogate_5068e_4 : decode cJ11_highSurrogate_5068e 4 = .ok (.ldc 110, 2) := by decide +kernel
theorem dJ11_highSurrogate_5068e_6 : decode cJ11_highSurrogate_5068e 6 = .ok (.iadd, 1) := by decide +kernel
theorem dJ11_highSurrogate_5068e_7 : decode cJ11_highSurrogate_5068e 7 = .ok (.i2c, 1) := by decide +kernel
theorem dJ11_highSurrogate_5068e_8 : decode cJ11_highSurrogate_5068e 8 = .ok (.ireturn, 1) := by decide +kernel
theorem dJ11_lowSurrogate_5068e_0 : decode cJ11_lowSurrogate_5068e 0 = .ok (.iload_n 0, 1) := by decide +kernel
theorem dJ11_lowSurrogate_5068e_1 : decode cJ11_lowSurrogate_5068e 1 = .ok (.sipush 1023, 3) := by decide +kernel
theorem dJ11_lowSurrogate_5068e_4 : decode cJ11_lowSurrogate_5068e 4 = .ok (.iand, 1) := by decide +kernel
theorem dJ11_lowSurrogate_5068e_5 : decode cJ11_lowSurrogate_5068e 5 = .ok (.ldc 76, 2) := by decide +kernel
theorem dJ11_lowSurrogate_5068e_7 : decode cJ11_lowSurrogate_5068e 7 = .ok (.iadd, 1) := by decide +kernel
theorem dJ11_lowSurrogate_5068e_8 : decode cJ11_lowSurrogate_5068e 8 = .ok (.i2c, 1) := by decide +kernel
theorem dJ11_lowSurrogate_5068e_9 : decode cJ11_lowSurrogate_5068e 9 = .ok (.ireturn, 1) := by decide +kernel
theorem dJ6_bitCount_0f7a4_0 : decode cJ6_bitCount_0f7a4 0 = .ok (.iload_n 0, 1) := by decide +kernel
theorem dJ6_bitCount_0f7a4_1 : decode cJ6_bitCount_0f7a4 1 = .ok (.iload_n 0, 1) := by decide +kernel
theorem dJ6_bitCount_0f7a4_2 : decode cJ6_bitCount_0f7a4 2 = .ok (.iconst 1, 1) := by decide +kernel
theorem dJ6_bitCount_0f7a4_3 : decode cJ6_bitCount_0f7a4 3 = .ok (.iushr, 1) := by decide +kernel
theorem dJ6_bitCount_0f7a4_4 : decode cJ6_bitCount_0f7a4 4 = .ok (.ldc_w 265, 3) := by decide +kernel
theorem dJ6_bitCount_0f7a4_7 : decode cJ6_bitCount_0f7a4 7 = .ok (.iand, 1) := by decide +kernel
theorem dJ6_bitCount_0f7a4_8 : decode cJ6_bitCount_0f7a4 8 = .ok (.isub, 1) := by decide +kernel
theorem dJ6_bitCount_0f7a4_9 : decode cJ6_bitCount_0f7a4 9 = .ok (.istore_n 0, 1) := by decide +kernel
theorem dJ6_bitCount_0f7a4_10 : decode cJ6_bitCount_0f7a4 10 = .ok (.iload_n 0, 1) := by decide +kernel
theorem dJ6_bitCount_0f7a4_11 : decode cJ6_bitCount_0f7a4 11 = .ok (.ldc_w 266, 3) := by decide +kernel
theorem dJ6_bitCount_0f7a4_14 : decode cJ6_bitCount_0f7a4 14 = .ok (.iand, 1) := by decide +kernel
theorem dJ6_bitCount_0f7a4_15 : decode cJ6_bitCount_0f7a4 15 = .ok (.iload_n 0, 1) := by decide +kernel
theorem dJ6_bitCount_0f7a4_16 : decode cJ6_bitCount_0f7a4 16 = .ok (.iconst 2, 1) := by decide +kernel
theorem dJ6_bitCount_0f7a4_17 : decode cJ6_bitCount_0f7a4 17 = .ok (.iushr, 1) := by decide +kernel
theorem dJ6_bitCount_0f7a4_18 : decode cJ6_bitCount_0f7a4 18 = .ok (.ldc_w 266, 3) := by decide +kernel
theorem dJ6_bitCount_0f7a4_21 : decode cJ6_bitCount_0f7a4 21 = .ok (.iand, 1) := by decide +kernel
theorem dJ6_bitCount_0f7a4_22 : decode cJ6_bitCount_0f7a4 22 = .ok (.iadd, 1) := by decide +kernel
theorem dJ6_bitCount_0f7a4_23 : decode cJ6_bitCount_0f7a4 23 = .ok (.istore_n 0, 1) := by decide +kernel
theorem dJ6_bitCount_0f7a4_24 : decode cJ6_bitCount_0f7a4 24 = .ok (.iload_n 0, 1) := by decide +kernel
theorem dJ6_bitCount_0f7a4_25 : decode cJ6_bitCount_0f7a4 25 = .ok (.iload_n 0, 1) := by decide +kernel
theorem dJ6_bitCount_0f7a4_26 : decode cJ6_bitCount_0f7a4 26 = .ok (.iconst 4, 1) := by decide +kernel
theorem dJ6_bitCount_0f7a4_27 : decode cJ6_bitCount_0f7a4 27 = .ok (.iushr, 1) := by decide +kernel
theorem dJ6_bitCount_0f7a4_28 : decode cJ6_bitCount_0f7a4 28 = .ok (.iadd, 1) := by decide +kernel
theorem dJ6_bitCount_0f7a4_29 : decode cJ6_bitCount_0f7a4 29 = .ok (.ldc_w 267, 3) := by decide +kernel
theorem dJ6_bitCount_0f7a4_32 : decode cJ6_bitCount_0f7a4 32 = .ok (.iand, 1) := by decide +kernel
theorem dJ6_bitCount_0f7a4_33 : decode cJ6_bitCount_0f7a4 33 = .ok (.istore_n 0, 1) := by decide +kernel
theorem dJ6_bitCount_0f7a4_34 : decode cJ6_bitCount_0f7a4 34 = .ok (.iload_n 0, 1) := by decide +kernel
theorem dJ6_bitCount_0f7a4_35 : decode cJ6_bitCount_0f7a4 35 = .ok (.iload_n 0, 1) := by decide +kernel
theorem dJ6_bitCount_0f7a4_36 : decode cJ6_bitCount_0f7a4 36 = .ok (.bipush 8, 2) := by decide +kernel
theorem dJ6_bitCount_0f7a4_38 : decode cJ6_bitCount_0f7a4 38 = .ok (.iushr, 1) := by decide +kernel
theorem dJ6_bitCount_0f7a4_39 : decode cJ6_bitCount_0f7a4 39 = .ok (.iadd, 1) := by decide +kernel
theorem dJ6_bitCount_0f7a4_40 : decode cJ6_bitCount_0f7a4 40 = .ok (.istore_n 0, 1) := by decide +kernel
theorem dJ6_bitCount_0f7a4_41 : decode cJ6_bitCount_0f7a4 41 = .ok (.iload_n 0, 1) := by decide +kernel
theorem dJ6_bitCount_0f7a4_42 : decode cJ6_bitCount_0f7a4 42 = .ok (.iload_n 0, 1) := by decide +kernel
theorem dJ6_bitCount_0f7a4_43 : decode cJ6_bitCount_0f7a4 43 = .ok (.bipush 16, 2) := by decide +kernel
theorem dJ6_bitCount_0f7a4_45 : decode cJ6_bitCount_0f7a4 45 = .ok (.iushr, 1) := by decide +kernel
theorem dJ6_bitCount_0f7a4_46 : decode cJ6_bitCount_0f7a4 46 = .ok (.iadd, 1) := by decide +kernel
theorem dJ6_bitCount_0f7a4_47 : decode cJ6_bitCount_0f7a4 47 = .ok (.istore_n 0, 1) := by decide +kernel
theorem dJ6_bitCount_0f7a4_48 : decode cJ6_bitCount_0f7a4 48 = .ok (.iload_n 0, 1) := by decide +kernel
theorem dJ6_bitCount_0f7a4_49 : decode cJ6_bitCount_0f7a4 49 = .ok (.bipush 63, 2) := by decide +kernel
theorem dJ6_bitCount_0f7a4_51 : decode cJ6_bitCount_0f7a4 51 = .ok (.iand, 1) := by decide +kernel
theorem dJ6_bitCount_0f7a4_52 : decode cJ6_bitCount_0f7a4 52 = .ok (.ireturn, 1) := by decide +kernel
theorem dJ9_max_7cf53_0 : decode cJ9_max_7cf53 0 = .ok (.iload_n 0, 1) := by decide +kernel
theorem dJ9_max_7cf53_1 : decode cJ9_max_7cf53 1 = .ok (.iload_n 1, 1) := by decide +kernel
theorem dJ9_max_7cf53_2 : decode cJ9_max_7cf53 2 = .ok (.if_icmp .lt 7, 3) := by decide +kernel
theorem dJ9_max_7cf53_5 : decode cJ9_max_7cf53 5 = .ok (.iload_n 0, 1) := by decide +kernel
theorem dJ9_max_7cf53_6 : decode cJ9_max_7cf53 6 = .ok (.goto 4, 3) := by decide +kernel
theorem dJ9_max_7cf53_9 : decode cJ9_max_7cf53 9 = .ok (.iload_n 1, 1) := by decide +kernel
theorem dJ9_max_7cf53_10 : decode cJ9_max_7cf53 10 = .ok (.ireturn, 1) := by decide +kernel
theorem dJ9_max_f86c9_0 : decode cJ9_max_f86c9 0 = .ok (.lload_n 0, 1) := by decide +kernel
theorem dJ9_max_f86c9_1 : decode cJ9_max_f86c9 1 = .ok (.lload_n 2, 1) := by decide +kernel
theorem dJ9_max_f86c9_2 : decode cJ9_max_f86c9 2 = .ok (.lcmp, 1) := by decide +kernel
theorem dJ9_max_f86c9_3 : decode cJ9_max_f86c9 3 = .ok (.ifCond .lt 7, 3) := by decide +kernel
theorem dJ9_max_f86c9_6 : decode cJ9_max_f86c9 6 = .ok (.lload_n 0, 1) := by decide +kernel
theorem dJ9_max_f86c9_7 : decode cJ9_max_f86c9 7 = .ok (.goto 4, 3) := by decide +kernel
theorem dJ9_max_f86c9_10 : decode cJ9_max_f86c9 10 = .ok (.lload_n 2, 1) := by decide +kernel
theorem dJ9_max_f86c9_11 : decode cJ9_max_f86c9 11 = .ok (.lreturn, 1) := by decide +kernel
theorem dJ9_min_7cf53_0 : decode cJ9_min_7cf53 0 = .ok (.iload_n 0, 1) := by decide +kernel
theorem dJ9_min_7cf53_1 : decode cJ9_min_7cf53 1 = .ok (.iload_n 1, 1) := by decide +kernel
theorem dJ9_min_7cf53_2 : decode cJ9_min_7cf53 2 = .ok (.if_icmp .gt 7, 3) := by decide +kernel
theorem dJ9_min_7cf53_5 : decode cJ9_min_7cf53 5 = .ok (.iload_n 0, 1) := by decide +kernel
theorem dJ9_min_7cf53_6 : decode cJ9_min_7cf53 6 = .ok (.goto 4, 3) := by decide +kernel
theorem dJ9_min_7cf53_9 : decode cJ9_min_7cf53 9 = .ok (.iload_n 1, 1) := by decide +kernel
theorem dJ9_min_7cf53_10 : decode cJ9_min_7cf53 10 = .ok (.ireturn, 1) := by decide +kernel
theorem dJ9_min_f86c9_0 : decode cJ9_min_f86c9 0 = .ok (.lload_n 0, 1) := by decide +kernel
theorem dJ9_min_f86c9_1 : decode cJ9_min_f86c9 1 = .ok (.lload_n 2, 1) := by decide +kernel
theorem dJ9_min_f86c9_2 : decode cJ9_min_f86c9 2 = .ok (.lcmp, 1) := by decide +kernel
theorem dJ9_min_f86c9_3 : decode cJ9_min_f86c9 3 = .ok (.ifCond .gt 7, 3) := by decide +kernel
theorem dJ9_min_f86c9_6 : decode cJ9_min_f86c9 6 = .ok (.lload_n 0, 1) := by decide +kernel
theorem dJ9_min_f86c9_7 : decode cJ9_min_f86c9 7 = .ok (.goto 4, 3) := by decide +kernel
theorem dJ9_min_f86c9_10 : decode cJ9_min_f86c9 10 = .ok (.lload_n 2, 1) := by decide +kernel
theorem dJ9_min_f86c9_11 : decode cJ9_min_f86c9 11 = .ok (.lreturn, 1) := by decide +kernel
theorem dJ0_length_8abf5_0 : decode cJ0_length_8abf5 0 = .ok (.aload_n 0, 1) := by decide +kernel
theorem dJ0_length_8abf5_1 : decode cJ0_length_8abf5 1 = .ok (.getfield 9, 3) := by decide +kernel
theorem dJ0_length_8abf5_4 : decode cJ0_length_8abf5 4 = .ok (.arraylength, 1) := by decide +kernel
theorem dJ0_length_8abf5_5 : decode cJ0_length_8abf5 5 = .ok (.aload_n 0, 1) := by decide +kernel
theorem dJ0_length_8abf5_6 : decode cJ0_length_8abf5 6 = .ok (.invokevirtual 335, 3) := by decide +kernel
theorem dJ0_length_8abf5_9 : decode cJ0_length_8abf5 9 = .ok (.ishr, 1) := by decide +kernel
theorem dJ0_length_8abf5_10 : decode cJ0_length_8abf5 10 = .ok (.ireturn, 1) := by decide +kernel
theorem dJ0_charAt_5068e_0 : decode cJ0_charAt_5068e 0 = .ok (.aload_n 0, 1) := by decide +kernel
theorem dJ0_charAt_5068e_1 : decode cJ0_charAt_5068e 1 = .ok (.invokevirtual 492, 3) := by decide +kernel
theorem dJ0_charAt_5068e_4 : decode cJ0_charAt_5068e 4 = .ok (.ifCond .eq 12, 3) := by decide +kernel
theorem dJ0_charAt_5068e_7 : decode cJ0_charAt_5068e 7 = .ok (.aload_n 0, 1) := by decide +kernel
theorem dJ0_charAt_5068e_8 : decode cJ0_charAt_5068e 8 = .ok (.getfield 9, 3) := by decide +kernel
theorem dJ0_charAt_5068e_11 : decode cJ0_charAt_5068e 11 = .ok (.iload_n 1, 1) := by decide +kernel
theorem dJ0_charAt_5068e_12 : decode cJ0_charAt_5068e 12 = .ok (.invokestatic 495, 3) := by decide +kernel
theorem dJ0_charAt_5068e_15 : decode cJ0_charAt_5068e 15 = .ok (.ireturn, 1) := by decide +kernel
theorem dJ0_charAt_5068e_16 : decode cJ0_charAt_5068e 16 = .ok (.aload_n 0, 1) := by decide +kernel
theorem dJ0_charAt_5068e_17 : decode cJ0_charAt_5068e 17 = .ok (.getfield 9, 3) := by decide +kernel
theorem dJ0_charAt_5068e_20 : decode cJ0_charAt_5068e 20 = .ok (.iload_n 1, 1) := by decide +kernel
theorem dJ0_charAt_5068e_21 : decode cJ0_charAt_5068e 21 = .ok (.invokestatic 498, 3) := by decide +kernel
theorem dJ0_charAt_5068e_24 : decode cJ0_charAt_5068e 24 = .ok (.ireturn, 1) := by decide +kernel
theorem dJ0_indexOf_0f7a4_0 : decode cJ0_indexOf_0f7a4 0 = .ok (.aload_n 0, 1) := by decide +kernel
theorem dJ0_indexOf_0f7a4_1 : decode cJ0_indexOf_0f7a4 1 = .ok (.iload_n 1, 1) := by decide +kernel
theorem dJ0_indexOf_0f7a4_2 : decode cJ0_indexOf_0f7a4 2 = .ok (.iconst 0, 1) := by decide +kernel
theorem dJ0_indexOf_0f7a4_3 : decode cJ0_indexOf_0f7a4 3 = .ok (.invokevirtual 633, 3) := by decide +kernel
theorem dJ0_indexOf_0f7a4_6 : decode cJ0_indexOf_0f7a4 6 = .ok (.ireturn, 1) := by decide +kernel
theorem dJ0_indexOf_7cf53_0 : decode cJ0_indexOf_7cf53 0 = .ok (.aload_n 0, 1) := by decide +kernel
theorem dJ0_indexOf_7cf53_1 : decode cJ0_indexOf_7cf53 1 = .ok (.invokevirtual 492, 3) := by decide +kernel
theorem dJ0_indexOf_7cf53_4 : decode cJ0_indexOf_7cf53 4 = .ok (.ifCond .eq 19, 3) := by decide +kernel
theorem dJ0_indexOf_7cf53_7 : decode cJ0_indexOf_7cf53 7 = .ok (.aload_n 0, 1) := by decide +kernel
theorem dJ0_indexOf_7cf53_8 : decode cJ0_indexOf_7cf53 8 = .ok (.getfield 9, 3) := by decide +kernel
theorem dJ0_indexOf_7cf53_11 : decode cJ0_indexOf_7cf53 11 = .ok (.iload_n 1, 1) := by decide +kernel
theorem dJ0_indexOf_7cf53_12 : decode cJ0_indexOf_7cf53 12 = .ok (.iload_n 2, 1) := by decide +kernel
theorem dJ0_indexOf_7cf53_13 : decode cJ0_indexOf_7cf53 13 = .ok (.aload_n 0, 1) := by decide +kernel
theorem dJ0_indexOf_7cf53_14 : decode cJ0_indexOf_7cf53 14 = .ok (.invokevirtual 505, 3) := by decide +kernel
theorem dJ0_indexOf_7cf53_17 : decode cJ0_indexOf_7cf53 17 = .ok (.invokestatic 637, 3) := by decide +kernel
theorem dJ0_indexOf_7cf53_20 : decode cJ0_indexOf_7cf53 20 = .ok (.goto 16, 3) := by decide +kernel
theorem dJ0_indexOf_7cf53_23 : decode cJ0_indexOf_7cf53 23 = .ok (.aload_n 0, 1) := by decide +kernel
theorem dJ0_indexOf_7cf53_24 : decode cJ0_indexOf_7cf53 24 = .ok (.getfield 9, 3) := by decide +kernel
theorem dJ0_indexOf_7cf53_27 : decode cJ0_indexOf_7cf53 27 = .ok (.iload_n 1, 1) := by decide +kernel
theorem dJ0_indexOf_7cf53_28 : decode cJ0_indexOf_7cf53 28 = .ok (.iload_n 2, 1) := by decide +kernel
theorem dJ0_indexOf_7cf53_29 : decode cJ0_indexOf_7cf53 29 = .ok (.aload_n 0, 1) := by decide +kernel
theorem dJ0_indexOf_7cf53_30 : decode cJ0_indexOf_7cf53 30 = .ok (.invokevirtual 505, 3) := by decide +kernel
theorem dJ0_indexOf_7cf53_33 : decode cJ0_indexOf_7cf53 33 = .ok (.invokestatic 640, 3) := by decide +kernel
theorem dJ0_indexOf_7cf53_36 : decode cJ0_indexOf_7cf53 36 = .ok (.ireturn, 1) := by decide +kernel
theorem dJ0_coder_7d493_0 : decode cJ0_coder_7d493 0 = .ok (.getstatic 38, 3) := by decide +kernel
theorem dJ0_coder_7d493_3 : decode cJ0_coder_7d493 3 = .ok (.ifCond .eq 10, 3) := by decide +kernel
theorem dJ0_coder_7d493_6 : decode cJ0_coder_7d493 6 = .ok (.aload_n 0, 1) := by decide +kernel
theorem dJ0_coder_7d493_7 : decode cJ0_coder_7d493 7 = .ok (.getfield 15, 3) := by decide +kernel
theorem dJ0_coder_7d493_10 : decode cJ0_coder_7d493 10 = .ok (.goto 4, 3) := by decide +kernel
theorem dJ0_coder_7d493_13 : decode cJ0_coder_7d493 13 = .ok (.iconst 1, 1) := by decide +kernel
theorem dJ0_coder_7d493_14 : decode cJ0_coder_7d493 14 = .ok (.ireturn, 1) := by decide +kernel
theorem dJ0_isLatin1_aae02_0 : decode cJ0_isLatin1_aae02 0 = .ok (.getstatic 38, 3) := by decide +kernel
theorem dJ0_isLatin1_aae02_3 : decode cJ0_isLatin1_aae02 3 = .ok (.ifCond .eq 14, 3) := by decide +kernel
theorem dJ0_isLatin1_aae02_6 : decode cJ0_isLatin1_aae02 6 = .ok (.aload_n 0, 1) := by decide +kernel
theorem dJ0_isLatin1_aae02_7 : decode cJ0_isLatin1_aae02 7 = .ok (.getfield 15, 3) := by decide +kernel
theorem dJ0_isLatin1_aae02_10 : decode cJ0_isLatin1_aae02 10 = .ok (.ifCond .ne 7, 3) := by decide +kernel
theorem dJ0_isLatin1_aae02_13 : decode cJ0_isLatin1_aae02 13 = .ok (.iconst 1, 1) := by decide +kernel
theorem dJ0_isLatin1_aae02_14 : decode cJ0_isLatin1_aae02 14 = .ok (.goto 4, 3) := by decide +kernel
theorem dJ0_isLatin1_aae02_17 : decode cJ0_isLatin1_aae02 17 = .ok (.iconst 0, 1) := by decide +kernel
theorem dJ0_isLatin1_aae02_18 : decode cJ0_isLatin1_aae02 18 = .ok (.ireturn, 1) := by decide +kernel
theorem dJ0_checkIndex_df160_0 : decode cJ0_checkIndex_df160 0 = .ok (.iload_n 0, 1) := by decide +kernel
theorem dJ0_checkIndex_df160_1 : decode cJ0_checkIndex_df160 1 = .ok (.iload_n 1, 1) := by decide +kernel
theorem dJ0_checkIndex_df160_2 : decode cJ0_checkIndex_df160 2 = .ok (.getstatic 1053, 3) := by decide +kernel
theorem dJ0_checkIndex_df160_5 : decode cJ0_checkIndex_df160 5 = .ok (.invokestatic 1059, 3) := by decide +kernel
theorem dJ0_checkIndex_df160_8 : decode cJ0_checkIndex_df160 8 = .ok (.pop, 1) := by decide +kernel
theorem dJ0_checkIndex_df160_9 : decode cJ0_checkIndex_df160 9 = .ok (.return_, 1) := by decide +kernel
theorem dJ0_checkBoundsBeginEnd_23922_0 : decode cJ0_checkBoundsBeginEnd_23922 0 = .ok (.iload_n 0, 1) := by decide +kernel
theorem dJ0_checkBoundsBeginEnd_23922_1 : decode cJ0_checkBoundsBeginEnd_23922 1 = .ok (.iload_n 1, 1) := by decide +kernel
theorem dJ0_checkBoundsBeginEnd_23922_2 : decode cJ0_checkBoundsBeginEnd_23922 2 = .ok (.iload_n 2, 1) := by decide +kernel
theorem dJ0_checkBoundsBeginEnd_23922_3 : decode cJ0_checkBoundsBeginEnd_23922 3 = .ok (.getstatic 1053, 3) := by decide +kernel
theorem dJ0_checkBoundsBeginEnd_23922_6 : decode cJ0_checkBoundsBeginEnd_23922 6 = .ok (.invokestatic 1062, 3) := by decide +kernel
theorem dJ0_checkBoundsBeginEnd_23922_9 : decode cJ0_checkBoundsBeginEnd_23922 9 = .ok (.pop, 1) := by decide +kernel
theorem dJ0_checkBoundsBeginEnd_23922_10 : decode cJ0_checkBoundsBeginEnd_23922 10 = .ok (.return_, 1) := by decide +kernel
theorem dJ1_charAt_3b067_0 : decode cJ1_charAt_3b067 0 = .ok (.iload_n 1, 1) := by decide +kernel
theorem dJ1_charAt_3b067_1 : decode cJ1_charAt_3b067 1 = .ok (.aload_n 0, 1) := by decide +kernel
theorem dJ1_charAt_3b067_2 : decode cJ1_charAt_3b067 2 = .ok (.arraylength, 1) := by decide +kernel
theorem dJ1_charAt_3b067_3 : decode cJ1_charAt_3b067 3 = .ok (.invokestatic 9, 3) := by decide +kernel
theorem dJ1_charAt_3b067_6 : decode cJ1_charAt_3b067 6 = .ok (.aload_n 0, 1) := by decide +kernel
theorem dJ1_charAt_3b067_7 : decode cJ1_charAt_3b067 7 = .ok (.iload_n 1, 1) := by decide +kernel
theorem dJ1_charAt_3b067_8 : decode cJ1_charAt_3b067 8 = .ok (.baload, 1) := by decide +kernel
theorem dJ1_charAt_3b067_9 : decode cJ1_charAt_3b067 9 = .ok (.sipush 255, 3) := by decide +kernel
theorem dJ1_charAt_3b067_12 : decode cJ1_charAt_3b067 12 = .ok (.iand, 1) := by decide +kernel
theorem dJ1_charAt_3b067_13 : decode cJ1_charAt_3b067 13 = .ok (.i2c, 1) := by decide +kernel
theorem dJ1_charAt_3b067_14 : decode cJ1_charAt_3b067 14 = .ok (.ireturn, 1) := by decide +kernel
theorem dJ1_canEncode_9a6ad_0 : decode cJ1_canEncode_9a6ad 0 = .ok (.iload_n 0, 1) := by decide +kernel
theorem dJ1_canEncode_9a6ad_1 : decode cJ1_canEncode_9a6ad 1 = .ok (.ifCond .lt 14, 3) := by decide +kernel
theorem dJ1_canEncode_9a6ad_4 : decode cJ1_canEncode_9a6ad 4 = .ok (.iload_n 0, 1) := by decide +kernel
theorem dJ1_canEncode_9a6ad_5 : decode cJ1_canEncode_9a6ad 5 = .ok (.sipush 255, 3) := by decide +kernel
theorem dJ1_canEncode_9a6ad_8 : decode cJ1_canEncode_9a6ad 8 = .ok (.if_icmp .gt 7, 3) := by decide +kernel
theorem dJ1_canEncode_9a6ad_11 : decode cJ1_canEncode_9a6ad 11 = .ok (.iconst 1, 1) := by decide +kernel
theorem dJ1_canEncode_9a6ad_12 : decode cJ1_canEncode_9a6ad 12 = .ok (.goto 4, 3) := by decide +kernel
theorem dJ1_canEncode_9a6ad_15 : decode cJ1_canEncode_9a6ad 15 = .ok (.iconst 0, 1) := by decide +kernel
theorem dJ1_canEncode_9a6ad_16 : decode cJ1_canEncode_9a6ad 16 = .ok (.ireturn, 1) := by decide +kernel
theorem dJ1_indexOf_4cfef_0 : decode cJ1_indexOf_4cfef 0 = .ok (.iload_n 1, 1) := by decide +kernel
theorem dJ1_indexOf_4cfef_1 : decode cJ1_indexOf_4cfef 1 = .ok (.invokestatic 88, 3) := by decide +kernel
theorem dJ1_indexOf_4cfef_4 : decode cJ1_indexOf_4cfef 4 = .ok (.ifCond .ne 5, 3) := by decide +kernel
theorem dJ1_indexOf_4cfef_7 : decode cJ1_indexOf_4cfef 7 = .ok (.iconst (-1), 1) := by decide +kernel
theorem dJ1_indexOf_4cfef_8 : decode cJ1_indexOf_4cfef 8 = .ok (.ireturn, 1) := by decide +kernel
theorem dJ1_indexOf_4cfef_9 : decode cJ1_indexOf_4cfef 9 = .ok (.iload_n 2, 1) := by decide +kernel
theorem dJ1_indexOf_4cfef_10 : decode cJ1_indexOf_4cfef 10 = .ok (.iconst 0, 1) := by decide +kernel
theorem dJ1_indexOf_4cfef_11 : decode cJ1_indexOf_4cfef 11 = .ok (.invokestatic 92, 3) := by decide +kernel
theorem dJ1_indexOf_4cfef_14 : decode cJ1_indexOf_4cfef 14 = .ok (.istore_n 2, 1) := by decide +kernel
theorem dJ1_indexOf_4cfef_15 : decode cJ1_indexOf_4cfef 15 = .ok (.iload_n 3, 1) := by decide +kernel
theorem dJ1_indexOf_4cfef_16 : decode cJ1_indexOf_4cfef 16 = .ok (.aload_n 0, 1) := by decide +kernel
theorem dJ1_indexOf_4cfef_17 : decode cJ1_indexOf_4cfef 17 = .ok (.arraylength, 1) := by decide +kernel
theorem dJ1_indexOf_4cfef_18 : decode cJ1_indexOf_4cfef 18 = .ok (.invokestatic 38, 3) := by decide +kernel
theorem dJ1_indexOf_4cfef_21 : decode cJ1_indexOf_4cfef 21 = .ok (.istore_n 3, 1) := by decide +kernel
theorem dJ1_indexOf_4cfef_22 : decode cJ1_indexOf_4cfef 22 = .ok (.iload_n 2, 1) := by decide +kernel
theorem dJ1_indexOf_4cfef_23 : decode cJ1_indexOf_4cfef 23 = .ok (.iload_n 3, 1) := by decide +kernel
theorem dJ1_indexOf_4cfef_24 : decode cJ1_indexOf_4cfef 24 = .ok (.if_icmp .lt 5, 3) := by decide +kernel
theorem dJ1_indexOf_4cfef_27 : decode cJ1_indexOf_4cfef 27 = .ok (.iconst (-1), 1) := by decide +kernel
theorem dJ1_indexOf_4cfef_28 : decode cJ1_indexOf_4cfef 28 = .ok (.ireturn, 1) := by decide +kernel
theorem dJ1_indexOf_4cfef_29 : decode cJ1_indexOf_4cfef 29 = .ok (.aload_n 0, 1) := by decide +kernel
theorem dJ1_indexOf_4cfef_30 : decode cJ1_indexOf_4cfef 30 = .ok (.iload_n 1, 1) := by decide +kernel
theorem dJ1_indexOf_4cfef_31 : decode cJ1_indexOf_4cfef 31 = .ok (.iload_n 2, 1) := by decide +kernel
theorem dJ1_indexOf_4cfef_32 : decode cJ1_indexOf_4cfef 32 = .ok (.iload_n 3, 1) := by decide +kernel
theorem dJ1_indexOf_4cfef_33 : decode cJ1_indexOf_4cfef 33 = .ok (.invokestatic 95, 3) := by decide +kernel
theorem dJ1_indexOf_4cfef_36 : decode cJ1_indexOf_4cfef 36 = .ok (.ireturn, 1) := by decide +kernel
theorem dJ1_indexOfChar_4cfef_0 : decode cJ1_indexOfChar_4cfef 0 = .ok (.iload_n 1, 1) := by decide +kernel
theorem dJ1_indexOfChar_4cfef_1 : decode cJ1_indexOfChar_4cfef 1 = .ok (.i2b, 1) := by decide +kernel
theorem dJ1_indexOfChar_4cfef_2 : decode cJ1_indexOfChar_4cfef 2 = .ok (.istore 4, 2) := by decide +kernel
theorem dJ1_indexOfChar_4cfef_4 : decode cJ1_indexOfChar_4cfef 4 = .ok (.iload_n 2, 1) := by decide +kernel
theorem dJ1_indexOfChar_4cfef_5 : decode cJ1_indexOfChar_4cfef 5 = .ok (.istore 5, 2) := by decide +kernel
theorem dJ1_indexOfChar_4cfef_7 : decode cJ1_indexOfChar_4cfef 7 = .ok (.iload 5, 2) := by decide +kernel
theorem dJ1_indexOfChar_4cfef_9 : decode cJ1_indexOfChar_4cfef 9 = .ok (.iload_n 3, 1) := by decide +kernel
theorem dJ1_indexOfChar_4cfef_10 : decode cJ1_indexOfChar_4cfef 10 = .ok (.if_icmp .ge 21, 3) := by decide +kernel
theorem dJ1_indexOfChar_4cfef_13 : decode cJ1_indexOfChar_4cfef 13 = .ok (.aload_n 0, 1) := by decide +kernel
theorem dJ1_indexOfChar_4cfef_14 : decode cJ1_indexOfChar_4cfef 14 = .ok (.iload 5, 2) := by decide +kernel
theorem dJ1_indexOfChar_4cfef_16 : decode cJ1_indexOfChar_4cfef 16 = .ok (.baload, 1) := by decide +kernel
theorem dJ1_indexOfChar_4cfef_17 : decode cJ1_indexOfChar_4cfef 17 = .ok (.iload 4, 2) := by decide +kernel
theorem dJ1_indexOfChar_4cfef_19 : decode cJ1_indexOfChar_4cfef 19 = .ok (.if_icmp .ne 6, 3) := by decide +kernel
theorem dJ1_indexOfChar_4cfef_22 : decode cJ1_indexOfChar_4cfef 22 = .ok (.iload 5, 2) := by decide +kernel
theorem dJ1_indexOfChar_4cfef_24 : decode cJ1_indexOfChar_4cfef 24 = .ok (.ireturn, 1) := by decide +kernel
theorem dJ1_indexOfChar_4cfef_25 : decode cJ1_indexOfChar_4cfef 25 = .ok (.iinc 5 1, 3) := by decide +kernel
theorem dJ1_indexOfChar_4cfef_28 : decode cJ1_indexOfChar_4cfef 28 = .ok (.goto (-21), 3) := by decide +kernel
theorem dJ1_indexOfChar_4cfef_31 : decode cJ1_indexOfChar_4cfef 31 = .ok (.iconst (-1), 1) := by decide +kernel
theorem dJ1_indexOfChar_4cfef_32 : decode cJ1_indexOfChar_4cfef 32 = .ok (.ireturn, 1) := by decide +kernel
theorem dJ2_getChar_3b067_0 : decode cJ2_getChar_3b067 0 = .ok (.getstatic 44, 3) := by decide +kernel
theorem dJ2_getChar_3b067_3 : decode cJ2_getChar_3b067 3 = .ok (.ifCond .ne 25, 3) := by decide +kernel
theorem dJ2_getChar_3b067_6 : decode cJ2_getChar_3b067 6 = .ok (.iload_n 1, 1) := by decide +kernel
theorem dJ2_getChar_3b067_7 : decode cJ2_getChar_3b067 7 = .ok (.ifCond .lt 11, 3) := by decide +kernel
theorem dJ2_getChar_3b067_10 : decode cJ2_getChar_3b067 10 = .ok (.iload_n 1, 1) := by decide +kernel
theorem dJ2_getChar_3b067_11 : decode cJ2_getChar_3b067 11 = .ok (.aload_n 0, 1) := by decide +kernel
theorem dJ2_getChar_3b067_12 : decode cJ2_getChar_3b067 12 = .ok (.invokestatic 48, 3) := by decide +kernel
theorem dJ2_getChar_3b067_15 : decode cJ2_getChar_3b067 15 = .ok (.if_icmp .lt 13, 3) := by decide +kernel
theorem dJ2_getChar_3b067_18 : decode cJ2_getChar_3b067 18 = .ok (.new 52, 3) := by decide +kernel
theorem dJ2_getChar_3b067_21 : decode cJ2_getChar_3b067 21 = .ok (.dup, 1) := by decide +kernel
theorem dJ2_getChar_3b067_22 : decode cJ2_getChar_3b067 22 = .ok (.ldc 54, 2) := by decide +kernel
theorem dJ2_getChar_3b067_24 : decode cJ2_getChar_3b067 24 = .ok (.invokespecial 56, 3) := by decide +kernel
theorem dJ2_getChar_3b067_27 : decode cJ2_getChar_3b067 27 = .ok (.athrow, 1) := by decide +kernel
theorem dJ2_getChar_3b067_28 : decode cJ2_getChar_3b067 28 = .ok (.iload_n 1, 1) := by decide +kernel
theorem dJ2_getChar_3b067_29 : decode cJ2_getChar_3b067 29 = .ok (.iconst 1, 1) := by decide +kernel
theorem dJ2_getChar_3b067_30 : decode cJ2_getChar_3b067 30 = .ok (.ishl, 1) := by decide +kernel
theorem dJ2_getChar_3b067_31 : decode cJ2_getChar_3b067 31 = .ok (.istore_n 1, 1) := by decide +kernel
theorem dJ2_getChar_3b067_32 : decode cJ2_getChar_3b067 32 = .ok (.aload_n 0, 1) := by decide +kernel
theorem dJ2_getChar_3b067_33 : decode cJ2_getChar_3b067 33 = .ok (.iload_n 1, 1) := by decide +kernel
theorem dJ2_getChar_3b067_34 : decode cJ2_getChar_3b067 34 = .ok (.iinc 1 1, 3) := by decide +kernel
theorem dJ2_getChar_3b067_37 : decode cJ2_getChar_3b067 37 = .ok (.baload, 1) := by decide +kernel
theorem dJ2_getChar_3b067_38 : decode cJ2_getChar_3b067 38 = .ok (.sipush 255, 3) := by decide +kernel
theorem dJ2_getChar_3b067_41 : decode cJ2_getChar_3b067 41 = .ok (.iand, 1) := by decide +kernel
theorem dJ2_getChar_3b067_42 : decode cJ2_getChar_3b067 42 = .ok (.getstatic 59, 3) := by decide +kernel
theorem dJ2_getChar_3b067_45 : decode cJ2_getChar_3b067 45 = .ok (.ishl, 1) := by decide +kernel
theorem dJ2_getChar_3b067_46 : decode cJ2_getChar_3b067 46 = .ok (.aload_n 0, 1) := by decide +kernel
theorem dJ2_getChar_3b067_47 : decode cJ2_getChar_3b067 47 = .ok (.iload_n 1, 1) := by decide +kernel
theorem dJ2_getChar_3b067_48 : decode cJ2_getChar_3b067 48 = .ok (.baload, 1) := by decide +kernel
theorem dJ2_getChar_3b067_49 : decode cJ2_getChar_3b067 49 = .ok (.sipush 255, 3) := by decide +kernel
theorem dJ2_getChar_3b067_52 : decode cJ2_getChar_3b067 52 = .ok (.iand, 1) := by decide +kernel
theorem dJ2_getChar_3b067_53 : decode cJ2_getChar_3b067 53 = .ok (.getstatic 63, 3) := by decide +kernel
theorem dJ2_getChar_3b067_56 : decode cJ2_getChar_3b067 56 = .ok (.ishl, 1) := by decide +kernel
theorem dJ2_getChar_3b067_57 : decode cJ2_getChar_3b067 57 = .ok (.ior, 1) := by decide +kernel
theorem dJ2_getChar_3b067_58 : decode cJ2_getChar_3b067 58 = .ok (.i2c, 1) := by decide +kernel
theorem dJ2_getChar_3b067_59 : decode cJ2_getChar_3b067 59 = .ok (.ireturn, 1) := by decide +kernel
theorem dJ2_length_9d52b_0 : decode cJ2_length_9d52b 0 = .ok (.aload_n 0, 1) := by decide +kernel
theorem dJ2_length_9d52b_1 : decode cJ2_length_9d52b 1 = .ok (.arraylength, 1) := by decide +kernel
theorem dJ2_length_9d52b_2 : decode cJ2_length_9d52b 2 = .ok (.iconst 1, 1) := by decide +kernel
theorem dJ2_length_9d52b_3 : decode cJ2_length_9d52b 3 = .ok (.ishr, 1) := by decide +kernel
theorem dJ2_length_9d52b_4 : decode cJ2_length_9d52b 4 = .ok (.ireturn, 1) := by decide +kernel
theorem dJ2_indexOf_4cfef_0 : decode cJ2_indexOf_4cfef 0 = .ok (.iload_n 2, 1) := by decide +kernel
theorem dJ2_indexOf_4cfef_1 : decode cJ2_indexOf_4cfef 1 = .ok (.iconst 0, 1) := by decide +kernel
theorem dJ2_indexOf_4cfef_2 : decode cJ2_indexOf_4cfef 2 = .ok (.invokestatic 224, 3) := by decide +kernel
theorem dJ2_indexOf_4cfef_5 : decode cJ2_indexOf_4cfef 5 = .ok (.istore_n 2, 1) := by decide +kernel
theorem dJ2_indexOf_4cfef_6 : decode cJ2_indexOf_4cfef 6 = .ok (.iload_n 3, 1) := by decide +kernel
theorem dJ2_indexOf_4cfef_7 : decode cJ2_indexOf_4cfef 7 = .ok (.aload_n 0, 1) := by decide +kernel
theorem dJ2_indexOf_4cfef_8 : decode cJ2_indexOf_4cfef 8 = .ok (.arraylength, 1) := by decide +kernel
theorem dJ2_indexOf_4cfef_9 : decode cJ2_indexOf_4cfef 9 = .ok (.iconst 1, 1) := by decide +kernel
theorem dJ2_indexOf_4cfef_10 : decode cJ2_indexOf_4cfef 10 = .ok (.ishr, 1) := by decide +kernel
theorem dJ2_indexOf_4cfef_11 : decode cJ2_indexOf_4cfef 11 = .ok (.invokestatic 183, 3) := by decide +kernel
theorem dJ2_indexOf_4cfef_14 : decode cJ2_indexOf_4cfef 14 = .ok (.istore_n 3, 1) := by decide +kernel
theorem dJ2_indexOf_4cfef_15 : decode cJ2_indexOf_4cfef 15 = .ok (.iload_n 2, 1) := by decide +kernel
theorem dJ2_indexOf_4cfef_16 : decode cJ2_indexOf_4cfef 16 = .ok (.iload_n 3, 1) := by decide +kernel
theorem dJ2_indexOf_4cfef_17 : decode cJ2_indexOf_4cfef 17 = .ok (.if_icmp .lt 5, 3) := by decide +kernel
theorem dJ2_indexOf_4cfef_20 : decode cJ2_indexOf_4cfef 20 = .ok (.iconst (-1), 1) := by decide +kernel
theorem dJ2_indexOf_4cfef_21 : decode cJ2_indexOf_4cfef 21 = .ok (.ireturn, 1) := by decide +kernel
