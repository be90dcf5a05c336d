theorem dX6_tell_55 : decode cX6_tell 55 = .ok (.aload_n 0, 1) := by decide +kernel
theorem dX6_tell_56 : decode cX6_tell 56 = .ok (.getfield 19, 3) := by decide +kernel
theorem dX6_tell_59 : decode cX6_tell 59 = .ok (.i2l, 1) := by decide +kernel
theorem dX6_tell_60 : decode cX6_tell 60 = .ok (.lreturn, 1) := by decide +kernel
theorem dX6_tell_61 : decode cX6_tell 61 = .ok (.aload_n 0, 1) := by decide +kernel
theorem dX6_tell_62 : decode cX6_tell 62 = .ok (.getfield 22, 3) := by decide +kernel
theorem dX6_tell_65 : decode cX6_tell 65 = .ok (.i2l, 1) := by decide +kernel
theorem dX6_tell_66 : decode cX6_tell 66 = .ok (.lreturn, 1) := by decide +kernel
theorem dX6_tell_67 : decode cX6_tell 67 = .ok (.aload_n 0, 1) := by decide +kernel
theorem dX6_tell_68 : decode cX6_tell 68 = .ok (.getfield 25, 3) := by decide +kernel
theorem dX6_tell_71 : decode cX6_tell 71 = .ok (.i2l, 1) := by decide +kernel
theorem dX6_tell_72 : decode cX6_tell 72 = .ok (.lreturn, 1) := by decide +kernel
theorem dX6_tell_73 : decode cX6_tell 73 = .ok (.aload_n 0, 1) := by decide +kernel
theorem dX6_tell_74 : decode cX6_tell 74 = .ok (.getfield 28, 3) := by decide +kernel
theorem dX6_tell_77 : decode cX6_tell 77 = .ok (.i2l, 1) := by decide +kernel
theorem dX6_tell_78 : decode cX6_tell 78 = .ok (.lreturn, 1) := by decide +kernel
theorem dX6_tell_79 : decode cX6_tell 79 = .ok (.aload_n 0, 1) := by decide +kernel
theorem dX6_tell_80 : decode cX6_tell 80 = .ok (.getfield 31, 3) := by decide +kernel
theorem dX6_tell_83 : decode cX6_tell 83 = .ok (.lreturn, 1) := by decide +kernel
theorem dX6_tell_84 : decode cX6_tell 84 = .ok (.aload_n 0, 1) := by decide +kernel
theorem dX6_tell_85 : decode cX6_tell 85 = .ok (.getfield 34, 3) := by decide +kernel
theorem dX6_tell_88 : decode cX6_tell 88 = .ok (.lreturn, 1) := by decide +kernel
theorem dX6_bakeLoaves_0 : decode cX6_bakeLoaves 0 = .ok (.aload_n 0, 1) := by decide +kernel
theorem dX6_bakeLoaves_1 : decode cX6_bakeLoaves 1 = .ok (.sipush 9999, 3) := by decide +kernel
theorem dX6_bakeLoaves_4 : decode cX6_bakeLoaves 4 = .ok (.aload_n 0, 1) := by decide +kernel
theorem dX6_bakeLoaves_5 : decode cX6_bakeLoaves 5 = .ok (.getfield 15, 3) := by decide +kernel
theorem dX6_bakeLoaves_8 : decode cX6_bakeLoaves 8 = .ok (.aload_n 0, 1) := by decide +kernel
theorem dX6_bakeLoaves_9 : decode cX6_bakeLoaves 9 = .ok (.getfield 19, 3) := by decide +kernel
theorem dX6_bakeLoaves_12 : decode cX6_bakeLoaves 12 = .ok (.iadd, 1) := by decide +kernel
theorem dX6_bakeLoaves_13 : decode cX6_bakeLoaves 13 = .ok (.invokestatic 43, 3) := by decide +kernel
theorem dX6_bakeLoaves_16 : decode cX6_bakeLoaves 16 = .ok (.putfield 15, 3) := by decide +kernel
theorem dX6_bakeLoaves_19 : decode cX6_bakeLoaves 19 = .ok (.return_, 1) := by decide +kernel
theorem dX6_eatLoaf_0 : decode cX6_eatLoaf 0 = .ok (.aload_n 0, 1) := by decide +kernel
theorem dX6_eatLoaf_1 : decode cX6_eatLoaf 1 = .ok (.getfield 15, 3) := by decide +kernel
theorem dX6_eatLoaf_4 : decode cX6_eatLoaf 4 = .ok (.ifCond .le 16, 3) := by decide +kernel
theorem dX6_eatLoaf_7 : decode cX6_eatLoaf 7 = .ok (.aload_n 0, 1) := by decide +kernel
theorem dX6_eatLoaf_8 : decode cX6_eatLoaf 8 = .ok (.dup, 1) := by decide +kernel
theorem dX6_eatLoaf_9 : decode cX6_eatLoaf 9 = .ok (.getfield 15, 3) := by decide +kernel
theorem dX6_eatLoaf_12 : decode cX6_eatLoaf 12 = .ok (.iconst 1, 1) := by decide +kernel
theorem dX6_eatLoaf_13 : decode cX6_eatLoaf 13 = .ok (.isub, 1) := by decide +kernel
theorem dX6_eatLoaf_14 : decode cX6_eatLoaf 14 = .ok (.putfield 15, 3) := by decide +kernel
theorem dX6_eatLoaf_17 : decode cX6_eatLoaf 17 = .ok (.goto 13, 3) := by decide +kernel
theorem dX6_eatLoaf_20 : decode cX6_eatLoaf 20 = .ok (.aload_n 0, 1) := by decide +kernel
theorem dX6_eatLoaf_21 : decode cX6_eatLoaf 21 = .ok (.dup, 1) := by decide +kernel
theorem dX6_eatLoaf_22 : decode cX6_eatLoaf 22 = .ok (.getfield 28, 3) := by decide +kernel
theorem dX6_eatLoaf_25 : decode cX6_eatLoaf 25 = .ok (.iconst 1, 1) := by decide +kernel
theorem dX6_eatLoaf_26 : decode cX6_eatLoaf 26 = .ok (.iadd, 1) := by decide +kernel
theorem dX6_eatLoaf_27 : decode cX6_eatLoaf 27 = .ok (.putfield 28, 3) := by decide +kernel
theorem dX6_eatLoaf_30 : decode cX6_eatLoaf 30 = .ok (.return_, 1) := by decide +kernel
theorem dX7_init_0 : decode cX7_init 0 = .ok (.aload_n 0, 1) := by decide +kernel
theorem dX7_init_1 : decode cX7_init 1 = .ok (.invokespecial 3, 3) := by decide +kernel
theorem dX7_init_4 : decode cX7_init 4 = .ok (.aload_n 0, 1) := by decide +kernel
theorem dX7_init_5 : decode cX7_init 5 = .ok (.sipush 160, 3) := by decide +kernel
theorem dX7_init_8 : decode cX7_init 8 = .ok (.newarray .byte, 2) := by decide +kernel
theorem dX7_init_10 : decode cX7_init 10 = .ok (.putfield 9, 3) := by decide +kernel
theorem dX7_init_13 : decode cX7_init 13 = .ok (.aload_n 0, 1) := by decide +kernel
theorem dX7_init_14 : decode cX7_init 14 = .ok (.sipush 160, 3) := by decide +kernel
theorem dX7_init_17 : decode cX7_init 17 = .ok (.newarray .int, 2) := by decide +kernel
theorem dX7_init_19 : decode cX7_init 19 = .ok (.putfield 15, 3) := by decide +kernel
theorem dX7_init_22 : decode cX7_init 22 = .ok (.return_, 1) := by decide +kernel
theorem dX7_append_0 : decode cX7_append 0 = .ok (.iconst 0, 1) := by decide +kernel
theorem dX7_append_1 : decode cX7_append 1 = .ok (.istore 4, 2) := by decide +kernel
theorem dX7_append_3 : decode cX7_append 3 = .ok (.iload 4, 2) := by decide +kernel
theorem dX7_append_5 : decode cX7_append 5 = .ok (.iload_n 1, 1) := by decide +kernel
theorem dX7_append_6 : decode cX7_append 6 = .ok (.if_icmp .ge 49, 3) := by decide +kernel
theorem dX7_append_9 : decode cX7_append 9 = .ok (.aload_n 0, 1) := by decide +kernel
theorem dX7_append_10 : decode cX7_append 10 = .ok (.getfield 19, 3) := by decide +kernel
theorem dX7_append_13 : decode cX7_append 13 = .ok (.aload_n 0, 1) := by decide +kernel
theorem dX7_append_14 : decode cX7_append 14 = .ok (.getfield 9, 3) := by decide +kernel
theorem dX7_append_17 : decode cX7_append 17 = .ok (.arraylength, 1) := by decide +kernel
theorem dX7_append_18 : decode cX7_append 18 = .ok (.if_icmp .ge 37, 3) := by decide +kernel
theorem dX7_append_21 : decode cX7_append 21 = .ok (.aload_n 0, 1) := by decide +kernel
theorem dX7_append_22 : decode cX7_append 22 = .ok (.getfield 9, 3) := by decide +kernel
theorem dX7_append_25 : decode cX7_append 25 = .ok (.aload_n 0, 1) := by decide +kernel
theorem dX7_append_26 : decode cX7_append 26 = .ok (.getfield 19, 3) := by decide +kernel
theorem dX7_append_29 : decode cX7_append 29 = .ok (.lload_n 2, 1) := by decide +kernel
theorem dX7_append_30 : decode cX7_append 30 = .ok (.bipush 8, 2) := by decide +kernel
theorem dX7_append_32 : decode cX7_append 32 = .ok (.iload 4, 2) := by decide +kernel
theorem dX7_append_34 : decode cX7_append 34 = .ok (.imul, 1) := by decide +kernel
theorem dX7_append_35 : decode cX7_append 35 = .ok (.lushr, 1) := by decide +kernel
theorem dX7_append_36 : decode cX7_append 36 = .ok (.l2i, 1) := by decide +kernel
theorem dX7_append_37 : decode cX7_append 37 = .ok (.i2b, 1) := by decide +kernel
theorem dX7_append_38 : decode cX7_append 38 = .ok (.bastore, 1) := by decide +kernel
theorem dX7_append_39 : decode cX7_append 39 = .ok (.aload_n 0, 1) := by decide +kernel
theorem dX7_append_40 : decode cX7_append 40 = .ok (.dup, 1) := by decide +kernel
theorem dX7_append_41 : decode cX7_append 41 = .ok (.getfield 19, 3) := by decide +kernel
theorem dX7_append_44 : decode cX7_append 44 = .ok (.iconst 1, 1) := by decide +kernel
theorem dX7_append_45 : decode cX7_append 45 = .ok (.iadd, 1) := by decide +kernel
theorem dX7_append_46 : decode cX7_append 46 = .ok (.putfield 19, 3) := by decide +kernel
theorem dX7_append_49 : decode cX7_append 49 = .ok (.iinc 4 1, 3) := by decide +kernel
theorem dX7_append_52 : decode cX7_append 52 = .ok (.goto (-49), 3) := by decide +kernel
theorem dX7_append_55 : decode cX7_append 55 = .ok (.return_, 1) := by decide +kernel
theorem dX7_readTape_0 : decode cX7_readTape 0 = .ok (.aload_n 0, 1) := by decide +kernel
theorem dX7_readTape_1 : decode cX7_readTape 1 = .ok (.iconst 0, 1) := by decide +kernel
theorem dX7_readTape_2 : decode cX7_readTape 2 = .ok (.putfield 23, 3) := by decide +kernel
theorem dX7_readTape_5 : decode cX7_readTape 5 = .ok (.aload_n 0, 1) := by decide +kernel
theorem dX7_readTape_6 : decode cX7_readTape 6 = .ok (.iconst 0, 1) := by decide +kernel
theorem dX7_readTape_7 : decode cX7_readTape 7 = .ok (.putfield 26, 3) := by decide +kernel
theorem dX7_readTape_10 : decode cX7_readTape 10 = .ok (.aload_n 0, 1) := by decide +kernel
theorem dX7_readTape_11 : decode cX7_readTape 11 = .ok (.iconst (-1), 1) := by decide +kernel
theorem dX7_readTape_12 : decode cX7_readTape 12 = .ok (.putfield 29, 3) := by decide +kernel
theorem dX7_readTape_15 : decode cX7_readTape 15 = .ok (.aload_n 0, 1) := by decide +kernel
theorem dX7_readTape_16 : decode cX7_readTape 16 = .ok (.invokevirtual 32, 3) := by decide +kernel
theorem dX7_readTape_19 : decode cX7_readTape 19 = .ok (.aload_n 0, 1) := by decide +kernel
theorem dX7_readTape_20 : decode cX7_readTape 20 = .ok (.bipush (-8), 2) := by decide +kernel
theorem dX7_readTape_22 : decode cX7_readTape 22 = .ok (.invokevirtual 35, 3) := by decide +kernel
theorem dX7_readTape_25 : decode cX7_readTape 25 = .ok (.aload_n 0, 1) := by decide +kernel
theorem dX7_readTape_26 : decode cX7_readTape 26 = .ok (.getfield 23, 3) := by decide +kernel
theorem dX7_readTape_29 : decode cX7_readTape 29 = .ok (.istore_n 1, 1) := by decide +kernel
theorem dX7_readTape_30 : decode cX7_readTape 30 = .ok (.aload_n 0, 1) := by decide +kernel
theorem dX7_readTape_31 : decode cX7_readTape 31 = .ok (.bipush (-9), 2) := by decide +kernel
theorem dX7_readTape_33 : decode cX7_readTape 33 = .ok (.invokevirtual 35, 3) := by decide +kernel
theorem dX7_readTape_36 : decode cX7_readTape 36 = .ok (.aload_n 0, 1) := by decide +kernel
theorem dX7_readTape_37 : decode cX7_readTape 37 = .ok (.getfield 23, 3) := by decide +kernel
theorem dX7_readTape_40 : decode cX7_readTape 40 = .ok (.istore_n 2, 1) := by decide +kernel
theorem dX7_readTape_41 : decode cX7_readTape 41 = .ok (.aload_n 0, 1) := by decide +kernel
theorem dX7_readTape_42 : decode cX7_readTape 42 = .ok (.bipush (-10), 2) := by decide +kernel
theorem dX7_readTape_44 : decode cX7_readTape 44 = .ok (.invokevirtual 35, 3) := by decide +kernel
theorem dX7_readTape_47 : decode cX7_readTape 47 = .ok (.aload_n 0, 1) := by decide +kernel
theorem dX7_readTape_48 : decode cX7_readTape 48 = .ok (.bipush (-23), 2) := by decide +kernel
theorem dX7_readTape_50 : decode cX7_readTape 50 = .ok (.invokevirtual 39, 3) := by decide +kernel
theorem dX7_readTape_53 : decode cX7_readTape 53 = .ok (.aload_n 0, 1) := by decide +kernel
theorem dX7_readTape_54 : decode cX7_readTape 54 = .ok (.getfield 29, 3) := by decide +kernel
theorem dX7_readTape_57 : decode cX7_readTape 57 = .ok (.ifCond .lt 5, 3) := by decide +kernel
theorem dX7_readTape_60 : decode cX7_readTape 60 = .ok (.aconst_null, 1) := by decide +kernel
theorem dX7_readTape_61 : decode cX7_readTape 61 = .ok (.areturn, 1) := by decide +kernel
theorem dX7_readTape_62 : decode cX7_readTape 62 = .ok (.new 42, 3) := by decide +kernel
theorem dX7_readTape_65 : decode cX7_readTape 65 = .ok (.dup, 1) := by decide +kernel
theorem dX7_readTape_66 : decode cX7_readTape 66 = .ok (.aload_n 0, 1) := by decide +kernel
theorem dX7_readTape_67 : decode cX7_readTape 67 = .ok (.getfield 15, 3) := by decide +kernel
theorem dX7_readTape_70 : decode cX7_readTape 70 = .ok (.aload_n 0, 1) := by decide +kernel
theorem dX7_readTape_71 : decode cX7_readTape 71 = .ok (.getfield 23, 3) := by decide +kernel
theorem dX7_readTape_74 : decode cX7_readTape 74 = .ok (.invokestatic 44, 3) := by decide +kernel
theorem dX7_readTape_77 : decode cX7_readTape 77 = .ok (.iload_n 1, 1) := by decide +kernel
theorem dX7_readTape_78 : decode cX7_readTape 78 = .ok (.iload_n 2, 1) := by decide +kernel
theorem dX7_readTape_79 : decode cX7_readTape 79 = .ok (.invokespecial 50, 3) := by decide +kernel
theorem dX7_readTape_82 : decode cX7_readTape 82 = .ok (.areturn, 1) := by decide +kernel
theorem dX7_readClause_0 : decode cX7_readClause 0 = .ok (.aload_n 0, 1) := by decide +kernel
theorem dX7_readClause_1 : decode cX7_readClause 1 = .ok (.iload_n 1, 1) := by decide +kernel
theorem dX7_readClause_2 : decode cX7_readClause 2 = .ok (.invokevirtual 39, 3) := by decide +kernel
theorem dX7_readClause_5 : decode cX7_readClause 5 = .ok (.aload_n 0, 1) := by decide +kernel
theorem dX7_readClause_6 : decode cX7_readClause 6 = .ok (.iconst 0, 1) := by decide +kernel
theorem dX7_readClause_7 : decode cX7_readClause 7 = .ok (.invokevirtual 53, 3) := by decide +kernel
theorem dX7_readClause_10 : decode cX7_readClause 10 = .ok (.aload_n 0, 1) := by decide +kernel
theorem dX7_readClause_11 : decode cX7_readClause 11 = .ok (.bipush (-16), 2) := by decide +kernel
theorem dX7_readClause_13 : decode cX7_readClause 13 = .ok (.invokevirtual 39, 3) := by decide +kernel
theorem dX7_readClause_16 : decode cX7_readClause 16 = .ok (.return_, 1) := by decide +kernel
theorem dX7_readOr_0 : decode cX7_readOr 0 = .ok (.aload_n 0, 1) := by decide +kernel
theorem dX7_readOr_1 : decode cX7_readOr 1 = .ok (.iload_n 1, 1) := by decide +kernel
theorem dX7_readOr_2 : decode cX7_readOr 2 = .ok (.invokevirtual 56, 3) := by decide +kernel
theorem dX7_readOr_5 : decode cX7_readOr 5 = .ok (.iconst 0, 1) := by decide +kernel
theorem dX7_readOr_6 : decode cX7_readOr 6 = .ok (.istore_n 2, 1) := by decide +kernel
theorem dX7_readOr_7 : decode cX7_readOr 7 = .ok (.iload_n 2, 1) := by decide +kernel
theorem dX7_readOr_8 : decode cX7_readOr 8 = .ok (.sipush 160, 3) := by decide +kernel
theorem dX7_readOr_11 : decode cX7_readOr 11 = .ok (.if_icmp .ge 33, 3) := by decide +kernel
theorem dX7_readOr_14 : decode cX7_readOr 14 = .ok (.aload_n 0, 1) := by decide +kernel
theorem dX7_readOr_15 : decode cX7_readOr 15 = .ok (.getfield 59, 3) := by decide +kernel
theorem dX7_readOr_18 : decode cX7_readOr 18 = .ok (.bipush (-12), 2) := by decide +kernel
theorem dX7_readOr_20 : decode cX7_readOr 20 = .ok (.if_icmp .ne 24, 3) := by decide +kernel
theorem dX7_readOr_23 : decode cX7_readOr 23 = .ok (.aload_n 0, 1) := by decide +kernel
theorem dX7_readOr_24 : decode cX7_readOr 24 = .ok (.invokevirtual 32, 3) := by decide +kernel
theorem dX7_readOr_27 : decode cX7_readOr 27 = .ok (.aload_n 0, 1) := by decide +kernel
theorem dX7_readOr_28 : decode cX7_readOr 28 = .ok (.iload_n 1, 1) := by decide +kernel
theorem dX7_readOr_29 : decode cX7_readOr 29 = .ok (.invokevirtual 56, 3) := by decide +kernel
theorem dX7_readOr_32 : decode cX7_readOr 32 = .ok (.aload_n 0, 1) := by decide +kernel
theorem dX7_readOr_33 : decode cX7_readOr 33 = .ok (.bipush (-12), 2) := by decide +kernel
theorem dX7_readOr_35 : decode cX7_readOr 35 = .ok (.invokevirtual 62, 3) := by decide +kernel
theorem dX7_readOr_38 : decode cX7_readOr 38 = .ok (.iinc 2 1, 3) := by decide +kernel
theorem dX7_readOr_41 : decode cX7_readOr 41 = .ok (.goto (-34), 3) := by decide +kernel
theorem dX7_readOr_44 : decode cX7_readOr 44 = .ok (.return_, 1) := by decide +kernel
theorem dX7_readAnd_0 : decode cX7_readAnd 0 = .ok (.aload_n 0, 1) := by decide +kernel
theorem dX7_readAnd_1 : decode cX7_readAnd 1 = .ok (.iload_n 1, 1) := by decide +kernel
theorem dX7_readAnd_2 : decode cX7_readAnd 2 = .ok (.invokevirtual 65, 3) := by decide +kernel
theorem dX7_readAnd_5 : decode cX7_readAnd 5 = .ok (.iconst 0, 1) := by decide +kernel
theorem dX7_readAnd_6 : decode cX7_readAnd 6 = .ok (.istore_n 2, 1) := by decide +kernel
theorem dX7_readAnd_7 : decode cX7_readAnd 7 = .ok (.iload_n 2, 1) := by decide +kernel
theorem dX7_readAnd_8 : decode cX7_readAnd 8 = .ok (.sipush 160, 3) := by decide +kernel
theorem dX7_readAnd_11 : decode cX7_readAnd 11 = .ok (.if_icmp .ge 33, 3) := by decide +kernel
theorem dX7_readAnd_14 : decode cX7_readAnd 14 = .ok (.aload_n 0, 1) := by decide +kernel
theorem dX7_readAnd_15 : decode cX7_readAnd 15 = .ok (.getfield 59, 3) := by decide +kernel
theorem dX7_readAnd_18 : decode cX7_readAnd 18 = .ok (.bipush (-11), 2) := by decide +kernel
theorem dX7_readAnd_20 : decode cX7_readAnd 20 = .ok (.if_icmp .ne 24, 3) := by decide +kernel
theorem dX7_readAnd_23 : decode cX7_readAnd 23 = .ok (.aload_n 0, 1) := by decide +kernel
theorem dX7_readAnd_24 : decode cX7_readAnd 24 = .ok (.invokevirtual 32, 3) := by decide +kernel
theorem dX7_readAnd_27 : decode cX7_readAnd 27 = .ok (.aload_n 0, 1) := by decide +kernel
theorem dX7_readAnd_28 : decode cX7_readAnd 28 = .ok (.iload_n 1, 1) := by decide +kernel
theorem dX7_readAnd_29 : decode cX7_readAnd 29 = .ok (.invokevirtual 65, 3) := by decide +kernel
theorem dX7_readAnd_32 : decode cX7_readAnd 32 = .ok (.aload_n 0, 1) := by decide +kernel
theorem dX7_readAnd_33 : decode cX7_readAnd 33 = .ok (.bipush (-11), 2) := by decide +kernel
theorem dX7_readAnd_35 : decode cX7_readAnd 35 = .ok (.invokevirtual 62, 3) := by decide +kernel
theorem dX7_readAnd_38 : decode cX7_readAnd 38 = .ok (.iinc 2 1, 3) := by decide +kernel
theorem dX7_readAnd_41 : decode cX7_readAnd 41 = .ok (.goto (-34), 3) := by decide +kernel
theorem dX7_readAnd_44 : decode cX7_readAnd 44 = .ok (.return_, 1) := by decide +kernel
theorem dX7_readNot_0 : decode cX7_readNot 0 = .ok (.aload_n 0, 1) := by decide +kernel
theorem dX7_readNot_1 : decode cX7_readNot 1 = .ok (.getfield 59, 3) := by decide +kernel
theorem dX7_readNot_4 : decode cX7_readNot 4 = .ok (.bipush (-13), 2) := by decide +kernel
theorem dX7_readNot_6 : decode cX7_readNot 6 = .ok (.if_icmp .ne 31, 3) := by decide +kernel
theorem dX7_readNot_9 : decode cX7_readNot 9 = .ok (.iload_n 1, 1) := by decide +kernel
theorem dX7_readNot_10 : decode cX7_readNot 10 = .ok (.iconst 4, 1) := by decide +kernel
theorem dX7_readNot_11 : decode cX7_readNot 11 = .ok (.if_icmp .lt 8, 3) := by decide +kernel
theorem dX7_readNot_14 : decode cX7_readNot 14 = .ok (.aload_n 0, 1) := by decide +kernel
theorem dX7_readNot_15 : decode cX7_readNot 15 = .ok (.invokevirtual 68, 3) := by decide +kernel
theorem dX7_readNot_18 : decode cX7_readNot 18 = .ok (.return_, 1) := by decide +kernel
theorem dX7_readNot_19 : decode cX7_readNot 19 = .ok (.aload_n 0, 1) := by decide +kernel
theorem dX7_readNot_20 : decode cX7_readNot 20 = .ok (.invokevirtual 32, 3) := by decide +kernel
theorem dX7_readNot_23 : decode cX7_readNot 23 = .ok (.aload_n 0, 1) := by decide +kernel
theorem dX7_readNot_24 : decode cX7_readNot 24 = .ok (.iload_n 1, 1) := by decide +kernel
theorem dX7_readNot_25 : decode cX7_readNot 25 = .ok (.iconst 1, 1) := by decide +kernel
theorem dX7_readNot_26 : decode cX7_readNot 26 = .ok (.iadd, 1) := by decide +kernel
theorem dX7_readNot_27 : decode cX7_readNot 27 = .ok (.invokevirtual 65, 3) := by decide +kernel
theorem dX7_readNot_30 : decode cX7_readNot 30 = .ok (.aload_n 0, 1) := by decide +kernel
theorem dX7_readNot_31 : decode cX7_readNot 31 = .ok (.bipush (-13), 2) := by decide +kernel
theorem dX7_readNot_33 : decode cX7_readNot 33 = .ok (.invokevirtual 62, 3) := by decide +kernel
theorem dX7_readNot_36 : decode cX7_readNot 36 = .ok (.return_, 1) := by decide +kernel
theorem dX7_readNot_37 : decode cX7_readNot 37 = .ok (.aload_n 0, 1) := by decide +kernel
theorem dX7_readNot_38 : decode cX7_readNot 38 = .ok (.iload_n 1, 1) := by decide +kernel
theorem dX7_readNot_39 : decode cX7_readNot 39 = .ok (.invokevirtual 71, 3) := by decide +kernel
theorem dX7_readNot_42 : decode cX7_readNot 42 = .ok (.aload_n 0, 1) := by decide +kernel
theorem dX7_readNot_43 : decode cX7_readNot 43 = .ok (.getfield 59, 3) := by decide +kernel
theorem dX7_readNot_46 : decode cX7_readNot 46 = .ok (.bipush (-21), 2) := by decide +kernel
theorem dX7_readNot_48 : decode cX7_readNot 48 = .ok (.if_icmp .eq 12, 3) := by decide +kernel
theorem dX7_readNot_51 : decode cX7_readNot 51 = .ok (.aload_n 0, 1) := by decide +kernel
theorem dX7_readNot_52 : decode cX7_readNot 52 = .ok (.getfield 59, 3) := by decide +kernel
theorem dX7_readNot_55 : decode cX7_readNot 55 = .ok (.bipush (-22), 2) := by decide +kernel
theorem dX7_readNot_57 : decode cX7_readNot 57 = .ok (.if_icmp .ne 22, 3) := by decide +kernel
theorem dX7_readNot_60 : decode cX7_readNot 60 = .ok (.aload_n 0, 1) := by decide +kernel
theorem dX7_readNot_61 : decode cX7_readNot 61 = .ok (.getfield 59, 3) := by decide +kernel
theorem dX7_readNot_64 : decode cX7_readNot 64 = .ok (.istore_n 2, 1) := by decide +kernel
theorem dX7_readNot_65 : decode cX7_readNot 65 = .ok (.aload_n 0, 1) := by decide +kernel
theorem dX7_readNot_66 : decode cX7_readNot 66 = .ok (.invokevirtual 32, 3) := by decide +kernel
theorem dX7_readNot_69 : decode cX7_readNot 69 = .ok (.aload_n 0, 1) := by decide +kernel
theorem dX7_readNot_70 : decode cX7_readNot 70 = .ok (.iload_n 1, 1) := by decide +kernel
theorem dX7_readNot_71 : decode cX7_readNot 71 = .ok (.invokevirtual 71, 3) := by decide +kernel
theorem dX7_readNot_74 : decode cX7_readNot 74 = .ok (.aload_n 0, 1) := by decide +kernel
theorem dX7_readNot_75 : decode cX7_readNot 75 = .ok (.iload_n 2, 1) := by decide +kernel
theorem dX7_readNot_76 : decode cX7_readNot 76 = .ok (.invokevirtual 62, 3) := by decide +kernel
theorem dX7_readNot_79 : decode cX7_readNot 79 = .ok (.return_, 1) := by decide +kernel
theorem dX7_readSum_0 : decode cX7_readSum 0 = .ok (.aload_n 0, 1) := by decide +kernel
theorem dX7_readSum_1 : decode cX7_readSum 1 = .ok (.iload_n 1, 1) := by decide +kernel
theorem dX7_readSum_2 : decode cX7_readSum 2 = .ok (.invokevirtual 74, 3) := by decide +kernel
theorem dX7_readSum_5 : decode cX7_readSum 5 = .ok (.iconst 0, 1) := by decide +kernel
theorem dX7_readSum_6 : decode cX7_readSum 6 = .ok (.istore_n 2, 1) := by decide +kernel
theorem dX7_readSum_7 : decode cX7_readSum 7 = .ok (.iload_n 2, 1) := by decide +kernel
theorem dX7_readSum_8 : decode cX7_readSum 8 = .ok (.sipush 160, 3) := by decide +kernel
theorem dX7_readSum_11 : decode cX7_readSum 11 = .ok (.if_icmp .ge 46, 3) := by decide +kernel
theorem dX7_readSum_14 : decode cX7_readSum 14 = .ok (.aload_n 0, 1) := by decide +kernel
theorem dX7_readSum_15 : decode cX7_readSum 15 = .ok (.getfield 59, 3) := by decide +kernel
theorem dX7_readSum_18 : decode cX7_readSum 18 = .ok (.bipush (-17), 2) := by decide +kernel
theorem dX7_readSum_20 : decode cX7_readSum 20 = .ok (.if_icmp .eq 12, 3) := by decide +kernel
theorem dX7_readSum_23 : decode cX7_readSum 23 = .ok (.aload_n 0, 1) := by decide +kernel
theorem dX7_readSum_24 : decode cX7_readSum 24 = .ok (.getfield 59, 3) := by decide +kernel
theorem dX7_readSum_27 : decode cX7_readSum 27 = .ok (.bipush (-18), 2) := by decide +kernel
theorem dX7_readSum_29 : decode cX7_readSum 29 = .ok (.if_icmp .ne 28, 3) := by decide +kernel
theorem dX7_readSum_32 : decode cX7_readSum 32 = .ok (.aload_n 0, 1) := by decide +kernel
theorem dX7_readSum_33 : decode cX7_readSum 33 = .ok (.getfield 59, 3) := by decide +kernel
theorem dX7_readSum_36 : decode cX7_readSum 36 = .ok (.istore_n 3, 1) := by decide +kernel
theorem dX7_readSum_37 : decode cX7_readSum 37 = .ok (.aload_n 0, 1) := by decide +kernel
theorem dX7_readSum_38 : decode cX7_readSum 38 = .ok (.invokevirtual 32, 3) := by decide +kernel
theorem dX7_readSum_41 : decode cX7_readSum 41 = .ok (.aload_n 0, 1) := by decide +kernel
theorem dX7_readSum_42 : decode cX7_readSum 42 = .ok (.iload_n 1, 1) := by decide +kernel
theorem dX7_readSum_43 : decode cX7_readSum 43 = .ok (.invokevirtual 74, 3) := by decide +kernel
theorem dX7_readSum_46 : decode cX7_readSum 46 = .ok (.aload_n 0, 1) := by decide +kernel
theorem dX7_readSum_47 : decode cX7_readSum 47 = .ok (.iload_n 3, 1) := by decide +kernel
theorem dX7_readSum_48 : decode cX7_readSum 48 = .ok (.invokevirtual 62, 3) := by decide +kernel
theorem dX7_readSum_51 : decode cX7_readSum 51 = .ok (.iinc 2 1, 3) := by decide +kernel
theorem dX7_readSum_54 : decode cX7_readSum 54 = .ok (.goto (-47), 3) := by decide +kernel
theorem dX7_readSum_57 : decode cX7_readSum 57 = .ok (.return_, 1) := by decide +kernel
theorem dX7_readOne_0 : decode cX7_readOne 0 = .ok (.aload_n 0, 1) := by decide +kernel
theorem dX7_readOne_1 : decode cX7_readOne 1 = .ok (.iload_n 1, 1) := by decide +kernel
theorem dX7_readOne_2 : decode cX7_readOne 2 = .ok (.invokevirtual 77, 3) := by decide +kernel
theorem dX7_readOne_5 : decode cX7_readOne 5 = .ok (.iconst 0, 1) := by decide +kernel
theorem dX7_readOne_6 : decode cX7_readOne 6 = .ok (.istore_n 2, 1) := by decide +kernel
theorem dX7_readOne_7 : decode cX7_readOne 7 = .ok (.iload_n 2, 1) := by decide +kernel
theorem dX7_readOne_8 : decode cX7_readOne 8 = .ok (.sipush 160, 3) := by decide +kernel
theorem dX7_readOne_11 : decode cX7_readOne 11 = .ok (.if_icmp .ge 46, 3) := by decide +kernel
theorem dX7_readOne_14 : decode cX7_readOne 14 = .ok (.aload_n 0, 1) := by decide +kernel
theorem dX7_readOne_15 : decode cX7_readOne 15 = .ok (.getfield 59, 3) := by decide +kernel
theorem dX7_readOne_18 : decode cX7_readOne 18 = .ok (.bipush (-19), 2) := by decide +kernel
theorem dX7_readOne_20 : decode cX7_readOne 20 = .ok (.if_icmp .eq 12, 3) := by decide +kernel
theorem dX7_readOne_23 : decode cX7_readOne 23 = .ok (.aload_n 0, 1) := by decide +kernel
theorem dX7_readOne_24 : decode cX7_readOne 24 = .ok (.getfield 59, 3) := by decide +kernel
theorem dX7_readOne_27 : decode cX7_readOne 27 = .ok (.bipush (-20), 2) := by decide +kernel
theorem dX7_readOne_29 : decode cX7_readOne 29 = .ok (.if_icmp .ne 28, 3) := by decide +kernel
theorem dX7_readOne_32 : decode cX7_readOne 32 = .ok (.aload_n 0, 1) := by decide +kernel
theorem dX7_readOne_33 : decode cX7_readOne 33 = .ok (.getfield 59, 3) := by decide +kernel
theorem dX7_readOne_36 : decode cX7_readOne 36 = .ok (.istore_n 3, 1) := by decide +kernel
theorem dX7_readOne_37 : decode cX7_readOne 37 = .ok (.aload_n 0, 1) := by decide +kernel
theorem dX7_readOne_38 : decode cX7_readOne 38 = .ok (.invokevirtual 32, 3) := by decide +kernel
theorem dX7_readOne_41 : decode cX7_readOne 41 = .ok (.aload_n 0, 1) := by decide +kernel
theorem dX7_readOne_42 : decode cX7_readOne 42 = .ok (.iload_n 1, 1) := by decide +kernel
theorem dX7_readOne_43 : decode cX7_readOne 43 = .ok (.invokevirtual 77, 3) := by decide +kernel
theorem dX7_readOne_46 : decode cX7_readOne 46 = .ok (.aload_n 0, 1) := by decide +kernel
theorem dX7_readOne_47 : decode cX7_readOne 47 = .ok (.iload_n 3, 1) := by decide +kernel
theorem dX7_readOne_48 : decode cX7_readOne 48 = .ok (.invokevirtual 62, 3) := by decide +kernel
theorem dX7_readOne_51 : decode cX7_readOne 51 = .ok (.iinc 2 1, 3) := by decide +kernel
theorem dX7_readOne_54 : decode cX7_readOne 54 = .ok (.goto (-47), 3) := by decide +kernel
theorem dX7_readOne_57 : decode cX7_readOne 57 = .ok (.return_, 1) := by decide +kernel
theorem dX7_readValue_0 : decode cX7_readValue 0 = .ok (.aload_n 0, 1) := by decide +kernel
theorem dX7_readValue_1 : decode cX7_readValue 1 = .ok (.getfield 59, 3) := by decide +kernel
theorem dX7_readValue_4 : decode cX7_readValue 4 = .ok (.bipush (-7), 2) := by decide +kernel
theorem dX7_readValue_6 : decode cX7_readValue 6 = .ok (.if_icmp .lt 18, 3) := by decide +kernel
theorem dX7_readValue_9 : decode cX7_readValue 9 = .ok (.aload_n 0, 1) := by decide +kernel
theorem dX7_readValue_10 : decode cX7_readValue 10 = .ok (.aload_n 0, 1) := by decide +kernel
theorem dX7_readValue_11 : decode cX7_readValue 11 = .ok (.getfield 59, 3) := by decide +kernel
theorem dX7_readValue_14 : decode cX7_readValue 14 = .ok (.invokevirtual 62, 3) := by decide +kernel
theorem dX7_readValue_17 : decode cX7_readValue 17 = .ok (.aload_n 0, 1) := by decide +kernel
theorem dX7_readValue_18 : decode cX7_readValue 18 = .ok (.invokevirtual 32, 3) := by decide +kernel
theorem dX7_readValue_21 : decode cX7_readValue 21 = .ok (.goto 41, 3) := by decide +kernel
theorem dX7_readValue_24 : decode cX7_readValue 24 = .ok (.aload_n 0, 1) := by decide +kernel
theorem dX7_readValue_25 : decode cX7_readValue 25 = .ok (.getfield 59, 3) := by decide +kernel
theorem dX7_readValue_28 : decode cX7_readValue 28 = .ok (.bipush (-14), 2) := by decide +kernel
theorem dX7_readValue_30 : decode cX7_readValue 30 = .ok (.if_icmp .ne 28, 3) := by decide +kernel
theorem dX7_readValue_33 : decode cX7_readValue 33 = .ok (.iload_n 1, 1) := by decide +kernel
theorem dX7_readValue_34 : decode cX7_readValue 34 = .ok (.iconst 4, 1) := by decide +kernel
theorem dX7_readValue_35 : decode cX7_readValue 35 = .ok (.if_icmp .ge 23, 3) := by decide +kernel
theorem dX7_readValue_38 : decode cX7_readValue 38 = .ok (.aload_n 0, 1) := by decide +kernel
theorem dX7_readValue_39 : decode cX7_readValue 39 = .ok (.invokevirtual 32, 3) := by decide +kernel
theorem dX7_readValue_42 : decode cX7_readValue 42 = .ok (.aload_n 0, 1) := by decide +kernel
theorem dX7_readValue_43 : decode cX7_readValue 43 = .ok (.iload_n 1, 1) := by decide +kernel
theorem dX7_readValue_44 : decode cX7_readValue 44 = .ok (.iconst 1, 1) := by decide +kernel
theorem dX7_readValue_45 : decode cX7_readValue 45 = .ok (.iadd, 1) := by decide +kernel
theorem dX7_readValue_46 : decode cX7_readValue 46 = .ok (.invokevirtual 53, 3) := by decide +kernel
theorem dX7_readValue_49 : decode cX7_readValue 49 = .ok (.aload_n 0, 1) := by decide +kernel
theorem dX7_readValue_50 : decode cX7_readValue 50 = .ok (.bipush (-15), 2) := by decide +kernel
theorem dX7_readValue_52 : decode cX7_readValue 52 = .ok (.invokevirtual 39, 3) := by decide +kernel
theorem dX7_readValue_55 : decode cX7_readValue 55 = .ok (.goto 7, 3) := by decide +kernel
theorem dX7_readValue_58 : decode cX7_readValue 58 = .ok (.aload_n 0, 1) := by decide +kernel
theorem dX7_readValue_59 : decode cX7_readValue 59 = .ok (.invokevirtual 68, 3) := by decide +kernel
theorem dX7_readValue_62 : decode cX7_readValue 62 = .ok (.return_, 1) := by decide +kernel
theorem dX7_expect_0 : decode cX7_expect 0 = .ok (.aload_n 0, 1) := by decide +kernel
theorem dX7_expect_1 : decode cX7_expect 1 = .ok (.getfield 59, 3) := by decide +kernel
theorem dX7_expect_4 : decode cX7_expect 4 = .ok (.iload_n 1, 1) := by decide +kernel
theorem dX7_expect_5 : decode cX7_expect 5 = .ok (.if_icmp .ne 10, 3) := by decide +kernel
theorem dX7_expect_8 : decode cX7_expect 8 = .ok (.aload_n 0, 1) := by decide +kernel
theorem dX7_expect_9 : decode cX7_expect 9 = .ok (.invokevirtual 32, 3) := by decide +kernel
theorem dX7_expect_12 : decode cX7_expect 12 = .ok (.goto 7, 3) := by decide +kernel
theorem dX7_expect_15 : decode cX7_expect 15 = .ok (.aload_n 0, 1) := by decide +kernel
theorem dX7_expect_16 : decode cX7_expect 16 = .ok (.invokevirtual 68, 3) := by decide +kernel
theorem dX7_expect_19 : decode cX7_expect 19 = .ok (.return_, 1) := by decide +kernel
theorem dX7_refuse_0 : decode cX7_refuse 0 = .ok (.aload_n 0, 1) := by decide +kernel
theorem dX7_refuse_1 : decode cX7_refuse 1 = .ok (.getfield 29, 3) := by decide +kernel
theorem dX7_refuse_4 : decode cX7_refuse 4 = .ok (.ifCond .ge 11, 3) := by decide +kernel
theorem dX7_refuse_7 : decode cX7_refuse 7 = .ok (.aload_n 0, 1) := by decide +kernel
theorem dX7_refuse_8 : decode cX7_refuse 8 = .ok (.aload_n 0, 1) := by decide +kernel
theorem dX7_refuse_9 : decode cX7_refuse 9 = .ok (.getfield 80, 3) := by decide +kernel
theorem dX7_refuse_12 : decode cX7_refuse 12 = .ok (.putfield 29, 3) := by decide +kernel
theorem dX7_refuse_15 : decode cX7_refuse 15 = .ok (.aload_n 0, 1) := by decide +kernel
theorem dX7_refuse_16 : decode cX7_refuse 16 = .ok (.bipush (-24), 2) := by decide +kernel
theorem dX7_refuse_18 : decode cX7_refuse 18 = .ok (.putfield 59, 3) := by decide +kernel
theorem dX7_refuse_21 : decode cX7_refuse 21 = .ok (.return_, 1) := by decide +kernel
theorem dX7_emit_0 : decode cX7_emit 0 = .ok (.aload_n 0, 1) := by decide +kernel
theorem dX7_emit_1 : decode cX7_emit 1 = .ok (.getfield 23, 3) := by decide +kernel
theorem dX7_emit_4 : decode cX7_emit 4 = .ok (.aload_n 0, 1) := by decide +kernel
theorem dX7_emit_5 : decode cX7_emit 5 = .ok (.getfield 15, 3) := by decide +kernel
theorem dX7_emit_8 : decode cX7_emit 8 = .ok (.arraylength, 1) := by decide +kernel
theorem dX7_emit_9 : decode cX7_emit 9 = .ok (.if_icmp .ge 23, 3) := by decide +kernel
theorem dX7_emit_12 : decode cX7_emit 12 = .ok (.aload_n 0, 1) := by decide +kernel
theorem dX7_emit_13 : decode cX7_emit 13 = .ok (.getfield 15, 3) := by decide +kernel
theorem dX7_emit_16 : decode cX7_emit 16 = .ok (.aload_n 0, 1) := by decide +kernel
theorem dX7_emit_17 : decode cX7_emit 17 = .ok (.getfield 23, 3) := by decide +kernel
theorem dX7_emit_20 : decode cX7_emit 20 = .ok (.iload_n 1, 1) := by decide +kernel
theorem dX7_emit_21 : decode cX7_emit 21 = .ok (.iastore, 1) := by decide +kernel
theorem dX7_emit_22 : decode cX7_emit 22 = .ok (.aload_n 0, 1) := by decide +kernel
theorem dX7_emit_23 : decode cX7_emit 23 = .ok (.dup, 1) := by decide +kernel
theorem dX7_emit_24 : decode cX7_emit 24 = .ok (.getfield 23, 3) := by decide +kernel
theorem dX7_emit_27 : decode cX7_emit 27 = .ok (.iconst 1, 1) := by decide +kernel
theorem dX7_emit_28 : decode cX7_emit 28 = .ok (.iadd, 1) := by decide +kernel
theorem dX7_emit_29 : decode cX7_emit 29 = .ok (.putfield 23, 3) := by decide +kernel
theorem dX7_emit_32 : decode cX7_emit 32 = .ok (.return_, 1) := by decide +kernel
theorem dX7_advance_0 : decode cX7_advance 0 = .ok (.aload_n 0, 1) := by decide +kernel
theorem dX7_advance_1 : decode cX7_advance 1 = .ok (.getfield 26, 3) := by decide +kernel
theorem dX7_advance_4 : decode cX7_advance 4 = .ok (.aload_n 0, 1) := by decide +kernel
theorem dX7_advance_5 : decode cX7_advance 5 = .ok (.getfield 19, 3) := by decide +kernel
theorem dX7_advance_8 : decode cX7_advance 8 = .ok (.if_icmp .ge 30, 3) := by decide +kernel
theorem dX7_advance_11 : decode cX7_advance 11 = .ok (.aload_n 0, 1) := by decide +kernel
theorem dX7_advance_12 : decode cX7_advance 12 = .ok (.getfield 9, 3) := by decide +kernel
theorem dX7_advance_15 : decode cX7_advance 15 = .ok (.aload_n 0, 1) := by decide +kernel
theorem dX7_advance_16 : decode cX7_advance 16 = .ok (.getfield 26, 3) := by decide +kernel
theorem dX7_advance_19 : decode cX7_advance 19 = .ok (.baload, 1) := by decide +kernel
theorem dX7_advance_20 : decode cX7_advance 20 = .ok (.bipush 32, 2) := by decide +kernel
theorem dX7_advance_22 : decode cX7_advance 22 = .ok (.if_icmp .ne 16, 3) := by decide +kernel
theorem dX7_advance_25 : decode cX7_advance 25 = .ok (.aload_n 0, 1) := by decide +kernel
theorem dX7_advance_26 : decode cX7_advance 26 = .ok (.dup, 1) := by decide +kernel
theorem dX7_advance_27 : decode cX7_advance 27 = .ok (.getfield 26, 3) := by decide +kernel
theorem dX7_advance_30 : decode cX7_advance 30 = .ok (.iconst 1, 1) := by decide +kernel
theorem dX7_advance_31 : decode cX7_advance 31 = .ok (.iadd, 1) := by decide +kernel
theorem dX7_advance_32 : decode cX7_advance 32 = .ok (.putfield 26, 3) := by decide +kernel
theorem dX7_advance_35 : decode cX7_advance 35 = .ok (.goto (-35), 3) := by decide +kernel
theorem dX7_advance_38 : decode cX7_advance 38 = .ok (.aload_n 0, 1) := by decide +kernel
theorem dX7_advance_39 : decode cX7_advance 39 = .ok (.aload_n 0, 1) := by decide +kernel
theorem dX7_advance_40 : decode cX7_advance 40 = .ok (.getfield 26, 3) := by decide +kernel
theorem dX7_advance_43 : decode cX7_advance 43 = .ok (.putfield 80, 3) := by decide +kernel
theorem dX7_advance_46 : decode cX7_advance 46 = .ok (.aload_n 0, 1) := by decide +kernel
theorem dX7_advance_47 : decode cX7_advance 47 = .ok (.getfield 26, 3) := by decide +kernel
theorem dX7_advance_50 : decode cX7_advance 50 = .ok (.aload_n 0, 1) := by decide +kernel
theorem dX7_advance_51 : decode cX7_advance 51 = .ok (.getfield 19, 3) := by decide +kernel
theorem dX7_advance_54 : decode cX7_advance 54 = .ok (.if_icmp .lt 12, 3) := by decide +kernel
theorem dX7_advance_57 : decode cX7_advance 57 = .ok (.aload_n 0, 1) := by decide +kernel
theorem dX7_advance_58 : decode cX7_advance 58 = .ok (.bipush (-23), 2) := by decide +kernel
theorem dX7_advance_60 : decode cX7_advance 60 = .ok (.putfield 59, 3) := by decide +kernel
theorem dX7_advance_63 : decode cX7_advance 63 = .ok (.goto 63, 3) := by decide +kernel
theorem dX7_advance_66 : decode cX7_advance 66 = .ok (.aload_n 0, 1) := by decide +kernel
theorem dX7_advance_67 : decode cX7_advance 67 = .ok (.getfield 9, 3) := by decide +kernel
theorem dX7_advance_70 : decode cX7_advance 70 = .ok (.aload_n 0, 1) := by decide +kernel
theorem dX7_advance_71 : decode cX7_advance 71 = .ok (.getfield 26, 3) := by decide +kernel
theorem dX7_advance_74 : decode cX7_advance 74 = .ok (.baload, 1) := by decide +kernel
theorem dX7_advance_75 : decode cX7_advance 75 = .ok (.invokestatic 83, 3) := by decide +kernel
theorem dX7_advance_78 : decode cX7_advance 78 = .ok (.ifCond .eq 14, 3) := by decide +kernel
theorem dX7_advance_81 : decode cX7_advance 81 = .ok (.aload_n 0, 1) := by decide +kernel
theorem dX7_advance_82 : decode cX7_advance 82 = .ok (.aload_n 0, 1) := by decide +kernel
theorem dX7_advance_83 : decode cX7_advance 83 = .ok (.invokevirtual 87, 3) := by decide +kernel
theorem dX7_advance_86 : decode cX7_advance 86 = .ok (.putfield 59, 3) := by decide +kernel
theorem dX7_advance_89 : decode cX7_advance 89 = .ok (.goto 37, 3) := by decide +kernel
theorem dX7_advance_92 : decode cX7_advance 92 = .ok (.aload_n 0, 1) := by decide +kernel
theorem dX7_advance_93 : decode cX7_advance 93 = .ok (.getfield 9, 3) := by decide +kernel
theorem dX7_advance_96 : decode cX7_advance 96 = .ok (.aload_n 0, 1) := by decide +kernel
theorem dX7_advance_97 : decode cX7_advance 97 = .ok (.getfield 26, 3) := by decide +kernel
theorem dX7_advance_100 : decode cX7_advance 100 = .ok (.baload, 1) := by decide +kernel
theorem dX7_advance_101 : decode cX7_advance 101 = .ok (.invokestatic 91, 3) := by decide +kernel
theorem dX7_advance_104 : decode cX7_advance 104 = .ok (.ifCond .eq 14, 3) := by decide +kernel
theorem dX7_advance_107 : decode cX7_advance 107 = .ok (.aload_n 0, 1) := by decide +kernel
theorem dX7_advance_108 : decode cX7_advance 108 = .ok (.aload_n 0, 1) := by decide +kernel
theorem dX7_advance_109 : decode cX7_advance 109 = .ok (.invokevirtual 94, 3) := by decide +kernel
theorem dX7_advance_112 : decode cX7_advance 112 = .ok (.putfield 59, 3) := by decide +kernel
theorem dX7_advance_115 : decode cX7_advance 115 = .ok (.goto 11, 3) := by decide +kernel
theorem dX7_advance_118 : decode cX7_advance 118 = .ok (.aload_n 0, 1) := by decide +kernel
theorem dX7_advance_119 : decode cX7_advance 119 = .ok (.aload_n 0, 1) := by decide +kernel
theorem dX7_advance_120 : decode cX7_advance 120 = .ok (.invokevirtual 97, 3) := by decide +kernel
theorem dX7_advance_123 : decode cX7_advance 123 = .ok (.putfield 59, 3) := by decide +kernel
theorem dX7_advance_126 : decode cX7_advance 126 = .ok (.return_, 1) := by decide +kernel
theorem dX7_nextWord_0 : decode cX7_nextWord 0 = .ok (.aload_n 0, 1) := by decide +kernel
theorem dX7_nextWord_1 : decode cX7_nextWord 1 = .ok (.getfield 26, 3) := by decide +kernel
theorem dX7_nextWord_4 : decode cX7_nextWord 4 = .ok (.istore_n 1, 1) := by decide +kernel
theorem dX7_nextWord_5 : decode cX7_nextWord 5 = .ok (.aload_n 0, 1) := by decide +kernel
theorem dX7_nextWord_6 : decode cX7_nextWord 6 = .ok (.getfield 26, 3) := by decide +kernel
theorem dX7_nextWord_9 : decode cX7_nextWord 9 = .ok (.aload_n 0, 1) := by decide +kernel
theorem dX7_nextWord_10 : decode cX7_nextWord 10 = .ok (.getfield 19, 3) := by decide +kernel
theorem dX7_nextWord_13 : decode cX7_nextWord 13 = .ok (.if_icmp .ge 31, 3) := by decide +kernel
theorem dX7_nextWord_16 : decode cX7_nextWord 16 = .ok (.aload_n 0, 1) := by decide +kernel
theorem dX7_nextWord_17 : decode cX7_nextWord 17 = .ok (.getfield 9, 3) := by decide +kernel
theorem dX7_nextWord_20 : decode cX7_nextWord 20 = .ok (.aload_n 0, 1) := by decide +kernel
theorem dX7_nextWord_21 : decode cX7_nextWord 21 = .ok (.getfield 26, 3) := by decide +kernel
theorem dX7_nextWord_24 : decode cX7_nextWord 24 = .ok (.baload, 1) := by decide +kernel
theorem dX7_nextWord_25 : decode cX7_nextWord 25 = .ok (.invokestatic 83, 3) := by decide +kernel
theorem dX7_nextWord_28 : decode cX7_nextWord 28 = .ok (.ifCond .eq 16, 3) := by decide +kernel
theorem dX7_nextWord_31 : decode cX7_nextWord 31 = .ok (.aload_n 0, 1) := by decide +kernel
theorem dX7_nextWord_32 : decode cX7_nextWord 32 = .ok (.dup, 1) := by decide +kernel
theorem dX7_nextWord_33 : decode cX7_nextWord 33 = .ok (.getfield 26, 3) := by decide +kernel
theorem dX7_nextWord_36 : decode cX7_nextWord 36 = .ok (.iconst 1, 1) := by decide +kernel
theorem dX7_nextWord_37 : decode cX7_nextWord 37 = .ok (.iadd, 1) := by decide +kernel
theorem dX7_nextWord_38 : decode cX7_nextWord 38 = .ok (.putfield 26, 3) := by decide +kernel
theorem dX7_nextWord_41 : decode cX7_nextWord 41 = .ok (.goto (-36), 3) := by decide +kernel
theorem dX7_nextWord_44 : decode cX7_nextWord 44 = .ok (.iconst 0, 1) := by decide +kernel
theorem dX7_nextWord_45 : decode cX7_nextWord 45 = .ok (.istore_n 2, 1) := by decide +kernel
theorem dX7_nextWord_46 : decode cX7_nextWord 46 = .ok (.iload_n 2, 1) := by decide +kernel
theorem dX7_nextWord_47 : decode cX7_nextWord 47 = .ok (.bipush 13, 2) := by decide +kernel
theorem dX7_nextWord_49 : decode cX7_nextWord 49 = .ok (.if_icmp .ge 28, 3) := by decide +kernel
theorem dX7_nextWord_52 : decode cX7_nextWord 52 = .ok (.aload_n 0, 1) := by decide +kernel
theorem dX7_nextWord_53 : decode cX7_nextWord 53 = .ok (.iload_n 2, 1) := by decide +kernel
theorem dX7_nextWord_54 : decode cX7_nextWord 54 = .ok (.iload_n 1, 1) := by decide +kernel
theorem dX7_nextWord_55 : decode cX7_nextWord 55 = .ok (.aload_n 0, 1) := by decide +kernel
theorem dX7_nextWord_56 : decode cX7_nextWord 56 = .ok (.getfield 26, 3) := by decide +kernel
theorem dX7_nextWord_59 : decode cX7_nextWord 59 = .ok (.iload_n 1, 1) := by decide +kernel
theorem dX7_nextWord_60 : decode cX7_nextWord 60 = .ok (.isub, 1) := by decide +kernel
theorem dX7_nextWord_61 : decode cX7_nextWord 61 = .ok (.invokevirtual 100, 3) := by decide +kernel
theorem dX7_nextWord_64 : decode cX7_nextWord 64 = .ok (.ifCond .eq 7, 3) := by decide +kernel
theorem dX7_nextWord_67 : decode cX7_nextWord 67 = .ok (.iconst (-1), 1) := by decide +kernel
theorem dX7_nextWord_68 : decode cX7_nextWord 68 = .ok (.iload_n 2, 1) := by decide +kernel
theorem dX7_nextWord_69 : decode cX7_nextWord 69 = .ok (.isub, 1) := by decide +kernel
theorem dX7_nextWord_70 : decode cX7_nextWord 70 = .ok (.ireturn, 1) := by decide +kernel
theorem dX7_nextWord_71 : decode cX7_nextWord 71 = .ok (.iinc 2 1, 3) := by decide +kernel
theorem dX7_nextWord_74 : decode cX7_nextWord 74 = .ok (.goto (-28), 3) := by decide +kernel
theorem dX7_nextWord_77 : decode cX7_nextWord 77 = .ok (.bipush (-24), 2) := by decide +kernel
theorem dX7_nextWord_79 : decode cX7_nextWord 79 = .ok (.ireturn, 1) := by decide +kernel
theorem dX7_isWord_0 : decode cX7_isWord 0 = .ok (.iload_n 1, 1) := by decide +kernel
theorem dX7_isWord_1 : decode cX7_isWord 1 = .ok (.bipush 6, 2) := by decide +kernel
theorem dX7_isWord_3 : decode cX7_isWord 3 = .ok (.imul, 1) := by decide +kernel
theorem dX7_isWord_4 : decode cX7_isWord 4 = .ok (.istore 4, 2) := by decide +kernel
theorem dX7_isWord_6 : decode cX7_isWord 6 = .ok (.iload_n 3, 1) := by decide +kernel
theorem dX7_isWord_7 : decode cX7_isWord 7 = .ok (.bipush 6, 2) := by decide +kernel
theorem dX7_isWord_9 : decode cX7_isWord 9 = .ok (.if_icmp .ge 17, 3) := by decide +kernel
theorem dX7_isWord_12 : decode cX7_isWord 12 = .ok (.ldc 104, 2) := by decide +kernel
theorem dX7_isWord_14 : decode cX7_isWord 14 = .ok (.iload 4, 2) := by decide +kernel
theorem dX7_isWord_16 : decode cX7_isWord 16 = .ok (.iload_n 3, 1) := by decide +kernel
theorem dX7_isWord_17 : decode cX7_isWord 17 = .ok (.iadd, 1) := by decide +kernel
theorem dX7_isWord_18 : decode cX7_isWord 18 = .ok (.invokevirtual 106, 3) := by decide +kernel
theorem dX7_isWord_21 : decode cX7_isWord 21 = .ok (.bipush 32, 2) := by decide +kernel
theorem dX7_isWord_23 : decode cX7_isWord 23 = .ok (.if_icmp .eq 5, 3) := by decide +kernel
theorem dX7_isWord_26 : decode cX7_isWord 26 = .ok (.iconst 0, 1) := by decide +kernel
theorem dX7_isWord_27 : decode cX7_isWord 27 = .ok (.ireturn, 1) := by decide +kernel
theorem dX7_isWord_28 : decode cX7_isWord 28 = .ok (.iconst 0, 1) := by decide +kernel
theorem dX7_isWord_29 : decode cX7_isWord 29 = .ok (.istore 5, 2) := by decide +kernel
theorem dX7_isWord_31 : decode cX7_isWord 31 = .ok (.iload 5, 2) := by decide +kernel
theorem dX7_isWord_33 : decode cX7_isWord 33 = .ok (.iload_n 3, 1) := by decide +kernel
theorem dX7_isWord_34 : decode cX7_isWord 34 = .ok (.if_icmp .ge 33, 3) := by decide +kernel
theorem dX7_isWord_37 : decode cX7_isWord 37 = .ok (.ldc 104, 2) := by decide +kernel
theorem dX7_isWord_39 : decode cX7_isWord 39 = .ok (.iload 4, 2) := by decide +kernel
theorem dX7_isWord_41 : decode cX7_isWord 41 = .ok (.iload 5, 2) := by decide +kernel
theorem dX7_isWord_43 : decode cX7_isWord 43 = .ok (.iadd, 1) := by decide +kernel
theorem dX7_isWord_44 : decode cX7_isWord 44 = .ok (.invokevirtual 106, 3) := by decide +kernel
theorem dX7_isWord_47 : decode cX7_isWord 47 = .ok (.aload_n 0, 1) := by decide +kernel
theorem dX7_isWord_48 : decode cX7_isWord 48 = .ok (.getfield 9, 3) := by decide +kernel
theorem dX7_isWord_51 : decode cX7_isWord 51 = .ok (.iload_n 2, 1) := by decide +kernel
theorem dX7_isWord_52 : decode cX7_isWord 52 = .ok (.iload 5, 2) := by decide +kernel
theorem dX7_isWord_54 : decode cX7_isWord 54 = .ok (.iadd, 1) := by decide +kernel
theorem dX7_isWord_55 : decode cX7_isWord 55 = .ok (.baload, 1) := by decide +kernel
theorem dX7_isWord_56 : decode cX7_isWord 56 = .ok (.if_icmp .eq 5, 3) := by decide +kernel
theorem dX7_isWord_59 : decode cX7_isWord 59 = .ok (.iconst 0, 1) := by decide +kernel
theorem dX7_isWord_60 : decode cX7_isWord 60 = .ok (.ireturn, 1) := by decide +kernel
theorem dX7_isWord_61 : decode cX7_isWord 61 = .ok (.iinc 5 1, 3) := by decide +kernel
theorem dX7_isWord_64 : decode cX7_isWord 64 = .ok (.goto (-33), 3) := by decide +kernel
theorem dX7_isWord_67 : decode cX7_isWord 67 = .ok (.iconst 1, 1) := by decide +kernel
theorem dX7_isWord_68 : decode cX7_isWord 68 = .ok (.ireturn, 1) := by decide +kernel
theorem dX7_nextNumber_0 : decode cX7_nextNumber 0 = .ok (.aload_n 0, 1) := by decide +kernel
theorem dX7_nextNumber_1 : decode cX7_nextNumber 1 = .ok (.getfield 26, 3) := by decide +kernel
theorem dX7_nextNumber_4 : decode cX7_nextNumber 4 = .ok (.istore_n 1, 1) := by decide +kernel
theorem dX7_nextNumber_5 : decode cX7_nextNumber 5 = .ok (.iconst 0, 1) := by decide +kernel
theorem dX7_nextNumber_6 : decode cX7_nextNumber 6 = .ok (.istore_n 2, 1) := by decide +kernel
theorem dX7_nextNumber_7 : decode cX7_nextNumber 7 = .ok (.aload_n 0, 1) := by decide +kernel
theorem dX7_nextNumber_8 : decode cX7_nextNumber 8 = .ok (.getfield 26, 3) := by decide +kernel
theorem dX7_nextNumber_11 : decode cX7_nextNumber 11 = .ok (.aload_n 0, 1) := by decide +kernel
theorem dX7_nextNumber_12 : decode cX7_nextNumber 12 = .ok (.getfield 19, 3) := by decide +kernel
theorem dX7_nextNumber_15 : decode cX7_nextNumber 15 = .ok (.if_icmp .ge 60, 3) := by decide +kernel
theorem dX7_nextNumber_18 : decode cX7_nextNumber 18 = .ok (.aload_n 0, 1) := by decide +kernel
theorem dX7_nextNumber_19 : decode cX7_nextNumber 19 = .ok (.getfield 9, 3) := by decide +kernel
theorem dX7_nextNumber_22 : decode cX7_nextNumber 22 = .ok (.aload_n 0, 1) := by decide +kernel
theorem dX7_nextNumber_23 : decode cX7_nextNumber 23 = .ok (.getfield 26, 3) := by decide +kernel
theorem dX7_nextNumber_26 : decode cX7_nextNumber 26 = .ok (.baload, 1) := by decide +kernel
theorem dX7_nextNumber_27 : decode cX7_nextNumber 27 = .ok (.invokestatic 91, 3) := by decide +kernel
theorem dX7_nextNumber_30 : decode cX7_nextNumber 30 = .ok (.ifCond .eq 45, 3) := by decide +kernel
theorem dX7_nextNumber_33 : decode cX7_nextNumber 33 = .ok (.aload_n 0, 1) := by decide +kernel
theorem dX7_nextNumber_34 : decode cX7_nextNumber 34 = .ok (.getfield 26, 3) := by decide +kernel
theorem dX7_nextNumber_37 : decode cX7_nextNumber 37 = .ok (.iload_n 1, 1) := by decide +kernel
theorem dX7_nextNumber_38 : decode cX7_nextNumber 38 = .ok (.isub, 1) := by decide +kernel
theorem dX7_nextNumber_39 : decode cX7_nextNumber 39 = .ok (.bipush 6, 2) := by decide +kernel
theorem dX7_nextNumber_41 : decode cX7_nextNumber 41 = .ok (.if_icmp .ge 21, 3) := by decide +kernel
theorem dX7_nextNumber_44 : decode cX7_nextNumber 44 = .ok (.iload_n 2, 1) := by decide +kernel
theorem dX7_nextNumber_45 : decode cX7_nextNumber 45 = .ok (.bipush 10, 2) := by decide +kernel
theorem dX7_nextNumber_47 : decode cX7_nextNumber 47 = .ok (.imul, 1) := by decide +kernel
theorem dX7_nextNumber_48 : decode cX7_nextNumber 48 = .ok (.aload_n 0, 1) := by decide +kernel
theorem dX7_nextNumber_49 : decode cX7_nextNumber 49 = .ok (.getfield 9, 3) := by decide +kernel
theorem dX7_nextNumber_52 : decode cX7_nextNumber 52 = .ok (.aload_n 0, 1) := by decide +kernel
theorem dX7_nextNumber_53 : decode cX7_nextNumber 53 = .ok (.getfield 26, 3) := by decide +kernel
theorem dX7_nextNumber_56 : decode cX7_nextNumber 56 = .ok (.baload, 1) := by decide +kernel
theorem dX7_nextNumber_57 : decode cX7_nextNumber 57 = .ok (.bipush 48, 2) := by decide +kernel
theorem dX7_nextNumber_59 : decode cX7_nextNumber 59 = .ok (.isub, 1) := by decide +kernel
theorem dX7_nextNumber_60 : decode cX7_nextNumber 60 = .ok (.iadd, 1) := by decide +kernel
theorem dX7_nextNumber_61 : decode cX7_nextNumber 61 = .ok (.istore_n 2, 1) := by decide +kernel
theorem dX7_nextNumber_62 : decode cX7_nextNumber 62 = .ok (.aload_n 0, 1) := by decide +kernel
theorem dX7_nextNumber_63 : decode cX7_nextNumber 63 = .ok (.dup, 1) := by decide +kernel
theorem dX7_nextNumber_64 : decode cX7_nextNumber 64 = .ok (.getfield 26, 3) := by decide +kernel
theorem dX7_nextNumber_67 : decode cX7_nextNumber 67 = .ok (.iconst 1, 1) := by decide +kernel
theorem dX7_nextNumber_68 : decode cX7_nextNumber 68 = .ok (.iadd, 1) := by decide +kernel
theorem dX7_nextNumber_69 : decode cX7_nextNumber 69 = .ok (.putfield 26, 3) := by decide +kernel
theorem dX7_nextNumber_72 : decode cX7_nextNumber 72 = .ok (.goto (-65), 3) := by decide +kernel
theorem dX7_nextNumber_75 : decode cX7_nextNumber 75 = .ok (.aload_n 0, 1) := by decide +kernel
theorem dX7_nextNumber_76 : decode cX7_nextNumber 76 = .ok (.getfield 26, 3) := by decide +kernel
theorem dX7_nextNumber_79 : decode cX7_nextNumber 79 = .ok (.iload_n 1, 1) := by decide +kernel
theorem dX7_nextNumber_80 : decode cX7_nextNumber 80 = .ok (.isub, 1) := by decide +kernel
theorem dX7_nextNumber_81 : decode cX7_nextNumber 81 = .ok (.bipush 6, 2) := by decide +kernel
theorem dX7_nextNumber_83 : decode cX7_nextNumber 83 = .ok (.if_icmp .le 8, 3) := by decide +kernel
theorem dX7_nextNumber_86 : decode cX7_nextNumber 86 = .ok (.bipush (-24), 2) := by decide +kernel
theorem dX7_nextNumber_88 : decode cX7_nextNumber 88 = .ok (.goto 4, 3) := by decide +kernel
theorem dX7_nextNumber_91 : decode cX7_nextNumber 91 = .ok (.iload_n 2, 1) := by decide +kernel
theorem dX7_nextNumber_92 : decode cX7_nextNumber 92 = .ok (.ireturn, 1) := by decide +kernel
theorem dX7_nextSign_0 : decode cX7_nextSign 0 = .ok (.iconst 0, 1) := by decide +kernel
theorem dX7_nextSign_1 : decode cX7_nextSign 1 = .ok (.istore_n 1, 1) := by decide +kernel
theorem dX7_nextSign_2 : decode cX7_nextSign 2 = .ok (.iload_n 1, 1) := by decide +kernel
theorem dX7_nextSign_3 : decode cX7_nextSign 3 = .ok (.ldc 112, 2) := by decide +kernel
theorem dX7_nextSign_5 : decode cX7_nextSign 5 = .ok (.invokevirtual 114, 3) := by decide +kernel
theorem dX7_nextSign_8 : decode cX7_nextSign 8 = .ok (.if_icmp .ge 42, 3) := by decide +kernel
theorem dX7_nextSign_11 : decode cX7_nextSign 11 = .ok (.ldc 112, 2) := by decide +kernel
theorem dX7_nextSign_13 : decode cX7_nextSign 13 = .ok (.iload_n 1, 1) := by decide +kernel
theorem dX7_nextSign_14 : decode cX7_nextSign 14 = .ok (.invokevirtual 106, 3) := by decide +kernel
theorem dX7_nextSign_17 : decode cX7_nextSign 17 = .ok (.aload_n 0, 1) := by decide +kernel
theorem dX7_nextSign_18 : decode cX7_nextSign 18 = .ok (.getfield 9, 3) := by decide +kernel
theorem dX7_nextSign_21 : decode cX7_nextSign 21 = .ok (.aload_n 0, 1) := by decide +kernel
theorem dX7_nextSign_22 : decode cX7_nextSign 22 = .ok (.getfield 26, 3) := by decide +kernel
theorem dX7_nextSign_25 : decode cX7_nextSign 25 = .ok (.baload, 1) := by decide +kernel
theorem dX7_nextSign_26 : decode cX7_nextSign 26 = .ok (.if_icmp .ne 18, 3) := by decide +kernel
theorem dX7_nextSign_29 : decode cX7_nextSign 29 = .ok (.aload_n 0, 1) := by decide +kernel
theorem dX7_nextSign_30 : decode cX7_nextSign 30 = .ok (.dup, 1) := by decide +kernel
theorem dX7_nextSign_31 : decode cX7_nextSign 31 = .ok (.getfield 26, 3) := by decide +kernel
theorem dX7_nextSign_34 : decode cX7_nextSign 34 = .ok (.iconst 1, 1) := by decide +kernel
theorem dX7_nextSign_35 : decode cX7_nextSign 35 = .ok (.iadd, 1) := by decide +kernel
theorem dX7_nextSign_36 : decode cX7_nextSign 36 = .ok (.putfield 26, 3) := by decide +kernel
theorem dX7_nextSign_39 : decode cX7_nextSign 39 = .ok (.bipush (-14), 2) := by decide +kernel
theorem dX7_nextSign_41 : decode cX7_nextSign 41 = .ok (.iload_n 1, 1) := by decide +kernel
theorem dX7_nextSign_42 : decode cX7_nextSign 42 = .ok (.isub, 1) := by decide +kernel
theorem dX7_nextSign_43 : decode cX7_nextSign 43 = .ok (.ireturn, 1) := by decide +kernel
theorem dX7_nextSign_44 : decode cX7_nextSign 44 = .ok (.iinc 1 1, 3) := by decide +kernel
theorem dX7_nextSign_47 : decode cX7_nextSign 47 = .ok (.goto (-45), 3) := by decide +kernel
theorem dX7_nextSign_50 : decode cX7_nextSign 50 = .ok (.bipush (-24), 2) := by decide +kernel
theorem dX7_nextSign_52 : decode cX7_nextSign 52 = .ok (.ireturn, 1) := by decide +kernel
theorem dX7_isLetter_0 : decode cX7_isLetter 0 = .ok (.iload_n 0, 1) := by decide +kernel
theorem dX7_isLetter_1 : decode cX7_isLetter 1 = .ok (.bipush 97, 2) := by decide +kernel
theorem dX7_isLetter_3 : decode cX7_isLetter 3 = .ok (.if_icmp .lt 13, 3) := by decide +kernel
theorem dX7_isLetter_6 : decode cX7_isLetter 6 = .ok (.iload_n 0, 1) := by decide +kernel
theorem dX7_isLetter_7 : decode cX7_isLetter 7 = .ok (.bipush 122, 2) := by decide +kernel
theorem dX7_isLetter_9 : decode cX7_isLetter 9 = .ok (.if_icmp .gt 7, 3) := by decide +kernel
theorem dX7_isLetter_12 : decode cX7_isLetter 12 = .ok (.iconst 1, 1) := by decide +kernel
theorem dX7_isLetter_13 : decode cX7_isLetter 13 = .ok (.goto 4, 3) := by decide +kernel
theorem dX7_isLetter_16 : decode cX7_isLetter 16 = .ok (.iconst 0, 1) := by decide +kernel
theorem dX7_isLetter_17 : decode cX7_isLetter 17 = .ok (.ireturn, 1) := by decide +kernel
theorem dX7_isDigit_0 : decode cX7_isDigit 0 = .ok (.iload_n 0, 1) := by decide +kernel
theorem dX7_isDigit_1 : decode cX7_isDigit 1 = .ok (.bipush 48, 2) := by decide +kernel
theorem dX7_isDigit_3 : decode cX7_isDigit 3 = .ok (.if_icmp .lt 13, 3) := by decide +kernel
theorem dX7_isDigit_6 : decode cX7_isDigit 6 = .ok (.iload_n 0, 1) := by decide +kernel
theorem dX7_isDigit_7 : decode cX7_isDigit 7 = .ok (.bipush 57, 2) := by decide +kernel
theorem dX7_isDigit_9 : decode cX7_isDigit 9 = .ok (.if_icmp .gt 7, 3) := by decide +kernel
theorem dX7_isDigit_12 : decode cX7_isDigit 12 = .ok (.iconst 1, 1) := by decide +kernel
theorem dX7_isDigit_13 : decode cX7_isDigit 13 = .ok (.goto 4, 3) := by decide +kernel
theorem dX7_isDigit_16 : decode cX7_isDigit 16 = .ok (.iconst 0, 1) := by decide +kernel
theorem dX7_isDigit_17 : decode cX7_isDigit 17 = .ok (.ireturn, 1) := by decide +kernel
theorem dX8_init_0 : decode cX8_init 0 = .ok (.aload_n 0, 1) := by decide +kernel
theorem dX8_init_1 : decode cX8_init 1 = .ok (.invokespecial 3, 3) := by decide +kernel
theorem dX8_init_4 : decode cX8_init 4 = .ok (.aload_n 0, 1) := by decide +kernel
theorem dX8_init_5 : decode cX8_init 5 = .ok (.bipush 20, 2) := by decide +kernel
theorem dX8_init_7 : decode cX8_init 7 = .ok (.newarray .int, 2) := by decide +kernel
theorem dX8_init_9 : decode cX8_init 9 = .ok (.putfield 9, 3) := by decide +kernel
theorem dX8_init_12 : decode cX8_init 12 = .ok (.return_, 1) := by decide +kernel
theorem dX8_isMissing_0 : decode cX8_isMissing 0 = .ok (.aload_n 0, 1) := by decide +kernel
theorem dX8_isMissing_1 : decode cX8_isMissing 1 = .ok (.getfield 15, 3) := by decide +kernel
theorem dX8_isMissing_4 : decode cX8_isMissing 4 = .ok (.ifCond .ne 7, 3) := by decide +kernel
theorem dX8_isMissing_7 : decode cX8_isMissing 7 = .ok (.iconst 1, 1) := by decide +kernel
theorem dX8_isMissing_8 : decode cX8_isMissing 8 = .ok (.goto 4, 3) := by decide +kernel
theorem dX8_isMissing_11 : decode cX8_isMissing 11 = .ok (.iconst 0, 1) := by decide +kernel
theorem dX8_isMissing_12 : decode cX8_isMissing 12 = .ok (.ireturn, 1) := by decide +kernel
theorem dX8_lay_0 : decode cX8_lay 0 = .ok (.aload_n 0, 1) := by decide +kernel
theorem dX8_lay_1 : decode cX8_lay 1 = .ok (.iload_n 1, 1) := by decide +kernel
theorem dX8_lay_2 : decode cX8_lay 2 = .ok (.putfield 15, 3) := by decide +kernel
theorem dX8_lay_5 : decode cX8_lay 5 = .ok (.aload_n 0, 1) := by decide +kernel
theorem dX8_lay_6 : decode cX8_lay 6 = .ok (.iload_n 2, 1) := by decide +kernel
theorem dX8_lay_7 : decode cX8_lay 7 = .ok (.putfield 19, 3) := by decide +kernel
theorem dX8_lay_10 : decode cX8_lay 10 = .ok (.aload_n 0, 1) := by decide +kernel
theorem dX8_lay_11 : decode cX8_lay 11 = .ok (.getfield 9, 3) := by decide +kernel
theorem dX8_lay_14 : decode cX8_lay 14 = .ok (.iconst 0, 1) := by decide +kernel
theorem dX8_lay_15 : decode cX8_lay 15 = .ok (.invokestatic 22, 3) := by decide +kernel
theorem dX8_lay_18 : decode cX8_lay 18 = .ok (.return_, 1) := by decide +kernel
theorem dX8_write_0 : decode cX8_write 0 = .ok (.iload_n 1, 1) := by decide +kernel
theorem dX8_write_1 : decode cX8_write 1 = .ok (.ifCond .lt 40, 3) := by decide +kernel
theorem dX8_write_4 : decode cX8_write 4 = .ok (.iload_n 1, 1) := by decide +kernel
theorem dX8_write_5 : decode cX8_write 5 = .ok (.aload_n 0, 1) := by decide +kernel
theorem dX8_write_6 : decode cX8_write 6 = .ok (.getfield 19, 3) := by decide +kernel
theorem dX8_write_9 : decode cX8_write 9 = .ok (.if_icmp .ge 32, 3) := by decide +kernel
theorem dX8_write_12 : decode cX8_write 12 = .ok (.aload_n 0, 1) := by decide +kernel
theorem dX8_write_13 : decode cX8_write 13 = .ok (.getfield 9, 3) := by decide +kernel
theorem dX8_write_16 : decode cX8_write 16 = .ok (.iload_n 1, 1) := by decide +kernel
theorem dX8_write_17 : decode cX8_write 17 = .ok (.aload_n 0, 1) := by decide +kernel
theorem dX8_write_18 : decode cX8_write 18 = .ok (.getfield 15, 3) := by decide +kernel
theorem dX8_write_21 : decode cX8_write 21 = .ok (.bipush 32, 2) := by decide +kernel
theorem dX8_write_23 : decode cX8_write 23 = .ok (.if_icmp .ne 7, 3) := by decide +kernel
theorem dX8_write_26 : decode cX8_write 26 = .ok (.iload_n 2, 1) := by decide +kernel
theorem dX8_write_27 : decode cX8_write 27 = .ok (.goto 13, 3) := by decide +kernel
theorem dX8_write_30 : decode cX8_write 30 = .ok (.iload_n 2, 1) := by decide +kernel
theorem dX8_write_31 : decode cX8_write 31 = .ok (.iconst 1, 1) := by decide +kernel
theorem dX8_write_32 : decode cX8_write 32 = .ok (.aload_n 0, 1) := by decide +kernel
theorem dX8_write_33 : decode cX8_write 33 = .ok (.getfield 15, 3) := by decide +kernel
theorem dX8_write_36 : decode cX8_write 36 = .ok (.ishl, 1) := by decide +kernel
theorem dX8_write_37 : decode cX8_write 37 = .ok (.iconst 1, 1) := by decide +kernel
theorem dX8_write_38 : decode cX8_write 38 = .ok (.isub, 1) := by decide +kernel
theorem dX8_write_39 : decode cX8_write 39 = .ok (.iand, 1) := by decide +kernel
theorem dX8_write_40 : decode cX8_write 40 = .ok (.iastore, 1) := by decide +kernel
theorem dX8_write_41 : decode cX8_write 41 = .ok (.return_, 1) := by decide +kernel
theorem dX8_hasRun_0 : decode cX8_hasRun 0 = .ok (.iload_n 1, 1) := by decide +kernel
theorem dX8_hasRun_1 : decode cX8_hasRun 1 = .ok (.ifCond .lt 25, 3) := by decide +kernel
theorem dX8_hasRun_4 : decode cX8_hasRun 4 = .ok (.iload_n 2, 1) := by decide +kernel
theorem dX8_hasRun_5 : decode cX8_hasRun 5 = .ok (.ifCond .lt 21, 3) := by decide +kernel
theorem dX8_hasRun_8 : decode cX8_hasRun 8 = .ok (.iload_n 1, 1) := by decide +kernel
theorem dX8_hasRun_9 : decode cX8_hasRun 9 = .ok (.i2l, 1) := by decide +kernel
theorem dX8_hasRun_10 : decode cX8_hasRun 10 = .ok (.iload_n 2, 1) := by decide +kernel
theorem dX8_hasRun_11 : decode cX8_hasRun 11 = .ok (.i2l, 1) := by decide +kernel
theorem dX8_hasRun_12 : decode cX8_hasRun 12 = .ok (.ladd, 1) := by decide +kernel
theorem dX8_hasRun_13 : decode cX8_hasRun 13 = .ok (.aload_n 0, 1) := by decide +kernel
theorem dX8_hasRun_14 : decode cX8_hasRun 14 = .ok (.getfield 19, 3) := by decide +kernel
theorem dX8_hasRun_17 : decode cX8_hasRun 17 = .ok (.i2l, 1) := by decide +kernel
theorem dX8_hasRun_18 : decode cX8_hasRun 18 = .ok (.lcmp, 1) := by decide +kernel
theorem dX8_hasRun_19 : decode cX8_hasRun 19 = .ok (.ifCond .gt 7, 3) := by decide +kernel
theorem dX8_hasRun_22 : decode cX8_hasRun 22 = .ok (.iconst 1, 1) := by decide +kernel
theorem dX8_hasRun_23 : decode cX8_hasRun 23 = .ok (.goto 4, 3) := by decide +kernel
theorem dX8_hasRun_26 : decode cX8_hasRun 26 = .ok (.iconst 0, 1) := by decide +kernel
theorem dX8_hasRun_27 : decode cX8_hasRun 27 = .ok (.ireturn, 1) := by decide +kernel
theorem dX8_firstNoBit_0 : decode cX8_firstNoBit 0 = .ok (.iconst 0, 1) := by decide +kernel
theorem dX8_firstNoBit_1 : decode cX8_firstNoBit 1 = .ok (.istore_n 1, 1) := by decide +kernel
theorem dX8_firstNoBit_2 : decode cX8_firstNoBit 2 = .ok (.iload_n 1, 1) := by decide +kernel
theorem dX8_firstNoBit_3 : decode cX8_firstNoBit 3 = .ok (.aload_n 0, 1) := by decide +kernel
theorem dX8_firstNoBit_4 : decode cX8_firstNoBit 4 = .ok (.getfield 19, 3) := by decide +kernel
theorem dX8_firstNoBit_7 : decode cX8_firstNoBit 7 = .ok (.if_icmp .ge 30, 3) := by decide +kernel
theorem dX8_firstNoBit_10 : decode cX8_firstNoBit 10 = .ok (.aload_n 0, 1) := by decide +kernel
theorem dX8_firstNoBit_11 : decode cX8_firstNoBit 11 = .ok (.getfield 9, 3) := by decide +kernel
theorem dX8_firstNoBit_14 : decode cX8_firstNoBit 14 = .ok (.iload_n 1, 1) := by decide +kernel
theorem dX8_firstNoBit_15 : decode cX8_firstNoBit 15 = .ok (.iaload, 1) := by decide +kernel
theorem dX8_firstNoBit_16 : decode cX8_firstNoBit 16 = .ok (.ifCond .eq 15, 3) := by decide +kernel
theorem dX8_firstNoBit_19 : decode cX8_firstNoBit 19 = .ok (.aload_n 0, 1) := by decide +kernel
theorem dX8_firstNoBit_20 : decode cX8_firstNoBit 20 = .ok (.getfield 9, 3) := by decide +kernel
theorem dX8_firstNoBit_23 : decode cX8_firstNoBit 23 = .ok (.iload_n 1, 1) := by decide +kernel
theorem dX8_firstNoBit_24 : decode cX8_firstNoBit 24 = .ok (.iaload, 1) := by decide +kernel
theorem dX8_firstNoBit_25 : decode cX8_firstNoBit 25 = .ok (.iconst 1, 1) := by decide +kernel
theorem dX8_firstNoBit_26 : decode cX8_firstNoBit 26 = .ok (.if_icmp .eq 5, 3) := by decide +kernel
theorem dX8_firstNoBit_29 : decode cX8_firstNoBit 29 = .ok (.iload_n 1, 1) := by decide +kernel
theorem dX8_firstNoBit_30 : decode cX8_firstNoBit 30 = .ok (.ireturn, 1) := by decide +kernel
theorem dX8_firstNoBit_31 : decode cX8_firstNoBit 31 = .ok (.iinc 1 1, 3) := by decide +kernel
theorem dX8_firstNoBit_34 : decode cX8_firstNoBit 34 = .ok (.goto (-32), 3) := by decide +kernel
theorem dX8_firstNoBit_37 : decode cX8_firstNoBit 37 = .ok (.aload_n 0, 1) := by decide +kernel
theorem dX8_firstNoBit_38 : decode cX8_firstNoBit 38 = .ok (.getfield 19, 3) := by decide +kernel
theorem dX8_firstNoBit_41 : decode cX8_firstNoBit 41 = .ok (.ireturn, 1) := by decide +kernel
theorem dX9_init_0 : decode cX9_init 0 = .ok (.aload_n 0, 1) := by decide +kernel
theorem dX9_init_1 : decode cX9_init 1 = .ok (.invokespecial 3, 3) := by decide +kernel
theorem dX9_init_4 : decode cX9_init 4 = .ok (.aload_n 0, 1) := by decide +kernel
theorem dX9_init_5 : decode cX9_init 5 = .ok (.bipush 10, 2) := by decide +kernel
theorem dX9_init_7 : decode cX9_init 7 = .ok (.anewarray 9, 3) := by decide +kernel
theorem dX9_init_10 : decode cX9_init 10 = .ok (.putfield 11, 3) := by decide +kernel
theorem dX9_init_13 : decode cX9_init 13 = .ok (.aload_n 0, 1) := by decide +kernel
theorem dX9_init_14 : decode cX9_init 14 = .ok (.bipush 24, 2) := by decide +kernel
theorem dX9_init_16 : decode cX9_init 16 = .ok (.anewarray 17, 3) := by decide +kernel
theorem dX9_init_19 : decode cX9_init 19 = .ok (.putfield 19, 3) := by decide +kernel
theorem dX9_init_22 : decode cX9_init 22 = .ok (.aload_n 0, 1) := by decide +kernel
theorem dX9_init_23 : decode cX9_init 23 = .ok (.aload_n 1, 1) := by decide +kernel
theorem dX9_init_24 : decode cX9_init 24 = .ok (.putfield 23, 3) := by decide +kernel
theorem dX9_init_27 : decode cX9_init 27 = .ok (.aload_n 0, 1) := by decide +kernel
theorem dX9_init_28 : decode cX9_init 28 = .ok (.aload_n 2, 1) := by decide +kernel
theorem dX9_init_29 : decode cX9_init 29 = .ok (.putfield 27, 3) := by decide +kernel
theorem dX9_init_32 : decode cX9_init 32 = .ok (.aload_n 0, 1) := by decide +kernel
theorem dX9_init_33 : decode cX9_init 33 = .ok (.aload_n 3, 1) := by decide +kernel
theorem dX9_init_34 : decode cX9_init 34 = .ok (.putfield 31, 3) := by decide +kernel
theorem dX9_init_37 : decode cX9_init 37 = .ok (.aload_n 0, 1) := by decide +kernel
theorem dX9_init_38 : decode cX9_init 38 = .ok (.aload 4, 2) := by decide +kernel
theorem dX9_init_40 : decode cX9_init 40 = .ok (.putfield 35, 3) := by decide +kernel
theorem dX9_init_43 : decode cX9_init 43 = .ok (.iconst 0, 1) := by decide +kernel
theorem dX9_init_44 : decode cX9_init 44 = .ok (.istore 5, 2) := by decide +kernel
theorem dX9_init_46 : decode cX9_init 46 = .ok (.iload 5, 2) := by decide +kernel
theorem dX9_init_48 : decode cX9_init 48 = .ok (.bipush 10, 2) := by decide +kernel
theorem dX9_init_50 : decode cX9_init 50 = .ok (.if_icmp .ge 23, 3) := by decide +kernel
theorem dX9_init_53 : decode cX9_init 53 = .ok (.aload_n 0, 1) := by decide +kernel
theorem dX9_init_54 : decode cX9_init 54 = .ok (.getfield 11, 3) := by decide +kernel
theorem dX9_init_57 : decode cX9_init 57 = .ok (.iload 5, 2) := by decide +kernel
theorem dX9_init_59 : decode cX9_init 59 = .ok (.new 9, 3) := by decide +kernel
theorem dX9_init_62 : decode cX9_init 62 = .ok (.dup, 1) := by decide +kernel
theorem dX9_init_63 : decode cX9_init 63 = .ok (.invokespecial 39, 3) := by decide +kernel
theorem dX9_init_66 : decode cX9_init 66 = .ok (.aastore, 1) := by decide +kernel
theorem dX9_init_67 : decode cX9_init 67 = .ok (.iinc 5 1, 3) := by decide +kernel
theorem dX9_init_70 : decode cX9_init 70 = .ok (.goto (-24), 3) := by decide +kernel
theorem dX9_init_73 : decode cX9_init 73 = .ok (.iconst 0, 1) := by decide +kernel
theorem dX9_init_74 : decode cX9_init 74 = .ok (.istore 5, 2) := by decide +kernel
theorem dX9_init_76 : decode cX9_init 76 = .ok (.iload 5, 2) := by decide +kernel
theorem dX9_init_78 : decode cX9_init 78 = .ok (.bipush 24, 2) := by decide +kernel
theorem dX9_init_80 : decode cX9_init 80 = .ok (.if_icmp .ge 23, 3) := by decide +kernel
theorem dX9_init_83 : decode cX9_init 83 = .ok (.aload_n 0, 1) := by decide +kernel
theorem dX9_init_84 : decode cX9_init 84 = .ok (.getfield 19, 3) := by decide +kernel
theorem dX9_init_87 : decode cX9_init 87 = .ok (.iload 5, 2) := by decide +kernel
theorem dX9_init_89 : decode cX9_init 89 = .ok (.new 17, 3) := by decide +kernel
theorem dX9_init_92 : decode cX9_init 92 = .ok (.dup, 1) := by decide +kernel
theorem dX9_init_93 : decode cX9_init 93 = .ok (.invokespecial 40, 3) := by decide +kernel
theorem dX9_init_96 : decode cX9_init 96 = .ok (.aastore, 1) := by decide +kernel
theorem dX9_init_97 : decode cX9_init 97 = .ok (.iinc 5 1, 3) := by decide +kernel
theorem dX9_init_100 : decode cX9_init 100 = .ok (.goto (-24), 3) := by decide +kernel
theorem dX9_init_103 : decode cX9_init 103 = .ok (.return_, 1) := by decide +kernel
theorem dX9_takeMoving_0 : decode cX9_takeMoving 0 = .ok (.aload_n 0, 1) := by decide +kernel
theorem dX9_takeMoving_1 : decode cX9_takeMoving 1 = .ok (.aload_n 1, 1) := by decide +kernel
theorem dX9_takeMoving_2 : decode cX9_takeMoving 2 = .ok (.getfield 41, 3) := by decide +kernel
theorem dX9_takeMoving_5 : decode cX9_takeMoving 5 = .ok (.putfield 41, 3) := by decide +kernel
theorem dX9_takeMoving_8 : decode cX9_takeMoving 8 = .ok (.aload_n 0, 1) := by decide +kernel
theorem dX9_takeMoving_9 : decode cX9_takeMoving 9 = .ok (.aload_n 1, 1) := by decide +kernel
theorem dX9_takeMoving_10 : decode cX9_takeMoving 10 = .ok (.getfield 45, 3) := by decide +kernel
theorem dX9_takeMoving_13 : decode cX9_takeMoving 13 = .ok (.putfield 45, 3) := by decide +kernel
theorem dX9_takeMoving_16 : decode cX9_takeMoving 16 = .ok (.aload_n 0, 1) := by decide +kernel
theorem dX9_takeMoving_17 : decode cX9_takeMoving 17 = .ok (.aload_n 1, 1) := by decide +kernel
theorem dX9_takeMoving_18 : decode cX9_takeMoving 18 = .ok (.getfield 48, 3) := by decide +kernel
theorem dX9_takeMoving_21 : decode cX9_takeMoving 21 = .ok (.putfield 48, 3) := by decide +kernel
theorem dX9_takeMoving_24 : decode cX9_takeMoving 24 = .ok (.aload_n 0, 1) := by decide +kernel
theorem dX9_takeMoving_25 : decode cX9_takeMoving 25 = .ok (.aload_n 1, 1) := by decide +kernel
theorem dX9_takeMoving_26 : decode cX9_takeMoving 26 = .ok (.getfield 51, 3) := by decide +kernel
theorem dX9_takeMoving_29 : decode cX9_takeMoving 29 = .ok (.putfield 51, 3) := by decide +kernel
theorem dX9_takeMoving_32 : decode cX9_takeMoving 32 = .ok (.aload_n 0, 1) := by decide +kernel
theorem dX9_takeMoving_33 : decode cX9_takeMoving 33 = .ok (.aload_n 1, 1) := by decide +kernel
theorem dX9_takeMoving_34 : decode cX9_takeMoving 34 = .ok (.getfield 55, 3) := by decide +kernel
theorem dX9_takeMoving_37 : decode cX9_takeMoving 37 = .ok (.putfield 55, 3) := by decide +kernel
theorem dX9_takeMoving_40 : decode cX9_takeMoving 40 = .ok (.aload_n 0, 1) := by decide +kernel
theorem dX9_takeMoving_41 : decode cX9_takeMoving 41 = .ok (.aload_n 1, 1) := by decide +kernel
theorem dX9_takeMoving_42 : decode cX9_takeMoving 42 = .ok (.getfield 58, 3) := by decide +kernel
theorem dX9_takeMoving_45 : decode cX9_takeMoving 45 = .ok (.putfield 58, 3) := by decide +kernel
theorem dX9_takeMoving_48 : decode cX9_takeMoving 48 = .ok (.iconst 0, 1) := by decide +kernel
theorem dX9_takeMoving_49 : decode cX9_takeMoving 49 = .ok (.istore_n 2, 1) := by decide +kernel
theorem dX9_takeMoving_50 : decode cX9_takeMoving 50 = .ok (.iload_n 2, 1) := by decide +kernel
theorem dX9_takeMoving_51 : decode cX9_takeMoving 51 = .ok (.aload_n 0, 1) := by decide +kernel
theorem dX9_takeMoving_52 : decode cX9_takeMoving 52 = .ok (.getfield 41, 3) := by decide +kernel
theorem dX9_takeMoving_55 : decode cX9_takeMoving 55 = .ok (.if_icmp .ge 24, 3) := by decide +kernel
theorem dX9_takeMoving_58 : decode cX9_takeMoving 58 = .ok (.aload_n 0, 1) := by decide +kernel
theorem dX9_takeMoving_59 : decode cX9_takeMoving 59 = .ok (.getfield 11, 3) := by decide +kernel
theorem dX9_takeMoving_62 : decode cX9_takeMoving 62 = .ok (.iload_n 2, 1) := by decide +kernel
theorem dX9_takeMoving_63 : decode cX9_takeMoving 63 = .ok (.aaload, 1) := by decide +kernel
theorem dX9_takeMoving_64 : decode cX9_takeMoving 64 = .ok (.aload_n 1, 1) := by decide +kernel
theorem dX9_takeMoving_65 : decode cX9_takeMoving 65 = .ok (.getfield 11, 3) := by decide +kernel
theorem dX9_takeMoving_68 : decode cX9_takeMoving 68 = .ok (.iload_n 2, 1) := by decide +kernel
theorem dX9_takeMoving_69 : decode cX9_takeMoving 69 = .ok (.aaload, 1) := by decide +kernel
theorem dX9_takeMoving_70 : decode cX9_takeMoving 70 = .ok (.invokevirtual 61, 3) := by decide +kernel
theorem dX9_takeMoving_73 : decode cX9_takeMoving 73 = .ok (.iinc 2 1, 3) := by decide +kernel
theorem dX9_takeMoving_76 : decode cX9_takeMoving 76 = .ok (.goto (-26), 3) := by decide +kernel
theorem dX9_takeMoving_79 : decode cX9_takeMoving 79 = .ok (.iconst 0, 1) := by decide +kernel
theorem dX9_takeMoving_80 : decode cX9_takeMoving 80 = .ok (.istore_n 2, 1) := by decide +kernel
theorem dX9_takeMoving_81 : decode cX9_takeMoving 81 = .ok (.iload_n 2, 1) := by decide +kernel
theorem dX9_takeMoving_82 : decode cX9_takeMoving 82 = .ok (.aload_n 0, 1) := by decide +kernel
theorem dX9_takeMoving_83 : decode cX9_takeMoving 83 = .ok (.getfield 45, 3) := by decide +kernel
theorem dX9_takeMoving_86 : decode cX9_takeMoving 86 = .ok (.if_icmp .ge 24, 3) := by decide +kernel
theorem dX9_takeMoving_89 : decode cX9_takeMoving 89 = .ok (.aload_n 0, 1) := by decide +kernel
theorem dX9_takeMoving_90 : decode cX9_takeMoving 90 = .ok (.getfield 19, 3) := by decide +kernel
theorem dX9_takeMoving_93 : decode cX9_takeMoving 93 = .ok (.iload_n 2, 1) := by decide +kernel
theorem dX9_takeMoving_94 : decode cX9_takeMoving 94 = .ok (.aaload, 1) := by decide +kernel
theorem dX9_takeMoving_95 : decode cX9_takeMoving 95 = .ok (.aload_n 1, 1) := by decide +kernel
theorem dX9_takeMoving_96 : decode cX9_takeMoving 96 = .ok (.getfield 19, 3) := by decide +kernel
theorem dX9_takeMoving_99 : decode cX9_takeMoving 99 = .ok (.iload_n 2, 1) := by decide +kernel
theorem dX9_takeMoving_100 : decode cX9_takeMoving 100 = .ok (.aaload, 1) := by decide +kernel
theorem dX9_takeMoving_101 : decode cX9_takeMoving 101 = .ok (.invokevirtual 65, 3) := by decide +kernel
theorem dX9_takeMoving_104 : decode cX9_takeMoving 104 = .ok (.iinc 2 1, 3) := by decide +kernel
theorem dX9_takeMoving_107 : decode cX9_takeMoving 107 = .ok (.goto (-26), 3) := by decide +kernel
theorem dX9_takeMoving_110 : decode cX9_takeMoving 110 = .ok (.return_, 1) := by decide +kernel
theorem dX9_takeAll_0 : decode cX9_takeAll 0 = .ok (.aload_n 0, 1) := by decide +kernel
theorem dX9_takeAll_1 : decode cX9_takeAll 1 = .ok (.aload_n 1, 1) := by decide +kernel
theorem dX9_takeAll_2 : decode cX9_takeAll 2 = .ok (.invokevirtual 68, 3) := by decide +kernel
theorem dX9_takeAll_5 : decode cX9_takeAll 5 = .ok (.aload_n 0, 1) := by decide +kernel
theorem dX9_takeAll_6 : decode cX9_takeAll 6 = .ok (.getfield 23, 3) := by decide +kernel
theorem dX9_takeAll_9 : decode cX9_takeAll 9 = .ok (.aload_n 1, 1) := by decide +kernel
theorem dX9_takeAll_10 : decode cX9_takeAll 10 = .ok (.getfield 23, 3) := by decide +kernel
theorem dX9_takeAll_13 : decode cX9_takeAll 13 = .ok (.invokevirtual 72, 3) := by decide +kernel
theorem dX9_takeAll_16 : decode cX9_takeAll 16 = .ok (.aload_n 1, 1) := by decide +kernel
theorem dX9_takeAll_17 : decode cX9_takeAll 17 = .ok (.getfield 27, 3) := by decide +kernel
theorem dX9_takeAll_20 : decode cX9_takeAll 20 = .ok (.iconst 0, 1) := by decide +kernel
theorem dX9_takeAll_21 : decode cX9_takeAll 21 = .ok (.aload_n 0, 1) := by decide +kernel
theorem dX9_takeAll_22 : decode cX9_takeAll 22 = .ok (.getfield 27, 3) := by decide +kernel
theorem dX9_takeAll_25 : decode cX9_takeAll 25 = .ok (.iconst 0, 1) := by decide +kernel
theorem dX9_takeAll_26 : decode cX9_takeAll 26 = .ok (.sipush 301, 3) := by decide +kernel
theorem dX9_takeAll_29 : decode cX9_takeAll 29 = .ok (.invokestatic 77, 3) := by decide +kernel
theorem dX9_takeAll_32 : decode cX9_takeAll 32 = .ok (.return_, 1) := by decide +kernel
theorem dX9_hasPerson_0 : decode cX9_hasPerson 0 = .ok (.iload_n 1, 1) := by decide +kernel
theorem dX9_hasPerson_1 : decode cX9_hasPerson 1 = .ok (.ifCond .lt 15, 3) := by decide +kernel
theorem dX9_hasPerson_4 : decode cX9_hasPerson 4 = .ok (.iload_n 1, 1) := by decide +kernel
theorem dX9_hasPerson_5 : decode cX9_hasPerson 5 = .ok (.aload_n 0, 1) := by decide +kernel
theorem dX9_hasPerson_6 : decode cX9_hasPerson 6 = .ok (.getfield 41, 3) := by decide +kernel
theorem dX9_hasPerson_9 : decode cX9_hasPerson 9 = .ok (.if_icmp .ge 7, 3) := by decide +kernel
theorem dX9_hasPerson_12 : decode cX9_hasPerson 12 = .ok (.iconst 1, 1) := by decide +kernel
theorem dX9_hasPerson_13 : decode cX9_hasPerson 13 = .ok (.goto 4, 3) := by decide +kernel
theorem dX9_hasPerson_16 : decode cX9_hasPerson 16 = .ok (.iconst 0, 1) := by decide +kernel
theorem dX9_hasPerson_17 : decode cX9_hasPerson 17 = .ok (.ireturn, 1) := by decide +kernel
theorem dX9_hasPaper_0 : decode cX9_hasPaper 0 = .ok (.iload_n 1, 1) := by decide +kernel
theorem dX9_hasPaper_1 : decode cX9_hasPaper 1 = .ok (.ifCond .lt 15, 3) := by decide +kernel
theorem dX9_hasPaper_4 : decode cX9_hasPaper 4 = .ok (.iload_n 1, 1) := by decide +kernel
theorem dX9_hasPaper_5 : decode cX9_hasPaper 5 = .ok (.aload_n 0, 1) := by decide +kernel
theorem dX9_hasPaper_6 : decode cX9_hasPaper 6 = .ok (.getfield 45, 3) := by decide +kernel
theorem dX9_hasPaper_9 : decode cX9_hasPaper 9 = .ok (.if_icmp .ge 7, 3) := by decide +kernel
theorem dX9_hasPaper_12 : decode cX9_hasPaper 12 = .ok (.iconst 1, 1) := by decide +kernel
theorem dX9_hasPaper_13 : decode cX9_hasPaper 13 = .ok (.goto 4, 3) := by decide +kernel
theorem dX9_hasPaper_16 : decode cX9_hasPaper 16 = .ok (.iconst 0, 1) := by decide +kernel
theorem dX9_hasPaper_17 : decode cX9_hasPaper 17 = .ok (.ireturn, 1) := by decide +kernel
theorem dX9_addPerson_0 : decode cX9_addPerson 0 = .ok (.aload_n 0, 1) := by decide +kernel
theorem dX9_addPerson_1 : decode cX9_addPerson 1 = .ok (.getfield 41, 3) := by decide +kernel
theorem dX9_addPerson_4 : decode cX9_addPerson 4 = .ok (.bipush 10, 2) := by decide +kernel
theorem dX9_addPerson_6 : decode cX9_addPerson 6 = .ok (.if_icmp .lt 5, 3) := by decide +kernel
theorem dX9_addPerson_9 : decode cX9_addPerson 9 = .ok (.iconst (-1), 1) := by decide +kernel
theorem dX9_addPerson_10 : decode cX9_addPerson 10 = .ok (.ireturn, 1) := by decide +kernel
theorem dX9_addPerson_11 : decode cX9_addPerson 11 = .ok (.aload_n 0, 1) := by decide +kernel
theorem dX9_addPerson_12 : decode cX9_addPerson 12 = .ok (.getfield 11, 3) := by decide +kernel
theorem dX9_addPerson_15 : decode cX9_addPerson 15 = .ok (.aload_n 0, 1) := by decide +kernel
theorem dX9_addPerson_16 : decode cX9_addPerson 16 = .ok (.getfield 41, 3) := by decide +kernel
theorem dX9_addPerson_19 : decode cX9_addPerson 19 = .ok (.aaload, 1) := by decide +kernel
theorem dX9_addPerson_20 : decode cX9_addPerson 20 = .ok (.lload_n 1, 1) := by decide +kernel
theorem dX9_addPerson_21 : decode cX9_addPerson 21 = .ok (.iload_n 3, 1) := by decide +kernel
theorem dX9_addPerson_22 : decode cX9_addPerson 22 = .ok (.iload 4, 2) := by decide +kernel
theorem dX9_addPerson_24 : decode cX9_addPerson 24 = .ok (.invokevirtual 83, 3) := by decide +kernel
theorem dX9_addPerson_27 : decode cX9_addPerson 27 = .ok (.aload_n 0, 1) := by decide +kernel
theorem dX9_addPerson_28 : decode cX9_addPerson 28 = .ok (.dup, 1) := by decide +kernel
theorem dX9_addPerson_29 : decode cX9_addPerson 29 = .ok (.getfield 41, 3) := by decide +kernel
theorem dX9_addPerson_32 : decode cX9_addPerson 32 = .ok (.iconst 1, 1) := by decide +kernel
theorem dX9_addPerson_33 : decode cX9_addPerson 33 = .ok (.iadd, 1) := by decide +kernel
theorem dX9_addPerson_34 : decode cX9_addPerson 34 = .ok (.putfield 41, 3) := by decide +kernel
theorem dX9_addPerson_37 : decode cX9_addPerson 37 = .ok (.aload_n 0, 1) := by decide +kernel
theorem dX9_addPerson_38 : decode cX9_addPerson 38 = .ok (.getfield 41, 3) := by decide +kernel
theorem dX9_addPerson_41 : decode cX9_addPerson 41 = .ok (.iconst 1, 1) := by decide +kernel
theorem dX9_addPerson_42 : decode cX9_addPerson 42 = .ok (.isub, 1) := by decide +kernel
theorem dX9_addPerson_43 : decode cX9_addPerson 43 = .ok (.ireturn, 1) := by decide +kernel
theorem dX9_addPaper_0 : decode cX9_addPaper 0 = .ok (.aload_n 0, 1) := by decide +kernel
theorem dX9_addPaper_1 : decode cX9_addPaper 1 = .ok (.getfield 45, 3) := by decide +kernel
theorem dX9_addPaper_4 : decode cX9_addPaper 4 = .ok (.bipush 24, 2) := by decide +kernel
theorem dX9_addPaper_6 : decode cX9_addPaper 6 = .ok (.if_icmp .lt 5, 3) := by decide +kernel
theorem dX9_addPaper_9 : decode cX9_addPaper 9 = .ok (.iconst (-1), 1) := by decide +kernel
theorem dX9_addPaper_10 : decode cX9_addPaper 10 = .ok (.ireturn, 1) := by decide +kernel
theorem dX9_addPaper_11 : decode cX9_addPaper 11 = .ok (.aload_n 0, 1) := by decide +kernel
theorem dX9_addPaper_12 : decode cX9_addPaper 12 = .ok (.getfield 19, 3) := by decide +kernel
theorem dX9_addPaper_15 : decode cX9_addPaper 15 = .ok (.aload_n 0, 1) := by decide +kernel
theorem dX9_addPaper_16 : decode cX9_addPaper 16 = .ok (.getfield 45, 3) := by decide +kernel
theorem dX9_addPaper_19 : decode cX9_addPaper 19 = .ok (.aaload, 1) := by decide +kernel
theorem dX9_addPaper_20 : decode cX9_addPaper 20 = .ok (.astore 7, 2) := by decide +kernel
theorem dX9_addPaper_22 : decode cX9_addPaper 22 = .ok (.aload 7, 2) := by decide +kernel
theorem dX9_addPaper_24 : decode cX9_addPaper 24 = .ok (.iload_n 1, 1) := by decide +kernel
theorem dX9_addPaper_25 : decode cX9_addPaper 25 = .ok (.putfield 87, 3) := by decide +kernel
theorem dX9_addPaper_28 : decode cX9_addPaper 28 = .ok (.aload 7, 2) := by decide +kernel
theorem dX9_addPaper_30 : decode cX9_addPaper 30 = .ok (.iload_n 2, 1) := by decide +kernel
theorem dX9_addPaper_31 : decode cX9_addPaper 31 = .ok (.putfield 90, 3) := by decide +kernel
theorem dX9_addPaper_34 : decode cX9_addPaper 34 = .ok (.aload 7, 2) := by decide +kernel
theorem dX9_addPaper_36 : decode cX9_addPaper 36 = .ok (.iload_n 3, 1) := by decide +kernel
theorem dX9_addPaper_37 : decode cX9_addPaper 37 = .ok (.putfield 93, 3) := by decide +kernel
theorem dX9_addPaper_40 : decode cX9_addPaper 40 = .ok (.aload 7, 2) := by decide +kernel
theorem dX9_addPaper_42 : decode cX9_addPaper 42 = .ok (.lload 4, 2) := by decide +kernel
theorem dX9_addPaper_44 : decode cX9_addPaper 44 = .ok (.putfield 96, 3) := by decide +kernel
theorem dX9_addPaper_47 : decode cX9_addPaper 47 = .ok (.aload 7, 2) := by decide +kernel
theorem dX9_addPaper_49 : decode cX9_addPaper 49 = .ok (.aload_n 0, 1) := by decide +kernel
theorem dX9_addPaper_50 : decode cX9_addPaper 50 = .ok (.getfield 48, 3) := by decide +kernel
theorem dX9_addPaper_53 : decode cX9_addPaper 53 = .ok (.putfield 99, 3) := by decide +kernel
theorem dX9_addPaper_56 : decode cX9_addPaper 56 = .ok (.aload 7, 2) := by decide +kernel
theorem dX9_addPaper_58 : decode cX9_addPaper 58 = .ok (.iload 6, 2) := by decide +kernel
theorem dX9_addPaper_60 : decode cX9_addPaper 60 = .ok (.putfield 102, 3) := by decide +kernel
theorem dX9_addPaper_63 : decode cX9_addPaper 63 = .ok (.aload 7, 2) := by decide +kernel
theorem dX9_addPaper_65 : decode cX9_addPaper 65 = .ok (.iconst 0, 1) := by decide +kernel
theorem dX9_addPaper_66 : decode cX9_addPaper 66 = .ok (.putfield 105, 3) := by decide +kernel
theorem dX9_addPaper_69 : decode cX9_addPaper 69 = .ok (.aload_n 0, 1) := by decide +kernel
theorem dX9_addPaper_70 : decode cX9_addPaper 70 = .ok (.dup, 1) := by decide +kernel
theorem dX9_addPaper_71 : decode cX9_addPaper 71 = .ok (.getfield 45, 3) := by decide +kernel
theorem dX9_addPaper_74 : decode cX9_addPaper 74 = .ok (.iconst 1, 1) := by decide +kernel
theorem dX9_addPaper_75 : decode cX9_addPaper 75 = .ok (.iadd, 1) := by decide +kernel
theorem dX9_addPaper_76 : decode cX9_addPaper 76 = .ok (.putfield 45, 3) := by decide +kernel
theorem dX9_addPaper_79 : decode cX9_addPaper 79 = .ok (.aload_n 0, 1) := by decide +kernel
theorem dX9_addPaper_80 : decode cX9_addPaper 80 = .ok (.getfield 45, 3) := by decide +kernel
theorem dX9_addPaper_83 : decode cX9_addPaper 83 = .ok (.iconst 1, 1) := by decide +kernel
theorem dX9_addPaper_84 : decode cX9_addPaper 84 = .ok (.isub, 1) := by decide +kernel
theorem dX9_addPaper_85 : decode cX9_addPaper 85 = .ok (.ireturn, 1) := by decide +kernel
theorem dX9_priceOn_0 : decode cX9_priceOn 0 = .ok (.iload_n 1, 1) := by decide +kernel
theorem dX9_priceOn_1 : decode cX9_priceOn 1 = .ok (.ifCond .lt 30, 3) := by decide +kernel
theorem dX9_priceOn_4 : decode cX9_priceOn 4 = .ok (.iload_n 1, 1) := by decide +kernel
theorem dX9_priceOn_5 : decode cX9_priceOn 5 = .ok (.sipush 300, 3) := by decide +kernel
theorem dX9_priceOn_8 : decode cX9_priceOn 8 = .ok (.if_icmp .gt 23, 3) := by decide +kernel
theorem dX9_priceOn_11 : decode cX9_priceOn 11 = .ok (.aload_n 0, 1) := by decide +kernel
theorem dX9_priceOn_12 : decode cX9_priceOn 12 = .ok (.getfield 27, 3) := by decide +kernel
theorem dX9_priceOn_15 : decode cX9_priceOn 15 = .ok (.iload_n 1, 1) := by decide +kernel
theorem dX9_priceOn_16 : decode cX9_priceOn 16 = .ok (.laload, 1) := by decide +kernel
theorem dX9_priceOn_17 : decode cX9_priceOn 17 = .ok (.lconst 1, 1) := by decide +kernel
theorem dX9_priceOn_18 : decode cX9_priceOn 18 = .ok (.lcmp, 1) := by decide +kernel
theorem dX9_priceOn_19 : decode cX9_priceOn 19 = .ok (.ifCond .le 12, 3) := by decide +kernel
theorem dX9_priceOn_22 : decode cX9_priceOn 22 = .ok (.aload_n 0, 1) := by decide +kernel
theorem dX9_priceOn_23 : decode cX9_priceOn 23 = .ok (.getfield 27, 3) := by decide +kernel
theorem dX9_priceOn_26 : decode cX9_priceOn 26 = .ok (.iload_n 1, 1) := by decide +kernel
theorem dX9_priceOn_27 : decode cX9_priceOn 27 = .ok (.laload, 1) := by decide +kernel
theorem dX9_priceOn_28 : decode cX9_priceOn 28 = .ok (.goto 4, 3) := by decide +kernel
theorem dX9_priceOn_31 : decode cX9_priceOn 31 = .ok (.lconst 1, 1) := by decide +kernel
theorem dX9_priceOn_32 : decode cX9_priceOn 32 = .ok (.lreturn, 1) := by decide +kernel
theorem dX9_credit_0 : decode cX9_credit 0 = .ok (.aload_n 1, 1) := by decide +kernel
theorem dX9_credit_1 : decode cX9_credit 1 = .ok (.dup, 1) := by decide +kernel
theorem dX9_credit_2 : decode cX9_credit 2 = .ok (.getfield 107, 3) := by decide +kernel
theorem dX9_credit_5 : decode cX9_credit 5 = .ok (.lload_n 2, 1) := by decide +kernel
theorem dX9_credit_6 : decode cX9_credit 6 = .ok (.ladd, 1) := by decide +kernel
theorem dX9_credit_7 : decode cX9_credit 7 = .ok (.putfield 107, 3) := by decide +kernel
theorem dX9_credit_10 : decode cX9_credit 10 = .ok (.aload_n 1, 1) := by decide +kernel
theorem dX9_credit_11 : decode cX9_credit 11 = .ok (.getfield 107, 3) := by decide +kernel
theorem dX9_credit_14 : decode cX9_credit 14 = .ok (.ldc2_w 110, 3) := by decide +kernel
theorem dX9_credit_17 : decode cX9_credit 17 = .ok (.lcmp, 1) := by decide +kernel
theorem dX9_credit_18 : decode cX9_credit 18 = .ok (.ifCond .le 27, 3) := by decide +kernel
theorem dX9_credit_21 : decode cX9_credit 21 = .ok (.aload_n 0, 1) := by decide +kernel
theorem dX9_credit_22 : decode cX9_credit 22 = .ok (.dup, 1) := by decide +kernel
theorem dX9_credit_23 : decode cX9_credit 23 = .ok (.getfield 58, 3) := by decide +kernel
theorem dX9_credit_26 : decode cX9_credit 26 = .ok (.aload_n 1, 1) := by decide +kernel
theorem dX9_credit_27 : decode cX9_credit 27 = .ok (.getfield 107, 3) := by decide +kernel
theorem dX9_credit_30 : decode cX9_credit 30 = .ok (.ldc2_w 110, 3) := by decide +kernel
theorem dX9_credit_33 : decode cX9_credit 33 = .ok (.lsub, 1) := by decide +kernel
theorem dX9_credit_34 : decode cX9_credit 34 = .ok (.ladd, 1) := by decide +kernel
theorem dX9_credit_35 : decode cX9_credit 35 = .ok (.putfield 58, 3) := by decide +kernel
theorem dX9_credit_38 : decode cX9_credit 38 = .ok (.aload_n 1, 1) := by decide +kernel
theorem dX9_credit_39 : decode cX9_credit 39 = .ok (.ldc2_w 110, 3) := by decide +kernel
theorem dX9_credit_42 : decode cX9_credit 42 = .ok (.putfield 107, 3) := by decide +kernel
theorem dX9_credit_45 : decode cX9_credit 45 = .ok (.return_, 1) := by decide +kernel
theorem dX9_creditState_0 : decode cX9_creditState 0 = .ok (.aload_n 0, 1) := by decide +kernel
theorem dX9_creditState_1 : decode cX9_creditState 1 = .ok (.dup, 1) := by decide +kernel
theorem dX9_creditState_2 : decode cX9_creditState 2 = .ok (.getfield 51, 3) := by decide +kernel
theorem dX9_creditState_5 : decode cX9_creditState 5 = .ok (.lload_n 1, 1) := by decide +kernel
theorem dX9_creditState_6 : decode cX9_creditState 6 = .ok (.ladd, 1) := by decide +kernel
theorem dX9_creditState_7 : decode cX9_creditState 7 = .ok (.putfield 51, 3) := by decide +kernel
theorem dX9_creditState_10 : decode cX9_creditState 10 = .ok (.aload_n 0, 1) := by decide +kernel
theorem dX9_creditState_11 : decode cX9_creditState 11 = .ok (.getfield 51, 3) := by decide +kernel
theorem dX9_creditState_14 : decode cX9_creditState 14 = .ok (.ldc2_w 110, 3) := by decide +kernel
theorem dX9_creditState_17 : decode cX9_creditState 17 = .ok (.lcmp, 1) := by decide +kernel
theorem dX9_creditState_18 : decode cX9_creditState 18 = .ok (.ifCond .le 27, 3) := by decide +kernel
theorem dX9_creditState_21 : decode cX9_creditState 21 = .ok (.aload_n 0, 1) := by decide +kernel
theorem dX9_creditState_22 : decode cX9_creditState 22 = .ok (.dup, 1) := by decide +kernel
theorem dX9_creditState_23 : decode cX9_creditState 23 = .ok (.getfield 58, 3) := by decide +kernel
theorem dX9_creditState_26 : decode cX9_creditState 26 = .ok (.aload_n 0, 1) := by decide +kernel
theorem dX9_creditState_27 : decode cX9_creditState 27 = .ok (.getfield 51, 3) := by decide +kernel
theorem dX9_creditState_30 : decode cX9_creditState 30 = .ok (.ldc2_w 110, 3) := by decide +kernel
theorem dX9_creditState_33 : decode cX9_creditState 33 = .ok (.lsub, 1) := by decide +kernel
theorem dX9_creditState_34 : decode cX9_creditState 34 = .ok (.ladd, 1) := by decide +kernel
theorem dX9_creditState_35 : decode cX9_creditState 35 = .ok (.putfield 58, 3) := by decide +kernel
theorem dX9_creditState_38 : decode cX9_creditState 38 = .ok (.aload_n 0, 1) := by decide +kernel
theorem dX9_creditState_39 : decode cX9_creditState 39 = .ok (.ldc2_w 110, 3) := by decide +kernel
theorem dX9_creditState_42 : decode cX9_creditState 42 = .ok (.putfield 51, 3) := by decide +kernel
theorem dX9_creditState_45 : decode cX9_creditState 45 = .ok (.return_, 1) := by decide +kernel
theorem dX9_handOver_0 : decode cX9_handOver 0 = .ok (.aload_n 0, 1) := by decide +kernel
theorem dX9_handOver_1 : decode cX9_handOver 1 = .ok (.aload_n 1, 1) := by decide +kernel
theorem dX9_handOver_2 : decode cX9_handOver 2 = .ok (.getfield 90, 3) := by decide +kernel
theorem dX9_handOver_5 : decode cX9_handOver 5 = .ok (.invokevirtual 112, 3) := by decide +kernel
theorem dX9_handOver_8 : decode cX9_handOver 8 = .ok (.ifCond .eq 46, 3) := by decide +kernel
theorem dX9_handOver_11 : decode cX9_handOver 11 = .ok (.aload_n 0, 1) := by decide +kernel
theorem dX9_handOver_12 : decode cX9_handOver 12 = .ok (.aload_n 1, 1) := by decide +kernel
theorem dX9_handOver_13 : decode cX9_handOver 13 = .ok (.getfield 93, 3) := by decide +kernel
theorem dX9_handOver_16 : decode cX9_handOver 16 = .ok (.invokevirtual 112, 3) := by decide +kernel
theorem dX9_handOver_19 : decode cX9_handOver 19 = .ok (.ifCond .eq 35, 3) := by decide +kernel
theorem dX9_handOver_22 : decode cX9_handOver 22 = .ok (.aload_n 0, 1) := by decide +kernel
theorem dX9_handOver_23 : decode cX9_handOver 23 = .ok (.getfield 11, 3) := by decide +kernel
theorem dX9_handOver_26 : decode cX9_handOver 26 = .ok (.aload_n 1, 1) := by decide +kernel
theorem dX9_handOver_27 : decode cX9_handOver 27 = .ok (.getfield 90, 3) := by decide +kernel
theorem dX9_handOver_30 : decode cX9_handOver 30 = .ok (.aaload, 1) := by decide +kernel
theorem dX9_handOver_31 : decode cX9_handOver 31 = .ok (.dup, 1) := by decide +kernel
theorem dX9_handOver_32 : decode cX9_handOver 32 = .ok (.getfield 107, 3) := by decide +kernel
theorem dX9_handOver_35 : decode cX9_handOver 35 = .ok (.lload_n 2, 1) := by decide +kernel
theorem dX9_handOver_36 : decode cX9_handOver 36 = .ok (.lsub, 1) := by decide +kernel
theorem dX9_handOver_37 : decode cX9_handOver 37 = .ok (.putfield 107, 3) := by decide +kernel
theorem dX9_handOver_40 : decode cX9_handOver 40 = .ok (.aload_n 0, 1) := by decide +kernel
theorem dX9_handOver_41 : decode cX9_handOver 41 = .ok (.aload_n 0, 1) := by decide +kernel
theorem dX9_handOver_42 : decode cX9_handOver 42 = .ok (.getfield 11, 3) := by decide +kernel
theorem dX9_handOver_45 : decode cX9_handOver 45 = .ok (.aload_n 1, 1) := by decide +kernel
theorem dX9_handOver_46 : decode cX9_handOver 46 = .ok (.getfield 93, 3) := by decide +kernel
theorem dX9_handOver_49 : decode cX9_handOver 49 = .ok (.aaload, 1) := by decide +kernel
theorem dX9_handOver_50 : decode cX9_handOver 50 = .ok (.lload_n 2, 1) := by decide +kernel
theorem dX9_handOver_51 : decode cX9_handOver 51 = .ok (.invokevirtual 116, 3) := by decide +kernel
theorem dX9_handOver_54 : decode cX9_handOver 54 = .ok (.return_, 1) := by decide +kernel
theorem dX9_closePaid_0 : decode cX9_closePaid 0 = .ok (.aload_n 1, 1) := by decide +kernel
theorem dX9_closePaid_1 : decode cX9_closePaid 1 = .ok (.iconst 1, 1) := by decide +kernel
theorem dX9_closePaid_2 : decode cX9_closePaid 2 = .ok (.putfield 105, 3) := by decide +kernel
theorem dX9_closePaid_5 : decode cX9_closePaid 5 = .ok (.aload_n 1, 1) := by decide +kernel
theorem dX9_closePaid_6 : decode cX9_closePaid 6 = .ok (.invokevirtual 120, 3) := by decide +kernel
theorem dX9_closePaid_9 : decode cX9_closePaid 9 = .ok (.ifCond .eq 89, 3) := by decide +kernel
theorem dX9_closePaid_12 : decode cX9_closePaid 12 = .ok (.aload_n 0, 1) := by decide +kernel
theorem dX9_closePaid_13 : decode cX9_closePaid 13 = .ok (.aload_n 1, 1) := by decide +kernel
theorem dX9_closePaid_14 : decode cX9_closePaid 14 = .ok (.getfield 90, 3) := by decide +kernel
theorem dX9_closePaid_17 : decode cX9_closePaid 17 = .ok (.invokevirtual 112, 3) := by decide +kernel
theorem dX9_closePaid_20 : decode cX9_closePaid 20 = .ok (.ifCond .eq 78, 3) := by decide +kernel
theorem dX9_closePaid_23 : decode cX9_closePaid 23 = .ok (.aload_n 0, 1) := by decide +kernel
theorem dX9_closePaid_24 : decode cX9_closePaid 24 = .ok (.aload_n 1, 1) := by decide +kernel
theorem dX9_closePaid_25 : decode cX9_closePaid 25 = .ok (.getfield 93, 3) := by decide +kernel
theorem dX9_closePaid_28 : decode cX9_closePaid 28 = .ok (.invokevirtual 112, 3) := by decide +kernel
theorem dX9_closePaid_31 : decode cX9_closePaid 31 = .ok (.ifCond .eq 67, 3) := by decide +kernel
theorem dX9_closePaid_34 : decode cX9_closePaid 34 = .ok (.aload_n 1, 1) := by decide +kernel
theorem dX9_closePaid_35 : decode cX9_closePaid 35 = .ok (.getfield 96, 3) := by decide +kernel
theorem dX9_closePaid_38 : decode cX9_closePaid 38 = .ok (.aload_n 0, 1) := by decide +kernel
theorem dX9_closePaid_39 : decode cX9_closePaid 39 = .ok (.aload_n 1, 1) := by decide +kernel
theorem dX9_closePaid_40 : decode cX9_closePaid 40 = .ok (.getfield 99, 3) := by decide +kernel
theorem dX9_closePaid_43 : decode cX9_closePaid 43 = .ok (.invokevirtual 124, 3) := by decide +kernel
theorem dX9_closePaid_46 : decode cX9_closePaid 46 = .ok (.ldiv, 1) := by decide +kernel
theorem dX9_closePaid_47 : decode cX9_closePaid 47 = .ok (.lload_n 2, 1) := by decide +kernel
theorem dX9_closePaid_48 : decode cX9_closePaid 48 = .ok (.aload_n 0, 1) := by decide +kernel
theorem dX9_closePaid_49 : decode cX9_closePaid 49 = .ok (.aload_n 0, 1) := by decide +kernel
theorem dX9_closePaid_50 : decode cX9_closePaid 50 = .ok (.getfield 48, 3) := by decide +kernel
theorem dX9_closePaid_53 : decode cX9_closePaid 53 = .ok (.invokevirtual 124, 3) := by decide +kernel
theorem dX9_closePaid_56 : decode cX9_closePaid 56 = .ok (.ldiv, 1) := by decide +kernel
theorem dX9_closePaid_57 : decode cX9_closePaid 57 = .ok (.lsub, 1) := by decide +kernel
theorem dX9_closePaid_58 : decode cX9_closePaid 58 = .ok (.lstore 4, 2) := by decide +kernel
theorem dX9_closePaid_60 : decode cX9_closePaid 60 = .ok (.aload_n 0, 1) := by decide +kernel
theorem dX9_closePaid_61 : decode cX9_closePaid 61 = .ok (.getfield 11, 3) := by decide +kernel
theorem dX9_closePaid_64 : decode cX9_closePaid 64 = .ok (.aload_n 1, 1) := by decide +kernel
theorem dX9_closePaid_65 : decode cX9_closePaid 65 = .ok (.getfield 90, 3) := by decide +kernel
theorem dX9_closePaid_68 : decode cX9_closePaid 68 = .ok (.aaload, 1) := by decide +kernel
theorem dX9_closePaid_69 : decode cX9_closePaid 69 = .ok (.dup, 1) := by decide +kernel
theorem dX9_closePaid_70 : decode cX9_closePaid 70 = .ok (.getfield 128, 3) := by decide +kernel
theorem dX9_closePaid_73 : decode cX9_closePaid 73 = .ok (.lload 4, 2) := by decide +kernel
theorem dX9_closePaid_75 : decode cX9_closePaid 75 = .ok (.ladd, 1) := by decide +kernel
theorem dX9_closePaid_76 : decode cX9_closePaid 76 = .ok (.putfield 128, 3) := by decide +kernel
theorem dX9_closePaid_79 : decode cX9_closePaid 79 = .ok (.aload_n 0, 1) := by decide +kernel
theorem dX9_closePaid_80 : decode cX9_closePaid 80 = .ok (.getfield 11, 3) := by decide +kernel
theorem dX9_closePaid_83 : decode cX9_closePaid 83 = .ok (.aload_n 1, 1) := by decide +kernel
theorem dX9_closePaid_84 : decode cX9_closePaid 84 = .ok (.getfield 93, 3) := by decide +kernel
theorem dX9_closePaid_87 : decode cX9_closePaid 87 = .ok (.aaload, 1) := by decide +kernel
theorem dX9_closePaid_88 : decode cX9_closePaid 88 = .ok (.dup, 1) := by decide +kernel
theorem dX9_closePaid_89 : decode cX9_closePaid 89 = .ok (.getfield 131, 3) := by decide +kernel
theorem dX9_closePaid_92 : decode cX9_closePaid 92 = .ok (.lload 4, 2) := by decide +kernel
theorem dX9_closePaid_94 : decode cX9_closePaid 94 = .ok (.ladd, 1) := by decide +kernel
theorem dX9_closePaid_95 : decode cX9_closePaid 95 = .ok (.putfield 131, 3) := by decide +kernel
theorem dX9_closePaid_98 : decode cX9_closePaid 98 = .ok (.return_, 1) := by decide +kernel
theorem dX9_isThin_0 : decode cX9_isThin 0 = .ok (.lconst 0, 1) := by decide +kernel
theorem dX9_isThin_1 : decode cX9_isThin 1 = .ok (.lstore_n 2, 1) := by decide +kernel
theorem dX9_isThin_2 : decode cX9_isThin 2 = .ok (.iconst 0, 1) := by decide +kernel
theorem dX9_isThin_3 : decode cX9_isThin 3 = .ok (.istore 4, 2) := by decide +kernel
theorem dX9_isThin_5 : decode cX9_isThin 5 = .ok (.iload 4, 2) := by decide +kernel
theorem dX9_isThin_7 : decode cX9_isThin 7 = .ok (.aload_n 0, 1) := by decide +kernel
theorem dX9_isThin_8 : decode cX9_isThin 8 = .ok (.getfield 45, 3) := by decide +kernel
theorem dX9_isThin_11 : decode cX9_isThin 11 = .ok (.if_icmp .ge 52, 3) := by decide +kernel
theorem dX9_isThin_14 : decode cX9_isThin 14 = .ok (.aload_n 0, 1) := by decide +kernel
theorem dX9_isThin_15 : decode cX9_isThin 15 = .ok (.getfield 19, 3) := by decide +kernel
theorem dX9_isThin_18 : decode cX9_isThin 18 = .ok (.iload 4, 2) := by decide +kernel
theorem dX9_isThin_20 : decode cX9_isThin 20 = .ok (.aaload, 1) := by decide +kernel
theorem dX9_isThin_21 : decode cX9_isThin 21 = .ok (.astore 5, 2) := by decide +kernel
theorem dX9_isThin_23 : decode cX9_isThin 23 = .ok (.aload 5, 2) := by decide +kernel
theorem dX9_isThin_25 : decode cX9_isThin 25 = .ok (.getfield 87, 3) := by decide +kernel
theorem dX9_isThin_28 : decode cX9_isThin 28 = .ok (.iconst 5, 1) := by decide +kernel
theorem dX9_isThin_29 : decode cX9_isThin 29 = .ok (.if_icmp .ne 28, 3) := by decide +kernel
theorem dX9_isThin_32 : decode cX9_isThin 32 = .ok (.aload 5, 2) := by decide +kernel
theorem dX9_isThin_34 : decode cX9_isThin 34 = .ok (.invokevirtual 134, 3) := by decide +kernel
theorem dX9_isThin_37 : decode cX9_isThin 37 = .ok (.ifCond .eq 20, 3) := by decide +kernel
theorem dX9_isThin_40 : decode cX9_isThin 40 = .ok (.aload 5, 2) := by decide +kernel
theorem dX9_isThin_42 : decode cX9_isThin 42 = .ok (.getfield 90, 3) := by decide +kernel
theorem dX9_isThin_45 : decode cX9_isThin 45 = .ok (.iload_n 1, 1) := by decide +kernel
theorem dX9_isThin_46 : decode cX9_isThin 46 = .ok (.if_icmp .ne 11, 3) := by decide +kernel
theorem dX9_isThin_49 : decode cX9_isThin 49 = .ok (.lload_n 2, 1) := by decide +kernel
theorem dX9_isThin_50 : decode cX9_isThin 50 = .ok (.aload 5, 2) := by decide +kernel
theorem dX9_isThin_52 : decode cX9_isThin 52 = .ok (.getfield 96, 3) := by decide +kernel
theorem dX9_isThin_55 : decode cX9_isThin 55 = .ok (.ladd, 1) := by decide +kernel
theorem dX9_isThin_56 : decode cX9_isThin 56 = .ok (.lstore_n 2, 1) := by decide +kernel
theorem dX9_isThin_57 : decode cX9_isThin 57 = .ok (.iinc 4 1, 3) := by decide +kernel
theorem dX9_isThin_60 : decode cX9_isThin 60 = .ok (.goto (-55), 3) := by decide +kernel
theorem dX9_isThin_63 : decode cX9_isThin 63 = .ok (.lload_n 2, 1) := by decide +kernel
theorem dX9_isThin_64 : decode cX9_isThin 64 = .ok (.aload_n 0, 1) := by decide +kernel
theorem dX9_isThin_65 : decode cX9_isThin 65 = .ok (.getfield 11, 3) := by decide +kernel
theorem dX9_isThin_68 : decode cX9_isThin 68 = .ok (.iload_n 1, 1) := by decide +kernel
theorem dX9_isThin_69 : decode cX9_isThin 69 = .ok (.aaload, 1) := by decide +kernel
theorem dX9_isThin_70 : decode cX9_isThin 70 = .ok (.getfield 107, 3) := by decide +kernel
theorem dX9_isThin_73 : decode cX9_isThin 73 = .ok (.lcmp, 1) := by decide +kernel
theorem dX9_isThin_74 : decode cX9_isThin 74 = .ok (.ifCond .le 7, 3) := by decide +kernel
theorem dX9_isThin_77 : decode cX9_isThin 77 = .ok (.iconst 1, 1) := by decide +kernel
theorem dX9_isThin_78 : decode cX9_isThin 78 = .ok (.goto 4, 3) := by decide +kernel
theorem dX9_isThin_81 : decode cX9_isThin 81 = .ok (.iconst 0, 1) := by decide +kernel
theorem dX9_isThin_82 : decode cX9_isThin 82 = .ok (.ireturn, 1) := by decide +kernel
theorem dX9_keepsBack_0 : decode cX9_keepsBack 0 = .ok (.aload_n 0, 1) := by decide +kernel
theorem dX9_keepsBack_1 : decode cX9_keepsBack 1 = .ok (.getfield 48, 3) := by decide +kernel
theorem dX9_keepsBack_4 : decode cX9_keepsBack 4 = .ok (.ifCond .le 42, 3) := by decide +kernel
theorem dX9_keepsBack_7 : decode cX9_keepsBack 7 = .ok (.ldc2_w 137, 3) := by decide +kernel
theorem dX9_keepsBack_10 : decode cX9_keepsBack 10 = .ok (.aload_n 0, 1) := by decide +kernel
theorem dX9_keepsBack_11 : decode cX9_keepsBack 11 = .ok (.aload_n 0, 1) := by decide +kernel
theorem dX9_keepsBack_12 : decode cX9_keepsBack 12 = .ok (.getfield 48, 3) := by decide +kernel
theorem dX9_keepsBack_15 : decode cX9_keepsBack 15 = .ok (.invokevirtual 124, 3) := by decide +kernel
theorem dX9_keepsBack_18 : decode cX9_keepsBack 18 = .ok (.lmul, 1) := by decide +kernel
theorem dX9_keepsBack_19 : decode cX9_keepsBack 19 = .ok (.bipush 100, 2) := by decide +kernel
theorem dX9_keepsBack_21 : decode cX9_keepsBack 21 = .ok (.aload_n 1, 1) := by decide +kernel
theorem dX9_keepsBack_22 : decode cX9_keepsBack 22 = .ok (.getfield 139, 3) := by decide +kernel
theorem dX9_keepsBack_25 : decode cX9_keepsBack 25 = .ok (.iadd, 1) := by decide +kernel
theorem dX9_keepsBack_26 : decode cX9_keepsBack 26 = .ok (.i2l, 1) := by decide +kernel
theorem dX9_keepsBack_27 : decode cX9_keepsBack 27 = .ok (.aload_n 0, 1) := by decide +kernel
theorem dX9_keepsBack_28 : decode cX9_keepsBack 28 = .ok (.aload_n 0, 1) := by decide +kernel
theorem dX9_keepsBack_29 : decode cX9_keepsBack 29 = .ok (.getfield 48, 3) := by decide +kernel
theorem dX9_keepsBack_32 : decode cX9_keepsBack 32 = .ok (.iconst 1, 1) := by decide +kernel
theorem dX9_keepsBack_33 : decode cX9_keepsBack 33 = .ok (.isub, 1) := by decide +kernel
theorem dX9_keepsBack_34 : decode cX9_keepsBack 34 = .ok (.invokevirtual 124, 3) := by decide +kernel
theorem dX9_keepsBack_37 : decode cX9_keepsBack 37 = .ok (.lmul, 1) := by decide +kernel
theorem dX9_keepsBack_38 : decode cX9_keepsBack 38 = .ok (.lcmp, 1) := by decide +kernel
theorem dX9_keepsBack_39 : decode cX9_keepsBack 39 = .ok (.ifCond .lt 7, 3) := by decide +kernel
theorem dX9_keepsBack_42 : decode cX9_keepsBack 42 = .ok (.iconst 1, 1) := by decide +kernel
theorem dX9_keepsBack_43 : decode cX9_keepsBack 43 = .ok (.goto 4, 3) := by decide +kernel
theorem dX9_keepsBack_46 : decode cX9_keepsBack 46 = .ok (.iconst 0, 1) := by decide +kernel
theorem dX9_keepsBack_47 : decode cX9_keepsBack 47 = .ok (.ireturn, 1) := by decide +kernel
theorem dX9_trade_0 : decode cX9_trade 0 = .ok (.aload_n 2, 1) := by decide +kernel
theorem dX9_trade_1 : decode cX9_trade 1 = .ok (.dup, 1) := by decide +kernel
theorem dX9_trade_2 : decode cX9_trade 2 = .ok (.getfield 142, 3) := by decide +kernel
theorem dX9_trade_5 : decode cX9_trade 5 = .ok (.iload_n 3, 1) := by decide +kernel
theorem dX9_trade_6 : decode cX9_trade 6 = .ok (.isub, 1) := by decide +kernel
theorem dX9_trade_7 : decode cX9_trade 7 = .ok (.putfield 142, 3) := by decide +kernel
theorem dX9_trade_10 : decode cX9_trade 10 = .ok (.aload_n 2, 1) := by decide +kernel
theorem dX9_trade_11 : decode cX9_trade 11 = .ok (.dup, 1) := by decide +kernel
theorem dX9_trade_12 : decode cX9_trade 12 = .ok (.getfield 145, 3) := by decide +kernel
theorem dX9_trade_15 : decode cX9_trade 15 = .ok (.iload_n 3, 1) := by decide +kernel
theorem dX9_trade_16 : decode cX9_trade 16 = .ok (.i2l, 1) := by decide +kernel
theorem dX9_trade_17 : decode cX9_trade 17 = .ok (.ladd, 1) := by decide +kernel
theorem dX9_trade_18 : decode cX9_trade 18 = .ok (.putfield 145, 3) := by decide +kernel
theorem dX9_trade_21 : decode cX9_trade 21 = .ok (.aload_n 0, 1) := by decide +kernel
theorem dX9_trade_22 : decode cX9_trade 22 = .ok (.aload_n 2, 1) := by decide +kernel
theorem dX9_trade_23 : decode cX9_trade 23 = .ok (.iload_n 3, 1) := by decide +kernel
theorem dX9_trade_24 : decode cX9_trade 24 = .ok (.i2l, 1) := by decide +kernel
theorem dX9_trade_25 : decode cX9_trade 25 = .ok (.lload 4, 2) := by decide +kernel
theorem dX9_trade_27 : decode cX9_trade 27 = .ok (.lmul, 1) := by decide +kernel
theorem dX9_trade_28 : decode cX9_trade 28 = .ok (.invokevirtual 116, 3) := by decide +kernel
theorem dX9_trade_31 : decode cX9_trade 31 = .ok (.aload_n 1, 1) := by decide +kernel
theorem dX9_trade_32 : decode cX9_trade 32 = .ok (.dup, 1) := by decide +kernel
theorem dX9_trade_33 : decode cX9_trade 33 = .ok (.getfield 142, 3) := by decide +kernel
theorem dX9_trade_36 : decode cX9_trade 36 = .ok (.iload_n 3, 1) := by decide +kernel
theorem dX9_trade_37 : decode cX9_trade 37 = .ok (.iadd, 1) := by decide +kernel
theorem dX9_trade_38 : decode cX9_trade 38 = .ok (.putfield 142, 3) := by decide +kernel
theorem dX9_trade_41 : decode cX9_trade 41 = .ok (.aload_n 1, 1) := by decide +kernel
theorem dX9_trade_42 : decode cX9_trade 42 = .ok (.dup, 1) := by decide +kernel
theorem dX9_trade_43 : decode cX9_trade 43 = .ok (.getfield 148, 3) := by decide +kernel
theorem dX9_trade_46 : decode cX9_trade 46 = .ok (.iload_n 3, 1) := by decide +kernel
theorem dX9_trade_47 : decode cX9_trade 47 = .ok (.i2l, 1) := by decide +kernel
theorem dX9_trade_48 : decode cX9_trade 48 = .ok (.ladd, 1) := by decide +kernel
theorem dX9_trade_49 : decode cX9_trade 49 = .ok (.putfield 148, 3) := by decide +kernel
theorem dX9_trade_52 : decode cX9_trade 52 = .ok (.aload_n 1, 1) := by decide +kernel
theorem dX9_trade_53 : decode cX9_trade 53 = .ok (.dup, 1) := by decide +kernel
theorem dX9_trade_54 : decode cX9_trade 54 = .ok (.getfield 107, 3) := by decide +kernel
theorem dX9_trade_57 : decode cX9_trade 57 = .ok (.iload_n 3, 1) := by decide +kernel
theorem dX9_trade_58 : decode cX9_trade 58 = .ok (.i2l, 1) := by decide +kernel
theorem dX9_trade_59 : decode cX9_trade 59 = .ok (.lload 4, 2) := by decide +kernel
theorem dX9_trade_61 : decode cX9_trade 61 = .ok (.lmul, 1) := by decide +kernel
theorem dX9_trade_62 : decode cX9_trade 62 = .ok (.lsub, 1) := by decide +kernel
theorem dX9_trade_63 : decode cX9_trade 63 = .ok (.putfield 107, 3) := by decide +kernel
theorem dX9_trade_66 : decode cX9_trade 66 = .ok (.return_, 1) := by decide +kernel
theorem dX9_goDay_0 : decode cX9_goDay 0 = .ok (.aload_n 0, 1) := by decide +kernel
theorem dX9_goDay_1 : decode cX9_goDay 1 = .ok (.getfield 48, 3) := by decide +kernel
theorem dX9_goDay_4 : decode cX9_goDay 4 = .ok (.sipush 300, 3) := by decide +kernel
theorem dX9_goDay_7 : decode cX9_goDay 7 = .ok (.if_icmp .lt 4, 3) := by decide +kernel
theorem dX9_goDay_10 : decode cX9_goDay 10 = .ok (.return_, 1) := by decide +kernel
theorem dX9_goDay_11 : decode cX9_goDay 11 = .ok (.iconst 0, 1) := by decide +kernel
theorem dX9_goDay_12 : decode cX9_goDay 12 = .ok (.istore_n 1, 1) := by decide +kernel
theorem dX9_goDay_13 : decode cX9_goDay 13 = .ok (.iload_n 1, 1) := by decide +kernel
theorem dX9_goDay_14 : decode cX9_goDay 14 = .ok (.aload_n 0, 1) := by decide +kernel
theorem dX9_goDay_15 : decode cX9_goDay 15 = .ok (.getfield 41, 3) := by decide +kernel
theorem dX9_goDay_18 : decode cX9_goDay 18 = .ok (.if_icmp .ge 18, 3) := by decide +kernel
theorem dX9_goDay_21 : decode cX9_goDay 21 = .ok (.aload_n 0, 1) := by decide +kernel
theorem dX9_goDay_22 : decode cX9_goDay 22 = .ok (.getfield 11, 3) := by decide +kernel
theorem dX9_goDay_25 : decode cX9_goDay 25 = .ok (.iload_n 1, 1) := by decide +kernel
theorem dX9_goDay_26 : decode cX9_goDay 26 = .ok (.aaload, 1) := by decide +kernel
theorem dX9_goDay_27 : decode cX9_goDay 27 = .ok (.invokevirtual 151, 3) := by decide +kernel
theorem dX9_goDay_30 : decode cX9_goDay 30 = .ok (.iinc 1 1, 3) := by decide +kernel
theorem dX9_goDay_33 : decode cX9_goDay 33 = .ok (.goto (-20), 3) := by decide +kernel
theorem dX9_goDay_36 : decode cX9_goDay 36 = .ok (.aload_n 0, 1) := by decide +kernel
theorem dX9_goDay_37 : decode cX9_goDay 37 = .ok (.invokevirtual 154, 3) := by decide +kernel
theorem dX9_goDay_40 : decode cX9_goDay 40 = .ok (.aload_n 0, 1) := by decide +kernel
theorem dX9_goDay_41 : decode cX9_goDay 41 = .ok (.getfield 27, 3) := by decide +kernel
theorem dX9_goDay_44 : decode cX9_goDay 44 = .ok (.aload_n 0, 1) := by decide +kernel
theorem dX9_goDay_45 : decode cX9_goDay 45 = .ok (.getfield 48, 3) := by decide +kernel
