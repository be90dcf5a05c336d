theorem dX9_goDay_48 : decode cX9_goDay 48 = .ok (.iconst 1, 1) := by decide +kernel
theorem dX9_goDay_49 : decode cX9_goDay 49 = .ok (.iadd, 1) := by decide +kernel
theorem dX9_goDay_50 : decode cX9_goDay 50 = .ok (.aload_n 0, 1) := by decide +kernel
theorem dX9_goDay_51 : decode cX9_goDay 51 = .ok (.getfield 35, 3) := by decide +kernel
theorem dX9_goDay_54 : decode cX9_goDay 54 = .ok (.aload_n 0, 1) := by decide +kernel
theorem dX9_goDay_55 : decode cX9_goDay 55 = .ok (.invokevirtual 157, 3) := by decide +kernel
theorem dX9_goDay_58 : decode cX9_goDay 58 = .ok (.lastore, 1) := by decide +kernel
theorem dX9_goDay_59 : decode cX9_goDay 59 = .ok (.iconst 0, 1) := by decide +kernel
theorem dX9_goDay_60 : decode cX9_goDay 60 = .ok (.istore_n 1, 1) := by decide +kernel
theorem dX9_goDay_61 : decode cX9_goDay 61 = .ok (.iload_n 1, 1) := by decide +kernel
theorem dX9_goDay_62 : decode cX9_goDay 62 = .ok (.aload_n 0, 1) := by decide +kernel
theorem dX9_goDay_63 : decode cX9_goDay 63 = .ok (.getfield 41, 3) := by decide +kernel
theorem dX9_goDay_66 : decode cX9_goDay 66 = .ok (.if_icmp .ge 18, 3) := by decide +kernel
theorem dX9_goDay_69 : decode cX9_goDay 69 = .ok (.aload_n 0, 1) := by decide +kernel
theorem dX9_goDay_70 : decode cX9_goDay 70 = .ok (.getfield 11, 3) := by decide +kernel
theorem dX9_goDay_73 : decode cX9_goDay 73 = .ok (.iload_n 1, 1) := by decide +kernel
theorem dX9_goDay_74 : decode cX9_goDay 74 = .ok (.aaload, 1) := by decide +kernel
theorem dX9_goDay_75 : decode cX9_goDay 75 = .ok (.invokevirtual 163, 3) := by decide +kernel
theorem dX9_goDay_78 : decode cX9_goDay 78 = .ok (.iinc 1 1, 3) := by decide +kernel
theorem dX9_goDay_81 : decode cX9_goDay 81 = .ok (.goto (-20), 3) := by decide +kernel
theorem dX9_goDay_84 : decode cX9_goDay 84 = .ok (.aload_n 0, 1) := by decide +kernel
theorem dX9_goDay_85 : decode cX9_goDay 85 = .ok (.invokevirtual 166, 3) := by decide +kernel
theorem dX9_goDay_88 : decode cX9_goDay 88 = .ok (.aload_n 0, 1) := by decide +kernel
theorem dX9_goDay_89 : decode cX9_goDay 89 = .ok (.dup, 1) := by decide +kernel
theorem dX9_goDay_90 : decode cX9_goDay 90 = .ok (.getfield 48, 3) := by decide +kernel
theorem dX9_goDay_93 : decode cX9_goDay 93 = .ok (.iconst 1, 1) := by decide +kernel
theorem dX9_goDay_94 : decode cX9_goDay 94 = .ok (.iadd, 1) := by decide +kernel
theorem dX9_goDay_95 : decode cX9_goDay 95 = .ok (.putfield 48, 3) := by decide +kernel
theorem dX9_goDay_98 : decode cX9_goDay 98 = .ok (.return_, 1) := by decide +kernel
theorem dX9_payWages_0 : decode cX9_payWages 0 = .ok (.iconst 0, 1) := by decide +kernel
theorem dX9_payWages_1 : decode cX9_payWages 1 = .ok (.istore_n 1, 1) := by decide +kernel
theorem dX9_payWages_2 : decode cX9_payWages 2 = .ok (.iload_n 1, 1) := by decide +kernel
theorem dX9_payWages_3 : decode cX9_payWages 3 = .ok (.aload_n 0, 1) := by decide +kernel
theorem dX9_payWages_4 : decode cX9_payWages 4 = .ok (.getfield 45, 3) := by decide +kernel
theorem dX9_payWages_7 : decode cX9_payWages 7 = .ok (.if_icmp .ge 103, 3) := by decide +kernel
theorem dX9_payWages_10 : decode cX9_payWages 10 = .ok (.aload_n 0, 1) := by decide +kernel
theorem dX9_payWages_11 : decode cX9_payWages 11 = .ok (.getfield 19, 3) := by decide +kernel
theorem dX9_payWages_14 : decode cX9_payWages 14 = .ok (.iload_n 1, 1) := by decide +kernel
theorem dX9_payWages_15 : decode cX9_payWages 15 = .ok (.aaload, 1) := by decide +kernel
theorem dX9_payWages_16 : decode cX9_payWages 16 = .ok (.astore_n 2, 1) := by decide +kernel
theorem dX9_payWages_17 : decode cX9_payWages 17 = .ok (.aload_n 2, 1) := by decide +kernel
theorem dX9_payWages_18 : decode cX9_payWages 18 = .ok (.getfield 87, 3) := by decide +kernel
theorem dX9_payWages_21 : decode cX9_payWages 21 = .ok (.iconst 4, 1) := by decide +kernel
theorem dX9_payWages_22 : decode cX9_payWages 22 = .ok (.if_icmp .ne 82, 3) := by decide +kernel
theorem dX9_payWages_25 : decode cX9_payWages 25 = .ok (.aload_n 2, 1) := by decide +kernel
theorem dX9_payWages_26 : decode cX9_payWages 26 = .ok (.invokevirtual 134, 3) := by decide +kernel
theorem dX9_payWages_29 : decode cX9_payWages 29 = .ok (.ifCond .eq 75, 3) := by decide +kernel
theorem dX9_payWages_32 : decode cX9_payWages 32 = .ok (.aload_n 0, 1) := by decide +kernel
theorem dX9_payWages_33 : decode cX9_payWages 33 = .ok (.aload_n 2, 1) := by decide +kernel
theorem dX9_payWages_34 : decode cX9_payWages 34 = .ok (.getfield 93, 3) := by decide +kernel
theorem dX9_payWages_37 : decode cX9_payWages 37 = .ok (.invokevirtual 112, 3) := by decide +kernel
theorem dX9_payWages_40 : decode cX9_payWages 40 = .ok (.ifCond .eq 64, 3) := by decide +kernel
theorem dX9_payWages_43 : decode cX9_payWages 43 = .ok (.aload_n 0, 1) := by decide +kernel
theorem dX9_payWages_44 : decode cX9_payWages 44 = .ok (.getfield 31, 3) := by decide +kernel
theorem dX9_payWages_47 : decode cX9_payWages 47 = .ok (.aload_n 0, 1) := by decide +kernel
theorem dX9_payWages_48 : decode cX9_payWages 48 = .ok (.aload_n 2, 1) := by decide +kernel
theorem dX9_payWages_49 : decode cX9_payWages 49 = .ok (.iconst 0, 1) := by decide +kernel
theorem dX9_payWages_50 : decode cX9_payWages 50 = .ok (.invokevirtual 169, 3) := by decide +kernel
theorem dX9_payWages_53 : decode cX9_payWages 53 = .ok (.lstore_n 3, 1) := by decide +kernel
theorem dX9_payWages_54 : decode cX9_payWages 54 = .ok (.lconst 0, 1) := by decide +kernel
theorem dX9_payWages_55 : decode cX9_payWages 55 = .ok (.lload_n 3, 1) := by decide +kernel
theorem dX9_payWages_56 : decode cX9_payWages 56 = .ok (.aload_n 0, 1) := by decide +kernel
theorem dX9_payWages_57 : decode cX9_payWages 57 = .ok (.getfield 51, 3) := by decide +kernel
theorem dX9_payWages_60 : decode cX9_payWages 60 = .ok (.lsub, 1) := by decide +kernel
theorem dX9_payWages_61 : decode cX9_payWages 61 = .ok (.invokestatic 175, 3) := by decide +kernel
theorem dX9_payWages_64 : decode cX9_payWages 64 = .ok (.lstore 5, 2) := by decide +kernel
theorem dX9_payWages_66 : decode cX9_payWages 66 = .ok (.aload_n 0, 1) := by decide +kernel
theorem dX9_payWages_67 : decode cX9_payWages 67 = .ok (.dup, 1) := by decide +kernel
theorem dX9_payWages_68 : decode cX9_payWages 68 = .ok (.getfield 55, 3) := by decide +kernel
theorem dX9_payWages_71 : decode cX9_payWages 71 = .ok (.lload 5, 2) := by decide +kernel
theorem dX9_payWages_73 : decode cX9_payWages 73 = .ok (.ladd, 1) := by decide +kernel
theorem dX9_payWages_74 : decode cX9_payWages 74 = .ok (.putfield 55, 3) := by decide +kernel
theorem dX9_payWages_77 : decode cX9_payWages 77 = .ok (.aload_n 0, 1) := by decide +kernel
theorem dX9_payWages_78 : decode cX9_payWages 78 = .ok (.dup, 1) := by decide +kernel
theorem dX9_payWages_79 : decode cX9_payWages 79 = .ok (.getfield 51, 3) := by decide +kernel
theorem dX9_payWages_82 : decode cX9_payWages 82 = .ok (.lload_n 3, 1) := by decide +kernel
theorem dX9_payWages_83 : decode cX9_payWages 83 = .ok (.lload 5, 2) := by decide +kernel
theorem dX9_payWages_85 : decode cX9_payWages 85 = .ok (.lsub, 1) := by decide +kernel
theorem dX9_payWages_86 : decode cX9_payWages 86 = .ok (.lsub, 1) := by decide +kernel
theorem dX9_payWages_87 : decode cX9_payWages 87 = .ok (.putfield 51, 3) := by decide +kernel
theorem dX9_payWages_90 : decode cX9_payWages 90 = .ok (.aload_n 0, 1) := by decide +kernel
theorem dX9_payWages_91 : decode cX9_payWages 91 = .ok (.aload_n 0, 1) := by decide +kernel
theorem dX9_payWages_92 : decode cX9_payWages 92 = .ok (.getfield 11, 3) := by decide +kernel
theorem dX9_payWages_95 : decode cX9_payWages 95 = .ok (.aload_n 2, 1) := by decide +kernel
theorem dX9_payWages_96 : decode cX9_payWages 96 = .ok (.getfield 93, 3) := by decide +kernel
theorem dX9_payWages_99 : decode cX9_payWages 99 = .ok (.aaload, 1) := by decide +kernel
theorem dX9_payWages_100 : decode cX9_payWages 100 = .ok (.lload_n 3, 1) := by decide +kernel
theorem dX9_payWages_101 : decode cX9_payWages 101 = .ok (.invokevirtual 116, 3) := by decide +kernel
theorem dX9_payWages_104 : decode cX9_payWages 104 = .ok (.iinc 1 1, 3) := by decide +kernel
theorem dX9_payWages_107 : decode cX9_payWages 107 = .ok (.goto (-105), 3) := by decide +kernel
theorem dX9_payWages_110 : decode cX9_payWages 110 = .ok (.return_, 1) := by decide +kernel
theorem dX9_payDebts_0 : decode cX9_payDebts 0 = .ok (.iconst 0, 1) := by decide +kernel
theorem dX9_payDebts_1 : decode cX9_payDebts 1 = .ok (.istore_n 1, 1) := by decide +kernel
theorem dX9_payDebts_2 : decode cX9_payDebts 2 = .ok (.iload_n 1, 1) := by decide +kernel
theorem dX9_payDebts_3 : decode cX9_payDebts 3 = .ok (.aload_n 0, 1) := by decide +kernel
theorem dX9_payDebts_4 : decode cX9_payDebts 4 = .ok (.getfield 45, 3) := by decide +kernel
theorem dX9_payDebts_7 : decode cX9_payDebts 7 = .ok (.if_icmp .ge 83, 3) := by decide +kernel
theorem dX9_payDebts_10 : decode cX9_payDebts 10 = .ok (.aload_n 0, 1) := by decide +kernel
theorem dX9_payDebts_11 : decode cX9_payDebts 11 = .ok (.getfield 19, 3) := by decide +kernel
theorem dX9_payDebts_14 : decode cX9_payDebts 14 = .ok (.iload_n 1, 1) := by decide +kernel
theorem dX9_payDebts_15 : decode cX9_payDebts 15 = .ok (.aaload, 1) := by decide +kernel
theorem dX9_payDebts_16 : decode cX9_payDebts 16 = .ok (.astore_n 2, 1) := by decide +kernel
theorem dX9_payDebts_17 : decode cX9_payDebts 17 = .ok (.aload_n 2, 1) := by decide +kernel
theorem dX9_payDebts_18 : decode cX9_payDebts 18 = .ok (.invokevirtual 134, 3) := by decide +kernel
theorem dX9_payDebts_21 : decode cX9_payDebts 21 = .ok (.ifCond .eq 40, 3) := by decide +kernel
theorem dX9_payDebts_24 : decode cX9_payDebts 24 = .ok (.aload_n 2, 1) := by decide +kernel
theorem dX9_payDebts_25 : decode cX9_payDebts 25 = .ok (.aload_n 0, 1) := by decide +kernel
theorem dX9_payDebts_26 : decode cX9_payDebts 26 = .ok (.getfield 48, 3) := by decide +kernel
theorem dX9_payDebts_29 : decode cX9_payDebts 29 = .ok (.invokevirtual 181, 3) := by decide +kernel
theorem dX9_payDebts_32 : decode cX9_payDebts 32 = .ok (.ifCond .eq 29, 3) := by decide +kernel
theorem dX9_payDebts_35 : decode cX9_payDebts 35 = .ok (.aload_n 0, 1) := by decide +kernel
theorem dX9_payDebts_36 : decode cX9_payDebts 36 = .ok (.aload_n 2, 1) := by decide +kernel
theorem dX9_payDebts_37 : decode cX9_payDebts 37 = .ok (.getfield 90, 3) := by decide +kernel
theorem dX9_payDebts_40 : decode cX9_payDebts 40 = .ok (.invokevirtual 112, 3) := by decide +kernel
theorem dX9_payDebts_43 : decode cX9_payDebts 43 = .ok (.ifCond .eq 18, 3) := by decide +kernel
theorem dX9_payDebts_46 : decode cX9_payDebts 46 = .ok (.aload_n 0, 1) := by decide +kernel
theorem dX9_payDebts_47 : decode cX9_payDebts 47 = .ok (.aload_n 2, 1) := by decide +kernel
theorem dX9_payDebts_48 : decode cX9_payDebts 48 = .ok (.aload_n 0, 1) := by decide +kernel
theorem dX9_payDebts_49 : decode cX9_payDebts 49 = .ok (.getfield 31, 3) := by decide +kernel
theorem dX9_payDebts_52 : decode cX9_payDebts 52 = .ok (.aload_n 0, 1) := by decide +kernel
theorem dX9_payDebts_53 : decode cX9_payDebts 53 = .ok (.aload_n 2, 1) := by decide +kernel
theorem dX9_payDebts_54 : decode cX9_payDebts 54 = .ok (.iconst 0, 1) := by decide +kernel
theorem dX9_payDebts_55 : decode cX9_payDebts 55 = .ok (.invokevirtual 169, 3) := by decide +kernel
theorem dX9_payDebts_58 : decode cX9_payDebts 58 = .ok (.invokevirtual 184, 3) := by decide +kernel
theorem dX9_payDebts_61 : decode cX9_payDebts 61 = .ok (.aload_n 2, 1) := by decide +kernel
theorem dX9_payDebts_62 : decode cX9_payDebts 62 = .ok (.invokevirtual 134, 3) := by decide +kernel
theorem dX9_payDebts_65 : decode cX9_payDebts 65 = .ok (.ifCond .eq 19, 3) := by decide +kernel
theorem dX9_payDebts_68 : decode cX9_payDebts 68 = .ok (.aload_n 2, 1) := by decide +kernel
theorem dX9_payDebts_69 : decode cX9_payDebts 69 = .ok (.aload_n 0, 1) := by decide +kernel
theorem dX9_payDebts_70 : decode cX9_payDebts 70 = .ok (.getfield 48, 3) := by decide +kernel
theorem dX9_payDebts_73 : decode cX9_payDebts 73 = .ok (.invokevirtual 188, 3) := by decide +kernel
theorem dX9_payDebts_76 : decode cX9_payDebts 76 = .ok (.ifCond .eq 8, 3) := by decide +kernel
theorem dX9_payDebts_79 : decode cX9_payDebts 79 = .ok (.aload_n 2, 1) := by decide +kernel
theorem dX9_payDebts_80 : decode cX9_payDebts 80 = .ok (.iconst 1, 1) := by decide +kernel
theorem dX9_payDebts_81 : decode cX9_payDebts 81 = .ok (.putfield 105, 3) := by decide +kernel
theorem dX9_payDebts_84 : decode cX9_payDebts 84 = .ok (.iinc 1 1, 3) := by decide +kernel
theorem dX9_payDebts_87 : decode cX9_payDebts 87 = .ok (.goto (-85), 3) := by decide +kernel
theorem dX9_payDebts_90 : decode cX9_payDebts 90 = .ok (.return_, 1) := by decide +kernel
theorem dX9_payAsFarAsItGoes_0 : decode cX9_payAsFarAsItGoes 0 = .ok (.lload_n 2, 1) := by decide +kernel
theorem dX9_payAsFarAsItGoes_1 : decode cX9_payAsFarAsItGoes 1 = .ok (.aload_n 0, 1) := by decide +kernel
theorem dX9_payAsFarAsItGoes_2 : decode cX9_payAsFarAsItGoes 2 = .ok (.getfield 11, 3) := by decide +kernel
theorem dX9_payAsFarAsItGoes_5 : decode cX9_payAsFarAsItGoes 5 = .ok (.aload_n 1, 1) := by decide +kernel
theorem dX9_payAsFarAsItGoes_6 : decode cX9_payAsFarAsItGoes 6 = .ok (.getfield 90, 3) := by decide +kernel
theorem dX9_payAsFarAsItGoes_9 : decode cX9_payAsFarAsItGoes 9 = .ok (.aaload, 1) := by decide +kernel
theorem dX9_payAsFarAsItGoes_10 : decode cX9_payAsFarAsItGoes 10 = .ok (.getfield 107, 3) := by decide +kernel
theorem dX9_payAsFarAsItGoes_13 : decode cX9_payAsFarAsItGoes 13 = .ok (.invokestatic 191, 3) := by decide +kernel
theorem dX9_payAsFarAsItGoes_16 : decode cX9_payAsFarAsItGoes 16 = .ok (.lstore 4, 2) := by decide +kernel
theorem dX9_payAsFarAsItGoes_18 : decode cX9_payAsFarAsItGoes 18 = .ok (.aload_n 0, 1) := by decide +kernel
theorem dX9_payAsFarAsItGoes_19 : decode cX9_payAsFarAsItGoes 19 = .ok (.aload_n 1, 1) := by decide +kernel
theorem dX9_payAsFarAsItGoes_20 : decode cX9_payAsFarAsItGoes 20 = .ok (.lload 4, 2) := by decide +kernel
theorem dX9_payAsFarAsItGoes_22 : decode cX9_payAsFarAsItGoes 22 = .ok (.invokevirtual 194, 3) := by decide +kernel
theorem dX9_payAsFarAsItGoes_25 : decode cX9_payAsFarAsItGoes 25 = .ok (.aload_n 1, 1) := by decide +kernel
theorem dX9_payAsFarAsItGoes_26 : decode cX9_payAsFarAsItGoes 26 = .ok (.invokevirtual 120, 3) := by decide +kernel
theorem dX9_payAsFarAsItGoes_29 : decode cX9_payAsFarAsItGoes 29 = .ok (.ifCond .eq 17, 3) := by decide +kernel
theorem dX9_payAsFarAsItGoes_32 : decode cX9_payAsFarAsItGoes 32 = .ok (.lload 4, 2) := by decide +kernel
theorem dX9_payAsFarAsItGoes_34 : decode cX9_payAsFarAsItGoes 34 = .ok (.lload_n 2, 1) := by decide +kernel
theorem dX9_payAsFarAsItGoes_35 : decode cX9_payAsFarAsItGoes 35 = .ok (.lcmp, 1) := by decide +kernel
theorem dX9_payAsFarAsItGoes_36 : decode cX9_payAsFarAsItGoes 36 = .ok (.ifCond .ne 10, 3) := by decide +kernel
theorem dX9_payAsFarAsItGoes_39 : decode cX9_payAsFarAsItGoes 39 = .ok (.aload_n 0, 1) := by decide +kernel
theorem dX9_payAsFarAsItGoes_40 : decode cX9_payAsFarAsItGoes 40 = .ok (.aload_n 1, 1) := by decide +kernel
theorem dX9_payAsFarAsItGoes_41 : decode cX9_payAsFarAsItGoes 41 = .ok (.lload 4, 2) := by decide +kernel
theorem dX9_payAsFarAsItGoes_43 : decode cX9_payAsFarAsItGoes 43 = .ok (.invokevirtual 197, 3) := by decide +kernel
theorem dX9_payAsFarAsItGoes_46 : decode cX9_payAsFarAsItGoes 46 = .ok (.return_, 1) := by decide +kernel
theorem dX9_collectTax_0 : decode cX9_collectTax 0 = .ok (.lconst 0, 1) := by decide +kernel
theorem dX9_collectTax_1 : decode cX9_collectTax 1 = .ok (.lstore_n 1, 1) := by decide +kernel
theorem dX9_collectTax_2 : decode cX9_collectTax 2 = .ok (.iconst 0, 1) := by decide +kernel
theorem dX9_collectTax_3 : decode cX9_collectTax 3 = .ok (.istore_n 3, 1) := by decide +kernel
theorem dX9_collectTax_4 : decode cX9_collectTax 4 = .ok (.iload_n 3, 1) := by decide +kernel
theorem dX9_collectTax_5 : decode cX9_collectTax 5 = .ok (.aload_n 0, 1) := by decide +kernel
theorem dX9_collectTax_6 : decode cX9_collectTax 6 = .ok (.getfield 41, 3) := by decide +kernel
theorem dX9_collectTax_9 : decode cX9_collectTax 9 = .ok (.if_icmp .ge 45, 3) := by decide +kernel
theorem dX9_collectTax_12 : decode cX9_collectTax 12 = .ok (.aload_n 0, 1) := by decide +kernel
theorem dX9_collectTax_13 : decode cX9_collectTax 13 = .ok (.getfield 11, 3) := by decide +kernel
theorem dX9_collectTax_16 : decode cX9_collectTax 16 = .ok (.iload_n 3, 1) := by decide +kernel
theorem dX9_collectTax_17 : decode cX9_collectTax 17 = .ok (.aaload, 1) := by decide +kernel
theorem dX9_collectTax_18 : decode cX9_collectTax 18 = .ok (.getfield 107, 3) := by decide +kernel
theorem dX9_collectTax_21 : decode cX9_collectTax 21 = .ok (.ldc2_w 200, 3) := by decide +kernel
theorem dX9_collectTax_24 : decode cX9_collectTax 24 = .ok (.ldiv, 1) := by decide +kernel
theorem dX9_collectTax_25 : decode cX9_collectTax 25 = .ok (.lstore 4, 2) := by decide +kernel
theorem dX9_collectTax_27 : decode cX9_collectTax 27 = .ok (.aload_n 0, 1) := by decide +kernel
theorem dX9_collectTax_28 : decode cX9_collectTax 28 = .ok (.getfield 11, 3) := by decide +kernel
theorem dX9_collectTax_31 : decode cX9_collectTax 31 = .ok (.iload_n 3, 1) := by decide +kernel
theorem dX9_collectTax_32 : decode cX9_collectTax 32 = .ok (.aaload, 1) := by decide +kernel
theorem dX9_collectTax_33 : decode cX9_collectTax 33 = .ok (.dup, 1) := by decide +kernel
theorem dX9_collectTax_34 : decode cX9_collectTax 34 = .ok (.getfield 107, 3) := by decide +kernel
theorem dX9_collectTax_37 : decode cX9_collectTax 37 = .ok (.lload 4, 2) := by decide +kernel
theorem dX9_collectTax_39 : decode cX9_collectTax 39 = .ok (.lsub, 1) := by decide +kernel
theorem dX9_collectTax_40 : decode cX9_collectTax 40 = .ok (.putfield 107, 3) := by decide +kernel
theorem dX9_collectTax_43 : decode cX9_collectTax 43 = .ok (.lload_n 1, 1) := by decide +kernel
theorem dX9_collectTax_44 : decode cX9_collectTax 44 = .ok (.lload 4, 2) := by decide +kernel
theorem dX9_collectTax_46 : decode cX9_collectTax 46 = .ok (.ladd, 1) := by decide +kernel
theorem dX9_collectTax_47 : decode cX9_collectTax 47 = .ok (.lstore_n 1, 1) := by decide +kernel
theorem dX9_collectTax_48 : decode cX9_collectTax 48 = .ok (.iinc 3 1, 3) := by decide +kernel
theorem dX9_collectTax_51 : decode cX9_collectTax 51 = .ok (.goto (-47), 3) := by decide +kernel
theorem dX9_collectTax_54 : decode cX9_collectTax 54 = .ok (.aload_n 0, 1) := by decide +kernel
theorem dX9_collectTax_55 : decode cX9_collectTax 55 = .ok (.lload_n 1, 1) := by decide +kernel
theorem dX9_collectTax_56 : decode cX9_collectTax 56 = .ok (.invokevirtual 202, 3) := by decide +kernel
theorem dX9_collectTax_59 : decode cX9_collectTax 59 = .ok (.lload_n 1, 1) := by decide +kernel
theorem dX9_collectTax_60 : decode cX9_collectTax 60 = .ok (.lreturn, 1) := by decide +kernel
theorem dX9_cutNoughts_0 : decode cX9_cutNoughts 0 = .ok (.lconst 1, 1) := by decide +kernel
theorem dX9_cutNoughts_1 : decode cX9_cutNoughts 1 = .ok (.lstore_n 2, 1) := by decide +kernel
theorem dX9_cutNoughts_2 : decode cX9_cutNoughts 2 = .ok (.iconst 0, 1) := by decide +kernel
theorem dX9_cutNoughts_3 : decode cX9_cutNoughts 3 = .ok (.istore 4, 2) := by decide +kernel
theorem dX9_cutNoughts_5 : decode cX9_cutNoughts 5 = .ok (.iload 4, 2) := by decide +kernel
theorem dX9_cutNoughts_7 : decode cX9_cutNoughts 7 = .ok (.iload_n 1, 1) := by decide +kernel
theorem dX9_cutNoughts_8 : decode cX9_cutNoughts 8 = .ok (.if_icmp .ge 15, 3) := by decide +kernel
theorem dX9_cutNoughts_11 : decode cX9_cutNoughts 11 = .ok (.lload_n 2, 1) := by decide +kernel
theorem dX9_cutNoughts_12 : decode cX9_cutNoughts 12 = .ok (.ldc2_w 200, 3) := by decide +kernel
theorem dX9_cutNoughts_15 : decode cX9_cutNoughts 15 = .ok (.lmul, 1) := by decide +kernel
theorem dX9_cutNoughts_16 : decode cX9_cutNoughts 16 = .ok (.lstore_n 2, 1) := by decide +kernel
theorem dX9_cutNoughts_17 : decode cX9_cutNoughts 17 = .ok (.iinc 4 1, 3) := by decide +kernel
theorem dX9_cutNoughts_20 : decode cX9_cutNoughts 20 = .ok (.goto (-15), 3) := by decide +kernel
theorem dX9_cutNoughts_23 : decode cX9_cutNoughts 23 = .ok (.aload_n 0, 1) := by decide +kernel
theorem dX9_cutNoughts_24 : decode cX9_cutNoughts 24 = .ok (.dup, 1) := by decide +kernel
theorem dX9_cutNoughts_25 : decode cX9_cutNoughts 25 = .ok (.getfield 58, 3) := by decide +kernel
theorem dX9_cutNoughts_28 : decode cX9_cutNoughts 28 = .ok (.aload_n 0, 1) := by decide +kernel
theorem dX9_cutNoughts_29 : decode cX9_cutNoughts 29 = .ok (.getfield 51, 3) := by decide +kernel
theorem dX9_cutNoughts_32 : decode cX9_cutNoughts 32 = .ok (.aload_n 0, 1) := by decide +kernel
theorem dX9_cutNoughts_33 : decode cX9_cutNoughts 33 = .ok (.getfield 51, 3) := by decide +kernel
theorem dX9_cutNoughts_36 : decode cX9_cutNoughts 36 = .ok (.lload_n 2, 1) := by decide +kernel
theorem dX9_cutNoughts_37 : decode cX9_cutNoughts 37 = .ok (.ldiv, 1) := by decide +kernel
theorem dX9_cutNoughts_38 : decode cX9_cutNoughts 38 = .ok (.lsub, 1) := by decide +kernel
theorem dX9_cutNoughts_39 : decode cX9_cutNoughts 39 = .ok (.ladd, 1) := by decide +kernel
theorem dX9_cutNoughts_40 : decode cX9_cutNoughts 40 = .ok (.putfield 58, 3) := by decide +kernel
theorem dX9_cutNoughts_43 : decode cX9_cutNoughts 43 = .ok (.aload_n 0, 1) := by decide +kernel
theorem dX9_cutNoughts_44 : decode cX9_cutNoughts 44 = .ok (.dup, 1) := by decide +kernel
theorem dX9_cutNoughts_45 : decode cX9_cutNoughts 45 = .ok (.getfield 51, 3) := by decide +kernel
theorem dX9_cutNoughts_48 : decode cX9_cutNoughts 48 = .ok (.lload_n 2, 1) := by decide +kernel
theorem dX9_cutNoughts_49 : decode cX9_cutNoughts 49 = .ok (.ldiv, 1) := by decide +kernel
theorem dX9_cutNoughts_50 : decode cX9_cutNoughts 50 = .ok (.putfield 51, 3) := by decide +kernel
theorem dX9_cutNoughts_53 : decode cX9_cutNoughts 53 = .ok (.iconst 0, 1) := by decide +kernel
theorem dX9_cutNoughts_54 : decode cX9_cutNoughts 54 = .ok (.istore 4, 2) := by decide +kernel
theorem dX9_cutNoughts_56 : decode cX9_cutNoughts 56 = .ok (.iload 4, 2) := by decide +kernel
theorem dX9_cutNoughts_58 : decode cX9_cutNoughts 58 = .ok (.aload_n 0, 1) := by decide +kernel
theorem dX9_cutNoughts_59 : decode cX9_cutNoughts 59 = .ok (.getfield 41, 3) := by decide +kernel
theorem dX9_cutNoughts_62 : decode cX9_cutNoughts 62 = .ok (.if_icmp .ge 57, 3) := by decide +kernel
theorem dX9_cutNoughts_65 : decode cX9_cutNoughts 65 = .ok (.aload_n 0, 1) := by decide +kernel
theorem dX9_cutNoughts_66 : decode cX9_cutNoughts 66 = .ok (.dup, 1) := by decide +kernel
theorem dX9_cutNoughts_67 : decode cX9_cutNoughts 67 = .ok (.getfield 58, 3) := by decide +kernel
theorem dX9_cutNoughts_70 : decode cX9_cutNoughts 70 = .ok (.aload_n 0, 1) := by decide +kernel
theorem dX9_cutNoughts_71 : decode cX9_cutNoughts 71 = .ok (.getfield 11, 3) := by decide +kernel
theorem dX9_cutNoughts_74 : decode cX9_cutNoughts 74 = .ok (.iload 4, 2) := by decide +kernel
theorem dX9_cutNoughts_76 : decode cX9_cutNoughts 76 = .ok (.aaload, 1) := by decide +kernel
theorem dX9_cutNoughts_77 : decode cX9_cutNoughts 77 = .ok (.getfield 107, 3) := by decide +kernel
theorem dX9_cutNoughts_80 : decode cX9_cutNoughts 80 = .ok (.aload_n 0, 1) := by decide +kernel
theorem dX9_cutNoughts_81 : decode cX9_cutNoughts 81 = .ok (.getfield 11, 3) := by decide +kernel
theorem dX9_cutNoughts_84 : decode cX9_cutNoughts 84 = .ok (.iload 4, 2) := by decide +kernel
theorem dX9_cutNoughts_86 : decode cX9_cutNoughts 86 = .ok (.aaload, 1) := by decide +kernel
theorem dX9_cutNoughts_87 : decode cX9_cutNoughts 87 = .ok (.getfield 107, 3) := by decide +kernel
theorem dX9_cutNoughts_90 : decode cX9_cutNoughts 90 = .ok (.lload_n 2, 1) := by decide +kernel
theorem dX9_cutNoughts_91 : decode cX9_cutNoughts 91 = .ok (.ldiv, 1) := by decide +kernel
theorem dX9_cutNoughts_92 : decode cX9_cutNoughts 92 = .ok (.lsub, 1) := by decide +kernel
theorem dX9_cutNoughts_93 : decode cX9_cutNoughts 93 = .ok (.ladd, 1) := by decide +kernel
theorem dX9_cutNoughts_94 : decode cX9_cutNoughts 94 = .ok (.putfield 58, 3) := by decide +kernel
theorem dX9_cutNoughts_97 : decode cX9_cutNoughts 97 = .ok (.aload_n 0, 1) := by decide +kernel
theorem dX9_cutNoughts_98 : decode cX9_cutNoughts 98 = .ok (.getfield 11, 3) := by decide +kernel
theorem dX9_cutNoughts_101 : decode cX9_cutNoughts 101 = .ok (.iload 4, 2) := by decide +kernel
theorem dX9_cutNoughts_103 : decode cX9_cutNoughts 103 = .ok (.aaload, 1) := by decide +kernel
theorem dX9_cutNoughts_104 : decode cX9_cutNoughts 104 = .ok (.dup, 1) := by decide +kernel
theorem dX9_cutNoughts_105 : decode cX9_cutNoughts 105 = .ok (.getfield 107, 3) := by decide +kernel
theorem dX9_cutNoughts_108 : decode cX9_cutNoughts 108 = .ok (.lload_n 2, 1) := by decide +kernel
theorem dX9_cutNoughts_109 : decode cX9_cutNoughts 109 = .ok (.ldiv, 1) := by decide +kernel
theorem dX9_cutNoughts_110 : decode cX9_cutNoughts 110 = .ok (.putfield 107, 3) := by decide +kernel
theorem dX9_cutNoughts_113 : decode cX9_cutNoughts 113 = .ok (.iinc 4 1, 3) := by decide +kernel
theorem dX9_cutNoughts_116 : decode cX9_cutNoughts 116 = .ok (.goto (-60), 3) := by decide +kernel
theorem dX9_cutNoughts_119 : decode cX9_cutNoughts 119 = .ok (.iconst 0, 1) := by decide +kernel
theorem dX9_cutNoughts_120 : decode cX9_cutNoughts 120 = .ok (.istore 4, 2) := by decide +kernel
theorem dX9_cutNoughts_122 : decode cX9_cutNoughts 122 = .ok (.iload 4, 2) := by decide +kernel
theorem dX9_cutNoughts_124 : decode cX9_cutNoughts 124 = .ok (.aload_n 0, 1) := by decide +kernel
theorem dX9_cutNoughts_125 : decode cX9_cutNoughts 125 = .ok (.getfield 45, 3) := by decide +kernel
theorem dX9_cutNoughts_128 : decode cX9_cutNoughts 128 = .ok (.if_icmp .ge 38, 3) := by decide +kernel
theorem dX9_cutNoughts_131 : decode cX9_cutNoughts 131 = .ok (.aload_n 0, 1) := by decide +kernel
theorem dX9_cutNoughts_132 : decode cX9_cutNoughts 132 = .ok (.getfield 19, 3) := by decide +kernel
theorem dX9_cutNoughts_135 : decode cX9_cutNoughts 135 = .ok (.iload 4, 2) := by decide +kernel
theorem dX9_cutNoughts_137 : decode cX9_cutNoughts 137 = .ok (.aaload, 1) := by decide +kernel
theorem dX9_cutNoughts_138 : decode cX9_cutNoughts 138 = .ok (.invokevirtual 134, 3) := by decide +kernel
theorem dX9_cutNoughts_141 : decode cX9_cutNoughts 141 = .ok (.ifCond .eq 19, 3) := by decide +kernel
theorem dX9_cutNoughts_144 : decode cX9_cutNoughts 144 = .ok (.aload_n 0, 1) := by decide +kernel
theorem dX9_cutNoughts_145 : decode cX9_cutNoughts 145 = .ok (.getfield 19, 3) := by decide +kernel
theorem dX9_cutNoughts_148 : decode cX9_cutNoughts 148 = .ok (.iload 4, 2) := by decide +kernel
theorem dX9_cutNoughts_150 : decode cX9_cutNoughts 150 = .ok (.aaload, 1) := by decide +kernel
theorem dX9_cutNoughts_151 : decode cX9_cutNoughts 151 = .ok (.dup, 1) := by decide +kernel
theorem dX9_cutNoughts_152 : decode cX9_cutNoughts 152 = .ok (.getfield 96, 3) := by decide +kernel
theorem dX9_cutNoughts_155 : decode cX9_cutNoughts 155 = .ok (.lload_n 2, 1) := by decide +kernel
theorem dX9_cutNoughts_156 : decode cX9_cutNoughts 156 = .ok (.ldiv, 1) := by decide +kernel
theorem dX9_cutNoughts_157 : decode cX9_cutNoughts 157 = .ok (.putfield 96, 3) := by decide +kernel
theorem dX9_cutNoughts_160 : decode cX9_cutNoughts 160 = .ok (.iinc 4 1, 3) := by decide +kernel
theorem dX9_cutNoughts_163 : decode cX9_cutNoughts 163 = .ok (.goto (-41), 3) := by decide +kernel
theorem dX9_cutNoughts_166 : decode cX9_cutNoughts 166 = .ok (.iconst 0, 1) := by decide +kernel
theorem dX9_cutNoughts_167 : decode cX9_cutNoughts 167 = .ok (.istore 4, 2) := by decide +kernel
theorem dX9_cutNoughts_169 : decode cX9_cutNoughts 169 = .ok (.iload 4, 2) := by decide +kernel
theorem dX9_cutNoughts_171 : decode cX9_cutNoughts 171 = .ok (.aload_n 0, 1) := by decide +kernel
theorem dX9_cutNoughts_172 : decode cX9_cutNoughts 172 = .ok (.getfield 48, 3) := by decide +kernel
theorem dX9_cutNoughts_175 : decode cX9_cutNoughts 175 = .ok (.if_icmp .gt 29, 3) := by decide +kernel
theorem dX9_cutNoughts_178 : decode cX9_cutNoughts 178 = .ok (.aload_n 0, 1) := by decide +kernel
theorem dX9_cutNoughts_179 : decode cX9_cutNoughts 179 = .ok (.getfield 27, 3) := by decide +kernel
theorem dX9_cutNoughts_182 : decode cX9_cutNoughts 182 = .ok (.iload 4, 2) := by decide +kernel
theorem dX9_cutNoughts_184 : decode cX9_cutNoughts 184 = .ok (.lconst 1, 1) := by decide +kernel
theorem dX9_cutNoughts_185 : decode cX9_cutNoughts 185 = .ok (.aload_n 0, 1) := by decide +kernel
theorem dX9_cutNoughts_186 : decode cX9_cutNoughts 186 = .ok (.getfield 27, 3) := by decide +kernel
theorem dX9_cutNoughts_189 : decode cX9_cutNoughts 189 = .ok (.iload 4, 2) := by decide +kernel
theorem dX9_cutNoughts_191 : decode cX9_cutNoughts 191 = .ok (.laload, 1) := by decide +kernel
theorem dX9_cutNoughts_192 : decode cX9_cutNoughts 192 = .ok (.lload_n 2, 1) := by decide +kernel
theorem dX9_cutNoughts_193 : decode cX9_cutNoughts 193 = .ok (.ldiv, 1) := by decide +kernel
theorem dX9_cutNoughts_194 : decode cX9_cutNoughts 194 = .ok (.invokestatic 175, 3) := by decide +kernel
theorem dX9_cutNoughts_197 : decode cX9_cutNoughts 197 = .ok (.lastore, 1) := by decide +kernel
theorem dX9_cutNoughts_198 : decode cX9_cutNoughts 198 = .ok (.iinc 4 1, 3) := by decide +kernel
theorem dX9_cutNoughts_201 : decode cX9_cutNoughts 201 = .ok (.goto (-32), 3) := by decide +kernel
theorem dX9_cutNoughts_204 : decode cX9_cutNoughts 204 = .ok (.return_, 1) := by decide +kernel
theorem dX9_hungerOfAll_0 : decode cX9_hungerOfAll 0 = .ok (.lconst 0, 1) := by decide +kernel
theorem dX9_hungerOfAll_1 : decode cX9_hungerOfAll 1 = .ok (.lstore_n 1, 1) := by decide +kernel
theorem dX9_hungerOfAll_2 : decode cX9_hungerOfAll 2 = .ok (.iconst 0, 1) := by decide +kernel
theorem dX9_hungerOfAll_3 : decode cX9_hungerOfAll 3 = .ok (.istore_n 3, 1) := by decide +kernel
theorem dX9_hungerOfAll_4 : decode cX9_hungerOfAll 4 = .ok (.iload_n 3, 1) := by decide +kernel
theorem dX9_hungerOfAll_5 : decode cX9_hungerOfAll 5 = .ok (.aload_n 0, 1) := by decide +kernel
theorem dX9_hungerOfAll_6 : decode cX9_hungerOfAll 6 = .ok (.getfield 41, 3) := by decide +kernel
theorem dX9_hungerOfAll_9 : decode cX9_hungerOfAll 9 = .ok (.if_icmp .ge 22, 3) := by decide +kernel
theorem dX9_hungerOfAll_12 : decode cX9_hungerOfAll 12 = .ok (.lload_n 1, 1) := by decide +kernel
theorem dX9_hungerOfAll_13 : decode cX9_hungerOfAll 13 = .ok (.aload_n 0, 1) := by decide +kernel
theorem dX9_hungerOfAll_14 : decode cX9_hungerOfAll 14 = .ok (.getfield 11, 3) := by decide +kernel
theorem dX9_hungerOfAll_17 : decode cX9_hungerOfAll 17 = .ok (.iload_n 3, 1) := by decide +kernel
theorem dX9_hungerOfAll_18 : decode cX9_hungerOfAll 18 = .ok (.aaload, 1) := by decide +kernel
theorem dX9_hungerOfAll_19 : decode cX9_hungerOfAll 19 = .ok (.getfield 206, 3) := by decide +kernel
theorem dX9_hungerOfAll_22 : decode cX9_hungerOfAll 22 = .ok (.i2l, 1) := by decide +kernel
theorem dX9_hungerOfAll_23 : decode cX9_hungerOfAll 23 = .ok (.ladd, 1) := by decide +kernel
theorem dX9_hungerOfAll_24 : decode cX9_hungerOfAll 24 = .ok (.lstore_n 1, 1) := by decide +kernel
theorem dX9_hungerOfAll_25 : decode cX9_hungerOfAll 25 = .ok (.iinc 3 1, 3) := by decide +kernel
theorem dX9_hungerOfAll_28 : decode cX9_hungerOfAll 28 = .ok (.goto (-24), 3) := by decide +kernel
theorem dX9_hungerOfAll_31 : decode cX9_hungerOfAll 31 = .ok (.lload_n 1, 1) := by decide +kernel
theorem dX9_hungerOfAll_32 : decode cX9_hungerOfAll 32 = .ok (.lreturn, 1) := by decide +kernel
theorem dX9_tally_0 : decode cX9_tally 0 = .ok (.iload_n 1, 1) := by decide +kernel
theorem dX9_tally_1 : decode cX9_tally 1 = .ok (.tableswitch 90 0 7 #[47, 53, 59, 64, 70, 75, 80, 85], 47) := by decide +kernel
theorem dX9_tally_48 : decode cX9_tally 48 = .ok (.aload_n 0, 1) := by decide +kernel
theorem dX9_tally_49 : decode cX9_tally 49 = .ok (.getfield 41, 3) := by decide +kernel
theorem dX9_tally_52 : decode cX9_tally 52 = .ok (.i2l, 1) := by decide +kernel
theorem dX9_tally_53 : decode cX9_tally 53 = .ok (.lreturn, 1) := by decide +kernel
theorem dX9_tally_54 : decode cX9_tally 54 = .ok (.aload_n 0, 1) := by decide +kernel
theorem dX9_tally_55 : decode cX9_tally 55 = .ok (.getfield 45, 3) := by decide +kernel
theorem dX9_tally_58 : decode cX9_tally 58 = .ok (.i2l, 1) := by decide +kernel
theorem dX9_tally_59 : decode cX9_tally 59 = .ok (.lreturn, 1) := by decide +kernel
theorem dX9_tally_60 : decode cX9_tally 60 = .ok (.aload_n 0, 1) := by decide +kernel
theorem dX9_tally_61 : decode cX9_tally 61 = .ok (.invokevirtual 209, 3) := by decide +kernel
theorem dX9_tally_64 : decode cX9_tally 64 = .ok (.lreturn, 1) := by decide +kernel
theorem dX9_tally_65 : decode cX9_tally 65 = .ok (.aload_n 0, 1) := by decide +kernel
theorem dX9_tally_66 : decode cX9_tally 66 = .ok (.getfield 48, 3) := by decide +kernel
theorem dX9_tally_69 : decode cX9_tally 69 = .ok (.i2l, 1) := by decide +kernel
theorem dX9_tally_70 : decode cX9_tally 70 = .ok (.lreturn, 1) := by decide +kernel
theorem dX9_tally_71 : decode cX9_tally 71 = .ok (.aload_n 0, 1) := by decide +kernel
theorem dX9_tally_72 : decode cX9_tally 72 = .ok (.getfield 51, 3) := by decide +kernel
theorem dX9_tally_75 : decode cX9_tally 75 = .ok (.lreturn, 1) := by decide +kernel
theorem dX9_tally_76 : decode cX9_tally 76 = .ok (.aload_n 0, 1) := by decide +kernel
theorem dX9_tally_77 : decode cX9_tally 77 = .ok (.invokevirtual 213, 3) := by decide +kernel
theorem dX9_tally_80 : decode cX9_tally 80 = .ok (.lreturn, 1) := by decide +kernel
theorem dX9_tally_81 : decode cX9_tally 81 = .ok (.aload_n 0, 1) := by decide +kernel
theorem dX9_tally_82 : decode cX9_tally 82 = .ok (.getfield 55, 3) := by decide +kernel
theorem dX9_tally_85 : decode cX9_tally 85 = .ok (.lreturn, 1) := by decide +kernel
theorem dX9_tally_86 : decode cX9_tally 86 = .ok (.aload_n 0, 1) := by decide +kernel
theorem dX9_tally_87 : decode cX9_tally 87 = .ok (.getfield 58, 3) := by decide +kernel
theorem dX9_tally_90 : decode cX9_tally 90 = .ok (.lreturn, 1) := by decide +kernel
theorem dX9_tally_91 : decode cX9_tally 91 = .ok (.aload_n 0, 1) := by decide +kernel
theorem dX9_tally_92 : decode cX9_tally 92 = .ok (.invokevirtual 216, 3) := by decide +kernel
theorem dX9_tally_95 : decode cX9_tally 95 = .ok (.lreturn, 1) := by decide +kernel
theorem dX9_openPapers_0 : decode cX9_openPapers 0 = .ok (.lconst 0, 1) := by decide +kernel
theorem dX9_openPapers_1 : decode cX9_openPapers 1 = .ok (.lstore_n 1, 1) := by decide +kernel
theorem dX9_openPapers_2 : decode cX9_openPapers 2 = .ok (.iconst 0, 1) := by decide +kernel
theorem dX9_openPapers_3 : decode cX9_openPapers 3 = .ok (.istore_n 3, 1) := by decide +kernel
theorem dX9_openPapers_4 : decode cX9_openPapers 4 = .ok (.iload_n 3, 1) := by decide +kernel
theorem dX9_openPapers_5 : decode cX9_openPapers 5 = .ok (.aload_n 0, 1) := by decide +kernel
theorem dX9_openPapers_6 : decode cX9_openPapers 6 = .ok (.getfield 45, 3) := by decide +kernel
theorem dX9_openPapers_9 : decode cX9_openPapers 9 = .ok (.if_icmp .ge 25, 3) := by decide +kernel
theorem dX9_openPapers_12 : decode cX9_openPapers 12 = .ok (.aload_n 0, 1) := by decide +kernel
theorem dX9_openPapers_13 : decode cX9_openPapers 13 = .ok (.getfield 19, 3) := by decide +kernel
theorem dX9_openPapers_16 : decode cX9_openPapers 16 = .ok (.iload_n 3, 1) := by decide +kernel
theorem dX9_openPapers_17 : decode cX9_openPapers 17 = .ok (.aaload, 1) := by decide +kernel
theorem dX9_openPapers_18 : decode cX9_openPapers 18 = .ok (.invokevirtual 134, 3) := by decide +kernel
theorem dX9_openPapers_21 : decode cX9_openPapers 21 = .ok (.ifCond .eq 7, 3) := by decide +kernel
theorem dX9_openPapers_24 : decode cX9_openPapers 24 = .ok (.lload_n 1, 1) := by decide +kernel
theorem dX9_openPapers_25 : decode cX9_openPapers 25 = .ok (.lconst 1, 1) := by decide +kernel
theorem dX9_openPapers_26 : decode cX9_openPapers 26 = .ok (.ladd, 1) := by decide +kernel
theorem dX9_openPapers_27 : decode cX9_openPapers 27 = .ok (.lstore_n 1, 1) := by decide +kernel
theorem dX9_openPapers_28 : decode cX9_openPapers 28 = .ok (.iinc 3 1, 3) := by decide +kernel
theorem dX9_openPapers_31 : decode cX9_openPapers 31 = .ok (.goto (-27), 3) := by decide +kernel
theorem dX9_openPapers_34 : decode cX9_openPapers 34 = .ok (.lload_n 1, 1) := by decide +kernel
theorem dX9_openPapers_35 : decode cX9_openPapers 35 = .ok (.lreturn, 1) := by decide +kernel
theorem dX9_marksOfAll_0 : decode cX9_marksOfAll 0 = .ok (.lconst 0, 1) := by decide +kernel
theorem dX9_marksOfAll_1 : decode cX9_marksOfAll 1 = .ok (.lstore_n 1, 1) := by decide +kernel
theorem dX9_marksOfAll_2 : decode cX9_marksOfAll 2 = .ok (.iconst 0, 1) := by decide +kernel
theorem dX9_marksOfAll_3 : decode cX9_marksOfAll 3 = .ok (.istore_n 3, 1) := by decide +kernel
theorem dX9_marksOfAll_4 : decode cX9_marksOfAll 4 = .ok (.iload_n 3, 1) := by decide +kernel
theorem dX9_marksOfAll_5 : decode cX9_marksOfAll 5 = .ok (.aload_n 0, 1) := by decide +kernel
theorem dX9_marksOfAll_6 : decode cX9_marksOfAll 6 = .ok (.getfield 41, 3) := by decide +kernel
theorem dX9_marksOfAll_9 : decode cX9_marksOfAll 9 = .ok (.if_icmp .ge 21, 3) := by decide +kernel
theorem dX9_marksOfAll_12 : decode cX9_marksOfAll 12 = .ok (.lload_n 1, 1) := by decide +kernel
theorem dX9_marksOfAll_13 : decode cX9_marksOfAll 13 = .ok (.aload_n 0, 1) := by decide +kernel
theorem dX9_marksOfAll_14 : decode cX9_marksOfAll 14 = .ok (.getfield 11, 3) := by decide +kernel
theorem dX9_marksOfAll_17 : decode cX9_marksOfAll 17 = .ok (.iload_n 3, 1) := by decide +kernel
theorem dX9_marksOfAll_18 : decode cX9_marksOfAll 18 = .ok (.aaload, 1) := by decide +kernel
theorem dX9_marksOfAll_19 : decode cX9_marksOfAll 19 = .ok (.getfield 107, 3) := by decide +kernel
theorem dX9_marksOfAll_22 : decode cX9_marksOfAll 22 = .ok (.ladd, 1) := by decide +kernel
theorem dX9_marksOfAll_23 : decode cX9_marksOfAll 23 = .ok (.lstore_n 1, 1) := by decide +kernel
theorem dX9_marksOfAll_24 : decode cX9_marksOfAll 24 = .ok (.iinc 3 1, 3) := by decide +kernel
theorem dX9_marksOfAll_27 : decode cX9_marksOfAll 27 = .ok (.goto (-23), 3) := by decide +kernel
theorem dX9_marksOfAll_30 : decode cX9_marksOfAll 30 = .ok (.lload_n 1, 1) := by decide +kernel
theorem dX9_marksOfAll_31 : decode cX9_marksOfAll 31 = .ok (.lreturn, 1) := by decide +kernel
theorem dX9_loavesOfAll_0 : decode cX9_loavesOfAll 0 = .ok (.lconst 0, 1) := by decide +kernel
theorem dX9_loavesOfAll_1 : decode cX9_loavesOfAll 1 = .ok (.lstore_n 1, 1) := by decide +kernel
theorem dX9_loavesOfAll_2 : decode cX9_loavesOfAll 2 = .ok (.iconst 0, 1) := by decide +kernel
theorem dX9_loavesOfAll_3 : decode cX9_loavesOfAll 3 = .ok (.istore_n 3, 1) := by decide +kernel
theorem dX9_loavesOfAll_4 : decode cX9_loavesOfAll 4 = .ok (.iload_n 3, 1) := by decide +kernel
theorem dX9_loavesOfAll_5 : decode cX9_loavesOfAll 5 = .ok (.aload_n 0, 1) := by decide +kernel
theorem dX9_loavesOfAll_6 : decode cX9_loavesOfAll 6 = .ok (.getfield 41, 3) := by decide +kernel
theorem dX9_loavesOfAll_9 : decode cX9_loavesOfAll 9 = .ok (.if_icmp .ge 22, 3) := by decide +kernel
theorem dX9_loavesOfAll_12 : decode cX9_loavesOfAll 12 = .ok (.lload_n 1, 1) := by decide +kernel
theorem dX9_loavesOfAll_13 : decode cX9_loavesOfAll 13 = .ok (.aload_n 0, 1) := by decide +kernel
theorem dX9_loavesOfAll_14 : decode cX9_loavesOfAll 14 = .ok (.getfield 11, 3) := by decide +kernel
theorem dX9_loavesOfAll_17 : decode cX9_loavesOfAll 17 = .ok (.iload_n 3, 1) := by decide +kernel
theorem dX9_loavesOfAll_18 : decode cX9_loavesOfAll 18 = .ok (.aaload, 1) := by decide +kernel
theorem dX9_loavesOfAll_19 : decode cX9_loavesOfAll 19 = .ok (.getfield 142, 3) := by decide +kernel
theorem dX9_loavesOfAll_22 : decode cX9_loavesOfAll 22 = .ok (.i2l, 1) := by decide +kernel
theorem dX9_loavesOfAll_23 : decode cX9_loavesOfAll 23 = .ok (.ladd, 1) := by decide +kernel
theorem dX9_loavesOfAll_24 : decode cX9_loavesOfAll 24 = .ok (.lstore_n 1, 1) := by decide +kernel
theorem dX9_loavesOfAll_25 : decode cX9_loavesOfAll 25 = .ok (.iinc 3 1, 3) := by decide +kernel
theorem dX9_loavesOfAll_28 : decode cX9_loavesOfAll 28 = .ok (.goto (-24), 3) := by decide +kernel
theorem dX9_loavesOfAll_31 : decode cX9_loavesOfAll 31 = .ok (.lload_n 1, 1) := by decide +kernel
theorem dX9_loavesOfAll_32 : decode cX9_loavesOfAll 32 = .ok (.lreturn, 1) := by decide +kernel
theorem dX10_init_0 : decode cX10_init 0 = .ok (.aload_n 0, 1) := by decide +kernel
theorem dX10_init_1 : decode cX10_init 1 = .ok (.invokespecial 1, 3) := by decide +kernel
theorem dX10_init_4 : decode cX10_init 4 = .ok (.new 7, 3) := by decide +kernel
theorem dX10_init_7 : decode cX10_init 7 = .ok (.dup, 1) := by decide +kernel
theorem dX10_init_8 : decode cX10_init 8 = .ok (.invokespecial 9, 3) := by decide +kernel
theorem dX10_init_11 : decode cX10_init 11 = .ok (.astore_n 1, 1) := by decide +kernel
theorem dX10_init_12 : decode cX10_init 12 = .ok (.new 10, 3) := by decide +kernel
theorem dX10_init_15 : decode cX10_init 15 = .ok (.dup, 1) := by decide +kernel
theorem dX10_init_16 : decode cX10_init 16 = .ok (.invokespecial 12, 3) := by decide +kernel
theorem dX10_init_19 : decode cX10_init 19 = .ok (.astore_n 2, 1) := by decide +kernel
theorem dX10_init_20 : decode cX10_init 20 = .ok (.new 13, 3) := by decide +kernel
theorem dX10_init_23 : decode cX10_init 23 = .ok (.dup, 1) := by decide +kernel
theorem dX10_init_24 : decode cX10_init 24 = .ok (.invokespecial 15, 3) := by decide +kernel
theorem dX10_init_27 : decode cX10_init 27 = .ok (.astore_n 3, 1) := by decide +kernel
theorem dX10_init_28 : decode cX10_init 28 = .ok (.sipush 301, 3) := by decide +kernel
theorem dX10_init_31 : decode cX10_init 31 = .ok (.newarray .long, 2) := by decide +kernel
theorem dX10_init_33 : decode cX10_init 33 = .ok (.astore 4, 2) := by decide +kernel
theorem dX10_init_35 : decode cX10_init 35 = .ok (.aload_n 0, 1) := by decide +kernel
theorem dX10_init_36 : decode cX10_init 36 = .ok (.new 18, 3) := by decide +kernel
theorem dX10_init_39 : decode cX10_init 39 = .ok (.dup, 1) := by decide +kernel
theorem dX10_init_40 : decode cX10_init 40 = .ok (.aload_n 3, 1) := by decide +kernel
theorem dX10_init_41 : decode cX10_init 41 = .ok (.aload 4, 2) := by decide +kernel
theorem dX10_init_43 : decode cX10_init 43 = .ok (.aload_n 1, 1) := by decide +kernel
theorem dX10_init_44 : decode cX10_init 44 = .ok (.aload_n 2, 1) := by decide +kernel
theorem dX10_init_45 : decode cX10_init 45 = .ok (.invokespecial 20, 3) := by decide +kernel
theorem dX10_init_48 : decode cX10_init 48 = .ok (.putfield 23, 3) := by decide +kernel
theorem dX10_init_51 : decode cX10_init 51 = .ok (.aload_n 0, 1) := by decide +kernel
theorem dX10_init_52 : decode cX10_init 52 = .ok (.new 18, 3) := by decide +kernel
theorem dX10_init_55 : decode cX10_init 55 = .ok (.dup, 1) := by decide +kernel
theorem dX10_init_56 : decode cX10_init 56 = .ok (.new 13, 3) := by decide +kernel
theorem dX10_init_59 : decode cX10_init 59 = .ok (.dup, 1) := by decide +kernel
theorem dX10_init_60 : decode cX10_init 60 = .ok (.invokespecial 15, 3) := by decide +kernel
theorem dX10_init_63 : decode cX10_init 63 = .ok (.sipush 301, 3) := by decide +kernel
theorem dX10_init_66 : decode cX10_init 66 = .ok (.newarray .long, 2) := by decide +kernel
theorem dX10_init_68 : decode cX10_init 68 = .ok (.aload_n 1, 1) := by decide +kernel
theorem dX10_init_69 : decode cX10_init 69 = .ok (.aload_n 2, 1) := by decide +kernel
theorem dX10_init_70 : decode cX10_init 70 = .ok (.invokespecial 20, 3) := by decide +kernel
theorem dX10_init_73 : decode cX10_init 73 = .ok (.putfield 27, 3) := by decide +kernel
theorem dX10_init_76 : decode cX10_init 76 = .ok (.aload_n 0, 1) := by decide +kernel
theorem dX10_init_77 : decode cX10_init 77 = .ok (.new 30, 3) := by decide +kernel
theorem dX10_init_80 : decode cX10_init 80 = .ok (.dup, 1) := by decide +kernel
theorem dX10_init_81 : decode cX10_init 81 = .ok (.aload_n 3, 1) := by decide +kernel
theorem dX10_init_82 : decode cX10_init 82 = .ok (.aload 4, 2) := by decide +kernel
theorem dX10_init_84 : decode cX10_init 84 = .ok (.aload_n 1, 1) := by decide +kernel
theorem dX10_init_85 : decode cX10_init 85 = .ok (.aload_n 2, 1) := by decide +kernel
theorem dX10_init_86 : decode cX10_init 86 = .ok (.invokespecial 32, 3) := by decide +kernel
theorem dX10_init_89 : decode cX10_init 89 = .ok (.putfield 33, 3) := by decide +kernel
theorem dX10_init_92 : decode cX10_init 92 = .ok (.aload_n 0, 1) := by decide +kernel
theorem dX10_init_93 : decode cX10_init 93 = .ok (.new 37, 3) := by decide +kernel
theorem dX10_init_96 : decode cX10_init 96 = .ok (.dup, 1) := by decide +kernel
theorem dX10_init_97 : decode cX10_init 97 = .ok (.invokespecial 39, 3) := by decide +kernel
theorem dX10_init_100 : decode cX10_init 100 = .ok (.putfield 40, 3) := by decide +kernel
theorem dX10_init_103 : decode cX10_init 103 = .ok (.aload_n 0, 1) := by decide +kernel
theorem dX10_init_104 : decode cX10_init 104 = .ok (.iconst 4, 1) := by decide +kernel
theorem dX10_init_105 : decode cX10_init 105 = .ok (.anewarray 44, 3) := by decide +kernel
theorem dX10_init_108 : decode cX10_init 108 = .ok (.putfield 46, 3) := by decide +kernel
theorem dX10_init_111 : decode cX10_init 111 = .ok (.iconst 0, 1) := by decide +kernel
theorem dX10_init_112 : decode cX10_init 112 = .ok (.istore 5, 2) := by decide +kernel
theorem dX10_init_114 : decode cX10_init 114 = .ok (.iload 5, 2) := by decide +kernel
theorem dX10_init_116 : decode cX10_init 116 = .ok (.iconst 4, 1) := by decide +kernel
theorem dX10_init_117 : decode cX10_init 117 = .ok (.if_icmp .ge 23, 3) := by decide +kernel
theorem dX10_init_120 : decode cX10_init 120 = .ok (.aload_n 0, 1) := by decide +kernel
theorem dX10_init_121 : decode cX10_init 121 = .ok (.getfield 46, 3) := by decide +kernel
theorem dX10_init_124 : decode cX10_init 124 = .ok (.iload 5, 2) := by decide +kernel
theorem dX10_init_126 : decode cX10_init 126 = .ok (.new 44, 3) := by decide +kernel
theorem dX10_init_129 : decode cX10_init 129 = .ok (.dup, 1) := by decide +kernel
theorem dX10_init_130 : decode cX10_init 130 = .ok (.invokespecial 50, 3) := by decide +kernel
theorem dX10_init_133 : decode cX10_init 133 = .ok (.aastore, 1) := by decide +kernel
theorem dX10_init_134 : decode cX10_init 134 = .ok (.iinc 5 1, 3) := by decide +kernel
theorem dX10_init_137 : decode cX10_init 137 = .ok (.goto (-23), 3) := by decide +kernel
theorem dX10_init_140 : decode cX10_init 140 = .ok (.aload_n 0, 1) := by decide +kernel
theorem dX10_init_141 : decode cX10_init 141 = .ok (.iconst 0, 1) := by decide +kernel
theorem dX10_init_142 : decode cX10_init 142 = .ok (.putfield 51, 3) := by decide +kernel
theorem dX10_init_145 : decode cX10_init 145 = .ok (.aload_n 0, 1) := by decide +kernel
theorem dX10_init_146 : decode cX10_init 146 = .ok (.lconst 0, 1) := by decide +kernel
theorem dX10_init_147 : decode cX10_init 147 = .ok (.putfield 55, 3) := by decide +kernel
theorem dX10_init_150 : decode cX10_init 150 = .ok (.aload 4, 2) := by decide +kernel
theorem dX10_init_152 : decode cX10_init 152 = .ok (.iconst 0, 1) := by decide +kernel
theorem dX10_init_153 : decode cX10_init 153 = .ok (.lconst 1, 1) := by decide +kernel
theorem dX10_init_154 : decode cX10_init 154 = .ok (.lastore, 1) := by decide +kernel
theorem dX10_init_155 : decode cX10_init 155 = .ok (.return_, 1) := by decide +kernel
theorem dX10_person_0 : decode cX10_person 0 = .ok (.lload_n 1, 1) := by decide +kernel
theorem dX10_person_1 : decode cX10_person 1 = .ok (.lconst 0, 1) := by decide +kernel
theorem dX10_person_2 : decode cX10_person 2 = .ok (.ldc2_w 59, 3) := by decide +kernel
theorem dX10_person_5 : decode cX10_person 5 = .ok (.invokestatic 61, 3) := by decide +kernel
theorem dX10_person_8 : decode cX10_person 8 = .ok (.ifCond .eq 28, 3) := by decide +kernel
theorem dX10_person_11 : decode cX10_person 11 = .ok (.iload_n 3, 1) := by decide +kernel
theorem dX10_person_12 : decode cX10_person 12 = .ok (.i2l, 1) := by decide +kernel
theorem dX10_person_13 : decode cX10_person 13 = .ok (.lconst 0, 1) := by decide +kernel
theorem dX10_person_14 : decode cX10_person 14 = .ok (.ldc2_w 65, 3) := by decide +kernel
theorem dX10_person_17 : decode cX10_person 17 = .ok (.invokestatic 61, 3) := by decide +kernel
theorem dX10_person_20 : decode cX10_person 20 = .ok (.ifCond .eq 16, 3) := by decide +kernel
theorem dX10_person_23 : decode cX10_person 23 = .ok (.iload 4, 2) := by decide +kernel
theorem dX10_person_25 : decode cX10_person 25 = .ok (.i2l, 1) := by decide +kernel
theorem dX10_person_26 : decode cX10_person 26 = .ok (.lconst 0, 1) := by decide +kernel
theorem dX10_person_27 : decode cX10_person 27 = .ok (.ldc2_w 67, 3) := by decide +kernel
theorem dX10_person_30 : decode cX10_person 30 = .ok (.invokestatic 61, 3) := by decide +kernel
theorem dX10_person_33 : decode cX10_person 33 = .ok (.ifCond .ne 11, 3) := by decide +kernel
theorem dX10_person_36 : decode cX10_person 36 = .ok (.aload_n 0, 1) := by decide +kernel
theorem dX10_person_37 : decode cX10_person 37 = .ok (.ldc2_w 69, 3) := by decide +kernel
theorem dX10_person_40 : decode cX10_person 40 = .ok (.invokevirtual 71, 3) := by decide +kernel
theorem dX10_person_43 : decode cX10_person 43 = .ok (.lreturn, 1) := by decide +kernel
theorem dX10_person_44 : decode cX10_person 44 = .ok (.aload_n 0, 1) := by decide +kernel
theorem dX10_person_45 : decode cX10_person 45 = .ok (.getfield 23, 3) := by decide +kernel
theorem dX10_person_48 : decode cX10_person 48 = .ok (.getfield 75, 3) := by decide +kernel
theorem dX10_person_51 : decode cX10_person 51 = .ok (.bipush 10, 2) := by decide +kernel
theorem dX10_person_53 : decode cX10_person 53 = .ok (.if_icmp .lt 11, 3) := by decide +kernel
theorem dX10_person_56 : decode cX10_person 56 = .ok (.aload_n 0, 1) := by decide +kernel
theorem dX10_person_57 : decode cX10_person 57 = .ok (.ldc2_w 79, 3) := by decide +kernel
theorem dX10_person_60 : decode cX10_person 60 = .ok (.invokevirtual 71, 3) := by decide +kernel
theorem dX10_person_63 : decode cX10_person 63 = .ok (.lreturn, 1) := by decide +kernel
theorem dX10_person_64 : decode cX10_person 64 = .ok (.aload_n 0, 1) := by decide +kernel
theorem dX10_person_65 : decode cX10_person 65 = .ok (.getfield 23, 3) := by decide +kernel
theorem dX10_person_68 : decode cX10_person 68 = .ok (.lload_n 1, 1) := by decide +kernel
theorem dX10_person_69 : decode cX10_person 69 = .ok (.iload_n 3, 1) := by decide +kernel
theorem dX10_person_70 : decode cX10_person 70 = .ok (.iload 4, 2) := by decide +kernel
theorem dX10_person_72 : decode cX10_person 72 = .ok (.invokevirtual 81, 3) := by decide +kernel
theorem dX10_person_75 : decode cX10_person 75 = .ok (.i2l, 1) := by decide +kernel
theorem dX10_person_76 : decode cX10_person 76 = .ok (.lreturn, 1) := by decide +kernel
theorem dX10_habit_0 : decode cX10_habit 0 = .ok (.aload_n 0, 1) := by decide +kernel
theorem dX10_habit_1 : decode cX10_habit 1 = .ok (.getfield 23, 3) := by decide +kernel
theorem dX10_habit_4 : decode cX10_habit 4 = .ok (.iload_n 1, 1) := by decide +kernel
theorem dX10_habit_5 : decode cX10_habit 5 = .ok (.invokevirtual 85, 3) := by decide +kernel
theorem dX10_habit_8 : decode cX10_habit 8 = .ok (.ifCond .eq 29, 3) := by decide +kernel
theorem dX10_habit_11 : decode cX10_habit 11 = .ok (.iload_n 2, 1) := by decide +kernel
theorem dX10_habit_12 : decode cX10_habit 12 = .ok (.i2l, 1) := by decide +kernel
theorem dX10_habit_13 : decode cX10_habit 13 = .ok (.lconst 0, 1) := by decide +kernel
theorem dX10_habit_14 : decode cX10_habit 14 = .ok (.ldc2_w 89, 3) := by decide +kernel
theorem dX10_habit_17 : decode cX10_habit 17 = .ok (.invokestatic 61, 3) := by decide +kernel
theorem dX10_habit_20 : decode cX10_habit 20 = .ok (.ifCond .eq 17, 3) := by decide +kernel
theorem dX10_habit_23 : decode cX10_habit 23 = .ok (.iload_n 3, 1) := by decide +kernel
theorem dX10_habit_24 : decode cX10_habit 24 = .ok (.i2l, 1) := by decide +kernel
theorem dX10_habit_25 : decode cX10_habit 25 = .ok (.lconst 0, 1) := by decide +kernel
theorem dX10_habit_26 : decode cX10_habit 26 = .ok (.iload_n 2, 1) := by decide +kernel
theorem dX10_habit_27 : decode cX10_habit 27 = .ok (.invokestatic 91, 3) := by decide +kernel
theorem dX10_habit_30 : decode cX10_habit 30 = .ok (.i2l, 1) := by decide +kernel
theorem dX10_habit_31 : decode cX10_habit 31 = .ok (.invokestatic 61, 3) := by decide +kernel
theorem dX10_habit_34 : decode cX10_habit 34 = .ok (.ifCond .ne 11, 3) := by decide +kernel
theorem dX10_habit_37 : decode cX10_habit 37 = .ok (.aload_n 0, 1) := by decide +kernel
theorem dX10_habit_38 : decode cX10_habit 38 = .ok (.ldc2_w 69, 3) := by decide +kernel
theorem dX10_habit_41 : decode cX10_habit 41 = .ok (.invokevirtual 71, 3) := by decide +kernel
theorem dX10_habit_44 : decode cX10_habit 44 = .ok (.lreturn, 1) := by decide +kernel
theorem dX10_habit_45 : decode cX10_habit 45 = .ok (.aload_n 0, 1) := by decide +kernel
theorem dX10_habit_46 : decode cX10_habit 46 = .ok (.getfield 23, 3) := by decide +kernel
theorem dX10_habit_49 : decode cX10_habit 49 = .ok (.getfield 95, 3) := by decide +kernel
theorem dX10_habit_52 : decode cX10_habit 52 = .ok (.iload_n 1, 1) := by decide +kernel
theorem dX10_habit_53 : decode cX10_habit 53 = .ok (.aaload, 1) := by decide +kernel
theorem dX10_habit_54 : decode cX10_habit 54 = .ok (.iload_n 2, 1) := by decide +kernel
theorem dX10_habit_55 : decode cX10_habit 55 = .ok (.iload_n 3, 1) := by decide +kernel
theorem dX10_habit_56 : decode cX10_habit 56 = .ok (.invokevirtual 99, 3) := by decide +kernel
theorem dX10_habit_59 : decode cX10_habit 59 = .ok (.i2l, 1) := by decide +kernel
theorem dX10_habit_60 : decode cX10_habit 60 = .ok (.lreturn, 1) := by decide +kernel
theorem dX10_personIs_0 : decode cX10_personIs 0 = .ok (.aload_n 0, 1) := by decide +kernel
theorem dX10_personIs_1 : decode cX10_personIs 1 = .ok (.getfield 23, 3) := by decide +kernel
theorem dX10_personIs_4 : decode cX10_personIs 4 = .ok (.iload_n 1, 1) := by decide +kernel
theorem dX10_personIs_5 : decode cX10_personIs 5 = .ok (.invokevirtual 85, 3) := by decide +kernel
theorem dX10_personIs_8 : decode cX10_personIs 8 = .ok (.ifCond .eq 15, 3) := by decide +kernel
theorem dX10_personIs_11 : decode cX10_personIs 11 = .ok (.iload_n 2, 1) := by decide +kernel
theorem dX10_personIs_12 : decode cX10_personIs 12 = .ok (.i2l, 1) := by decide +kernel
theorem dX10_personIs_13 : decode cX10_personIs 13 = .ok (.lconst 0, 1) := by decide +kernel
theorem dX10_personIs_14 : decode cX10_personIs 14 = .ok (.ldc2_w 105, 3) := by decide +kernel
theorem dX10_personIs_17 : decode cX10_personIs 17 = .ok (.invokestatic 61, 3) := by decide +kernel
theorem dX10_personIs_20 : decode cX10_personIs 20 = .ok (.ifCond .ne 11, 3) := by decide +kernel
theorem dX10_personIs_23 : decode cX10_personIs 23 = .ok (.aload_n 0, 1) := by decide +kernel
theorem dX10_personIs_24 : decode cX10_personIs 24 = .ok (.ldc2_w 69, 3) := by decide +kernel
theorem dX10_personIs_27 : decode cX10_personIs 27 = .ok (.invokevirtual 71, 3) := by decide +kernel
theorem dX10_personIs_30 : decode cX10_personIs 30 = .ok (.lreturn, 1) := by decide +kernel
theorem dX10_personIs_31 : decode cX10_personIs 31 = .ok (.aload_n 0, 1) := by decide +kernel
theorem dX10_personIs_32 : decode cX10_personIs 32 = .ok (.getfield 23, 3) := by decide +kernel
theorem dX10_personIs_35 : decode cX10_personIs 35 = .ok (.getfield 95, 3) := by decide +kernel
theorem dX10_personIs_38 : decode cX10_personIs 38 = .ok (.iload_n 1, 1) := by decide +kernel
theorem dX10_personIs_39 : decode cX10_personIs 39 = .ok (.aaload, 1) := by decide +kernel
theorem dX10_personIs_40 : decode cX10_personIs 40 = .ok (.iload_n 2, 1) := by decide +kernel
theorem dX10_personIs_41 : decode cX10_personIs 41 = .ok (.invokevirtual 107, 3) := by decide +kernel
theorem dX10_personIs_44 : decode cX10_personIs 44 = .ok (.lreturn, 1) := by decide +kernel
theorem dX10_gain_0 : decode cX10_gain 0 = .ok (.aload_n 0, 1) := by decide +kernel
theorem dX10_gain_1 : decode cX10_gain 1 = .ok (.getfield 23, 3) := by decide +kernel
theorem dX10_gain_4 : decode cX10_gain 4 = .ok (.iload_n 1, 1) := by decide +kernel
theorem dX10_gain_5 : decode cX10_gain 5 = .ok (.invokevirtual 85, 3) := by decide +kernel
theorem dX10_gain_8 : decode cX10_gain 8 = .ok (.ifCond .ne 11, 3) := by decide +kernel
theorem dX10_gain_11 : decode cX10_gain 11 = .ok (.aload_n 0, 1) := by decide +kernel
theorem dX10_gain_12 : decode cX10_gain 12 = .ok (.ldc2_w 69, 3) := by decide +kernel
theorem dX10_gain_15 : decode cX10_gain 15 = .ok (.invokevirtual 71, 3) := by decide +kernel
theorem dX10_gain_18 : decode cX10_gain 18 = .ok (.lreturn, 1) := by decide +kernel
theorem dX10_gain_19 : decode cX10_gain 19 = .ok (.iload_n 2, 1) := by decide +kernel
theorem dX10_gain_20 : decode cX10_gain 20 = .ok (.ifCond .eq 18, 3) := by decide +kernel
theorem dX10_gain_23 : decode cX10_gain 23 = .ok (.aload_n 0, 1) := by decide +kernel
theorem dX10_gain_24 : decode cX10_gain 24 = .ok (.getfield 23, 3) := by decide +kernel
theorem dX10_gain_27 : decode cX10_gain 27 = .ok (.getfield 95, 3) := by decide +kernel
theorem dX10_gain_30 : decode cX10_gain 30 = .ok (.iload_n 1, 1) := by decide +kernel
theorem dX10_gain_31 : decode cX10_gain 31 = .ok (.aaload, 1) := by decide +kernel
theorem dX10_gain_32 : decode cX10_gain 32 = .ok (.getfield 111, 3) := by decide +kernel
theorem dX10_gain_35 : decode cX10_gain 35 = .ok (.goto 15, 3) := by decide +kernel
theorem dX10_gain_38 : decode cX10_gain 38 = .ok (.aload_n 0, 1) := by decide +kernel
theorem dX10_gain_39 : decode cX10_gain 39 = .ok (.getfield 23, 3) := by decide +kernel
theorem dX10_gain_42 : decode cX10_gain 42 = .ok (.getfield 95, 3) := by decide +kernel
theorem dX10_gain_45 : decode cX10_gain 45 = .ok (.iload_n 1, 1) := by decide +kernel
theorem dX10_gain_46 : decode cX10_gain 46 = .ok (.aaload, 1) := by decide +kernel
theorem dX10_gain_47 : decode cX10_gain 47 = .ok (.getfield 114, 3) := by decide +kernel
theorem dX10_gain_50 : decode cX10_gain 50 = .ok (.lreturn, 1) := by decide +kernel
theorem dX10_paper_0 : decode cX10_paper 0 = .ok (.iload_n 1, 1) := by decide +kernel
theorem dX10_paper_1 : decode cX10_paper 1 = .ok (.i2l, 1) := by decide +kernel
theorem dX10_paper_2 : decode cX10_paper 2 = .ok (.lconst 0, 1) := by decide +kernel
theorem dX10_paper_3 : decode cX10_paper 3 = .ok (.ldc2_w 117, 3) := by decide +kernel
theorem dX10_paper_6 : decode cX10_paper 6 = .ok (.invokestatic 61, 3) := by decide +kernel
theorem dX10_paper_9 : decode cX10_paper 9 = .ok (.ifCond .eq 52, 3) := by decide +kernel
theorem dX10_paper_12 : decode cX10_paper 12 = .ok (.iload_n 2, 1) := by decide +kernel
theorem dX10_paper_13 : decode cX10_paper 13 = .ok (.ifCond .lt 48, 3) := by decide +kernel
theorem dX10_paper_16 : decode cX10_paper 16 = .ok (.aload_n 0, 1) := by decide +kernel
theorem dX10_paper_17 : decode cX10_paper 17 = .ok (.getfield 23, 3) := by decide +kernel
theorem dX10_paper_20 : decode cX10_paper 20 = .ok (.iload_n 2, 1) := by decide +kernel
theorem dX10_paper_21 : decode cX10_paper 21 = .ok (.bipush 100, 2) := by decide +kernel
theorem dX10_paper_23 : decode cX10_paper 23 = .ok (.irem, 1) := by decide +kernel
theorem dX10_paper_24 : decode cX10_paper 24 = .ok (.invokevirtual 85, 3) := by decide +kernel
theorem dX10_paper_27 : decode cX10_paper 27 = .ok (.ifCond .eq 34, 3) := by decide +kernel
theorem dX10_paper_30 : decode cX10_paper 30 = .ok (.lload_n 3, 1) := by decide +kernel
theorem dX10_paper_31 : decode cX10_paper 31 = .ok (.lconst 1, 1) := by decide +kernel
theorem dX10_paper_32 : decode cX10_paper 32 = .ok (.ldc2_w 59, 3) := by decide +kernel
theorem dX10_paper_35 : decode cX10_paper 35 = .ok (.invokestatic 61, 3) := by decide +kernel
theorem dX10_paper_38 : decode cX10_paper 38 = .ok (.ifCond .eq 23, 3) := by decide +kernel
theorem dX10_paper_41 : decode cX10_paper 41 = .ok (.iload 5, 2) := by decide +kernel
theorem dX10_paper_43 : decode cX10_paper 43 = .ok (.i2l, 1) := by decide +kernel
theorem dX10_paper_44 : decode cX10_paper 44 = .ok (.aload_n 0, 1) := by decide +kernel
theorem dX10_paper_45 : decode cX10_paper 45 = .ok (.getfield 23, 3) := by decide +kernel
theorem dX10_paper_48 : decode cX10_paper 48 = .ok (.getfield 119, 3) := by decide +kernel
theorem dX10_paper_51 : decode cX10_paper 51 = .ok (.i2l, 1) := by decide +kernel
theorem dX10_paper_52 : decode cX10_paper 52 = .ok (.ldc2_w 122, 3) := by decide +kernel
theorem dX10_paper_55 : decode cX10_paper 55 = .ok (.invokestatic 61, 3) := by decide +kernel
theorem dX10_paper_58 : decode cX10_paper 58 = .ok (.ifCond .ne 11, 3) := by decide +kernel
theorem dX10_paper_61 : decode cX10_paper 61 = .ok (.aload_n 0, 1) := by decide +kernel
theorem dX10_paper_62 : decode cX10_paper 62 = .ok (.ldc2_w 69, 3) := by decide +kernel
theorem dX10_paper_65 : decode cX10_paper 65 = .ok (.invokevirtual 71, 3) := by decide +kernel
theorem dX10_paper_68 : decode cX10_paper 68 = .ok (.lreturn, 1) := by decide +kernel
theorem dX10_paper_69 : decode cX10_paper 69 = .ok (.iload_n 2, 1) := by decide +kernel
theorem dX10_paper_70 : decode cX10_paper 70 = .ok (.bipush 100, 2) := by decide +kernel
theorem dX10_paper_72 : decode cX10_paper 72 = .ok (.idiv, 1) := by decide +kernel
theorem dX10_paper_73 : decode cX10_paper 73 = .ok (.istore 6, 2) := by decide +kernel
theorem dX10_paper_75 : decode cX10_paper 75 = .ok (.iload_n 2, 1) := by decide +kernel
theorem dX10_paper_76 : decode cX10_paper 76 = .ok (.bipush 100, 2) := by decide +kernel
theorem dX10_paper_78 : decode cX10_paper 78 = .ok (.irem, 1) := by decide +kernel
theorem dX10_paper_79 : decode cX10_paper 79 = .ok (.istore 7, 2) := by decide +kernel
theorem dX10_paper_81 : decode cX10_paper 81 = .ok (.iload_n 1, 1) := by decide +kernel
theorem dX10_paper_82 : decode cX10_paper 82 = .ok (.iconst 4, 1) := by decide +kernel
theorem dX10_paper_83 : decode cX10_paper 83 = .ok (.if_icmp .ne 11, 3) := by decide +kernel
theorem dX10_paper_86 : decode cX10_paper 86 = .ok (.iload 6, 2) := by decide +kernel
theorem dX10_paper_88 : decode cX10_paper 88 = .ok (.ifCond .eq 26, 3) := by decide +kernel
theorem dX10_paper_91 : decode cX10_paper 91 = .ok (.goto 15, 3) := by decide +kernel
theorem dX10_paper_94 : decode cX10_paper 94 = .ok (.aload_n 0, 1) := by decide +kernel
theorem dX10_paper_95 : decode cX10_paper 95 = .ok (.getfield 23, 3) := by decide +kernel
theorem dX10_paper_98 : decode cX10_paper 98 = .ok (.iload 6, 2) := by decide +kernel
theorem dX10_paper_100 : decode cX10_paper 100 = .ok (.invokevirtual 85, 3) := by decide +kernel
theorem dX10_paper_103 : decode cX10_paper 103 = .ok (.ifCond .ne 11, 3) := by decide +kernel
theorem dX10_paper_106 : decode cX10_paper 106 = .ok (.aload_n 0, 1) := by decide +kernel
theorem dX10_paper_107 : decode cX10_paper 107 = .ok (.ldc2_w 69, 3) := by decide +kernel
theorem dX10_paper_110 : decode cX10_paper 110 = .ok (.invokevirtual 71, 3) := by decide +kernel
theorem dX10_paper_113 : decode cX10_paper 113 = .ok (.lreturn, 1) := by decide +kernel
theorem dX10_paper_114 : decode cX10_paper 114 = .ok (.iload_n 1, 1) := by decide +kernel
theorem dX10_paper_115 : decode cX10_paper 115 = .ok (.iconst 4, 1) := by decide +kernel
theorem dX10_paper_116 : decode cX10_paper 116 = .ok (.if_icmp .eq 18, 3) := by decide +kernel
theorem dX10_paper_119 : decode cX10_paper 119 = .ok (.iload 6, 2) := by decide +kernel
theorem dX10_paper_121 : decode cX10_paper 121 = .ok (.iload 7, 2) := by decide +kernel
theorem dX10_paper_123 : decode cX10_paper 123 = .ok (.if_icmp .ne 11, 3) := by decide +kernel
theorem dX10_paper_126 : decode cX10_paper 126 = .ok (.aload_n 0, 1) := by decide +kernel
theorem dX10_paper_127 : decode cX10_paper 127 = .ok (.ldc2_w 124, 3) := by decide +kernel
theorem dX10_paper_130 : decode cX10_paper 130 = .ok (.invokevirtual 71, 3) := by decide +kernel
theorem dX10_paper_133 : decode cX10_paper 133 = .ok (.lreturn, 1) := by decide +kernel
theorem dX10_paper_134 : decode cX10_paper 134 = .ok (.aload_n 0, 1) := by decide +kernel
theorem dX10_paper_135 : decode cX10_paper 135 = .ok (.getfield 23, 3) := by decide +kernel
theorem dX10_paper_138 : decode cX10_paper 138 = .ok (.getfield 126, 3) := by decide +kernel
theorem dX10_paper_141 : decode cX10_paper 141 = .ok (.bipush 24, 2) := by decide +kernel
theorem dX10_paper_143 : decode cX10_paper 143 = .ok (.if_icmp .lt 11, 3) := by decide +kernel
theorem dX10_paper_146 : decode cX10_paper 146 = .ok (.aload_n 0, 1) := by decide +kernel
theorem dX10_paper_147 : decode cX10_paper 147 = .ok (.ldc2_w 79, 3) := by decide +kernel
theorem dX10_paper_150 : decode cX10_paper 150 = .ok (.invokevirtual 71, 3) := by decide +kernel
theorem dX10_paper_153 : decode cX10_paper 153 = .ok (.lreturn, 1) := by decide +kernel
theorem dX10_paper_154 : decode cX10_paper 154 = .ok (.aload_n 0, 1) := by decide +kernel
theorem dX10_paper_155 : decode cX10_paper 155 = .ok (.getfield 23, 3) := by decide +kernel
theorem dX10_paper_158 : decode cX10_paper 158 = .ok (.iload_n 1, 1) := by decide +kernel
theorem dX10_paper_159 : decode cX10_paper 159 = .ok (.iload_n 1, 1) := by decide +kernel
theorem dX10_paper_160 : decode cX10_paper 160 = .ok (.iconst 4, 1) := by decide +kernel
theorem dX10_paper_161 : decode cX10_paper 161 = .ok (.if_icmp .ne 7, 3) := by decide +kernel
theorem dX10_paper_164 : decode cX10_paper 164 = .ok (.iconst (-1), 1) := by decide +kernel
theorem dX10_paper_165 : decode cX10_paper 165 = .ok (.goto 5, 3) := by decide +kernel
theorem dX10_paper_168 : decode cX10_paper 168 = .ok (.iload 6, 2) := by decide +kernel
theorem dX10_paper_170 : decode cX10_paper 170 = .ok (.iload 7, 2) := by decide +kernel
theorem dX10_paper_172 : decode cX10_paper 172 = .ok (.lload_n 3, 1) := by decide +kernel
theorem dX10_paper_173 : decode cX10_paper 173 = .ok (.iload 5, 2) := by decide +kernel
theorem dX10_paper_175 : decode cX10_paper 175 = .ok (.invokevirtual 129, 3) := by decide +kernel
theorem dX10_paper_178 : decode cX10_paper 178 = .ok (.i2l, 1) := by decide +kernel
theorem dX10_paper_179 : decode cX10_paper 179 = .ok (.lreturn, 1) := by decide +kernel
theorem dX10_as_0 : decode cX10_as 0 = .ok (.aload_n 0, 1) := by decide +kernel
theorem dX10_as_1 : decode cX10_as 1 = .ok (.getfield 23, 3) := by decide +kernel
theorem dX10_as_4 : decode cX10_as 4 = .ok (.iload_n 1, 1) := by decide +kernel
theorem dX10_as_5 : decode cX10_as 5 = .ok (.invokevirtual 133, 3) := by decide +kernel
theorem dX10_as_8 : decode cX10_as 8 = .ok (.ifCond .eq 15, 3) := by decide +kernel
theorem dX10_as_11 : decode cX10_as 11 = .ok (.iload_n 2, 1) := by decide +kernel
theorem dX10_as_12 : decode cX10_as 12 = .ok (.i2l, 1) := by decide +kernel
theorem dX10_as_13 : decode cX10_as 13 = .ok (.lconst 0, 1) := by decide +kernel
theorem dX10_as_14 : decode cX10_as 14 = .ok (.ldc2_w 117, 3) := by decide +kernel
theorem dX10_as_17 : decode cX10_as 17 = .ok (.invokestatic 61, 3) := by decide +kernel
theorem dX10_as_20 : decode cX10_as 20 = .ok (.ifCond .ne 11, 3) := by decide +kernel
theorem dX10_as_23 : decode cX10_as 23 = .ok (.aload_n 0, 1) := by decide +kernel
theorem dX10_as_24 : decode cX10_as 24 = .ok (.ldc2_w 69, 3) := by decide +kernel
theorem dX10_as_27 : decode cX10_as 27 = .ok (.invokevirtual 71, 3) := by decide +kernel
theorem dX10_as_30 : decode cX10_as 30 = .ok (.lreturn, 1) := by decide +kernel
theorem dX10_as_31 : decode cX10_as 31 = .ok (.aload_n 0, 1) := by decide +kernel
theorem dX10_as_32 : decode cX10_as 32 = .ok (.getfield 23, 3) := by decide +kernel
theorem dX10_as_35 : decode cX10_as 35 = .ok (.getfield 136, 3) := by decide +kernel
theorem dX10_as_38 : decode cX10_as 38 = .ok (.iload_n 1, 1) := by decide +kernel
theorem dX10_as_39 : decode cX10_as 39 = .ok (.aaload, 1) := by decide +kernel
theorem dX10_as_40 : decode cX10_as 40 = .ok (.iload_n 2, 1) := by decide +kernel
theorem dX10_as_41 : decode cX10_as 41 = .ok (.invokevirtual 140, 3) := by decide +kernel
theorem dX10_as_44 : decode cX10_as 44 = .ok (.ifCond .ne 11, 3) := by decide +kernel
theorem dX10_as_47 : decode cX10_as 47 = .ok (.aload_n 0, 1) := by decide +kernel
theorem dX10_as_48 : decode cX10_as 48 = .ok (.ldc2_w 145, 3) := by decide +kernel
theorem dX10_as_51 : decode cX10_as 51 = .ok (.invokevirtual 71, 3) := by decide +kernel
theorem dX10_as_54 : decode cX10_as 54 = .ok (.lreturn, 1) := by decide +kernel
theorem dX10_as_55 : decode cX10_as 55 = .ok (.iload_n 1, 1) := by decide +kernel
theorem dX10_as_56 : decode cX10_as 56 = .ok (.i2l, 1) := by decide +kernel
theorem dX10_as_57 : decode cX10_as 57 = .ok (.lreturn, 1) := by decide +kernel
theorem dX10_paperIs_0 : decode cX10_paperIs 0 = .ok (.aload_n 0, 1) := by decide +kernel
theorem dX10_paperIs_1 : decode cX10_paperIs 1 = .ok (.getfield 23, 3) := by decide +kernel
theorem dX10_paperIs_4 : decode cX10_paperIs 4 = .ok (.iload_n 1, 1) := by decide +kernel
theorem dX10_paperIs_5 : decode cX10_paperIs 5 = .ok (.invokevirtual 133, 3) := by decide +kernel
theorem dX10_paperIs_8 : decode cX10_paperIs 8 = .ok (.ifCond .eq 15, 3) := by decide +kernel
theorem dX10_paperIs_11 : decode cX10_paperIs 11 = .ok (.iload_n 2, 1) := by decide +kernel
theorem dX10_paperIs_12 : decode cX10_paperIs 12 = .ok (.i2l, 1) := by decide +kernel
theorem dX10_paperIs_13 : decode cX10_paperIs 13 = .ok (.lconst 0, 1) := by decide +kernel
theorem dX10_paperIs_14 : decode cX10_paperIs 14 = .ok (.ldc2_w 147, 3) := by decide +kernel
theorem dX10_paperIs_17 : decode cX10_paperIs 17 = .ok (.invokestatic 61, 3) := by decide +kernel
theorem dX10_paperIs_20 : decode cX10_paperIs 20 = .ok (.ifCond .ne 11, 3) := by decide +kernel
theorem dX10_paperIs_23 : decode cX10_paperIs 23 = .ok (.aload_n 0, 1) := by decide +kernel
theorem dX10_paperIs_24 : decode cX10_paperIs 24 = .ok (.ldc2_w 69, 3) := by decide +kernel
theorem dX10_paperIs_27 : decode cX10_paperIs 27 = .ok (.invokevirtual 71, 3) := by decide +kernel
theorem dX10_paperIs_30 : decode cX10_paperIs 30 = .ok (.lreturn, 1) := by decide +kernel
theorem dX10_paperIs_31 : decode cX10_paperIs 31 = .ok (.aload_n 0, 1) := by decide +kernel
theorem dX10_paperIs_32 : decode cX10_paperIs 32 = .ok (.getfield 23, 3) := by decide +kernel
theorem dX10_paperIs_35 : decode cX10_paperIs 35 = .ok (.getfield 136, 3) := by decide +kernel
theorem dX10_paperIs_38 : decode cX10_paperIs 38 = .ok (.iload_n 1, 1) := by decide +kernel
theorem dX10_paperIs_39 : decode cX10_paperIs 39 = .ok (.aaload, 1) := by decide +kernel
theorem dX10_paperIs_40 : decode cX10_paperIs 40 = .ok (.iload_n 2, 1) := by decide +kernel
theorem dX10_paperIs_41 : decode cX10_paperIs 41 = .ok (.invokevirtual 149, 3) := by decide +kernel
theorem dX10_paperIs_44 : decode cX10_paperIs 44 = .ok (.lreturn, 1) := by decide +kernel
theorem dX10_owed_0 : decode cX10_owed 0 = .ok (.aload_n 0, 1) := by decide +kernel
theorem dX10_owed_1 : decode cX10_owed 1 = .ok (.getfield 23, 3) := by decide +kernel
theorem dX10_owed_4 : decode cX10_owed 4 = .ok (.iload_n 1, 1) := by decide +kernel
theorem dX10_owed_5 : decode cX10_owed 5 = .ok (.invokevirtual 133, 3) := by decide +kernel
theorem dX10_owed_8 : decode cX10_owed 8 = .ok (.ifCond .eq 10, 3) := by decide +kernel
theorem dX10_owed_11 : decode cX10_owed 11 = .ok (.iload_n 2, 1) := by decide +kernel
theorem dX10_owed_12 : decode cX10_owed 12 = .ok (.invokestatic 150, 3) := by decide +kernel
theorem dX10_owed_15 : decode cX10_owed 15 = .ok (.ifCond .ne 11, 3) := by decide +kernel
theorem dX10_owed_18 : decode cX10_owed 18 = .ok (.aload_n 0, 1) := by decide +kernel
theorem dX10_owed_19 : decode cX10_owed 19 = .ok (.ldc2_w 69, 3) := by decide +kernel
theorem dX10_owed_22 : decode cX10_owed 22 = .ok (.invokevirtual 71, 3) := by decide +kernel
theorem dX10_owed_25 : decode cX10_owed 25 = .ok (.lreturn, 1) := by decide +kernel
theorem dX10_owed_26 : decode cX10_owed 26 = .ok (.aload_n 0, 1) := by decide +kernel
theorem dX10_owed_27 : decode cX10_owed 27 = .ok (.getfield 23, 3) := by decide +kernel
theorem dX10_owed_30 : decode cX10_owed 30 = .ok (.getfield 136, 3) := by decide +kernel
theorem dX10_owed_33 : decode cX10_owed 33 = .ok (.iload_n 1, 1) := by decide +kernel
theorem dX10_owed_34 : decode cX10_owed 34 = .ok (.aaload, 1) := by decide +kernel
theorem dX10_owed_35 : decode cX10_owed 35 = .ok (.invokevirtual 153, 3) := by decide +kernel
theorem dX10_owed_38 : decode cX10_owed 38 = .ok (.ifCond .ne 11, 3) := by decide +kernel
theorem dX10_owed_41 : decode cX10_owed 41 = .ok (.aload_n 0, 1) := by decide +kernel
theorem dX10_owed_42 : decode cX10_owed 42 = .ok (.ldc2_w 157, 3) := by decide +kernel
theorem dX10_owed_45 : decode cX10_owed 45 = .ok (.invokevirtual 71, 3) := by decide +kernel
theorem dX10_owed_48 : decode cX10_owed 48 = .ok (.lreturn, 1) := by decide +kernel
theorem dX10_owed_49 : decode cX10_owed 49 = .ok (.aload_n 0, 1) := by decide +kernel
theorem dX10_owed_50 : decode cX10_owed 50 = .ok (.aload_n 0, 1) := by decide +kernel
theorem dX10_owed_51 : decode cX10_owed 51 = .ok (.getfield 23, 3) := by decide +kernel
theorem dX10_owed_54 : decode cX10_owed 54 = .ok (.getfield 136, 3) := by decide +kernel
theorem dX10_owed_57 : decode cX10_owed 57 = .ok (.iload_n 1, 1) := by decide +kernel
theorem dX10_owed_58 : decode cX10_owed 58 = .ok (.aaload, 1) := by decide +kernel
theorem dX10_owed_59 : decode cX10_owed 59 = .ok (.iload_n 2, 1) := by decide +kernel
theorem dX10_owed_60 : decode cX10_owed 60 = .ok (.invokevirtual 159, 3) := by decide +kernel
theorem dX10_owed_63 : decode cX10_owed 63 = .ok (.lreturn, 1) := by decide +kernel
theorem dX10_pay_0 : decode cX10_pay 0 = .ok (.aload_n 0, 1) := by decide +kernel
theorem dX10_pay_1 : decode cX10_pay 1 = .ok (.getfield 23, 3) := by decide +kernel
theorem dX10_pay_4 : decode cX10_pay 4 = .ok (.iload_n 1, 1) := by decide +kernel
theorem dX10_pay_5 : decode cX10_pay 5 = .ok (.invokevirtual 133, 3) := by decide +kernel
theorem dX10_pay_8 : decode cX10_pay 8 = .ok (.ifCond .ne 11, 3) := by decide +kernel
theorem dX10_pay_11 : decode cX10_pay 11 = .ok (.aload_n 0, 1) := by decide +kernel
theorem dX10_pay_12 : decode cX10_pay 12 = .ok (.ldc2_w 69, 3) := by decide +kernel
theorem dX10_pay_15 : decode cX10_pay 15 = .ok (.invokevirtual 71, 3) := by decide +kernel
theorem dX10_pay_18 : decode cX10_pay 18 = .ok (.lreturn, 1) := by decide +kernel
theorem dX10_pay_19 : decode cX10_pay 19 = .ok (.aload_n 0, 1) := by decide +kernel
theorem dX10_pay_20 : decode cX10_pay 20 = .ok (.getfield 23, 3) := by decide +kernel
theorem dX10_pay_23 : decode cX10_pay 23 = .ok (.getfield 136, 3) := by decide +kernel
theorem dX10_pay_26 : decode cX10_pay 26 = .ok (.iload_n 1, 1) := by decide +kernel
theorem dX10_pay_27 : decode cX10_pay 27 = .ok (.aaload, 1) := by decide +kernel
theorem dX10_pay_28 : decode cX10_pay 28 = .ok (.astore_n 2, 1) := by decide +kernel
theorem dX10_pay_29 : decode cX10_pay 29 = .ok (.aload_n 2, 1) := by decide +kernel
theorem dX10_pay_30 : decode cX10_pay 30 = .ok (.invokevirtual 153, 3) := by decide +kernel
theorem dX10_pay_33 : decode cX10_pay 33 = .ok (.ifCond .ne 11, 3) := by decide +kernel
theorem dX10_pay_36 : decode cX10_pay 36 = .ok (.aload_n 0, 1) := by decide +kernel
theorem dX10_pay_37 : decode cX10_pay 37 = .ok (.ldc2_w 157, 3) := by decide +kernel
theorem dX10_pay_40 : decode cX10_pay 40 = .ok (.invokevirtual 71, 3) := by decide +kernel
theorem dX10_pay_43 : decode cX10_pay 43 = .ok (.lreturn, 1) := by decide +kernel
theorem dX10_pay_44 : decode cX10_pay 44 = .ok (.aload_n 2, 1) := by decide +kernel
theorem dX10_pay_45 : decode cX10_pay 45 = .ok (.getfield 163, 3) := by decide +kernel
theorem dX10_pay_48 : decode cX10_pay 48 = .ok (.iconst 3, 1) := by decide +kernel
theorem dX10_pay_49 : decode cX10_pay 49 = .ok (.if_icmp .eq 25, 3) := by decide +kernel
theorem dX10_pay_52 : decode cX10_pay 52 = .ok (.aload_n 2, 1) := by decide +kernel
theorem dX10_pay_53 : decode cX10_pay 53 = .ok (.getfield 163, 3) := by decide +kernel
theorem dX10_pay_56 : decode cX10_pay 56 = .ok (.iconst 4, 1) := by decide +kernel
theorem dX10_pay_57 : decode cX10_pay 57 = .ok (.if_icmp .eq 17, 3) := by decide +kernel
theorem dX10_pay_60 : decode cX10_pay 60 = .ok (.aload_n 0, 1) := by decide +kernel
theorem dX10_pay_61 : decode cX10_pay 61 = .ok (.getfield 23, 3) := by decide +kernel
theorem dX10_pay_64 : decode cX10_pay 64 = .ok (.aload_n 2, 1) := by decide +kernel
theorem dX10_pay_65 : decode cX10_pay 65 = .ok (.getfield 166, 3) := by decide +kernel
theorem dX10_pay_68 : decode cX10_pay 68 = .ok (.invokevirtual 85, 3) := by decide +kernel
theorem dX10_pay_71 : decode cX10_pay 71 = .ok (.ifCond .ne 11, 3) := by decide +kernel
theorem dX10_pay_74 : decode cX10_pay 74 = .ok (.aload_n 0, 1) := by decide +kernel
theorem dX10_pay_75 : decode cX10_pay 75 = .ok (.ldc2_w 145, 3) := by decide +kernel
theorem dX10_pay_78 : decode cX10_pay 78 = .ok (.invokevirtual 71, 3) := by decide +kernel
theorem dX10_pay_81 : decode cX10_pay 81 = .ok (.lreturn, 1) := by decide +kernel
theorem dX10_pay_82 : decode cX10_pay 82 = .ok (.aload_n 0, 1) := by decide +kernel
theorem dX10_pay_83 : decode cX10_pay 83 = .ok (.aload_n 2, 1) := by decide +kernel
theorem dX10_pay_84 : decode cX10_pay 84 = .ok (.iconst 0, 1) := by decide +kernel
theorem dX10_pay_85 : decode cX10_pay 85 = .ok (.invokevirtual 159, 3) := by decide +kernel
theorem dX10_pay_88 : decode cX10_pay 88 = .ok (.lstore_n 3, 1) := by decide +kernel
theorem dX10_pay_89 : decode cX10_pay 89 = .ok (.aload_n 0, 1) := by decide +kernel
theorem dX10_pay_90 : decode cX10_pay 90 = .ok (.getfield 23, 3) := by decide +kernel
theorem dX10_pay_93 : decode cX10_pay 93 = .ok (.getfield 95, 3) := by decide +kernel
theorem dX10_pay_96 : decode cX10_pay 96 = .ok (.aload_n 2, 1) := by decide +kernel
theorem dX10_pay_97 : decode cX10_pay 97 = .ok (.getfield 166, 3) := by decide +kernel
theorem dX10_pay_100 : decode cX10_pay 100 = .ok (.aaload, 1) := by decide +kernel
theorem dX10_pay_101 : decode cX10_pay 101 = .ok (.getfield 169, 3) := by decide +kernel
theorem dX10_pay_104 : decode cX10_pay 104 = .ok (.lload_n 3, 1) := by decide +kernel
theorem dX10_pay_105 : decode cX10_pay 105 = .ok (.lcmp, 1) := by decide +kernel
theorem dX10_pay_106 : decode cX10_pay 106 = .ok (.ifCond .ge 11, 3) := by decide +kernel
theorem dX10_pay_109 : decode cX10_pay 109 = .ok (.aload_n 0, 1) := by decide +kernel
theorem dX10_pay_110 : decode cX10_pay 110 = .ok (.ldc2_w 172, 3) := by decide +kernel
theorem dX10_pay_113 : decode cX10_pay 113 = .ok (.invokevirtual 71, 3) := by decide +kernel
theorem dX10_pay_116 : decode cX10_pay 116 = .ok (.lreturn, 1) := by decide +kernel
theorem dX10_pay_117 : decode cX10_pay 117 = .ok (.aload_n 0, 1) := by decide +kernel
theorem dX10_pay_118 : decode cX10_pay 118 = .ok (.getfield 23, 3) := by decide +kernel
theorem dX10_pay_121 : decode cX10_pay 121 = .ok (.aload_n 2, 1) := by decide +kernel
theorem dX10_pay_122 : decode cX10_pay 122 = .ok (.lload_n 3, 1) := by decide +kernel
theorem dX10_pay_123 : decode cX10_pay 123 = .ok (.invokevirtual 174, 3) := by decide +kernel
theorem dX10_pay_126 : decode cX10_pay 126 = .ok (.aload_n 0, 1) := by decide +kernel
theorem dX10_pay_127 : decode cX10_pay 127 = .ok (.getfield 23, 3) := by decide +kernel
theorem dX10_pay_130 : decode cX10_pay 130 = .ok (.aload_n 2, 1) := by decide +kernel
theorem dX10_pay_131 : decode cX10_pay 131 = .ok (.lload_n 3, 1) := by decide +kernel
theorem dX10_pay_132 : decode cX10_pay 132 = .ok (.invokevirtual 178, 3) := by decide +kernel
theorem dX10_pay_135 : decode cX10_pay 135 = .ok (.lload_n 3, 1) := by decide +kernel
theorem dX10_pay_136 : decode cX10_pay 136 = .ok (.lreturn, 1) := by decide +kernel
theorem dX10_tear_0 : decode cX10_tear 0 = .ok (.aload_n 0, 1) := by decide +kernel
theorem dX10_tear_1 : decode cX10_tear 1 = .ok (.getfield 23, 3) := by decide +kernel
theorem dX10_tear_4 : decode cX10_tear 4 = .ok (.iload_n 1, 1) := by decide +kernel
theorem dX10_tear_5 : decode cX10_tear 5 = .ok (.invokevirtual 133, 3) := by decide +kernel
theorem dX10_tear_8 : decode cX10_tear 8 = .ok (.ifCond .ne 11, 3) := by decide +kernel
theorem dX10_tear_11 : decode cX10_tear 11 = .ok (.aload_n 0, 1) := by decide +kernel
theorem dX10_tear_12 : decode cX10_tear 12 = .ok (.ldc2_w 69, 3) := by decide +kernel
theorem dX10_tear_15 : decode cX10_tear 15 = .ok (.invokevirtual 71, 3) := by decide +kernel
theorem dX10_tear_18 : decode cX10_tear 18 = .ok (.lreturn, 1) := by decide +kernel
theorem dX10_tear_19 : decode cX10_tear 19 = .ok (.aload_n 0, 1) := by decide +kernel
theorem dX10_tear_20 : decode cX10_tear 20 = .ok (.getfield 23, 3) := by decide +kernel
theorem dX10_tear_23 : decode cX10_tear 23 = .ok (.getfield 136, 3) := by decide +kernel
theorem dX10_tear_26 : decode cX10_tear 26 = .ok (.iload_n 1, 1) := by decide +kernel
theorem dX10_tear_27 : decode cX10_tear 27 = .ok (.aaload, 1) := by decide +kernel
theorem dX10_tear_28 : decode cX10_tear 28 = .ok (.astore_n 2, 1) := by decide +kernel
theorem dX10_tear_29 : decode cX10_tear 29 = .ok (.aload_n 2, 1) := by decide +kernel
theorem dX10_tear_30 : decode cX10_tear 30 = .ok (.invokevirtual 153, 3) := by decide +kernel
theorem dX10_tear_33 : decode cX10_tear 33 = .ok (.ifCond .ne 11, 3) := by decide +kernel
theorem dX10_tear_36 : decode cX10_tear 36 = .ok (.aload_n 0, 1) := by decide +kernel
theorem dX10_tear_37 : decode cX10_tear 37 = .ok (.ldc2_w 157, 3) := by decide +kernel
theorem dX10_tear_40 : decode cX10_tear 40 = .ok (.invokevirtual 71, 3) := by decide +kernel
theorem dX10_tear_43 : decode cX10_tear 43 = .ok (.lreturn, 1) := by decide +kernel
theorem dX10_tear_44 : decode cX10_tear 44 = .ok (.aload_n 2, 1) := by decide +kernel
theorem dX10_tear_45 : decode cX10_tear 45 = .ok (.iconst 2, 1) := by decide +kernel
theorem dX10_tear_46 : decode cX10_tear 46 = .ok (.putfield 181, 3) := by decide +kernel
theorem dX10_tear_49 : decode cX10_tear 49 = .ok (.aload_n 2, 1) := by decide +kernel
theorem dX10_tear_50 : decode cX10_tear 50 = .ok (.getfield 184, 3) := by decide +kernel
theorem dX10_tear_53 : decode cX10_tear 53 = .ok (.lreturn, 1) := by decide +kernel
theorem dX10_thin_0 : decode cX10_thin 0 = .ok (.lconst 0, 1) := by decide +kernel
theorem dX10_thin_1 : decode cX10_thin 1 = .ok (.lstore_n 1, 1) := by decide +kernel
theorem dX10_thin_2 : decode cX10_thin 2 = .ok (.iconst 0, 1) := by decide +kernel
theorem dX10_thin_3 : decode cX10_thin 3 = .ok (.istore_n 3, 1) := by decide +kernel
theorem dX10_thin_4 : decode cX10_thin 4 = .ok (.iload_n 3, 1) := by decide +kernel
theorem dX10_thin_5 : decode cX10_thin 5 = .ok (.aload_n 0, 1) := by decide +kernel
theorem dX10_thin_6 : decode cX10_thin 6 = .ok (.getfield 23, 3) := by decide +kernel
theorem dX10_thin_9 : decode cX10_thin 9 = .ok (.getfield 75, 3) := by decide +kernel
theorem dX10_thin_12 : decode cX10_thin 12 = .ok (.if_icmp .ge 26, 3) := by decide +kernel
theorem dX10_thin_15 : decode cX10_thin 15 = .ok (.aload_n 0, 1) := by decide +kernel
theorem dX10_thin_16 : decode cX10_thin 16 = .ok (.getfield 23, 3) := by decide +kernel
theorem dX10_thin_19 : decode cX10_thin 19 = .ok (.iload_n 3, 1) := by decide +kernel
theorem dX10_thin_20 : decode cX10_thin 20 = .ok (.invokevirtual 187, 3) := by decide +kernel
theorem dX10_thin_23 : decode cX10_thin 23 = .ok (.ifCond .eq 9, 3) := by decide +kernel
theorem dX10_thin_26 : decode cX10_thin 26 = .ok (.lload_n 1, 1) := by decide +kernel
theorem dX10_thin_27 : decode cX10_thin 27 = .ok (.lconst 1, 1) := by decide +kernel
theorem dX10_thin_28 : decode cX10_thin 28 = .ok (.iload_n 3, 1) := by decide +kernel
theorem dX10_thin_29 : decode cX10_thin 29 = .ok (.lshl, 1) := by decide +kernel
theorem dX10_thin_30 : decode cX10_thin 30 = .ok (.lor, 1) := by decide +kernel
theorem dX10_thin_31 : decode cX10_thin 31 = .ok (.lstore_n 1, 1) := by decide +kernel
theorem dX10_thin_32 : decode cX10_thin 32 = .ok (.iinc 3 1, 3) := by decide +kernel
theorem dX10_thin_35 : decode cX10_thin 35 = .ok (.goto (-31), 3) := by decide +kernel
theorem dX10_thin_38 : decode cX10_thin 38 = .ok (.lload_n 1, 1) := by decide +kernel
theorem dX10_thin_39 : decode cX10_thin 39 = .ok (.lreturn, 1) := by decide +kernel
theorem dX10_feed_0 : decode cX10_feed 0 = .ok (.iload_n 1, 1) := by decide +kernel
theorem dX10_feed_1 : decode cX10_feed 1 = .ok (.i2l, 1) := by decide +kernel
theorem dX10_feed_2 : decode cX10_feed 2 = .ok (.lconst 1, 1) := by decide +kernel
theorem dX10_feed_3 : decode cX10_feed 3 = .ok (.ldc2_w 190, 3) := by decide +kernel
theorem dX10_feed_6 : decode cX10_feed 6 = .ok (.invokestatic 61, 3) := by decide +kernel
theorem dX10_feed_9 : decode cX10_feed 9 = .ok (.ifCond .ne 11, 3) := by decide +kernel
theorem dX10_feed_12 : decode cX10_feed 12 = .ok (.aload_n 0, 1) := by decide +kernel
theorem dX10_feed_13 : decode cX10_feed 13 = .ok (.ldc2_w 69, 3) := by decide +kernel
theorem dX10_feed_16 : decode cX10_feed 16 = .ok (.invokevirtual 71, 3) := by decide +kernel
theorem dX10_feed_19 : decode cX10_feed 19 = .ok (.lreturn, 1) := by decide +kernel
theorem dX10_feed_20 : decode cX10_feed 20 = .ok (.aload_n 0, 1) := by decide +kernel
theorem dX10_feed_21 : decode cX10_feed 21 = .ok (.getfield 40, 3) := by decide +kernel
theorem dX10_feed_24 : decode cX10_feed 24 = .ok (.getfield 192, 3) := by decide +kernel
theorem dX10_feed_27 : decode cX10_feed 27 = .ok (.iload_n 1, 1) := by decide +kernel
theorem dX10_feed_28 : decode cX10_feed 28 = .ok (.iadd, 1) := by decide +kernel
theorem dX10_feed_29 : decode cX10_feed 29 = .ok (.sipush 160, 3) := by decide +kernel
theorem dX10_feed_32 : decode cX10_feed 32 = .ok (.if_icmp .le 11, 3) := by decide +kernel
theorem dX10_feed_35 : decode cX10_feed 35 = .ok (.aload_n 0, 1) := by decide +kernel
theorem dX10_feed_36 : decode cX10_feed 36 = .ok (.ldc2_w 79, 3) := by decide +kernel
theorem dX10_feed_39 : decode cX10_feed 39 = .ok (.invokevirtual 71, 3) := by decide +kernel
theorem dX10_feed_42 : decode cX10_feed 42 = .ok (.lreturn, 1) := by decide +kernel
theorem dX10_feed_43 : decode cX10_feed 43 = .ok (.aload_n 0, 1) := by decide +kernel
theorem dX10_feed_44 : decode cX10_feed 44 = .ok (.getfield 40, 3) := by decide +kernel
theorem dX10_feed_47 : decode cX10_feed 47 = .ok (.iload_n 1, 1) := by decide +kernel
theorem dX10_feed_48 : decode cX10_feed 48 = .ok (.lload_n 2, 1) := by decide +kernel
theorem dX10_feed_49 : decode cX10_feed 49 = .ok (.invokevirtual 195, 3) := by decide +kernel
theorem dX10_feed_52 : decode cX10_feed 52 = .ok (.aload_n 0, 1) := by decide +kernel
theorem dX10_feed_53 : decode cX10_feed 53 = .ok (.getfield 40, 3) := by decide +kernel
theorem dX10_feed_56 : decode cX10_feed 56 = .ok (.getfield 192, 3) := by decide +kernel
theorem dX10_feed_59 : decode cX10_feed 59 = .ok (.i2l, 1) := by decide +kernel
theorem dX10_feed_60 : decode cX10_feed 60 = .ok (.lreturn, 1) := by decide +kernel
theorem dX10_text_0 : decode cX10_text 0 = .ok (.iload_n 1, 1) := by decide +kernel
theorem dX10_text_1 : decode cX10_text 1 = .ok (.i2l, 1) := by decide +kernel
theorem dX10_text_2 : decode cX10_text 2 = .ok (.lconst 0, 1) := by decide +kernel
theorem dX10_text_3 : decode cX10_text 3 = .ok (.ldc2_w 199, 3) := by decide +kernel
theorem dX10_text_6 : decode cX10_text 6 = .ok (.invokestatic 61, 3) := by decide +kernel
theorem dX10_text_9 : decode cX10_text 9 = .ok (.ifCond .ne 11, 3) := by decide +kernel
theorem dX10_text_12 : decode cX10_text 12 = .ok (.aload_n 0, 1) := by decide +kernel
theorem dX10_text_13 : decode cX10_text 13 = .ok (.ldc2_w 69, 3) := by decide +kernel
theorem dX10_text_16 : decode cX10_text 16 = .ok (.invokevirtual 71, 3) := by decide +kernel
theorem dX10_text_19 : decode cX10_text 19 = .ok (.lreturn, 1) := by decide +kernel
theorem dX10_text_20 : decode cX10_text 20 = .ok (.aload_n 0, 1) := by decide +kernel
theorem dX10_text_21 : decode cX10_text 21 = .ok (.getfield 40, 3) := by decide +kernel
theorem dX10_text_24 : decode cX10_text 24 = .ok (.invokevirtual 201, 3) := by decide +kernel
theorem dX10_text_27 : decode cX10_text 27 = .ok (.astore_n 2, 1) := by decide +kernel
theorem dX10_text_28 : decode cX10_text 28 = .ok (.aload_n 0, 1) := by decide +kernel
theorem dX10_text_29 : decode cX10_text 29 = .ok (.getfield 40, 3) := by decide +kernel
theorem dX10_text_32 : decode cX10_text 32 = .ok (.iconst 0, 1) := by decide +kernel
theorem dX10_text_33 : decode cX10_text 33 = .ok (.putfield 192, 3) := by decide +kernel
theorem dX10_text_36 : decode cX10_text 36 = .ok (.aload_n 2, 1) := by decide +kernel
theorem dX10_text_37 : decode cX10_text 37 = .ok (.ifnonnull 12, 3) := by decide +kernel
theorem dX10_text_40 : decode cX10_text 40 = .ok (.aload_n 0, 1) := by decide +kernel
theorem dX10_text_41 : decode cX10_text 41 = .ok (.getfield 40, 3) := by decide +kernel
theorem dX10_text_44 : decode cX10_text 44 = .ok (.getfield 205, 3) := by decide +kernel
theorem dX10_text_47 : decode cX10_text 47 = .ok (.i2l, 1) := by decide +kernel
theorem dX10_text_48 : decode cX10_text 48 = .ok (.lreturn, 1) := by decide +kernel
theorem dX10_text_49 : decode cX10_text 49 = .ok (.aload_n 0, 1) := by decide +kernel
theorem dX10_text_50 : decode cX10_text 50 = .ok (.getfield 23, 3) := by decide +kernel
theorem dX10_text_53 : decode cX10_text 53 = .ok (.getfield 208, 3) := by decide +kernel
theorem dX10_text_56 : decode cX10_text 56 = .ok (.getfield 212, 3) := by decide +kernel
theorem dX10_text_59 : decode cX10_text 59 = .ok (.iload_n 1, 1) := by decide +kernel
theorem dX10_text_60 : decode cX10_text 60 = .ok (.aload_n 2, 1) := by decide +kernel
theorem dX10_text_61 : decode cX10_text 61 = .ok (.aastore, 1) := by decide +kernel
theorem dX10_text_62 : decode cX10_text 62 = .ok (.ldc2_w 216, 3) := by decide +kernel
theorem dX10_text_65 : decode cX10_text 65 = .ok (.lreturn, 1) := by decide +kernel
theorem dX10_force_0 : decode cX10_force 0 = .ok (.iload_n 1, 1) := by decide +kernel
theorem dX10_force_1 : decode cX10_force 1 = .ok (.i2l, 1) := by decide +kernel
theorem dX10_force_2 : decode cX10_force 2 = .ok (.lconst 0, 1) := by decide +kernel
theorem dX10_force_3 : decode cX10_force 3 = .ok (.ldc2_w 199, 3) := by decide +kernel
theorem dX10_force_6 : decode cX10_force 6 = .ok (.invokestatic 61, 3) := by decide +kernel
theorem dX10_force_9 : decode cX10_force 9 = .ok (.ifCond .eq 22, 3) := by decide +kernel
theorem dX10_force_12 : decode cX10_force 12 = .ok (.iload_n 2, 1) := by decide +kernel
theorem dX10_force_13 : decode cX10_force 13 = .ok (.invokestatic 150, 3) := by decide +kernel
theorem dX10_force_16 : decode cX10_force 16 = .ok (.ifCond .eq 15, 3) := by decide +kernel
theorem dX10_force_19 : decode cX10_force 19 = .ok (.iload_n 3, 1) := by decide +kernel
theorem dX10_force_20 : decode cX10_force 20 = .ok (.i2l, 1) := by decide +kernel
theorem dX10_force_21 : decode cX10_force 21 = .ok (.lconst 0, 1) := by decide +kernel
theorem dX10_force_22 : decode cX10_force 22 = .ok (.ldc2_w 122, 3) := by decide +kernel
theorem dX10_force_25 : decode cX10_force 25 = .ok (.invokestatic 61, 3) := by decide +kernel
theorem dX10_force_28 : decode cX10_force 28 = .ok (.ifCond .ne 11, 3) := by decide +kernel
theorem dX10_force_31 : decode cX10_force 31 = .ok (.aload_n 0, 1) := by decide +kernel
theorem dX10_force_32 : decode cX10_force 32 = .ok (.ldc2_w 69, 3) := by decide +kernel
theorem dX10_force_35 : decode cX10_force 35 = .ok (.invokevirtual 71, 3) := by decide +kernel
theorem dX10_force_38 : decode cX10_force 38 = .ok (.lreturn, 1) := by decide +kernel
theorem dX10_force_39 : decode cX10_force 39 = .ok (.aload_n 0, 1) := by decide +kernel
theorem dX10_force_40 : decode cX10_force 40 = .ok (.getfield 23, 3) := by decide +kernel
theorem dX10_force_43 : decode cX10_force 43 = .ok (.getfield 208, 3) := by decide +kernel
theorem dX10_force_46 : decode cX10_force 46 = .ok (.getfield 212, 3) := by decide +kernel
theorem dX10_force_49 : decode cX10_force 49 = .ok (.iload_n 1, 1) := by decide +kernel
theorem dX10_force_50 : decode cX10_force 50 = .ok (.aaload, 1) := by decide +kernel
theorem dX10_force_51 : decode cX10_force 51 = .ok (.ifnonnull 11, 3) := by decide +kernel
theorem dX10_force_54 : decode cX10_force 54 = .ok (.aload_n 0, 1) := by decide +kernel
theorem dX10_force_55 : decode cX10_force 55 = .ok (.ldc2_w 157, 3) := by decide +kernel
theorem dX10_force_58 : decode cX10_force 58 = .ok (.invokevirtual 71, 3) := by decide +kernel
theorem dX10_force_61 : decode cX10_force 61 = .ok (.lreturn, 1) := by decide +kernel
theorem dX10_force_62 : decode cX10_force 62 = .ok (.aload_n 0, 1) := by decide +kernel
theorem dX10_force_63 : decode cX10_force 63 = .ok (.getfield 23, 3) := by decide +kernel
theorem dX10_force_66 : decode cX10_force 66 = .ok (.getfield 208, 3) := by decide +kernel
theorem dX10_force_69 : decode cX10_force 69 = .ok (.getfield 218, 3) := by decide +kernel
theorem dX10_force_72 : decode cX10_force 72 = .ok (.bipush 12, 2) := by decide +kernel
theorem dX10_force_74 : decode cX10_force 74 = .ok (.if_icmp .lt 11, 3) := by decide +kernel
theorem dX10_force_77 : decode cX10_force 77 = .ok (.aload_n 0, 1) := by decide +kernel
theorem dX10_force_78 : decode cX10_force 78 = .ok (.ldc2_w 79, 3) := by decide +kernel
theorem dX10_force_81 : decode cX10_force 81 = .ok (.invokevirtual 71, 3) := by decide +kernel
theorem dX10_force_84 : decode cX10_force 84 = .ok (.lreturn, 1) := by decide +kernel
theorem dX10_force_85 : decode cX10_force 85 = .ok (.aload_n 0, 1) := by decide +kernel
theorem dX10_force_86 : decode cX10_force 86 = .ok (.getfield 23, 3) := by decide +kernel
theorem dX10_force_89 : decode cX10_force 89 = .ok (.getfield 208, 3) := by decide +kernel
theorem dX10_force_92 : decode cX10_force 92 = .ok (.aload_n 0, 1) := by decide +kernel
theorem dX10_force_93 : decode cX10_force 93 = .ok (.getfield 23, 3) := by decide +kernel
theorem dX10_force_96 : decode cX10_force 96 = .ok (.getfield 208, 3) := by decide +kernel
theorem dX10_force_99 : decode cX10_force 99 = .ok (.getfield 212, 3) := by decide +kernel
theorem dX10_force_102 : decode cX10_force 102 = .ok (.iload_n 1, 1) := by decide +kernel
theorem dX10_force_103 : decode cX10_force 103 = .ok (.aaload, 1) := by decide +kernel
theorem dX10_force_104 : decode cX10_force 104 = .ok (.iload_n 2, 1) := by decide +kernel
theorem dX10_force_105 : decode cX10_force 105 = .ok (.iload_n 3, 1) := by decide +kernel
theorem dX10_force_106 : decode cX10_force 106 = .ok (.invokevirtual 221, 3) := by decide +kernel
theorem dX10_force_109 : decode cX10_force 109 = .ok (.i2l, 1) := by decide +kernel
theorem dX10_force_110 : decode cX10_force 110 = .ok (.lreturn, 1) := by decide +kernel
theorem dX10_law_0 : decode cX10_law 0 = .ok (.iload_n 1, 1) := by decide +kernel
theorem dX10_law_1 : decode cX10_law 1 = .ok (.invokestatic 150, 3) := by decide +kernel
theorem dX10_law_4 : decode cX10_law 4 = .ok (.ifCond .eq 15, 3) := by decide +kernel
theorem dX10_law_7 : decode cX10_law 7 = .ok (.iload_n 2, 1) := by decide +kernel
theorem dX10_law_8 : decode cX10_law 8 = .ok (.i2l, 1) := by decide +kernel
theorem dX10_law_9 : decode cX10_law 9 = .ok (.lconst 0, 1) := by decide +kernel
theorem dX10_law_10 : decode cX10_law 10 = .ok (.ldc2_w 122, 3) := by decide +kernel
theorem dX10_law_13 : decode cX10_law 13 = .ok (.invokestatic 61, 3) := by decide +kernel
theorem dX10_law_16 : decode cX10_law 16 = .ok (.ifCond .ne 11, 3) := by decide +kernel
theorem dX10_law_19 : decode cX10_law 19 = .ok (.aload_n 0, 1) := by decide +kernel
theorem dX10_law_20 : decode cX10_law 20 = .ok (.ldc2_w 69, 3) := by decide +kernel
theorem dX10_law_23 : decode cX10_law 23 = .ok (.invokevirtual 71, 3) := by decide +kernel
theorem dX10_law_26 : decode cX10_law 26 = .ok (.lreturn, 1) := by decide +kernel
theorem dX10_law_27 : decode cX10_law 27 = .ok (.aload_n 0, 1) := by decide +kernel
theorem dX10_law_28 : decode cX10_law 28 = .ok (.getfield 23, 3) := by decide +kernel
theorem dX10_law_31 : decode cX10_law 31 = .ok (.getfield 208, 3) := by decide +kernel
theorem dX10_law_34 : decode cX10_law 34 = .ok (.iload_n 1, 1) := by decide +kernel
theorem dX10_law_35 : decode cX10_law 35 = .ok (.iload_n 2, 1) := by decide +kernel
theorem dX10_law_36 : decode cX10_law 36 = .ok (.invokevirtual 225, 3) := by decide +kernel
theorem dX10_law_39 : decode cX10_law 39 = .ok (.istore_n 3, 1) := by decide +kernel
theorem dX10_law_40 : decode cX10_law 40 = .ok (.iload_n 3, 1) := by decide +kernel
theorem dX10_law_41 : decode cX10_law 41 = .ok (.ifCond .ge 11, 3) := by decide +kernel
theorem dX10_law_44 : decode cX10_law 44 = .ok (.aload_n 0, 1) := by decide +kernel
theorem dX10_law_45 : decode cX10_law 45 = .ok (.ldc2_w 157, 3) := by decide +kernel
theorem dX10_law_48 : decode cX10_law 48 = .ok (.invokevirtual 71, 3) := by decide +kernel
theorem dX10_law_51 : decode cX10_law 51 = .ok (.lreturn, 1) := by decide +kernel
theorem dX10_law_52 : decode cX10_law 52 = .ok (.iload_n 3, 1) := by decide +kernel
theorem dX10_law_53 : decode cX10_law 53 = .ok (.i2l, 1) := by decide +kernel
theorem dX10_law_54 : decode cX10_law 54 = .ok (.lreturn, 1) := by decide +kernel
theorem dX10_unlike_0 : decode cX10_unlike 0 = .ok (.iconst 0, 1) := by decide +kernel
theorem dX10_unlike_1 : decode cX10_unlike 1 = .ok (.istore_n 1, 1) := by decide +kernel
theorem dX10_unlike_2 : decode cX10_unlike 2 = .ok (.iload_n 1, 1) := by decide +kernel
theorem dX10_unlike_3 : decode cX10_unlike 3 = .ok (.aload_n 0, 1) := by decide +kernel
theorem dX10_unlike_4 : decode cX10_unlike 4 = .ok (.getfield 23, 3) := by decide +kernel
theorem dX10_unlike_7 : decode cX10_unlike 7 = .ok (.getfield 126, 3) := by decide +kernel
theorem dX10_unlike_10 : decode cX10_unlike 10 = .ok (.if_icmp .ge 45, 3) := by decide +kernel
theorem dX10_unlike_13 : decode cX10_unlike 13 = .ok (.aload_n 0, 1) := by decide +kernel
theorem dX10_unlike_14 : decode cX10_unlike 14 = .ok (.getfield 23, 3) := by decide +kernel
theorem dX10_unlike_17 : decode cX10_unlike 17 = .ok (.getfield 136, 3) := by decide +kernel
theorem dX10_unlike_20 : decode cX10_unlike 20 = .ok (.iload_n 1, 1) := by decide +kernel
theorem dX10_unlike_21 : decode cX10_unlike 21 = .ok (.aaload, 1) := by decide +kernel
theorem dX10_unlike_22 : decode cX10_unlike 22 = .ok (.astore_n 2, 1) := by decide +kernel
theorem dX10_unlike_23 : decode cX10_unlike 23 = .ok (.aload_n 2, 1) := by decide +kernel
theorem dX10_unlike_24 : decode cX10_unlike 24 = .ok (.invokevirtual 153, 3) := by decide +kernel
theorem dX10_unlike_27 : decode cX10_unlike 27 = .ok (.ifCond .eq 22, 3) := by decide +kernel
theorem dX10_unlike_30 : decode cX10_unlike 30 = .ok (.aload_n 0, 1) := by decide +kernel
theorem dX10_unlike_31 : decode cX10_unlike 31 = .ok (.aload_n 2, 1) := by decide +kernel
theorem dX10_unlike_32 : decode cX10_unlike 32 = .ok (.iconst 0, 1) := by decide +kernel
theorem dX10_unlike_33 : decode cX10_unlike 33 = .ok (.invokevirtual 159, 3) := by decide +kernel
theorem dX10_unlike_36 : decode cX10_unlike 36 = .ok (.aload_n 0, 1) := by decide +kernel
theorem dX10_unlike_37 : decode cX10_unlike 37 = .ok (.aload_n 2, 1) := by decide +kernel
theorem dX10_unlike_38 : decode cX10_unlike 38 = .ok (.iconst 1, 1) := by decide +kernel
theorem dX10_unlike_39 : decode cX10_unlike 39 = .ok (.invokevirtual 159, 3) := by decide +kernel
theorem dX10_unlike_42 : decode cX10_unlike 42 = .ok (.lcmp, 1) := by decide +kernel
theorem dX10_unlike_43 : decode cX10_unlike 43 = .ok (.ifCond .eq 6, 3) := by decide +kernel
theorem dX10_unlike_46 : decode cX10_unlike 46 = .ok (.iload_n 1, 1) := by decide +kernel
theorem dX10_unlike_47 : decode cX10_unlike 47 = .ok (.i2l, 1) := by decide +kernel
theorem dX10_unlike_48 : decode cX10_unlike 48 = .ok (.lreturn, 1) := by decide +kernel
theorem dX10_unlike_49 : decode cX10_unlike 49 = .ok (.iinc 1 1, 3) := by decide +kernel
theorem dX10_unlike_52 : decode cX10_unlike 52 = .ok (.goto (-50), 3) := by decide +kernel
theorem dX10_unlike_55 : decode cX10_unlike 55 = .ok (.aload_n 0, 1) := by decide +kernel
theorem dX10_unlike_56 : decode cX10_unlike 56 = .ok (.ldc2_w 157, 3) := by decide +kernel
theorem dX10_unlike_59 : decode cX10_unlike 59 = .ok (.invokevirtual 71, 3) := by decide +kernel
theorem dX10_unlike_62 : decode cX10_unlike 62 = .ok (.lreturn, 1) := by decide +kernel
theorem dX10_days_0 : decode cX10_days 0 = .ok (.iload_n 1, 1) := by decide +kernel
theorem dX10_days_1 : decode cX10_days 1 = .ok (.i2l, 1) := by decide +kernel
theorem dX10_days_2 : decode cX10_days 2 = .ok (.lconst 1, 1) := by decide +kernel
theorem dX10_days_3 : decode cX10_days 3 = .ok (.ldc2_w 228, 3) := by decide +kernel
theorem dX10_days_6 : decode cX10_days 6 = .ok (.invokestatic 61, 3) := by decide +kernel
theorem dX10_days_9 : decode cX10_days 9 = .ok (.ifCond .ne 11, 3) := by decide +kernel
theorem dX10_days_12 : decode cX10_days 12 = .ok (.aload_n 0, 1) := by decide +kernel
theorem dX10_days_13 : decode cX10_days 13 = .ok (.ldc2_w 69, 3) := by decide +kernel
theorem dX10_days_16 : decode cX10_days 16 = .ok (.invokevirtual 71, 3) := by decide +kernel
theorem dX10_days_19 : decode cX10_days 19 = .ok (.lreturn, 1) := by decide +kernel
theorem dX10_days_20 : decode cX10_days 20 = .ok (.aload_n 0, 1) := by decide +kernel
theorem dX10_days_21 : decode cX10_days 21 = .ok (.getfield 23, 3) := by decide +kernel
theorem dX10_days_24 : decode cX10_days 24 = .ok (.getfield 119, 3) := by decide +kernel
theorem dX10_days_27 : decode cX10_days 27 = .ok (.iload_n 1, 1) := by decide +kernel
theorem dX10_days_28 : decode cX10_days 28 = .ok (.iadd, 1) := by decide +kernel
theorem dX10_days_29 : decode cX10_days 29 = .ok (.sipush 300, 3) := by decide +kernel
theorem dX10_days_32 : decode cX10_days 32 = .ok (.if_icmp .le 11, 3) := by decide +kernel
theorem dX10_days_35 : decode cX10_days 35 = .ok (.aload_n 0, 1) := by decide +kernel
theorem dX10_days_36 : decode cX10_days 36 = .ok (.ldc2_w 79, 3) := by decide +kernel
theorem dX10_days_39 : decode cX10_days 39 = .ok (.invokevirtual 71, 3) := by decide +kernel
theorem dX10_days_42 : decode cX10_days 42 = .ok (.lreturn, 1) := by decide +kernel
theorem dX10_days_43 : decode cX10_days 43 = .ok (.iconst 0, 1) := by decide +kernel
theorem dX10_days_44 : decode cX10_days 44 = .ok (.istore_n 2, 1) := by decide +kernel
theorem dX10_days_45 : decode cX10_days 45 = .ok (.iload_n 2, 1) := by decide +kernel
theorem dX10_days_46 : decode cX10_days 46 = .ok (.iload_n 1, 1) := by decide +kernel
theorem dX10_days_47 : decode cX10_days 47 = .ok (.if_icmp .ge 16, 3) := by decide +kernel
theorem dX10_days_50 : decode cX10_days 50 = .ok (.aload_n 0, 1) := by decide +kernel
theorem dX10_days_51 : decode cX10_days 51 = .ok (.getfield 23, 3) := by decide +kernel
theorem dX10_days_54 : decode cX10_days 54 = .ok (.invokevirtual 230, 3) := by decide +kernel
theorem dX10_days_57 : decode cX10_days 57 = .ok (.iinc 2 1, 3) := by decide +kernel
theorem dX10_days_60 : decode cX10_days 60 = .ok (.goto (-15), 3) := by decide +kernel
theorem dX10_days_63 : decode cX10_days 63 = .ok (.aload_n 0, 1) := by decide +kernel
theorem dX10_days_64 : decode cX10_days 64 = .ok (.getfield 23, 3) := by decide +kernel
theorem dX10_days_67 : decode cX10_days 67 = .ok (.aload_n 0, 1) := by decide +kernel
theorem dX10_days_68 : decode cX10_days 68 = .ok (.getfield 23, 3) := by decide +kernel
theorem dX10_days_71 : decode cX10_days 71 = .ok (.getfield 119, 3) := by decide +kernel
theorem dX10_days_74 : decode cX10_days 74 = .ok (.invokevirtual 233, 3) := by decide +kernel
theorem dX10_days_77 : decode cX10_days 77 = .ok (.lreturn, 1) := by decide +kernel
theorem dX10_price_0 : decode cX10_price 0 = .ok (.iload_n 1, 1) := by decide +kernel
theorem dX10_price_1 : decode cX10_price 1 = .ok (.i2l, 1) := by decide +kernel
theorem dX10_price_2 : decode cX10_price 2 = .ok (.lconst 0, 1) := by decide +kernel
theorem dX10_price_3 : decode cX10_price 3 = .ok (.aload_n 0, 1) := by decide +kernel
theorem dX10_price_4 : decode cX10_price 4 = .ok (.getfield 23, 3) := by decide +kernel
theorem dX10_price_7 : decode cX10_price 7 = .ok (.getfield 119, 3) := by decide +kernel
theorem dX10_price_10 : decode cX10_price 10 = .ok (.i2l, 1) := by decide +kernel
theorem dX10_price_11 : decode cX10_price 11 = .ok (.invokestatic 61, 3) := by decide +kernel
theorem dX10_price_14 : decode cX10_price 14 = .ok (.ifCond .ne 11, 3) := by decide +kernel
theorem dX10_price_17 : decode cX10_price 17 = .ok (.aload_n 0, 1) := by decide +kernel
theorem dX10_price_18 : decode cX10_price 18 = .ok (.ldc2_w 69, 3) := by decide +kernel
theorem dX10_price_21 : decode cX10_price 21 = .ok (.invokevirtual 71, 3) := by decide +kernel
theorem dX10_price_24 : decode cX10_price 24 = .ok (.lreturn, 1) := by decide +kernel
theorem dX10_price_25 : decode cX10_price 25 = .ok (.aload_n 0, 1) := by decide +kernel
theorem dX10_price_26 : decode cX10_price 26 = .ok (.getfield 23, 3) := by decide +kernel
theorem dX10_price_29 : decode cX10_price 29 = .ok (.iload_n 1, 1) := by decide +kernel
theorem dX10_price_30 : decode cX10_price 30 = .ok (.invokevirtual 233, 3) := by decide +kernel
theorem dX10_price_33 : decode cX10_price 33 = .ok (.lreturn, 1) := by decide +kernel
theorem dX10_index_0 : decode cX10_index 0 = .ok (.iload_n 1, 1) := by decide +kernel
theorem dX10_index_1 : decode cX10_index 1 = .ok (.i2l, 1) := by decide +kernel
theorem dX10_index_2 : decode cX10_index 2 = .ok (.lconst 0, 1) := by decide +kernel
theorem dX10_index_3 : decode cX10_index 3 = .ok (.aload_n 0, 1) := by decide +kernel
theorem dX10_index_4 : decode cX10_index 4 = .ok (.getfield 23, 3) := by decide +kernel
theorem dX10_index_7 : decode cX10_index 7 = .ok (.getfield 119, 3) := by decide +kernel
theorem dX10_index_10 : decode cX10_index 10 = .ok (.i2l, 1) := by decide +kernel
theorem dX10_index_11 : decode cX10_index 11 = .ok (.invokestatic 61, 3) := by decide +kernel
theorem dX10_index_14 : decode cX10_index 14 = .ok (.ifCond .eq 20, 3) := by decide +kernel
theorem dX10_index_17 : decode cX10_index 17 = .ok (.iload_n 2, 1) := by decide +kernel
theorem dX10_index_18 : decode cX10_index 18 = .ok (.i2l, 1) := by decide +kernel
theorem dX10_index_19 : decode cX10_index 19 = .ok (.lconst 0, 1) := by decide +kernel
theorem dX10_index_20 : decode cX10_index 20 = .ok (.aload_n 0, 1) := by decide +kernel
theorem dX10_index_21 : decode cX10_index 21 = .ok (.getfield 23, 3) := by decide +kernel
theorem dX10_index_24 : decode cX10_index 24 = .ok (.getfield 119, 3) := by decide +kernel
theorem dX10_index_27 : decode cX10_index 27 = .ok (.i2l, 1) := by decide +kernel
theorem dX10_index_28 : decode cX10_index 28 = .ok (.invokestatic 61, 3) := by decide +kernel
theorem dX10_index_31 : decode cX10_index 31 = .ok (.ifCond .ne 11, 3) := by decide +kernel
theorem dX10_index_34 : decode cX10_index 34 = .ok (.aload_n 0, 1) := by decide +kernel
theorem dX10_index_35 : decode cX10_index 35 = .ok (.ldc2_w 69, 3) := by decide +kernel
theorem dX10_index_38 : decode cX10_index 38 = .ok (.invokevirtual 71, 3) := by decide +kernel
theorem dX10_index_41 : decode cX10_index 41 = .ok (.lreturn, 1) := by decide +kernel
theorem dX10_index_42 : decode cX10_index 42 = .ok (.ldc2_w 59, 3) := by decide +kernel
theorem dX10_index_45 : decode cX10_index 45 = .ok (.aload_n 0, 1) := by decide +kernel
theorem dX10_index_46 : decode cX10_index 46 = .ok (.getfield 23, 3) := by decide +kernel
theorem dX10_index_49 : decode cX10_index 49 = .ok (.iload_n 1, 1) := by decide +kernel
theorem dX10_index_50 : decode cX10_index 50 = .ok (.invokevirtual 233, 3) := by decide +kernel
theorem dX10_index_53 : decode cX10_index 53 = .ok (.ldc2_w 236, 3) := by decide +kernel
theorem dX10_index_56 : decode cX10_index 56 = .ok (.lmul, 1) := by decide +kernel
theorem dX10_index_57 : decode cX10_index 57 = .ok (.aload_n 0, 1) := by decide +kernel
theorem dX10_index_58 : decode cX10_index 58 = .ok (.getfield 23, 3) := by decide +kernel
theorem dX10_index_61 : decode cX10_index 61 = .ok (.iload_n 2, 1) := by decide +kernel
theorem dX10_index_62 : decode cX10_index 62 = .ok (.invokevirtual 233, 3) := by decide +kernel
theorem dX10_index_65 : decode cX10_index 65 = .ok (.ldiv, 1) := by decide +kernel
theorem dX10_index_66 : decode cX10_index 66 = .ok (.invokestatic 238, 3) := by decide +kernel
theorem dX10_index_69 : decode cX10_index 69 = .ok (.lreturn, 1) := by decide +kernel
theorem dX10_press_0 : decode cX10_press 0 = .ok (.lload_n 1, 1) := by decide +kernel
theorem dX10_press_1 : decode cX10_press 1 = .ok (.lconst 0, 1) := by decide +kernel
theorem dX10_press_2 : decode cX10_press 2 = .ok (.ldc2_w 59, 3) := by decide +kernel
theorem dX10_press_5 : decode cX10_press 5 = .ok (.invokestatic 61, 3) := by decide +kernel
theorem dX10_press_8 : decode cX10_press 8 = .ok (.ifCond .ne 11, 3) := by decide +kernel
theorem dX10_press_11 : decode cX10_press 11 = .ok (.aload_n 0, 1) := by decide +kernel
theorem dX10_press_12 : decode cX10_press 12 = .ok (.ldc2_w 69, 3) := by decide +kernel
theorem dX10_press_15 : decode cX10_press 15 = .ok (.invokevirtual 71, 3) := by decide +kernel
theorem dX10_press_18 : decode cX10_press 18 = .ok (.lreturn, 1) := by decide +kernel
theorem dX10_press_19 : decode cX10_press 19 = .ok (.aload_n 0, 1) := by decide +kernel
theorem dX10_press_20 : decode cX10_press 20 = .ok (.getfield 23, 3) := by decide +kernel
