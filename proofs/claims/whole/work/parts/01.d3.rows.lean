theorem dX10_press_23 : decode cX10_press 23 = .ok (.dup, 1) := by decide +kernel
theorem dX10_press_24 : decode cX10_press 24 = .ok (.getfield 244, 3) := by decide +kernel
theorem dX10_press_27 : decode cX10_press 27 = .ok (.lload_n 1, 1) := by decide +kernel
theorem dX10_press_28 : decode cX10_press 28 = .ok (.ladd, 1) := by decide +kernel
theorem dX10_press_29 : decode cX10_press 29 = .ok (.putfield 244, 3) := by decide +kernel
theorem dX10_press_32 : decode cX10_press 32 = .ok (.aload_n 0, 1) := by decide +kernel
theorem dX10_press_33 : decode cX10_press 33 = .ok (.getfield 23, 3) := by decide +kernel
theorem dX10_press_36 : decode cX10_press 36 = .ok (.lload_n 1, 1) := by decide +kernel
theorem dX10_press_37 : decode cX10_press 37 = .ok (.invokevirtual 247, 3) := by decide +kernel
theorem dX10_press_40 : decode cX10_press 40 = .ok (.aload_n 0, 1) := by decide +kernel
theorem dX10_press_41 : decode cX10_press 41 = .ok (.getfield 23, 3) := by decide +kernel
theorem dX10_press_44 : decode cX10_press 44 = .ok (.getfield 251, 3) := by decide +kernel
theorem dX10_press_47 : decode cX10_press 47 = .ok (.lreturn, 1) := by decide +kernel
theorem dX10_give_0 : decode cX10_give 0 = .ok (.aload_n 0, 1) := by decide +kernel
theorem dX10_give_1 : decode cX10_give 1 = .ok (.getfield 23, 3) := by decide +kernel
theorem dX10_give_4 : decode cX10_give 4 = .ok (.iload_n 1, 1) := by decide +kernel
theorem dX10_give_5 : decode cX10_give 5 = .ok (.invokevirtual 85, 3) := by decide +kernel
theorem dX10_give_8 : decode cX10_give 8 = .ok (.ifCond .eq 14, 3) := by decide +kernel
theorem dX10_give_11 : decode cX10_give 11 = .ok (.lload_n 2, 1) := by decide +kernel
theorem dX10_give_12 : decode cX10_give 12 = .ok (.lconst 1, 1) := by decide +kernel
theorem dX10_give_13 : decode cX10_give 13 = .ok (.ldc2_w 59, 3) := by decide +kernel
theorem dX10_give_16 : decode cX10_give 16 = .ok (.invokestatic 61, 3) := by decide +kernel
theorem dX10_give_19 : decode cX10_give 19 = .ok (.ifCond .ne 11, 3) := by decide +kernel
theorem dX10_give_22 : decode cX10_give 22 = .ok (.aload_n 0, 1) := by decide +kernel
theorem dX10_give_23 : decode cX10_give 23 = .ok (.ldc2_w 69, 3) := by decide +kernel
theorem dX10_give_26 : decode cX10_give 26 = .ok (.invokevirtual 71, 3) := by decide +kernel
theorem dX10_give_29 : decode cX10_give 29 = .ok (.lreturn, 1) := by decide +kernel
theorem dX10_give_30 : decode cX10_give 30 = .ok (.aload_n 0, 1) := by decide +kernel
theorem dX10_give_31 : decode cX10_give 31 = .ok (.getfield 23, 3) := by decide +kernel
theorem dX10_give_34 : decode cX10_give 34 = .ok (.getfield 251, 3) := by decide +kernel
theorem dX10_give_37 : decode cX10_give 37 = .ok (.lload_n 2, 1) := by decide +kernel
theorem dX10_give_38 : decode cX10_give 38 = .ok (.lcmp, 1) := by decide +kernel
theorem dX10_give_39 : decode cX10_give 39 = .ok (.ifCond .ge 11, 3) := by decide +kernel
theorem dX10_give_42 : decode cX10_give 42 = .ok (.aload_n 0, 1) := by decide +kernel
theorem dX10_give_43 : decode cX10_give 43 = .ok (.ldc2_w 172, 3) := by decide +kernel
theorem dX10_give_46 : decode cX10_give 46 = .ok (.invokevirtual 71, 3) := by decide +kernel
theorem dX10_give_49 : decode cX10_give 49 = .ok (.lreturn, 1) := by decide +kernel
theorem dX10_give_50 : decode cX10_give 50 = .ok (.aload_n 0, 1) := by decide +kernel
theorem dX10_give_51 : decode cX10_give 51 = .ok (.getfield 23, 3) := by decide +kernel
theorem dX10_give_54 : decode cX10_give 54 = .ok (.dup, 1) := by decide +kernel
theorem dX10_give_55 : decode cX10_give 55 = .ok (.getfield 251, 3) := by decide +kernel
theorem dX10_give_58 : decode cX10_give 58 = .ok (.lload_n 2, 1) := by decide +kernel
theorem dX10_give_59 : decode cX10_give 59 = .ok (.lsub, 1) := by decide +kernel
theorem dX10_give_60 : decode cX10_give 60 = .ok (.putfield 251, 3) := by decide +kernel
theorem dX10_give_63 : decode cX10_give 63 = .ok (.aload_n 0, 1) := by decide +kernel
theorem dX10_give_64 : decode cX10_give 64 = .ok (.getfield 23, 3) := by decide +kernel
theorem dX10_give_67 : decode cX10_give 67 = .ok (.aload_n 0, 1) := by decide +kernel
theorem dX10_give_68 : decode cX10_give 68 = .ok (.getfield 23, 3) := by decide +kernel
theorem dX10_give_71 : decode cX10_give 71 = .ok (.getfield 95, 3) := by decide +kernel
theorem dX10_give_74 : decode cX10_give 74 = .ok (.iload_n 1, 1) := by decide +kernel
theorem dX10_give_75 : decode cX10_give 75 = .ok (.aaload, 1) := by decide +kernel
theorem dX10_give_76 : decode cX10_give 76 = .ok (.lload_n 2, 1) := by decide +kernel
theorem dX10_give_77 : decode cX10_give 77 = .ok (.invokevirtual 253, 3) := by decide +kernel
theorem dX10_give_80 : decode cX10_give 80 = .ok (.aload_n 0, 1) := by decide +kernel
theorem dX10_give_81 : decode cX10_give 81 = .ok (.getfield 23, 3) := by decide +kernel
theorem dX10_give_84 : decode cX10_give 84 = .ok (.getfield 95, 3) := by decide +kernel
theorem dX10_give_87 : decode cX10_give 87 = .ok (.iload_n 1, 1) := by decide +kernel
theorem dX10_give_88 : decode cX10_give 88 = .ok (.aaload, 1) := by decide +kernel
theorem dX10_give_89 : decode cX10_give 89 = .ok (.getfield 169, 3) := by decide +kernel
theorem dX10_give_92 : decode cX10_give 92 = .ok (.lreturn, 1) := by decide +kernel
theorem dX10_tax_0 : decode cX10_tax 0 = .ok (.aload_n 0, 1) := by decide +kernel
theorem dX10_tax_1 : decode cX10_tax 1 = .ok (.getfield 23, 3) := by decide +kernel
theorem dX10_tax_4 : decode cX10_tax 4 = .ok (.invokevirtual 257, 3) := by decide +kernel
theorem dX10_tax_7 : decode cX10_tax 7 = .ok (.lreturn, 1) := by decide +kernel
theorem dX10_swap_0 : decode cX10_swap 0 = .ok (.iload_n 1, 1) := by decide +kernel
theorem dX10_swap_1 : decode cX10_swap 1 = .ok (.i2l, 1) := by decide +kernel
theorem dX10_swap_2 : decode cX10_swap 2 = .ok (.lconst 1, 1) := by decide +kernel
theorem dX10_swap_3 : decode cX10_swap 3 = .ok (.ldc2_w 261, 3) := by decide +kernel
theorem dX10_swap_6 : decode cX10_swap 6 = .ok (.invokestatic 61, 3) := by decide +kernel
theorem dX10_swap_9 : decode cX10_swap 9 = .ok (.ifCond .ne 11, 3) := by decide +kernel
theorem dX10_swap_12 : decode cX10_swap 12 = .ok (.aload_n 0, 1) := by decide +kernel
theorem dX10_swap_13 : decode cX10_swap 13 = .ok (.ldc2_w 69, 3) := by decide +kernel
theorem dX10_swap_16 : decode cX10_swap 16 = .ok (.invokevirtual 71, 3) := by decide +kernel
theorem dX10_swap_19 : decode cX10_swap 19 = .ok (.lreturn, 1) := by decide +kernel
theorem dX10_swap_20 : decode cX10_swap 20 = .ok (.aload_n 0, 1) := by decide +kernel
theorem dX10_swap_21 : decode cX10_swap 21 = .ok (.getfield 23, 3) := by decide +kernel
theorem dX10_swap_24 : decode cX10_swap 24 = .ok (.iload_n 1, 1) := by decide +kernel
theorem dX10_swap_25 : decode cX10_swap 25 = .ok (.invokevirtual 263, 3) := by decide +kernel
theorem dX10_swap_28 : decode cX10_swap 28 = .ok (.aload_n 0, 1) := by decide +kernel
theorem dX10_swap_29 : decode cX10_swap 29 = .ok (.getfield 23, 3) := by decide +kernel
theorem dX10_swap_32 : decode cX10_swap 32 = .ok (.aload_n 0, 1) := by decide +kernel
theorem dX10_swap_33 : decode cX10_swap 33 = .ok (.getfield 23, 3) := by decide +kernel
theorem dX10_swap_36 : decode cX10_swap 36 = .ok (.getfield 119, 3) := by decide +kernel
theorem dX10_swap_39 : decode cX10_swap 39 = .ok (.invokevirtual 233, 3) := by decide +kernel
theorem dX10_swap_42 : decode cX10_swap 42 = .ok (.lreturn, 1) := by decide +kernel
theorem dX10_need_0 : decode cX10_need 0 = .ok (.iload_n 1, 1) := by decide +kernel
theorem dX10_need_1 : decode cX10_need 1 = .ok (.i2l, 1) := by decide +kernel
theorem dX10_need_2 : decode cX10_need 2 = .ok (.lconst 1, 1) := by decide +kernel
theorem dX10_need_3 : decode cX10_need 3 = .ok (.ldc2_w 228, 3) := by decide +kernel
theorem dX10_need_6 : decode cX10_need 6 = .ok (.invokestatic 61, 3) := by decide +kernel
theorem dX10_need_9 : decode cX10_need 9 = .ok (.ifCond .ne 11, 3) := by decide +kernel
theorem dX10_need_12 : decode cX10_need 12 = .ok (.aload_n 0, 1) := by decide +kernel
theorem dX10_need_13 : decode cX10_need 13 = .ok (.ldc2_w 69, 3) := by decide +kernel
theorem dX10_need_16 : decode cX10_need 16 = .ok (.invokevirtual 71, 3) := by decide +kernel
theorem dX10_need_19 : decode cX10_need 19 = .ok (.lreturn, 1) := by decide +kernel
theorem dX10_need_20 : decode cX10_need 20 = .ok (.aload_n 0, 1) := by decide +kernel
theorem dX10_need_21 : decode cX10_need 21 = .ok (.getfield 23, 3) := by decide +kernel
theorem dX10_need_24 : decode cX10_need 24 = .ok (.getfield 119, 3) := by decide +kernel
theorem dX10_need_27 : decode cX10_need 27 = .ok (.iload_n 1, 1) := by decide +kernel
theorem dX10_need_28 : decode cX10_need 28 = .ok (.iadd, 1) := by decide +kernel
theorem dX10_need_29 : decode cX10_need 29 = .ok (.sipush 300, 3) := by decide +kernel
theorem dX10_need_32 : decode cX10_need 32 = .ok (.if_icmp .le 11, 3) := by decide +kernel
theorem dX10_need_35 : decode cX10_need 35 = .ok (.aload_n 0, 1) := by decide +kernel
theorem dX10_need_36 : decode cX10_need 36 = .ok (.ldc2_w 79, 3) := by decide +kernel
theorem dX10_need_39 : decode cX10_need 39 = .ok (.invokevirtual 71, 3) := by decide +kernel
theorem dX10_need_42 : decode cX10_need 42 = .ok (.lreturn, 1) := by decide +kernel
theorem dX10_need_43 : decode cX10_need 43 = .ok (.aload_n 0, 1) := by decide +kernel
theorem dX10_need_44 : decode cX10_need 44 = .ok (.getfield 33, 3) := by decide +kernel
theorem dX10_need_47 : decode cX10_need 47 = .ok (.aload_n 0, 1) := by decide +kernel
theorem dX10_need_48 : decode cX10_need 48 = .ok (.getfield 23, 3) := by decide +kernel
theorem dX10_need_51 : decode cX10_need 51 = .ok (.iload_n 1, 1) := by decide +kernel
theorem dX10_need_52 : decode cX10_need 52 = .ok (.invokevirtual 267, 3) := by decide +kernel
theorem dX10_need_55 : decode cX10_need 55 = .ok (.lreturn, 1) := by decide +kernel
theorem dX10_melts_0 : decode cX10_melts 0 = .ok (.iload_n 1, 1) := by decide +kernel
theorem dX10_melts_1 : decode cX10_melts 1 = .ok (.i2l, 1) := by decide +kernel
theorem dX10_melts_2 : decode cX10_melts 2 = .ok (.lconst 1, 1) := by decide +kernel
theorem dX10_melts_3 : decode cX10_melts 3 = .ok (.ldc2_w 228, 3) := by decide +kernel
theorem dX10_melts_6 : decode cX10_melts 6 = .ok (.invokestatic 61, 3) := by decide +kernel
theorem dX10_melts_9 : decode cX10_melts 9 = .ok (.ifCond .ne 11, 3) := by decide +kernel
theorem dX10_melts_12 : decode cX10_melts 12 = .ok (.aload_n 0, 1) := by decide +kernel
theorem dX10_melts_13 : decode cX10_melts 13 = .ok (.ldc2_w 69, 3) := by decide +kernel
theorem dX10_melts_16 : decode cX10_melts 16 = .ok (.invokevirtual 71, 3) := by decide +kernel
theorem dX10_melts_19 : decode cX10_melts 19 = .ok (.lreturn, 1) := by decide +kernel
theorem dX10_melts_20 : decode cX10_melts 20 = .ok (.aload_n 0, 1) := by decide +kernel
theorem dX10_melts_21 : decode cX10_melts 21 = .ok (.getfield 23, 3) := by decide +kernel
theorem dX10_melts_24 : decode cX10_melts 24 = .ok (.getfield 119, 3) := by decide +kernel
theorem dX10_melts_27 : decode cX10_melts 27 = .ok (.iload_n 1, 1) := by decide +kernel
theorem dX10_melts_28 : decode cX10_melts 28 = .ok (.iadd, 1) := by decide +kernel
theorem dX10_melts_29 : decode cX10_melts 29 = .ok (.sipush 300, 3) := by decide +kernel
theorem dX10_melts_32 : decode cX10_melts 32 = .ok (.if_icmp .le 11, 3) := by decide +kernel
theorem dX10_melts_35 : decode cX10_melts 35 = .ok (.aload_n 0, 1) := by decide +kernel
theorem dX10_melts_36 : decode cX10_melts 36 = .ok (.ldc2_w 79, 3) := by decide +kernel
theorem dX10_melts_39 : decode cX10_melts 39 = .ok (.invokevirtual 71, 3) := by decide +kernel
theorem dX10_melts_42 : decode cX10_melts 42 = .ok (.lreturn, 1) := by decide +kernel
theorem dX10_melts_43 : decode cX10_melts 43 = .ok (.aload_n 0, 1) := by decide +kernel
theorem dX10_melts_44 : decode cX10_melts 44 = .ok (.getfield 33, 3) := by decide +kernel
theorem dX10_melts_47 : decode cX10_melts 47 = .ok (.aload_n 0, 1) := by decide +kernel
theorem dX10_melts_48 : decode cX10_melts 48 = .ok (.getfield 23, 3) := by decide +kernel
theorem dX10_melts_51 : decode cX10_melts 51 = .ok (.iload_n 1, 1) := by decide +kernel
theorem dX10_melts_52 : decode cX10_melts 52 = .ok (.invokevirtual 271, 3) := by decide +kernel
theorem dX10_melts_55 : decode cX10_melts 55 = .ok (.istore_n 2, 1) := by decide +kernel
theorem dX10_melts_56 : decode cX10_melts 56 = .ok (.iload_n 2, 1) := by decide +kernel
theorem dX10_melts_57 : decode cX10_melts 57 = .ok (.ifCond .ge 11, 3) := by decide +kernel
theorem dX10_melts_60 : decode cX10_melts 60 = .ok (.aload_n 0, 1) := by decide +kernel
theorem dX10_melts_61 : decode cX10_melts 61 = .ok (.ldc2_w 157, 3) := by decide +kernel
theorem dX10_melts_64 : decode cX10_melts 64 = .ok (.invokevirtual 71, 3) := by decide +kernel
theorem dX10_melts_67 : decode cX10_melts 67 = .ok (.lreturn, 1) := by decide +kernel
theorem dX10_melts_68 : decode cX10_melts 68 = .ok (.iload_n 2, 1) := by decide +kernel
theorem dX10_melts_69 : decode cX10_melts 69 = .ok (.i2l, 1) := by decide +kernel
theorem dX10_melts_70 : decode cX10_melts 70 = .ok (.lreturn, 1) := by decide +kernel
theorem dX10_choices_0 : decode cX10_choices 0 = .ok (.iload_n 1, 1) := by decide +kernel
theorem dX10_choices_1 : decode cX10_choices 1 = .ok (.i2l, 1) := by decide +kernel
theorem dX10_choices_2 : decode cX10_choices 2 = .ok (.lconst 1, 1) := by decide +kernel
theorem dX10_choices_3 : decode cX10_choices 3 = .ok (.ldc2_w 190, 3) := by decide +kernel
theorem dX10_choices_6 : decode cX10_choices 6 = .ok (.invokestatic 61, 3) := by decide +kernel
theorem dX10_choices_9 : decode cX10_choices 9 = .ok (.ifCond .eq 15, 3) := by decide +kernel
theorem dX10_choices_12 : decode cX10_choices 12 = .ok (.iload_n 2, 1) := by decide +kernel
theorem dX10_choices_13 : decode cX10_choices 13 = .ok (.i2l, 1) := by decide +kernel
theorem dX10_choices_14 : decode cX10_choices 14 = .ok (.lconst 0, 1) := by decide +kernel
theorem dX10_choices_15 : decode cX10_choices 15 = .ok (.ldc2_w 89, 3) := by decide +kernel
theorem dX10_choices_18 : decode cX10_choices 18 = .ok (.invokestatic 61, 3) := by decide +kernel
theorem dX10_choices_21 : decode cX10_choices 21 = .ok (.ifCond .ne 11, 3) := by decide +kernel
theorem dX10_choices_24 : decode cX10_choices 24 = .ok (.aload_n 0, 1) := by decide +kernel
theorem dX10_choices_25 : decode cX10_choices 25 = .ok (.ldc2_w 69, 3) := by decide +kernel
theorem dX10_choices_28 : decode cX10_choices 28 = .ok (.invokevirtual 71, 3) := by decide +kernel
theorem dX10_choices_31 : decode cX10_choices 31 = .ok (.lreturn, 1) := by decide +kernel
theorem dX10_choices_32 : decode cX10_choices 32 = .ok (.aload_n 0, 1) := by decide +kernel
theorem dX10_choices_33 : decode cX10_choices 33 = .ok (.getfield 23, 3) := by decide +kernel
theorem dX10_choices_36 : decode cX10_choices 36 = .ok (.getfield 119, 3) := by decide +kernel
theorem dX10_choices_39 : decode cX10_choices 39 = .ok (.iload_n 1, 1) := by decide +kernel
theorem dX10_choices_40 : decode cX10_choices 40 = .ok (.iadd, 1) := by decide +kernel
theorem dX10_choices_41 : decode cX10_choices 41 = .ok (.sipush 300, 3) := by decide +kernel
theorem dX10_choices_44 : decode cX10_choices 44 = .ok (.if_icmp .le 11, 3) := by decide +kernel
theorem dX10_choices_47 : decode cX10_choices 47 = .ok (.aload_n 0, 1) := by decide +kernel
theorem dX10_choices_48 : decode cX10_choices 48 = .ok (.ldc2_w 79, 3) := by decide +kernel
theorem dX10_choices_51 : decode cX10_choices 51 = .ok (.invokevirtual 71, 3) := by decide +kernel
theorem dX10_choices_54 : decode cX10_choices 54 = .ok (.lreturn, 1) := by decide +kernel
theorem dX10_choices_55 : decode cX10_choices 55 = .ok (.aload_n 0, 1) := by decide +kernel
theorem dX10_choices_56 : decode cX10_choices 56 = .ok (.getfield 33, 3) := by decide +kernel
theorem dX10_choices_59 : decode cX10_choices 59 = .ok (.aload_n 0, 1) := by decide +kernel
theorem dX10_choices_60 : decode cX10_choices 60 = .ok (.getfield 23, 3) := by decide +kernel
theorem dX10_choices_63 : decode cX10_choices 63 = .ok (.invokevirtual 275, 3) := by decide +kernel
theorem dX10_choices_66 : decode cX10_choices 66 = .ok (.aload_n 0, 1) := by decide +kernel
theorem dX10_choices_67 : decode cX10_choices 67 = .ok (.getfield 33, 3) := by decide +kernel
theorem dX10_choices_70 : decode cX10_choices 70 = .ok (.iconst 0, 1) := by decide +kernel
theorem dX10_choices_71 : decode cX10_choices 71 = .ok (.iload_n 1, 1) := by decide +kernel
theorem dX10_choices_72 : decode cX10_choices 72 = .ok (.iconst 0, 1) := by decide +kernel
theorem dX10_choices_73 : decode cX10_choices 73 = .ok (.invokevirtual 279, 3) := by decide +kernel
theorem dX10_choices_76 : decode cX10_choices 76 = .ok (.iload_n 2, 1) := by decide +kernel
theorem dX10_choices_77 : decode cX10_choices 77 = .ok (.ifCond .ne 12, 3) := by decide +kernel
theorem dX10_choices_80 : decode cX10_choices 80 = .ok (.aload_n 0, 1) := by decide +kernel
theorem dX10_choices_81 : decode cX10_choices 81 = .ok (.getfield 33, 3) := by decide +kernel
theorem dX10_choices_84 : decode cX10_choices 84 = .ok (.getfield 283, 3) := by decide +kernel
theorem dX10_choices_87 : decode cX10_choices 87 = .ok (.i2l, 1) := by decide +kernel
theorem dX10_choices_88 : decode cX10_choices 88 = .ok (.lreturn, 1) := by decide +kernel
theorem dX10_choices_89 : decode cX10_choices 89 = .ok (.iload_n 2, 1) := by decide +kernel
theorem dX10_choices_90 : decode cX10_choices 90 = .ok (.iconst 1, 1) := by decide +kernel
theorem dX10_choices_91 : decode cX10_choices 91 = .ok (.if_icmp .ne 13, 3) := by decide +kernel
theorem dX10_choices_94 : decode cX10_choices 94 = .ok (.aload_n 0, 1) := by decide +kernel
theorem dX10_choices_95 : decode cX10_choices 95 = .ok (.getfield 33, 3) := by decide +kernel
theorem dX10_choices_98 : decode cX10_choices 98 = .ok (.getfield 286, 3) := by decide +kernel
theorem dX10_choices_101 : decode cX10_choices 101 = .ok (.goto 10, 3) := by decide +kernel
theorem dX10_choices_104 : decode cX10_choices 104 = .ok (.aload_n 0, 1) := by decide +kernel
theorem dX10_choices_105 : decode cX10_choices 105 = .ok (.getfield 33, 3) := by decide +kernel
theorem dX10_choices_108 : decode cX10_choices 108 = .ok (.getfield 289, 3) := by decide +kernel
theorem dX10_choices_111 : decode cX10_choices 111 = .ok (.lreturn, 1) := by decide +kernel
theorem dX10_proves_0 : decode cX10_proves 0 = .ok (.iload_n 1, 1) := by decide +kernel
theorem dX10_proves_1 : decode cX10_proves 1 = .ok (.i2l, 1) := by decide +kernel
theorem dX10_proves_2 : decode cX10_proves 2 = .ok (.lconst 0, 1) := by decide +kernel
theorem dX10_proves_3 : decode cX10_proves 3 = .ok (.ldc2_w 65, 3) := by decide +kernel
theorem dX10_proves_6 : decode cX10_proves 6 = .ok (.invokestatic 61, 3) := by decide +kernel
theorem dX10_proves_9 : decode cX10_proves 9 = .ok (.ifCond .eq 10, 3) := by decide +kernel
theorem dX10_proves_12 : decode cX10_proves 12 = .ok (.iload_n 2, 1) := by decide +kernel
theorem dX10_proves_13 : decode cX10_proves 13 = .ok (.invokestatic 292, 3) := by decide +kernel
theorem dX10_proves_16 : decode cX10_proves 16 = .ok (.ifCond .ne 11, 3) := by decide +kernel
theorem dX10_proves_19 : decode cX10_proves 19 = .ok (.aload_n 0, 1) := by decide +kernel
theorem dX10_proves_20 : decode cX10_proves 20 = .ok (.ldc2_w 69, 3) := by decide +kernel
theorem dX10_proves_23 : decode cX10_proves 23 = .ok (.invokevirtual 71, 3) := by decide +kernel
theorem dX10_proves_26 : decode cX10_proves 26 = .ok (.lreturn, 1) := by decide +kernel
theorem dX10_proves_27 : decode cX10_proves 27 = .ok (.aload_n 0, 1) := by decide +kernel
theorem dX10_proves_28 : decode cX10_proves 28 = .ok (.getfield 46, 3) := by decide +kernel
theorem dX10_proves_31 : decode cX10_proves 31 = .ok (.iload_n 2, 1) := by decide +kernel
theorem dX10_proves_32 : decode cX10_proves 32 = .ok (.aaload, 1) := by decide +kernel
theorem dX10_proves_33 : decode cX10_proves 33 = .ok (.astore_n 3, 1) := by decide +kernel
theorem dX10_proves_34 : decode cX10_proves 34 = .ok (.aload_n 3, 1) := by decide +kernel
theorem dX10_proves_35 : decode cX10_proves 35 = .ok (.invokevirtual 295, 3) := by decide +kernel
theorem dX10_proves_38 : decode cX10_proves 38 = .ok (.ifCond .eq 11, 3) := by decide +kernel
theorem dX10_proves_41 : decode cX10_proves 41 = .ok (.aload_n 0, 1) := by decide +kernel
theorem dX10_proves_42 : decode cX10_proves 42 = .ok (.ldc2_w 298, 3) := by decide +kernel
theorem dX10_proves_45 : decode cX10_proves 45 = .ok (.invokevirtual 71, 3) := by decide +kernel
theorem dX10_proves_48 : decode cX10_proves 48 = .ok (.lreturn, 1) := by decide +kernel
theorem dX10_proves_49 : decode cX10_proves 49 = .ok (.aload_n 0, 1) := by decide +kernel
theorem dX10_proves_50 : decode cX10_proves 50 = .ok (.getfield 23, 3) := by decide +kernel
theorem dX10_proves_53 : decode cX10_proves 53 = .ok (.getfield 119, 3) := by decide +kernel
theorem dX10_proves_56 : decode cX10_proves 56 = .ok (.aload_n 3, 1) := by decide +kernel
theorem dX10_proves_57 : decode cX10_proves 57 = .ok (.getfield 300, 3) := by decide +kernel
theorem dX10_proves_60 : decode cX10_proves 60 = .ok (.iadd, 1) := by decide +kernel
theorem dX10_proves_61 : decode cX10_proves 61 = .ok (.sipush 300, 3) := by decide +kernel
theorem dX10_proves_64 : decode cX10_proves 64 = .ok (.if_icmp .le 11, 3) := by decide +kernel
theorem dX10_proves_67 : decode cX10_proves 67 = .ok (.aload_n 0, 1) := by decide +kernel
theorem dX10_proves_68 : decode cX10_proves 68 = .ok (.ldc2_w 79, 3) := by decide +kernel
theorem dX10_proves_71 : decode cX10_proves 71 = .ok (.invokevirtual 71, 3) := by decide +kernel
theorem dX10_proves_74 : decode cX10_proves 74 = .ok (.lreturn, 1) := by decide +kernel
theorem dX10_proves_75 : decode cX10_proves 75 = .ok (.aload_n 3, 1) := by decide +kernel
theorem dX10_proves_76 : decode cX10_proves 76 = .ok (.invokevirtual 303, 3) := by decide +kernel
theorem dX10_proves_79 : decode cX10_proves 79 = .ok (.istore 4, 2) := by decide +kernel
theorem dX10_proves_81 : decode cX10_proves 81 = .ok (.iload 4, 2) := by decide +kernel
theorem dX10_proves_83 : decode cX10_proves 83 = .ok (.aload_n 3, 1) := by decide +kernel
theorem dX10_proves_84 : decode cX10_proves 84 = .ok (.getfield 300, 3) := by decide +kernel
theorem dX10_proves_87 : decode cX10_proves 87 = .ok (.if_icmp .ge 7, 3) := by decide +kernel
theorem dX10_proves_90 : decode cX10_proves 90 = .ok (.iload 4, 2) := by decide +kernel
theorem dX10_proves_92 : decode cX10_proves 92 = .ok (.i2l, 1) := by decide +kernel
theorem dX10_proves_93 : decode cX10_proves 93 = .ok (.lreturn, 1) := by decide +kernel
theorem dX10_proves_94 : decode cX10_proves 94 = .ok (.aload_n 0, 1) := by decide +kernel
theorem dX10_proves_95 : decode cX10_proves 95 = .ok (.getfield 33, 3) := by decide +kernel
theorem dX10_proves_98 : decode cX10_proves 98 = .ok (.aload_n 0, 1) := by decide +kernel
theorem dX10_proves_99 : decode cX10_proves 99 = .ok (.getfield 23, 3) := by decide +kernel
theorem dX10_proves_102 : decode cX10_proves 102 = .ok (.aload_n 3, 1) := by decide +kernel
theorem dX10_proves_103 : decode cX10_proves 103 = .ok (.invokevirtual 307, 3) := by decide +kernel
theorem dX10_proves_106 : decode cX10_proves 106 = .ok (.iload_n 1, 1) := by decide +kernel
theorem dX10_proves_107 : decode cX10_proves 107 = .ok (.i2l, 1) := by decide +kernel
theorem dX10_proves_108 : decode cX10_proves 108 = .ok (.lcmp, 1) := by decide +kernel
theorem dX10_proves_109 : decode cX10_proves 109 = .ok (.ifCond .gt 9, 3) := by decide +kernel
theorem dX10_proves_112 : decode cX10_proves 112 = .ok (.ldc2_w 216, 3) := by decide +kernel
theorem dX10_proves_115 : decode cX10_proves 115 = .ok (.goto 8, 3) := by decide +kernel
theorem dX10_proves_118 : decode cX10_proves 118 = .ok (.aload_n 3, 1) := by decide +kernel
theorem dX10_proves_119 : decode cX10_proves 119 = .ok (.getfield 300, 3) := by decide +kernel
theorem dX10_proves_122 : decode cX10_proves 122 = .ok (.i2l, 1) := by decide +kernel
theorem dX10_proves_123 : decode cX10_proves 123 = .ok (.lreturn, 1) := by decide +kernel
theorem dX10_beside_0 : decode cX10_beside 0 = .ok (.aload_n 0, 1) := by decide +kernel
theorem dX10_beside_1 : decode cX10_beside 1 = .ok (.getfield 23, 3) := by decide +kernel
theorem dX10_beside_4 : decode cX10_beside 4 = .ok (.iload_n 1, 1) := by decide +kernel
theorem dX10_beside_5 : decode cX10_beside 5 = .ok (.invokevirtual 85, 3) := by decide +kernel
theorem dX10_beside_8 : decode cX10_beside 8 = .ok (.ifCond .eq 27, 3) := by decide +kernel
theorem dX10_beside_11 : decode cX10_beside 11 = .ok (.lload_n 2, 1) := by decide +kernel
theorem dX10_beside_12 : decode cX10_beside 12 = .ok (.lconst 0, 1) := by decide +kernel
theorem dX10_beside_13 : decode cX10_beside 13 = .ok (.ldc2_w 59, 3) := by decide +kernel
theorem dX10_beside_16 : decode cX10_beside 16 = .ok (.invokestatic 61, 3) := by decide +kernel
theorem dX10_beside_19 : decode cX10_beside 19 = .ok (.ifCond .eq 16, 3) := by decide +kernel
theorem dX10_beside_22 : decode cX10_beside 22 = .ok (.iload 4, 2) := by decide +kernel
theorem dX10_beside_24 : decode cX10_beside 24 = .ok (.i2l, 1) := by decide +kernel
theorem dX10_beside_25 : decode cX10_beside 25 = .ok (.lconst 1, 1) := by decide +kernel
theorem dX10_beside_26 : decode cX10_beside 26 = .ok (.ldc2_w 228, 3) := by decide +kernel
theorem dX10_beside_29 : decode cX10_beside 29 = .ok (.invokestatic 61, 3) := by decide +kernel
theorem dX10_beside_32 : decode cX10_beside 32 = .ok (.ifCond .ne 11, 3) := by decide +kernel
theorem dX10_beside_35 : decode cX10_beside 35 = .ok (.aload_n 0, 1) := by decide +kernel
theorem dX10_beside_36 : decode cX10_beside 36 = .ok (.ldc2_w 69, 3) := by decide +kernel
theorem dX10_beside_39 : decode cX10_beside 39 = .ok (.invokevirtual 71, 3) := by decide +kernel
theorem dX10_beside_42 : decode cX10_beside 42 = .ok (.lreturn, 1) := by decide +kernel
theorem dX10_beside_43 : decode cX10_beside 43 = .ok (.aload_n 0, 1) := by decide +kernel
theorem dX10_beside_44 : decode cX10_beside 44 = .ok (.getfield 23, 3) := by decide +kernel
theorem dX10_beside_47 : decode cX10_beside 47 = .ok (.getfield 119, 3) := by decide +kernel
theorem dX10_beside_50 : decode cX10_beside 50 = .ok (.iload 4, 2) := by decide +kernel
theorem dX10_beside_52 : decode cX10_beside 52 = .ok (.iadd, 1) := by decide +kernel
theorem dX10_beside_53 : decode cX10_beside 53 = .ok (.sipush 300, 3) := by decide +kernel
theorem dX10_beside_56 : decode cX10_beside 56 = .ok (.if_icmp .le 11, 3) := by decide +kernel
theorem dX10_beside_59 : decode cX10_beside 59 = .ok (.aload_n 0, 1) := by decide +kernel
theorem dX10_beside_60 : decode cX10_beside 60 = .ok (.ldc2_w 79, 3) := by decide +kernel
theorem dX10_beside_63 : decode cX10_beside 63 = .ok (.invokevirtual 71, 3) := by decide +kernel
theorem dX10_beside_66 : decode cX10_beside 66 = .ok (.lreturn, 1) := by decide +kernel
theorem dX10_beside_67 : decode cX10_beside 67 = .ok (.aload_n 0, 1) := by decide +kernel
theorem dX10_beside_68 : decode cX10_beside 68 = .ok (.getfield 33, 3) := by decide +kernel
theorem dX10_beside_71 : decode cX10_beside 71 = .ok (.aload_n 0, 1) := by decide +kernel
theorem dX10_beside_72 : decode cX10_beside 72 = .ok (.getfield 23, 3) := by decide +kernel
theorem dX10_beside_75 : decode cX10_beside 75 = .ok (.iload_n 1, 1) := by decide +kernel
theorem dX10_beside_76 : decode cX10_beside 76 = .ok (.lload_n 2, 1) := by decide +kernel
theorem dX10_beside_77 : decode cX10_beside 77 = .ok (.iload 4, 2) := by decide +kernel
theorem dX10_beside_79 : decode cX10_beside 79 = .ok (.invokevirtual 311, 3) := by decide +kernel
theorem dX10_beside_82 : decode cX10_beside 82 = .ok (.aload_n 0, 1) := by decide +kernel
theorem dX10_beside_83 : decode cX10_beside 83 = .ok (.getfield 33, 3) := by decide +kernel
theorem dX10_beside_86 : decode cX10_beside 86 = .ok (.aload_n 0, 1) := by decide +kernel
theorem dX10_beside_87 : decode cX10_beside 87 = .ok (.getfield 23, 3) := by decide +kernel
theorem dX10_beside_90 : decode cX10_beside 90 = .ok (.iload_n 1, 1) := by decide +kernel
theorem dX10_beside_91 : decode cX10_beside 91 = .ok (.lconst 0, 1) := by decide +kernel
theorem dX10_beside_92 : decode cX10_beside 92 = .ok (.iload 4, 2) := by decide +kernel
theorem dX10_beside_94 : decode cX10_beside 94 = .ok (.invokevirtual 311, 3) := by decide +kernel
theorem dX10_beside_97 : decode cX10_beside 97 = .ok (.lsub, 1) := by decide +kernel
theorem dX10_beside_98 : decode cX10_beside 98 = .ok (.lreturn, 1) := by decide +kernel
theorem dX10_sheet_0 : decode cX10_sheet 0 = .ok (.iload_n 1, 1) := by decide +kernel
theorem dX10_sheet_1 : decode cX10_sheet 1 = .ok (.invokestatic 292, 3) := by decide +kernel
theorem dX10_sheet_4 : decode cX10_sheet 4 = .ok (.ifCond .eq 25, 3) := by decide +kernel
theorem dX10_sheet_7 : decode cX10_sheet 7 = .ok (.iload_n 2, 1) := by decide +kernel
theorem dX10_sheet_8 : decode cX10_sheet 8 = .ok (.ifCond .eq 29, 3) := by decide +kernel
theorem dX10_sheet_11 : decode cX10_sheet 11 = .ok (.iload_n 2, 1) := by decide +kernel
theorem dX10_sheet_12 : decode cX10_sheet 12 = .ok (.bipush 8, 2) := by decide +kernel
theorem dX10_sheet_14 : decode cX10_sheet 14 = .ok (.if_icmp .eq 23, 3) := by decide +kernel
theorem dX10_sheet_17 : decode cX10_sheet 17 = .ok (.iload_n 2, 1) := by decide +kernel
theorem dX10_sheet_18 : decode cX10_sheet 18 = .ok (.bipush 16, 2) := by decide +kernel
theorem dX10_sheet_20 : decode cX10_sheet 20 = .ok (.if_icmp .eq 17, 3) := by decide +kernel
theorem dX10_sheet_23 : decode cX10_sheet 23 = .ok (.iload_n 2, 1) := by decide +kernel
theorem dX10_sheet_24 : decode cX10_sheet 24 = .ok (.bipush 32, 2) := by decide +kernel
theorem dX10_sheet_26 : decode cX10_sheet 26 = .ok (.if_icmp .eq 11, 3) := by decide +kernel
theorem dX10_sheet_29 : decode cX10_sheet 29 = .ok (.aload_n 0, 1) := by decide +kernel
theorem dX10_sheet_30 : decode cX10_sheet 30 = .ok (.ldc2_w 69, 3) := by decide +kernel
theorem dX10_sheet_33 : decode cX10_sheet 33 = .ok (.invokevirtual 71, 3) := by decide +kernel
theorem dX10_sheet_36 : decode cX10_sheet 36 = .ok (.lreturn, 1) := by decide +kernel
theorem dX10_sheet_37 : decode cX10_sheet 37 = .ok (.iload_n 3, 1) := by decide +kernel
theorem dX10_sheet_38 : decode cX10_sheet 38 = .ok (.ifCond .ge 11, 3) := by decide +kernel
theorem dX10_sheet_41 : decode cX10_sheet 41 = .ok (.aload_n 0, 1) := by decide +kernel
theorem dX10_sheet_42 : decode cX10_sheet 42 = .ok (.ldc2_w 124, 3) := by decide +kernel
theorem dX10_sheet_45 : decode cX10_sheet 45 = .ok (.invokevirtual 71, 3) := by decide +kernel
theorem dX10_sheet_48 : decode cX10_sheet 48 = .ok (.lreturn, 1) := by decide +kernel
theorem dX10_sheet_49 : decode cX10_sheet 49 = .ok (.iload_n 3, 1) := by decide +kernel
theorem dX10_sheet_50 : decode cX10_sheet 50 = .ok (.bipush 20, 2) := by decide +kernel
theorem dX10_sheet_52 : decode cX10_sheet 52 = .ok (.if_icmp .le 11, 3) := by decide +kernel
theorem dX10_sheet_55 : decode cX10_sheet 55 = .ok (.aload_n 0, 1) := by decide +kernel
theorem dX10_sheet_56 : decode cX10_sheet 56 = .ok (.ldc2_w 69, 3) := by decide +kernel
theorem dX10_sheet_59 : decode cX10_sheet 59 = .ok (.invokevirtual 71, 3) := by decide +kernel
theorem dX10_sheet_62 : decode cX10_sheet 62 = .ok (.lreturn, 1) := by decide +kernel
theorem dX10_sheet_63 : decode cX10_sheet 63 = .ok (.aload_n 0, 1) := by decide +kernel
theorem dX10_sheet_64 : decode cX10_sheet 64 = .ok (.getfield 46, 3) := by decide +kernel
theorem dX10_sheet_67 : decode cX10_sheet 67 = .ok (.iload_n 1, 1) := by decide +kernel
theorem dX10_sheet_68 : decode cX10_sheet 68 = .ok (.aaload, 1) := by decide +kernel
theorem dX10_sheet_69 : decode cX10_sheet 69 = .ok (.iload_n 2, 1) := by decide +kernel
theorem dX10_sheet_70 : decode cX10_sheet 70 = .ok (.iload_n 2, 1) := by decide +kernel
theorem dX10_sheet_71 : decode cX10_sheet 71 = .ok (.ifCond .ne 7, 3) := by decide +kernel
theorem dX10_sheet_74 : decode cX10_sheet 74 = .ok (.iconst 0, 1) := by decide +kernel
theorem dX10_sheet_75 : decode cX10_sheet 75 = .ok (.goto 4, 3) := by decide +kernel
theorem dX10_sheet_78 : decode cX10_sheet 78 = .ok (.iload_n 3, 1) := by decide +kernel
theorem dX10_sheet_79 : decode cX10_sheet 79 = .ok (.invokevirtual 315, 3) := by decide +kernel
theorem dX10_sheet_82 : decode cX10_sheet 82 = .ok (.aload_n 0, 1) := by decide +kernel
theorem dX10_sheet_83 : decode cX10_sheet 83 = .ok (.getfield 46, 3) := by decide +kernel
theorem dX10_sheet_86 : decode cX10_sheet 86 = .ok (.iload_n 1, 1) := by decide +kernel
theorem dX10_sheet_87 : decode cX10_sheet 87 = .ok (.aaload, 1) := by decide +kernel
theorem dX10_sheet_88 : decode cX10_sheet 88 = .ok (.getfield 300, 3) := by decide +kernel
theorem dX10_sheet_91 : decode cX10_sheet 91 = .ok (.i2l, 1) := by decide +kernel
theorem dX10_sheet_92 : decode cX10_sheet 92 = .ok (.lreturn, 1) := by decide +kernel
theorem dX10_put_0 : decode cX10_put 0 = .ok (.iload_n 1, 1) := by decide +kernel
theorem dX10_put_1 : decode cX10_put 1 = .ok (.invokestatic 292, 3) := by decide +kernel
theorem dX10_put_4 : decode cX10_put 4 = .ok (.ifCond .ne 11, 3) := by decide +kernel
theorem dX10_put_7 : decode cX10_put 7 = .ok (.aload_n 0, 1) := by decide +kernel
theorem dX10_put_8 : decode cX10_put 8 = .ok (.ldc2_w 69, 3) := by decide +kernel
theorem dX10_put_11 : decode cX10_put 11 = .ok (.invokevirtual 71, 3) := by decide +kernel
theorem dX10_put_14 : decode cX10_put 14 = .ok (.lreturn, 1) := by decide +kernel
theorem dX10_put_15 : decode cX10_put 15 = .ok (.aload_n 0, 1) := by decide +kernel
theorem dX10_put_16 : decode cX10_put 16 = .ok (.getfield 46, 3) := by decide +kernel
theorem dX10_put_19 : decode cX10_put 19 = .ok (.iload_n 1, 1) := by decide +kernel
theorem dX10_put_20 : decode cX10_put 20 = .ok (.aaload, 1) := by decide +kernel
theorem dX10_put_21 : decode cX10_put 21 = .ok (.invokevirtual 295, 3) := by decide +kernel
theorem dX10_put_24 : decode cX10_put 24 = .ok (.ifCond .eq 11, 3) := by decide +kernel
theorem dX10_put_27 : decode cX10_put 27 = .ok (.aload_n 0, 1) := by decide +kernel
theorem dX10_put_28 : decode cX10_put 28 = .ok (.ldc2_w 298, 3) := by decide +kernel
theorem dX10_put_31 : decode cX10_put 31 = .ok (.invokevirtual 71, 3) := by decide +kernel
theorem dX10_put_34 : decode cX10_put 34 = .ok (.lreturn, 1) := by decide +kernel
theorem dX10_put_35 : decode cX10_put 35 = .ok (.iload_n 2, 1) := by decide +kernel
theorem dX10_put_36 : decode cX10_put 36 = .ok (.i2l, 1) := by decide +kernel
theorem dX10_put_37 : decode cX10_put 37 = .ok (.lconst 0, 1) := by decide +kernel
theorem dX10_put_38 : decode cX10_put 38 = .ok (.aload_n 0, 1) := by decide +kernel
theorem dX10_put_39 : decode cX10_put 39 = .ok (.getfield 46, 3) := by decide +kernel
theorem dX10_put_42 : decode cX10_put 42 = .ok (.iload_n 1, 1) := by decide +kernel
theorem dX10_put_43 : decode cX10_put 43 = .ok (.aaload, 1) := by decide +kernel
theorem dX10_put_44 : decode cX10_put 44 = .ok (.getfield 300, 3) := by decide +kernel
theorem dX10_put_47 : decode cX10_put 47 = .ok (.iconst 1, 1) := by decide +kernel
theorem dX10_put_48 : decode cX10_put 48 = .ok (.isub, 1) := by decide +kernel
theorem dX10_put_49 : decode cX10_put 49 = .ok (.i2l, 1) := by decide +kernel
theorem dX10_put_50 : decode cX10_put 50 = .ok (.invokestatic 61, 3) := by decide +kernel
theorem dX10_put_53 : decode cX10_put 53 = .ok (.ifCond .ne 11, 3) := by decide +kernel
theorem dX10_put_56 : decode cX10_put 56 = .ok (.aload_n 0, 1) := by decide +kernel
theorem dX10_put_57 : decode cX10_put 57 = .ok (.ldc2_w 69, 3) := by decide +kernel
theorem dX10_put_60 : decode cX10_put 60 = .ok (.invokevirtual 71, 3) := by decide +kernel
theorem dX10_put_63 : decode cX10_put 63 = .ok (.lreturn, 1) := by decide +kernel
theorem dX10_put_64 : decode cX10_put 64 = .ok (.aload_n 0, 1) := by decide +kernel
theorem dX10_put_65 : decode cX10_put 65 = .ok (.getfield 46, 3) := by decide +kernel
theorem dX10_put_68 : decode cX10_put 68 = .ok (.iload_n 1, 1) := by decide +kernel
theorem dX10_put_69 : decode cX10_put 69 = .ok (.aaload, 1) := by decide +kernel
theorem dX10_put_70 : decode cX10_put 70 = .ok (.iload_n 2, 1) := by decide +kernel
theorem dX10_put_71 : decode cX10_put 71 = .ok (.iload_n 3, 1) := by decide +kernel
theorem dX10_put_72 : decode cX10_put 72 = .ok (.invokevirtual 319, 3) := by decide +kernel
theorem dX10_put_75 : decode cX10_put 75 = .ok (.lconst 0, 1) := by decide +kernel
theorem dX10_put_76 : decode cX10_put 76 = .ok (.lreturn, 1) := by decide +kernel
theorem dX10_copy_0 : decode cX10_copy 0 = .ok (.iload_n 1, 1) := by decide +kernel
theorem dX10_copy_1 : decode cX10_copy 1 = .ok (.invokestatic 292, 3) := by decide +kernel
theorem dX10_copy_4 : decode cX10_copy 4 = .ok (.ifCond .eq 10, 3) := by decide +kernel
theorem dX10_copy_7 : decode cX10_copy 7 = .ok (.iload_n 3, 1) := by decide +kernel
theorem dX10_copy_8 : decode cX10_copy 8 = .ok (.invokestatic 292, 3) := by decide +kernel
theorem dX10_copy_11 : decode cX10_copy 11 = .ok (.ifCond .ne 11, 3) := by decide +kernel
theorem dX10_copy_14 : decode cX10_copy 14 = .ok (.aload_n 0, 1) := by decide +kernel
theorem dX10_copy_15 : decode cX10_copy 15 = .ok (.ldc2_w 69, 3) := by decide +kernel
theorem dX10_copy_18 : decode cX10_copy 18 = .ok (.invokevirtual 71, 3) := by decide +kernel
theorem dX10_copy_21 : decode cX10_copy 21 = .ok (.lreturn, 1) := by decide +kernel
theorem dX10_copy_22 : decode cX10_copy 22 = .ok (.aload_n 0, 1) := by decide +kernel
theorem dX10_copy_23 : decode cX10_copy 23 = .ok (.getfield 46, 3) := by decide +kernel
theorem dX10_copy_26 : decode cX10_copy 26 = .ok (.iload_n 1, 1) := by decide +kernel
theorem dX10_copy_27 : decode cX10_copy 27 = .ok (.aaload, 1) := by decide +kernel
theorem dX10_copy_28 : decode cX10_copy 28 = .ok (.astore 6, 2) := by decide +kernel
theorem dX10_copy_30 : decode cX10_copy 30 = .ok (.aload_n 0, 1) := by decide +kernel
theorem dX10_copy_31 : decode cX10_copy 31 = .ok (.getfield 46, 3) := by decide +kernel
theorem dX10_copy_34 : decode cX10_copy 34 = .ok (.iload_n 3, 1) := by decide +kernel
theorem dX10_copy_35 : decode cX10_copy 35 = .ok (.aaload, 1) := by decide +kernel
theorem dX10_copy_36 : decode cX10_copy 36 = .ok (.astore 7, 2) := by decide +kernel
theorem dX10_copy_38 : decode cX10_copy 38 = .ok (.aload 6, 2) := by decide +kernel
theorem dX10_copy_40 : decode cX10_copy 40 = .ok (.invokevirtual 295, 3) := by decide +kernel
theorem dX10_copy_43 : decode cX10_copy 43 = .ok (.ifCond .ne 11, 3) := by decide +kernel
theorem dX10_copy_46 : decode cX10_copy 46 = .ok (.aload 7, 2) := by decide +kernel
theorem dX10_copy_48 : decode cX10_copy 48 = .ok (.invokevirtual 295, 3) := by decide +kernel
theorem dX10_copy_51 : decode cX10_copy 51 = .ok (.ifCond .eq 11, 3) := by decide +kernel
theorem dX10_copy_54 : decode cX10_copy 54 = .ok (.aload_n 0, 1) := by decide +kernel
theorem dX10_copy_55 : decode cX10_copy 55 = .ok (.ldc2_w 298, 3) := by decide +kernel
theorem dX10_copy_58 : decode cX10_copy 58 = .ok (.invokevirtual 71, 3) := by decide +kernel
theorem dX10_copy_61 : decode cX10_copy 61 = .ok (.lreturn, 1) := by decide +kernel
theorem dX10_copy_62 : decode cX10_copy 62 = .ok (.aload 6, 2) := by decide +kernel
theorem dX10_copy_64 : decode cX10_copy 64 = .ok (.getfield 322, 3) := by decide +kernel
theorem dX10_copy_67 : decode cX10_copy 67 = .ok (.aload 7, 2) := by decide +kernel
theorem dX10_copy_69 : decode cX10_copy 69 = .ok (.getfield 322, 3) := by decide +kernel
theorem dX10_copy_72 : decode cX10_copy 72 = .ok (.if_icmp .eq 11, 3) := by decide +kernel
theorem dX10_copy_75 : decode cX10_copy 75 = .ok (.aload_n 0, 1) := by decide +kernel
theorem dX10_copy_76 : decode cX10_copy 76 = .ok (.ldc2_w 145, 3) := by decide +kernel
theorem dX10_copy_79 : decode cX10_copy 79 = .ok (.invokevirtual 71, 3) := by decide +kernel
theorem dX10_copy_82 : decode cX10_copy 82 = .ok (.lreturn, 1) := by decide +kernel
theorem dX10_copy_83 : decode cX10_copy 83 = .ok (.aload 6, 2) := by decide +kernel
theorem dX10_copy_85 : decode cX10_copy 85 = .ok (.iload_n 2, 1) := by decide +kernel
theorem dX10_copy_86 : decode cX10_copy 86 = .ok (.iload 5, 2) := by decide +kernel
theorem dX10_copy_88 : decode cX10_copy 88 = .ok (.invokevirtual 325, 3) := by decide +kernel
theorem dX10_copy_91 : decode cX10_copy 91 = .ok (.ifCond .eq 15, 3) := by decide +kernel
theorem dX10_copy_94 : decode cX10_copy 94 = .ok (.aload 7, 2) := by decide +kernel
theorem dX10_copy_96 : decode cX10_copy 96 = .ok (.iload 4, 2) := by decide +kernel
theorem dX10_copy_98 : decode cX10_copy 98 = .ok (.iload 5, 2) := by decide +kernel
theorem dX10_copy_100 : decode cX10_copy 100 = .ok (.invokevirtual 325, 3) := by decide +kernel
theorem dX10_copy_103 : decode cX10_copy 103 = .ok (.ifCond .ne 11, 3) := by decide +kernel
theorem dX10_copy_106 : decode cX10_copy 106 = .ok (.aload_n 0, 1) := by decide +kernel
theorem dX10_copy_107 : decode cX10_copy 107 = .ok (.ldc2_w 69, 3) := by decide +kernel
theorem dX10_copy_110 : decode cX10_copy 110 = .ok (.invokevirtual 71, 3) := by decide +kernel
theorem dX10_copy_113 : decode cX10_copy 113 = .ok (.lreturn, 1) := by decide +kernel
theorem dX10_copy_114 : decode cX10_copy 114 = .ok (.aload 6, 2) := by decide +kernel
theorem dX10_copy_116 : decode cX10_copy 116 = .ok (.getfield 329, 3) := by decide +kernel
theorem dX10_copy_119 : decode cX10_copy 119 = .ok (.iload_n 2, 1) := by decide +kernel
theorem dX10_copy_120 : decode cX10_copy 120 = .ok (.aload 7, 2) := by decide +kernel
theorem dX10_copy_122 : decode cX10_copy 122 = .ok (.getfield 329, 3) := by decide +kernel
theorem dX10_copy_125 : decode cX10_copy 125 = .ok (.iload 4, 2) := by decide +kernel
theorem dX10_copy_127 : decode cX10_copy 127 = .ok (.iload 5, 2) := by decide +kernel
theorem dX10_copy_129 : decode cX10_copy 129 = .ok (.invokestatic 333, 3) := by decide +kernel
theorem dX10_copy_132 : decode cX10_copy 132 = .ok (.iload 5, 2) := by decide +kernel
theorem dX10_copy_134 : decode cX10_copy 134 = .ok (.i2l, 1) := by decide +kernel
theorem dX10_copy_135 : decode cX10_copy 135 = .ok (.lreturn, 1) := by decide +kernel
theorem dX10_image_0 : decode cX10_image 0 = .ok (.aload_n 0, 1) := by decide +kernel
theorem dX10_image_1 : decode cX10_image 1 = .ok (.getfield 27, 3) := by decide +kernel
theorem dX10_image_4 : decode cX10_image 4 = .ok (.aload_n 0, 1) := by decide +kernel
theorem dX10_image_5 : decode cX10_image 5 = .ok (.getfield 23, 3) := by decide +kernel
theorem dX10_image_8 : decode cX10_image 8 = .ok (.invokevirtual 339, 3) := by decide +kernel
theorem dX10_image_11 : decode cX10_image 11 = .ok (.aload_n 0, 1) := by decide +kernel
theorem dX10_image_12 : decode cX10_image 12 = .ok (.iconst 1, 1) := by decide +kernel
theorem dX10_image_13 : decode cX10_image 13 = .ok (.putfield 51, 3) := by decide +kernel
theorem dX10_image_16 : decode cX10_image 16 = .ok (.aload_n 0, 1) := by decide +kernel
theorem dX10_image_17 : decode cX10_image 17 = .ok (.getfield 23, 3) := by decide +kernel
theorem dX10_image_20 : decode cX10_image 20 = .ok (.getfield 119, 3) := by decide +kernel
theorem dX10_image_23 : decode cX10_image 23 = .ok (.i2l, 1) := by decide +kernel
theorem dX10_image_24 : decode cX10_image 24 = .ok (.lreturn, 1) := by decide +kernel
theorem dX10_restore_0 : decode cX10_restore 0 = .ok (.aload_n 0, 1) := by decide +kernel
theorem dX10_restore_1 : decode cX10_restore 1 = .ok (.getfield 51, 3) := by decide +kernel
theorem dX10_restore_4 : decode cX10_restore 4 = .ok (.ifCond .ne 11, 3) := by decide +kernel
theorem dX10_restore_7 : decode cX10_restore 7 = .ok (.aload_n 0, 1) := by decide +kernel
theorem dX10_restore_8 : decode cX10_restore 8 = .ok (.ldc2_w 157, 3) := by decide +kernel
theorem dX10_restore_11 : decode cX10_restore 11 = .ok (.invokevirtual 71, 3) := by decide +kernel
theorem dX10_restore_14 : decode cX10_restore 14 = .ok (.lreturn, 1) := by decide +kernel
theorem dX10_restore_15 : decode cX10_restore 15 = .ok (.aload_n 0, 1) := by decide +kernel
theorem dX10_restore_16 : decode cX10_restore 16 = .ok (.getfield 23, 3) := by decide +kernel
theorem dX10_restore_19 : decode cX10_restore 19 = .ok (.aload_n 0, 1) := by decide +kernel
theorem dX10_restore_20 : decode cX10_restore 20 = .ok (.getfield 27, 3) := by decide +kernel
theorem dX10_restore_23 : decode cX10_restore 23 = .ok (.invokevirtual 339, 3) := by decide +kernel
theorem dX10_restore_26 : decode cX10_restore 26 = .ok (.aload_n 0, 1) := by decide +kernel
theorem dX10_restore_27 : decode cX10_restore 27 = .ok (.getfield 23, 3) := by decide +kernel
theorem dX10_restore_30 : decode cX10_restore 30 = .ok (.getfield 119, 3) := by decide +kernel
theorem dX10_restore_33 : decode cX10_restore 33 = .ok (.i2l, 1) := by decide +kernel
theorem dX10_restore_34 : decode cX10_restore 34 = .ok (.lreturn, 1) := by decide +kernel
theorem dX10_count_0 : decode cX10_count 0 = .ok (.iload_n 1, 1) := by decide +kernel
theorem dX10_count_1 : decode cX10_count 1 = .ok (.i2l, 1) := by decide +kernel
theorem dX10_count_2 : decode cX10_count 2 = .ok (.lconst 0, 1) := by decide +kernel
theorem dX10_count_3 : decode cX10_count 3 = .ok (.ldc2_w 261, 3) := by decide +kernel
theorem dX10_count_6 : decode cX10_count 6 = .ok (.invokestatic 61, 3) := by decide +kernel
theorem dX10_count_9 : decode cX10_count 9 = .ok (.ifCond .ne 11, 3) := by decide +kernel
theorem dX10_count_12 : decode cX10_count 12 = .ok (.aload_n 0, 1) := by decide +kernel
theorem dX10_count_13 : decode cX10_count 13 = .ok (.ldc2_w 69, 3) := by decide +kernel
theorem dX10_count_16 : decode cX10_count 16 = .ok (.invokevirtual 71, 3) := by decide +kernel
theorem dX10_count_19 : decode cX10_count 19 = .ok (.lreturn, 1) := by decide +kernel
theorem dX10_count_20 : decode cX10_count 20 = .ok (.iload_n 1, 1) := by decide +kernel
theorem dX10_count_21 : decode cX10_count 21 = .ok (.bipush 9, 2) := by decide +kernel
theorem dX10_count_23 : decode cX10_count 23 = .ok (.if_icmp .ne 10, 3) := by decide +kernel
theorem dX10_count_26 : decode cX10_count 26 = .ok (.aload_n 0, 1) := by decide +kernel
theorem dX10_count_27 : decode cX10_count 27 = .ok (.getfield 55, 3) := by decide +kernel
theorem dX10_count_30 : decode cX10_count 30 = .ok (.goto 11, 3) := by decide +kernel
theorem dX10_count_33 : decode cX10_count 33 = .ok (.aload_n 0, 1) := by decide +kernel
theorem dX10_count_34 : decode cX10_count 34 = .ok (.getfield 23, 3) := by decide +kernel
theorem dX10_count_37 : decode cX10_count 37 = .ok (.iload_n 1, 1) := by decide +kernel
theorem dX10_count_38 : decode cX10_count 38 = .ok (.invokevirtual 342, 3) := by decide +kernel
theorem dX10_count_41 : decode cX10_count 41 = .ok (.lreturn, 1) := by decide +kernel
theorem dX10_found_0 : decode cX10_found 0 = .ok (.aload_n 0, 1) := by decide +kernel
theorem dX10_found_1 : decode cX10_found 1 = .ok (.dup, 1) := by decide +kernel
theorem dX10_found_2 : decode cX10_found 2 = .ok (.getfield 55, 3) := by decide +kernel
theorem dX10_found_5 : decode cX10_found 5 = .ok (.lconst 1, 1) := by decide +kernel
theorem dX10_found_6 : decode cX10_found 6 = .ok (.ladd, 1) := by decide +kernel
theorem dX10_found_7 : decode cX10_found 7 = .ok (.putfield 55, 3) := by decide +kernel
theorem dX10_found_10 : decode cX10_found 10 = .ok (.lload_n 1, 1) := by decide +kernel
theorem dX10_found_11 : decode cX10_found 11 = .ok (.lreturn, 1) := by decide +kernel
theorem dX10_ruling_0 : decode cX10_ruling 0 = .ok (.aload_n 0, 1) := by decide +kernel
theorem dX10_ruling_1 : decode cX10_ruling 1 = .ok (.getfield 23, 3) := by decide +kernel
theorem dX10_ruling_4 : decode cX10_ruling 4 = .ok (.getfield 345, 3) := by decide +kernel
theorem dX10_ruling_7 : decode cX10_ruling 7 = .ok (.aload_n 0, 1) := by decide +kernel
theorem dX10_ruling_8 : decode cX10_ruling 8 = .ok (.getfield 23, 3) := by decide +kernel
theorem dX10_ruling_11 : decode cX10_ruling 11 = .ok (.aload_n 1, 1) := by decide +kernel
theorem dX10_ruling_12 : decode cX10_ruling 12 = .ok (.iload_n 2, 1) := by decide +kernel
theorem dX10_ruling_13 : decode cX10_ruling 13 = .ok (.invokevirtual 349, 3) := by decide +kernel
theorem dX10_ruling_16 : decode cX10_ruling 16 = .ok (.lreturn, 1) := by decide +kernel
theorem dX10_within_0 : decode cX10_within 0 = .ok (.lload_n 0, 1) := by decide +kernel
theorem dX10_within_1 : decode cX10_within 1 = .ok (.lload_n 2, 1) := by decide +kernel
theorem dX10_within_2 : decode cX10_within 2 = .ok (.lcmp, 1) := by decide +kernel
theorem dX10_within_3 : decode cX10_within 3 = .ok (.ifCond .lt 14, 3) := by decide +kernel
theorem dX10_within_6 : decode cX10_within 6 = .ok (.lload_n 0, 1) := by decide +kernel
theorem dX10_within_7 : decode cX10_within 7 = .ok (.lload 4, 2) := by decide +kernel
theorem dX10_within_9 : decode cX10_within 9 = .ok (.lcmp, 1) := by decide +kernel
theorem dX10_within_10 : decode cX10_within 10 = .ok (.ifCond .gt 7, 3) := by decide +kernel
theorem dX10_within_13 : decode cX10_within 13 = .ok (.iconst 1, 1) := by decide +kernel
theorem dX10_within_14 : decode cX10_within 14 = .ok (.goto 4, 3) := by decide +kernel
theorem dX10_within_17 : decode cX10_within 17 = .ok (.iconst 0, 1) := by decide +kernel
theorem dX10_within_18 : decode cX10_within 18 = .ok (.ireturn, 1) := by decide +kernel
theorem dX10_isCourt_0 : decode cX10_isCourt 0 = .ok (.iload_n 0, 1) := by decide +kernel
theorem dX10_isCourt_1 : decode cX10_isCourt 1 = .ok (.i2l, 1) := by decide +kernel
theorem dX10_isCourt_2 : decode cX10_isCourt 2 = .ok (.lconst 0, 1) := by decide +kernel
theorem dX10_isCourt_3 : decode cX10_isCourt 3 = .ok (.lconst 1, 1) := by decide +kernel
theorem dX10_isCourt_4 : decode cX10_isCourt 4 = .ok (.invokestatic 61, 3) := by decide +kernel
theorem dX10_isCourt_7 : decode cX10_isCourt 7 = .ok (.ireturn, 1) := by decide +kernel
theorem dX10_isSheet_0 : decode cX10_isSheet 0 = .ok (.iload_n 0, 1) := by decide +kernel
theorem dX10_isSheet_1 : decode cX10_isSheet 1 = .ok (.i2l, 1) := by decide +kernel
theorem dX10_isSheet_2 : decode cX10_isSheet 2 = .ok (.lconst 0, 1) := by decide +kernel
theorem dX10_isSheet_3 : decode cX10_isSheet 3 = .ok (.ldc2_w 353, 3) := by decide +kernel
theorem dX10_isSheet_6 : decode cX10_isSheet 6 = .ok (.invokestatic 61, 3) := by decide +kernel
theorem dX10_isSheet_9 : decode cX10_isSheet 9 = .ok (.ireturn, 1) := by decide +kernel
theorem dX10_mostOfHabit_0 : decode cX10_mostOfHabit 0 = .ok (.iload_n 0, 1) := by decide +kernel
theorem dX10_mostOfHabit_1 : decode cX10_mostOfHabit 1 = .ok (.ifCond .ne 6, 3) := by decide +kernel
theorem dX10_mostOfHabit_4 : decode cX10_mostOfHabit 4 = .ok (.bipush 10, 2) := by decide +kernel
theorem dX10_mostOfHabit_6 : decode cX10_mostOfHabit 6 = .ok (.ireturn, 1) := by decide +kernel
theorem dX10_mostOfHabit_7 : decode cX10_mostOfHabit 7 = .ok (.iload_n 0, 1) := by decide +kernel
theorem dX10_mostOfHabit_8 : decode cX10_mostOfHabit 8 = .ok (.iconst 1, 1) := by decide +kernel
theorem dX10_mostOfHabit_9 : decode cX10_mostOfHabit 9 = .ok (.if_icmp .ne 9, 3) := by decide +kernel
theorem dX10_mostOfHabit_12 : decode cX10_mostOfHabit 12 = .ok (.sipush 1000, 3) := by decide +kernel
theorem dX10_mostOfHabit_15 : decode cX10_mostOfHabit 15 = .ok (.goto 5, 3) := by decide +kernel
theorem dX10_mostOfHabit_18 : decode cX10_mostOfHabit 18 = .ok (.bipush 99, 2) := by decide +kernel
theorem dX10_mostOfHabit_20 : decode cX10_mostOfHabit 20 = .ok (.ireturn, 1) := by decide +kernel
theorem dX11_init_0 : decode cX11_init 0 = .ok (.aload_n 0, 1) := by decide +kernel
theorem dX11_init_1 : decode cX11_init 1 = .ok (.invokespecial 1, 3) := by decide +kernel
theorem dX11_init_4 : decode cX11_init 4 = .ok (.aload_n 0, 1) := by decide +kernel
theorem dX11_init_5 : decode cX11_init 5 = .ok (.sipush 611, 3) := by decide +kernel
theorem dX11_init_8 : decode cX11_init 8 = .ok (.newarray .long, 2) := by decide +kernel
theorem dX11_init_10 : decode cX11_init 10 = .ok (.putfield 9, 3) := by decide +kernel
theorem dX11_init_13 : decode cX11_init 13 = .ok (.aload_n 0, 1) := by decide +kernel
theorem dX11_init_14 : decode cX11_init 14 = .ok (.sipush 611, 3) := by decide +kernel
theorem dX11_init_17 : decode cX11_init 17 = .ok (.newarray .long, 2) := by decide +kernel
theorem dX11_init_19 : decode cX11_init 19 = .ok (.putfield 13, 3) := by decide +kernel
theorem dX11_init_22 : decode cX11_init 22 = .ok (.aload_n 0, 1) := by decide +kernel
theorem dX11_init_23 : decode cX11_init 23 = .ok (.sipush 611, 3) := by decide +kernel
theorem dX11_init_26 : decode cX11_init 26 = .ok (.newarray .long, 2) := by decide +kernel
theorem dX11_init_28 : decode cX11_init 28 = .ok (.putfield 16, 3) := by decide +kernel
theorem dX11_init_31 : decode cX11_init 31 = .ok (.aload_n 0, 1) := by decide +kernel
theorem dX11_init_32 : decode cX11_init 32 = .ok (.sipush 2856, 3) := by decide +kernel
theorem dX11_init_35 : decode cX11_init 35 = .ok (.newarray .int, 2) := by decide +kernel
theorem dX11_init_37 : decode cX11_init 37 = .ok (.putfield 19, 3) := by decide +kernel
theorem dX11_init_40 : decode cX11_init 40 = .ok (.aload_n 0, 1) := by decide +kernel
theorem dX11_init_41 : decode cX11_init 41 = .ok (.sipush 2856, 3) := by decide +kernel
theorem dX11_init_44 : decode cX11_init 44 = .ok (.newarray .int, 2) := by decide +kernel
theorem dX11_init_46 : decode cX11_init 46 = .ok (.putfield 23, 3) := by decide +kernel
theorem dX11_init_49 : decode cX11_init 49 = .ok (.aload_n 0, 1) := by decide +kernel
theorem dX11_init_50 : decode cX11_init 50 = .ok (.sipush 160, 3) := by decide +kernel
theorem dX11_init_53 : decode cX11_init 53 = .ok (.newarray .int, 2) := by decide +kernel
theorem dX11_init_55 : decode cX11_init 55 = .ok (.putfield 26, 3) := by decide +kernel
theorem dX11_init_58 : decode cX11_init 58 = .ok (.aload_n 0, 1) := by decide +kernel
theorem dX11_init_59 : decode cX11_init 59 = .ok (.iconst 4, 1) := by decide +kernel
theorem dX11_init_60 : decode cX11_init 60 = .ok (.newarray .int, 2) := by decide +kernel
theorem dX11_init_62 : decode cX11_init 62 = .ok (.putfield 29, 3) := by decide +kernel
theorem dX11_init_65 : decode cX11_init 65 = .ok (.aload_n 0, 1) := by decide +kernel
theorem dX11_init_66 : decode cX11_init 66 = .ok (.iconst 4, 1) := by decide +kernel
theorem dX11_init_67 : decode cX11_init 67 = .ok (.newarray .int, 2) := by decide +kernel
theorem dX11_init_69 : decode cX11_init 69 = .ok (.putfield 32, 3) := by decide +kernel
theorem dX11_init_72 : decode cX11_init 72 = .ok (.aload_n 0, 1) := by decide +kernel
theorem dX11_init_73 : decode cX11_init 73 = .ok (.bipush 80, 2) := by decide +kernel
theorem dX11_init_75 : decode cX11_init 75 = .ok (.newarray .int, 2) := by decide +kernel
theorem dX11_init_77 : decode cX11_init 77 = .ok (.putfield 35, 3) := by decide +kernel
theorem dX11_init_80 : decode cX11_init 80 = .ok (.aload_n 0, 1) := by decide +kernel
theorem dX11_init_81 : decode cX11_init 81 = .ok (.sipush 168, 3) := by decide +kernel
theorem dX11_init_84 : decode cX11_init 84 = .ok (.newarray .int, 2) := by decide +kernel
theorem dX11_init_86 : decode cX11_init 86 = .ok (.putfield 38, 3) := by decide +kernel
theorem dX11_init_89 : decode cX11_init 89 = .ok (.aload_n 0, 1) := by decide +kernel
theorem dX11_init_90 : decode cX11_init 90 = .ok (.sipush 168, 3) := by decide +kernel
theorem dX11_init_93 : decode cX11_init 93 = .ok (.newarray .long, 2) := by decide +kernel
theorem dX11_init_95 : decode cX11_init 95 = .ok (.putfield 41, 3) := by decide +kernel
theorem dX11_init_98 : decode cX11_init 98 = .ok (.aload_n 0, 1) := by decide +kernel
theorem dX11_init_99 : decode cX11_init 99 = .ok (.bipush 10, 2) := by decide +kernel
theorem dX11_init_101 : decode cX11_init 101 = .ok (.newarray .long, 2) := by decide +kernel
theorem dX11_init_103 : decode cX11_init 103 = .ok (.putfield 44, 3) := by decide +kernel
theorem dX11_init_106 : decode cX11_init 106 = .ok (.aload_n 0, 1) := by decide +kernel
theorem dX11_init_107 : decode cX11_init 107 = .ok (.bipush 10, 2) := by decide +kernel
theorem dX11_init_109 : decode cX11_init 109 = .ok (.newarray .long, 2) := by decide +kernel
theorem dX11_init_111 : decode cX11_init 111 = .ok (.putfield 47, 3) := by decide +kernel
theorem dX11_init_114 : decode cX11_init 114 = .ok (.aload_n 0, 1) := by decide +kernel
theorem dX11_init_115 : decode cX11_init 115 = .ok (.bipush 20, 2) := by decide +kernel
theorem dX11_init_117 : decode cX11_init 117 = .ok (.newarray .int, 2) := by decide +kernel
theorem dX11_init_119 : decode cX11_init 119 = .ok (.putfield 50, 3) := by decide +kernel
theorem dX11_init_122 : decode cX11_init 122 = .ok (.aload_n 0, 1) := by decide +kernel
theorem dX11_init_123 : decode cX11_init 123 = .ok (.getfield 9, 3) := by decide +kernel
theorem dX11_init_126 : decode cX11_init 126 = .ok (.sipush 310, 3) := by decide +kernel
theorem dX11_init_129 : decode cX11_init 129 = .ok (.lconst 1, 1) := by decide +kernel
theorem dX11_init_130 : decode cX11_init 130 = .ok (.lastore, 1) := by decide +kernel
theorem dX11_init_131 : decode cX11_init 131 = .ok (.return_, 1) := by decide +kernel
theorem dX11_finding_0 : decode cX11_finding 0 = .ok (.aload_n 0, 1) := by decide +kernel
theorem dX11_finding_1 : decode cX11_finding 1 = .ok (.dup, 1) := by decide +kernel
theorem dX11_finding_2 : decode cX11_finding 2 = .ok (.getfield 53, 3) := by decide +kernel
theorem dX11_finding_5 : decode cX11_finding 5 = .ok (.iconst 1, 1) := by decide +kernel
theorem dX11_finding_6 : decode cX11_finding 6 = .ok (.iadd, 1) := by decide +kernel
theorem dX11_finding_7 : decode cX11_finding 7 = .ok (.putfield 53, 3) := by decide +kernel
theorem dX11_finding_10 : decode cX11_finding 10 = .ok (.iload_n 1, 1) := by decide +kernel
theorem dX11_finding_11 : decode cX11_finding 11 = .ok (.ireturn, 1) := by decide +kernel
theorem dX11_within_0 : decode cX11_within 0 = .ok (.lload_n 0, 1) := by decide +kernel
theorem dX11_within_1 : decode cX11_within 1 = .ok (.lload_n 2, 1) := by decide +kernel
theorem dX11_within_2 : decode cX11_within 2 = .ok (.lcmp, 1) := by decide +kernel
theorem dX11_within_3 : decode cX11_within 3 = .ok (.ifCond .lt 14, 3) := by decide +kernel
theorem dX11_within_6 : decode cX11_within 6 = .ok (.lload_n 0, 1) := by decide +kernel
theorem dX11_within_7 : decode cX11_within 7 = .ok (.lload 4, 2) := by decide +kernel
theorem dX11_within_9 : decode cX11_within 9 = .ok (.lcmp, 1) := by decide +kernel
theorem dX11_within_10 : decode cX11_within 10 = .ok (.ifCond .gt 7, 3) := by decide +kernel
theorem dX11_within_13 : decode cX11_within 13 = .ok (.iconst 1, 1) := by decide +kernel
theorem dX11_within_14 : decode cX11_within 14 = .ok (.goto 4, 3) := by decide +kernel
theorem dX11_within_17 : decode cX11_within 17 = .ok (.iconst 0, 1) := by decide +kernel
theorem dX11_within_18 : decode cX11_within 18 = .ok (.ireturn, 1) := by decide +kernel
theorem dX11_isPerson_0 : decode cX11_isPerson 0 = .ok (.lload_n 1, 1) := by decide +kernel
theorem dX11_isPerson_1 : decode cX11_isPerson 1 = .ok (.lconst 0, 1) := by decide +kernel
theorem dX11_isPerson_2 : decode cX11_isPerson 2 = .ok (.aload_n 0, 1) := by decide +kernel
theorem dX11_isPerson_3 : decode cX11_isPerson 3 = .ok (.getfield 9, 3) := by decide +kernel
theorem dX11_isPerson_6 : decode cX11_isPerson 6 = .ok (.iconst 4, 1) := by decide +kernel
theorem dX11_isPerson_7 : decode cX11_isPerson 7 = .ok (.laload, 1) := by decide +kernel
theorem dX11_isPerson_8 : decode cX11_isPerson 8 = .ok (.lconst 1, 1) := by decide +kernel
theorem dX11_isPerson_9 : decode cX11_isPerson 9 = .ok (.lsub, 1) := by decide +kernel
theorem dX11_isPerson_10 : decode cX11_isPerson 10 = .ok (.invokestatic 57, 3) := by decide +kernel
theorem dX11_isPerson_13 : decode cX11_isPerson 13 = .ok (.ireturn, 1) := by decide +kernel
theorem dX11_isPaper_0 : decode cX11_isPaper 0 = .ok (.iload_n 1, 1) := by decide +kernel
theorem dX11_isPaper_1 : decode cX11_isPaper 1 = .ok (.i2l, 1) := by decide +kernel
theorem dX11_isPaper_2 : decode cX11_isPaper 2 = .ok (.lconst 0, 1) := by decide +kernel
theorem dX11_isPaper_3 : decode cX11_isPaper 3 = .ok (.aload_n 0, 1) := by decide +kernel
theorem dX11_isPaper_4 : decode cX11_isPaper 4 = .ok (.getfield 9, 3) := by decide +kernel
theorem dX11_isPaper_7 : decode cX11_isPaper 7 = .ok (.iconst 5, 1) := by decide +kernel
theorem dX11_isPaper_8 : decode cX11_isPaper 8 = .ok (.laload, 1) := by decide +kernel
theorem dX11_isPaper_9 : decode cX11_isPaper 9 = .ok (.lconst 1, 1) := by decide +kernel
theorem dX11_isPaper_10 : decode cX11_isPaper 10 = .ok (.lsub, 1) := by decide +kernel
theorem dX11_isPaper_11 : decode cX11_isPaper 11 = .ok (.invokestatic 57, 3) := by decide +kernel
theorem dX11_isPaper_14 : decode cX11_isPaper 14 = .ok (.ireturn, 1) := by decide +kernel
theorem dX11_of_0 : decode cX11_of 0 = .ok (.bipush 10, 2) := by decide +kernel
theorem dX11_of_2 : decode cX11_of 2 = .ok (.bipush 10, 2) := by decide +kernel
theorem dX11_of_4 : decode cX11_of 4 = .ok (.iload_n 0, 1) := by decide +kernel
theorem dX11_of_5 : decode cX11_of 5 = .ok (.imul, 1) := by decide +kernel
theorem dX11_of_6 : decode cX11_of 6 = .ok (.iadd, 1) := by decide +kernel
theorem dX11_of_7 : decode cX11_of 7 = .ok (.iload_n 1, 1) := by decide +kernel
theorem dX11_of_8 : decode cX11_of 8 = .ok (.iadd, 1) := by decide +kernel
theorem dX11_of_9 : decode cX11_of 9 = .ok (.ireturn, 1) := by decide +kernel
theorem dX11_ofPaper_0 : decode cX11_ofPaper 0 = .ok (.bipush 110, 2) := by decide +kernel
theorem dX11_ofPaper_2 : decode cX11_ofPaper 2 = .ok (.bipush 7, 2) := by decide +kernel
theorem dX11_ofPaper_4 : decode cX11_ofPaper 4 = .ok (.iload_n 0, 1) := by decide +kernel
theorem dX11_ofPaper_5 : decode cX11_ofPaper 5 = .ok (.imul, 1) := by decide +kernel
theorem dX11_ofPaper_6 : decode cX11_ofPaper 6 = .ok (.iadd, 1) := by decide +kernel
theorem dX11_ofPaper_7 : decode cX11_ofPaper 7 = .ok (.iload_n 1, 1) := by decide +kernel
theorem dX11_ofPaper_8 : decode cX11_ofPaper 8 = .ok (.iadd, 1) := by decide +kernel
theorem dX11_ofPaper_9 : decode cX11_ofPaper 9 = .ok (.ireturn, 1) := by decide +kernel
theorem dX11_today_0 : decode cX11_today 0 = .ok (.aload_n 0, 1) := by decide +kernel
theorem dX11_today_1 : decode cX11_today 1 = .ok (.getfield 9, 3) := by decide +kernel
theorem dX11_today_4 : decode cX11_today 4 = .ok (.iconst 0, 1) := by decide +kernel
theorem dX11_today_5 : decode cX11_today 5 = .ok (.laload, 1) := by decide +kernel
theorem dX11_today_6 : decode cX11_today 6 = .ok (.l2i, 1) := by decide +kernel
theorem dX11_today_7 : decode cX11_today 7 = .ok (.ireturn, 1) := by decide +kernel
theorem dX11_priceOf_0 : decode cX11_priceOf 0 = .ok (.aload_n 0, 1) := by decide +kernel
theorem dX11_priceOf_1 : decode cX11_priceOf 1 = .ok (.getfield 9, 3) := by decide +kernel
theorem dX11_priceOf_4 : decode cX11_priceOf 4 = .ok (.sipush 310, 3) := by decide +kernel
theorem dX11_priceOf_7 : decode cX11_priceOf 7 = .ok (.iload_n 1, 1) := by decide +kernel
theorem dX11_priceOf_8 : decode cX11_priceOf 8 = .ok (.iadd, 1) := by decide +kernel
theorem dX11_priceOf_9 : decode cX11_priceOf 9 = .ok (.laload, 1) := by decide +kernel
theorem dX11_priceOf_10 : decode cX11_priceOf 10 = .ok (.lreturn, 1) := by decide +kernel
theorem dX11_gets_0 : decode cX11_gets 0 = .ok (.aload_n 0, 1) := by decide +kernel
theorem dX11_gets_1 : decode cX11_gets 1 = .ok (.getfield 9, 3) := by decide +kernel
theorem dX11_gets_4 : decode cX11_gets 4 = .ok (.iload_n 1, 1) := by decide +kernel
theorem dX11_gets_5 : decode cX11_gets 5 = .ok (.dup2, 1) := by decide +kernel
theorem dX11_gets_6 : decode cX11_gets 6 = .ok (.laload, 1) := by decide +kernel
theorem dX11_gets_7 : decode cX11_gets 7 = .ok (.lload_n 2, 1) := by decide +kernel
theorem dX11_gets_8 : decode cX11_gets 8 = .ok (.ladd, 1) := by decide +kernel
theorem dX11_gets_9 : decode cX11_gets 9 = .ok (.lastore, 1) := by decide +kernel
theorem dX11_gets_10 : decode cX11_gets 10 = .ok (.aload_n 0, 1) := by decide +kernel
theorem dX11_gets_11 : decode cX11_gets 11 = .ok (.getfield 9, 3) := by decide +kernel
theorem dX11_gets_14 : decode cX11_gets 14 = .ok (.iload_n 1, 1) := by decide +kernel
theorem dX11_gets_15 : decode cX11_gets 15 = .ok (.laload, 1) := by decide +kernel
theorem dX11_gets_16 : decode cX11_gets 16 = .ok (.ldc2_w 61, 3) := by decide +kernel
theorem dX11_gets_19 : decode cX11_gets 19 = .ok (.lcmp, 1) := by decide +kernel
theorem dX11_gets_20 : decode cX11_gets 20 = .ok (.ifCond .le 31, 3) := by decide +kernel
theorem dX11_gets_23 : decode cX11_gets 23 = .ok (.aload_n 0, 1) := by decide +kernel
theorem dX11_gets_24 : decode cX11_gets 24 = .ok (.getfield 9, 3) := by decide +kernel
theorem dX11_gets_27 : decode cX11_gets 27 = .ok (.iconst 3, 1) := by decide +kernel
theorem dX11_gets_28 : decode cX11_gets 28 = .ok (.dup2, 1) := by decide +kernel
theorem dX11_gets_29 : decode cX11_gets 29 = .ok (.laload, 1) := by decide +kernel
theorem dX11_gets_30 : decode cX11_gets 30 = .ok (.aload_n 0, 1) := by decide +kernel
theorem dX11_gets_31 : decode cX11_gets 31 = .ok (.getfield 9, 3) := by decide +kernel
theorem dX11_gets_34 : decode cX11_gets 34 = .ok (.iload_n 1, 1) := by decide +kernel
theorem dX11_gets_35 : decode cX11_gets 35 = .ok (.laload, 1) := by decide +kernel
theorem dX11_gets_36 : decode cX11_gets 36 = .ok (.ldc2_w 61, 3) := by decide +kernel
theorem dX11_gets_39 : decode cX11_gets 39 = .ok (.lsub, 1) := by decide +kernel
theorem dX11_gets_40 : decode cX11_gets 40 = .ok (.ladd, 1) := by decide +kernel
theorem dX11_gets_41 : decode cX11_gets 41 = .ok (.lastore, 1) := by decide +kernel
theorem dX11_gets_42 : decode cX11_gets 42 = .ok (.aload_n 0, 1) := by decide +kernel
theorem dX11_gets_43 : decode cX11_gets 43 = .ok (.getfield 9, 3) := by decide +kernel
theorem dX11_gets_46 : decode cX11_gets 46 = .ok (.iload_n 1, 1) := by decide +kernel
theorem dX11_gets_47 : decode cX11_gets 47 = .ok (.ldc2_w 61, 3) := by decide +kernel
theorem dX11_gets_50 : decode cX11_gets 50 = .ok (.lastore, 1) := by decide +kernel
theorem dX11_gets_51 : decode cX11_gets 51 = .ok (.return_, 1) := by decide +kernel
theorem dX11_person_0 : decode cX11_person 0 = .ok (.lload_n 1, 1) := by decide +kernel
theorem dX11_person_1 : decode cX11_person 1 = .ok (.lconst 0, 1) := by decide +kernel
theorem dX11_person_2 : decode cX11_person 2 = .ok (.ldc2_w 61, 3) := by decide +kernel
theorem dX11_person_5 : decode cX11_person 5 = .ok (.invokestatic 57, 3) := by decide +kernel
theorem dX11_person_8 : decode cX11_person 8 = .ok (.ifCond .eq 28, 3) := by decide +kernel
theorem dX11_person_11 : decode cX11_person 11 = .ok (.iload_n 3, 1) := by decide +kernel
theorem dX11_person_12 : decode cX11_person 12 = .ok (.i2l, 1) := by decide +kernel
theorem dX11_person_13 : decode cX11_person 13 = .ok (.lconst 0, 1) := by decide +kernel
theorem dX11_person_14 : decode cX11_person 14 = .ok (.ldc2_w 63, 3) := by decide +kernel
theorem dX11_person_17 : decode cX11_person 17 = .ok (.invokestatic 57, 3) := by decide +kernel
theorem dX11_person_20 : decode cX11_person 20 = .ok (.ifCond .eq 16, 3) := by decide +kernel
theorem dX11_person_23 : decode cX11_person 23 = .ok (.iload 4, 2) := by decide +kernel
theorem dX11_person_25 : decode cX11_person 25 = .ok (.i2l, 1) := by decide +kernel
theorem dX11_person_26 : decode cX11_person 26 = .ok (.lconst 0, 1) := by decide +kernel
theorem dX11_person_27 : decode cX11_person 27 = .ok (.ldc2_w 65, 3) := by decide +kernel
theorem dX11_person_30 : decode cX11_person 30 = .ok (.invokestatic 57, 3) := by decide +kernel
theorem dX11_person_33 : decode cX11_person 33 = .ok (.ifCond .ne 11, 3) := by decide +kernel
theorem dX11_person_36 : decode cX11_person 36 = .ok (.aload_n 0, 1) := by decide +kernel
theorem dX11_person_37 : decode cX11_person 37 = .ok (.ldc 67, 2) := by decide +kernel
theorem dX11_person_39 : decode cX11_person 39 = .ok (.invokevirtual 68, 3) := by decide +kernel
theorem dX11_person_42 : decode cX11_person 42 = .ok (.i2l, 1) := by decide +kernel
theorem dX11_person_43 : decode cX11_person 43 = .ok (.lreturn, 1) := by decide +kernel
theorem dX11_person_44 : decode cX11_person 44 = .ok (.aload_n 0, 1) := by decide +kernel
theorem dX11_person_45 : decode cX11_person 45 = .ok (.getfield 9, 3) := by decide +kernel
theorem dX11_person_48 : decode cX11_person 48 = .ok (.iconst 4, 1) := by decide +kernel
theorem dX11_person_49 : decode cX11_person 49 = .ok (.laload, 1) := by decide +kernel
theorem dX11_person_50 : decode cX11_person 50 = .ok (.l2i, 1) := by decide +kernel
theorem dX11_person_51 : decode cX11_person 51 = .ok (.istore 5, 2) := by decide +kernel
theorem dX11_person_53 : decode cX11_person 53 = .ok (.iload 5, 2) := by decide +kernel
theorem dX11_person_55 : decode cX11_person 55 = .ok (.bipush 10, 2) := by decide +kernel
theorem dX11_person_57 : decode cX11_person 57 = .ok (.if_icmp .ne 11, 3) := by decide +kernel
theorem dX11_person_60 : decode cX11_person 60 = .ok (.aload_n 0, 1) := by decide +kernel
theorem dX11_person_61 : decode cX11_person 61 = .ok (.ldc 72, 2) := by decide +kernel
theorem dX11_person_63 : decode cX11_person 63 = .ok (.invokevirtual 68, 3) := by decide +kernel
theorem dX11_person_66 : decode cX11_person 66 = .ok (.i2l, 1) := by decide +kernel
theorem dX11_person_67 : decode cX11_person 67 = .ok (.lreturn, 1) := by decide +kernel
theorem dX11_person_68 : decode cX11_person 68 = .ok (.iconst 0, 1) := by decide +kernel
theorem dX11_person_69 : decode cX11_person 69 = .ok (.istore 6, 2) := by decide +kernel
theorem dX11_person_71 : decode cX11_person 71 = .ok (.iload 6, 2) := by decide +kernel
theorem dX11_person_73 : decode cX11_person 73 = .ok (.bipush 10, 2) := by decide +kernel
theorem dX11_person_75 : decode cX11_person 75 = .ok (.if_icmp .ge 22, 3) := by decide +kernel
theorem dX11_person_78 : decode cX11_person 78 = .ok (.aload_n 0, 1) := by decide +kernel
theorem dX11_person_79 : decode cX11_person 79 = .ok (.getfield 9, 3) := by decide +kernel
theorem dX11_person_82 : decode cX11_person 82 = .ok (.iload 5, 2) := by decide +kernel
theorem dX11_person_84 : decode cX11_person 84 = .ok (.iload 6, 2) := by decide +kernel
theorem dX11_person_86 : decode cX11_person 86 = .ok (.invokestatic 73, 3) := by decide +kernel
theorem dX11_person_89 : decode cX11_person 89 = .ok (.lconst 0, 1) := by decide +kernel
theorem dX11_person_90 : decode cX11_person 90 = .ok (.lastore, 1) := by decide +kernel
theorem dX11_person_91 : decode cX11_person 91 = .ok (.iinc 6 1, 3) := by decide +kernel
theorem dX11_person_94 : decode cX11_person 94 = .ok (.goto (-23), 3) := by decide +kernel
theorem dX11_person_97 : decode cX11_person 97 = .ok (.aload_n 0, 1) := by decide +kernel
theorem dX11_person_98 : decode cX11_person 98 = .ok (.getfield 9, 3) := by decide +kernel
theorem dX11_person_101 : decode cX11_person 101 = .ok (.iload 5, 2) := by decide +kernel
theorem dX11_person_103 : decode cX11_person 103 = .ok (.iconst 0, 1) := by decide +kernel
theorem dX11_person_104 : decode cX11_person 104 = .ok (.invokestatic 73, 3) := by decide +kernel
theorem dX11_person_107 : decode cX11_person 107 = .ok (.lload_n 1, 1) := by decide +kernel
theorem dX11_person_108 : decode cX11_person 108 = .ok (.lastore, 1) := by decide +kernel
theorem dX11_person_109 : decode cX11_person 109 = .ok (.aload_n 0, 1) := by decide +kernel
theorem dX11_person_110 : decode cX11_person 110 = .ok (.getfield 9, 3) := by decide +kernel
theorem dX11_person_113 : decode cX11_person 113 = .ok (.iload 5, 2) := by decide +kernel
theorem dX11_person_115 : decode cX11_person 115 = .ok (.iconst 1, 1) := by decide +kernel
theorem dX11_person_116 : decode cX11_person 116 = .ok (.invokestatic 73, 3) := by decide +kernel
theorem dX11_person_119 : decode cX11_person 119 = .ok (.iload_n 3, 1) := by decide +kernel
theorem dX11_person_120 : decode cX11_person 120 = .ok (.i2l, 1) := by decide +kernel
theorem dX11_person_121 : decode cX11_person 121 = .ok (.lastore, 1) := by decide +kernel
theorem dX11_person_122 : decode cX11_person 122 = .ok (.aload_n 0, 1) := by decide +kernel
theorem dX11_person_123 : decode cX11_person 123 = .ok (.getfield 9, 3) := by decide +kernel
theorem dX11_person_126 : decode cX11_person 126 = .ok (.iload 5, 2) := by decide +kernel
theorem dX11_person_128 : decode cX11_person 128 = .ok (.iconst 2, 1) := by decide +kernel
theorem dX11_person_129 : decode cX11_person 129 = .ok (.invokestatic 73, 3) := by decide +kernel
theorem dX11_person_132 : decode cX11_person 132 = .ok (.iload 4, 2) := by decide +kernel
theorem dX11_person_134 : decode cX11_person 134 = .ok (.i2l, 1) := by decide +kernel
theorem dX11_person_135 : decode cX11_person 135 = .ok (.lastore, 1) := by decide +kernel
theorem dX11_person_136 : decode cX11_person 136 = .ok (.aload_n 0, 1) := by decide +kernel
theorem dX11_person_137 : decode cX11_person 137 = .ok (.getfield 9, 3) := by decide +kernel
theorem dX11_person_140 : decode cX11_person 140 = .ok (.iload 5, 2) := by decide +kernel
theorem dX11_person_142 : decode cX11_person 142 = .ok (.iconst 3, 1) := by decide +kernel
theorem dX11_person_143 : decode cX11_person 143 = .ok (.invokestatic 73, 3) := by decide +kernel
theorem dX11_person_146 : decode cX11_person 146 = .ok (.ldc2_w 77, 3) := by decide +kernel
theorem dX11_person_149 : decode cX11_person 149 = .ok (.lastore, 1) := by decide +kernel
theorem dX11_person_150 : decode cX11_person 150 = .ok (.aload_n 0, 1) := by decide +kernel
theorem dX11_person_151 : decode cX11_person 151 = .ok (.getfield 9, 3) := by decide +kernel
theorem dX11_person_154 : decode cX11_person 154 = .ok (.iload 5, 2) := by decide +kernel
theorem dX11_person_156 : decode cX11_person 156 = .ok (.iconst 4, 1) := by decide +kernel
theorem dX11_person_157 : decode cX11_person 157 = .ok (.invokestatic 73, 3) := by decide +kernel
theorem dX11_person_160 : decode cX11_person 160 = .ok (.ldc2_w 79, 3) := by decide +kernel
theorem dX11_person_163 : decode cX11_person 163 = .ok (.lastore, 1) := by decide +kernel
theorem dX11_person_164 : decode cX11_person 164 = .ok (.aload_n 0, 1) := by decide +kernel
theorem dX11_person_165 : decode cX11_person 165 = .ok (.getfield 9, 3) := by decide +kernel
theorem dX11_person_168 : decode cX11_person 168 = .ok (.iconst 4, 1) := by decide +kernel
theorem dX11_person_169 : decode cX11_person 169 = .ok (.dup2, 1) := by decide +kernel
theorem dX11_person_170 : decode cX11_person 170 = .ok (.laload, 1) := by decide +kernel
theorem dX11_person_171 : decode cX11_person 171 = .ok (.lconst 1, 1) := by decide +kernel
theorem dX11_person_172 : decode cX11_person 172 = .ok (.ladd, 1) := by decide +kernel
theorem dX11_person_173 : decode cX11_person 173 = .ok (.lastore, 1) := by decide +kernel
theorem dX11_person_174 : decode cX11_person 174 = .ok (.iload 5, 2) := by decide +kernel
theorem dX11_person_176 : decode cX11_person 176 = .ok (.i2l, 1) := by decide +kernel
theorem dX11_person_177 : decode cX11_person 177 = .ok (.lreturn, 1) := by decide +kernel
theorem dX11_habit_0 : decode cX11_habit 0 = .ok (.aload_n 0, 1) := by decide +kernel
theorem dX11_habit_1 : decode cX11_habit 1 = .ok (.iload_n 1, 1) := by decide +kernel
theorem dX11_habit_2 : decode cX11_habit 2 = .ok (.i2l, 1) := by decide +kernel
theorem dX11_habit_3 : decode cX11_habit 3 = .ok (.invokevirtual 81, 3) := by decide +kernel
theorem dX11_habit_6 : decode cX11_habit 6 = .ok (.ifCond .eq 48, 3) := by decide +kernel
theorem dX11_habit_9 : decode cX11_habit 9 = .ok (.iload_n 2, 1) := by decide +kernel
theorem dX11_habit_10 : decode cX11_habit 10 = .ok (.i2l, 1) := by decide +kernel
theorem dX11_habit_11 : decode cX11_habit 11 = .ok (.lconst 0, 1) := by decide +kernel
theorem dX11_habit_12 : decode cX11_habit 12 = .ok (.ldc2_w 85, 3) := by decide +kernel
theorem dX11_habit_15 : decode cX11_habit 15 = .ok (.invokestatic 57, 3) := by decide +kernel
theorem dX11_habit_18 : decode cX11_habit 18 = .ok (.ifCond .eq 36, 3) := by decide +kernel
theorem dX11_habit_21 : decode cX11_habit 21 = .ok (.iload_n 3, 1) := by decide +kernel
theorem dX11_habit_22 : decode cX11_habit 22 = .ok (.i2l, 1) := by decide +kernel
theorem dX11_habit_23 : decode cX11_habit 23 = .ok (.lconst 0, 1) := by decide +kernel
theorem dX11_habit_24 : decode cX11_habit 24 = .ok (.iload_n 2, 1) := by decide +kernel
theorem dX11_habit_25 : decode cX11_habit 25 = .ok (.ifCond .ne 9, 3) := by decide +kernel
theorem dX11_habit_28 : decode cX11_habit 28 = .ok (.ldc2_w 87, 3) := by decide +kernel
theorem dX11_habit_31 : decode cX11_habit 31 = .ok (.goto 17, 3) := by decide +kernel
theorem dX11_habit_34 : decode cX11_habit 34 = .ok (.iload_n 2, 1) := by decide +kernel
theorem dX11_habit_35 : decode cX11_habit 35 = .ok (.iconst 1, 1) := by decide +kernel
theorem dX11_habit_36 : decode cX11_habit 36 = .ok (.if_icmp .ne 9, 3) := by decide +kernel
theorem dX11_habit_39 : decode cX11_habit 39 = .ok (.ldc2_w 79, 3) := by decide +kernel
theorem dX11_habit_42 : decode cX11_habit 42 = .ok (.goto 6, 3) := by decide +kernel
theorem dX11_habit_45 : decode cX11_habit 45 = .ok (.ldc2_w 65, 3) := by decide +kernel
theorem dX11_habit_48 : decode cX11_habit 48 = .ok (.invokestatic 57, 3) := by decide +kernel
theorem dX11_habit_51 : decode cX11_habit 51 = .ok (.ifCond .ne 11, 3) := by decide +kernel
theorem dX11_habit_54 : decode cX11_habit 54 = .ok (.aload_n 0, 1) := by decide +kernel
theorem dX11_habit_55 : decode cX11_habit 55 = .ok (.ldc 67, 2) := by decide +kernel
theorem dX11_habit_57 : decode cX11_habit 57 = .ok (.invokevirtual 68, 3) := by decide +kernel
theorem dX11_habit_60 : decode cX11_habit 60 = .ok (.i2l, 1) := by decide +kernel
theorem dX11_habit_61 : decode cX11_habit 61 = .ok (.lreturn, 1) := by decide +kernel
theorem dX11_habit_62 : decode cX11_habit 62 = .ok (.iload_n 1, 1) := by decide +kernel
theorem dX11_habit_63 : decode cX11_habit 63 = .ok (.iload_n 2, 1) := by decide +kernel
theorem dX11_habit_64 : decode cX11_habit 64 = .ok (.ifCond .ne 7, 3) := by decide +kernel
theorem dX11_habit_67 : decode cX11_habit 67 = .ok (.iconst 3, 1) := by decide +kernel
theorem dX11_habit_68 : decode cX11_habit 68 = .ok (.goto 13, 3) := by decide +kernel
theorem dX11_habit_71 : decode cX11_habit 71 = .ok (.iload_n 2, 1) := by decide +kernel
theorem dX11_habit_72 : decode cX11_habit 72 = .ok (.iconst 1, 1) := by decide +kernel
theorem dX11_habit_73 : decode cX11_habit 73 = .ok (.if_icmp .ne 7, 3) := by decide +kernel
theorem dX11_habit_76 : decode cX11_habit 76 = .ok (.iconst 4, 1) := by decide +kernel
theorem dX11_habit_77 : decode cX11_habit 77 = .ok (.goto 4, 3) := by decide +kernel
theorem dX11_habit_80 : decode cX11_habit 80 = .ok (.iconst 2, 1) := by decide +kernel
theorem dX11_habit_81 : decode cX11_habit 81 = .ok (.invokestatic 73, 3) := by decide +kernel
theorem dX11_habit_84 : decode cX11_habit 84 = .ok (.istore 4, 2) := by decide +kernel
theorem dX11_habit_86 : decode cX11_habit 86 = .ok (.aload_n 0, 1) := by decide +kernel
theorem dX11_habit_87 : decode cX11_habit 87 = .ok (.getfield 9, 3) := by decide +kernel
theorem dX11_habit_90 : decode cX11_habit 90 = .ok (.iload 4, 2) := by decide +kernel
theorem dX11_habit_92 : decode cX11_habit 92 = .ok (.laload, 1) := by decide +kernel
theorem dX11_habit_93 : decode cX11_habit 93 = .ok (.lstore 5, 2) := by decide +kernel
theorem dX11_habit_95 : decode cX11_habit 95 = .ok (.aload_n 0, 1) := by decide +kernel
theorem dX11_habit_96 : decode cX11_habit 96 = .ok (.getfield 9, 3) := by decide +kernel
theorem dX11_habit_99 : decode cX11_habit 99 = .ok (.iload 4, 2) := by decide +kernel
theorem dX11_habit_101 : decode cX11_habit 101 = .ok (.iload_n 3, 1) := by decide +kernel
theorem dX11_habit_102 : decode cX11_habit 102 = .ok (.i2l, 1) := by decide +kernel
theorem dX11_habit_103 : decode cX11_habit 103 = .ok (.lastore, 1) := by decide +kernel
theorem dX11_habit_104 : decode cX11_habit 104 = .ok (.lload 5, 2) := by decide +kernel
theorem dX11_habit_106 : decode cX11_habit 106 = .ok (.lreturn, 1) := by decide +kernel
theorem dX11_personIs_0 : decode cX11_personIs 0 = .ok (.aload_n 0, 1) := by decide +kernel
theorem dX11_personIs_1 : decode cX11_personIs 1 = .ok (.iload_n 1, 1) := by decide +kernel
theorem dX11_personIs_2 : decode cX11_personIs 2 = .ok (.i2l, 1) := by decide +kernel
theorem dX11_personIs_3 : decode cX11_personIs 3 = .ok (.invokevirtual 81, 3) := by decide +kernel
theorem dX11_personIs_6 : decode cX11_personIs 6 = .ok (.ifCond .eq 15, 3) := by decide +kernel
theorem dX11_personIs_9 : decode cX11_personIs 9 = .ok (.iload_n 2, 1) := by decide +kernel
theorem dX11_personIs_10 : decode cX11_personIs 10 = .ok (.i2l, 1) := by decide +kernel
theorem dX11_personIs_11 : decode cX11_personIs 11 = .ok (.lconst 0, 1) := by decide +kernel
theorem dX11_personIs_12 : decode cX11_personIs 12 = .ok (.ldc2_w 89, 3) := by decide +kernel
theorem dX11_personIs_15 : decode cX11_personIs 15 = .ok (.invokestatic 57, 3) := by decide +kernel
theorem dX11_personIs_18 : decode cX11_personIs 18 = .ok (.ifCond .ne 13, 3) := by decide +kernel
theorem dX11_personIs_21 : decode cX11_personIs 21 = .ok (.aload_n 0, 1) := by decide +kernel
theorem dX11_personIs_22 : decode cX11_personIs 22 = .ok (.ldc 67, 2) := by decide +kernel
theorem dX11_personIs_24 : decode cX11_personIs 24 = .ok (.invokevirtual 68, 3) := by decide +kernel
theorem dX11_personIs_27 : decode cX11_personIs 27 = .ok (.i2l, 1) := by decide +kernel
theorem dX11_personIs_28 : decode cX11_personIs 28 = .ok (.goto 13, 3) := by decide +kernel
theorem dX11_personIs_31 : decode cX11_personIs 31 = .ok (.aload_n 0, 1) := by decide +kernel
theorem dX11_personIs_32 : decode cX11_personIs 32 = .ok (.getfield 9, 3) := by decide +kernel
theorem dX11_personIs_35 : decode cX11_personIs 35 = .ok (.iload_n 1, 1) := by decide +kernel
theorem dX11_personIs_36 : decode cX11_personIs 36 = .ok (.iload_n 2, 1) := by decide +kernel
theorem dX11_personIs_37 : decode cX11_personIs 37 = .ok (.invokestatic 73, 3) := by decide +kernel
theorem dX11_personIs_40 : decode cX11_personIs 40 = .ok (.laload, 1) := by decide +kernel
theorem dX11_personIs_41 : decode cX11_personIs 41 = .ok (.lreturn, 1) := by decide +kernel
theorem dX11_gain_0 : decode cX11_gain 0 = .ok (.aload_n 0, 1) := by decide +kernel
theorem dX11_gain_1 : decode cX11_gain 1 = .ok (.iload_n 1, 1) := by decide +kernel
theorem dX11_gain_2 : decode cX11_gain 2 = .ok (.i2l, 1) := by decide +kernel
theorem dX11_gain_3 : decode cX11_gain 3 = .ok (.invokevirtual 81, 3) := by decide +kernel
theorem dX11_gain_6 : decode cX11_gain 6 = .ok (.ifCond .ne 13, 3) := by decide +kernel
theorem dX11_gain_9 : decode cX11_gain 9 = .ok (.aload_n 0, 1) := by decide +kernel
theorem dX11_gain_10 : decode cX11_gain 10 = .ok (.ldc 67, 2) := by decide +kernel
theorem dX11_gain_12 : decode cX11_gain 12 = .ok (.invokevirtual 68, 3) := by decide +kernel
theorem dX11_gain_15 : decode cX11_gain 15 = .ok (.i2l, 1) := by decide +kernel
theorem dX11_gain_16 : decode cX11_gain 16 = .ok (.goto 23, 3) := by decide +kernel
theorem dX11_gain_19 : decode cX11_gain 19 = .ok (.aload_n 0, 1) := by decide +kernel
theorem dX11_gain_20 : decode cX11_gain 20 = .ok (.getfield 9, 3) := by decide +kernel
theorem dX11_gain_23 : decode cX11_gain 23 = .ok (.iload_n 1, 1) := by decide +kernel
theorem dX11_gain_24 : decode cX11_gain 24 = .ok (.iload_n 2, 1) := by decide +kernel
theorem dX11_gain_25 : decode cX11_gain 25 = .ok (.ifCond .eq 8, 3) := by decide +kernel
theorem dX11_gain_28 : decode cX11_gain 28 = .ok (.bipush 9, 2) := by decide +kernel
theorem dX11_gain_30 : decode cX11_gain 30 = .ok (.goto 5, 3) := by decide +kernel
theorem dX11_gain_33 : decode cX11_gain 33 = .ok (.bipush 8, 2) := by decide +kernel
theorem dX11_gain_35 : decode cX11_gain 35 = .ok (.invokestatic 73, 3) := by decide +kernel
theorem dX11_gain_38 : decode cX11_gain 38 = .ok (.laload, 1) := by decide +kernel
theorem dX11_gain_39 : decode cX11_gain 39 = .ok (.lreturn, 1) := by decide +kernel
theorem dX11_paper_0 : decode cX11_paper 0 = .ok (.iload_n 1, 1) := by decide +kernel
theorem dX11_paper_1 : decode cX11_paper 1 = .ok (.i2l, 1) := by decide +kernel
theorem dX11_paper_2 : decode cX11_paper 2 = .ok (.lconst 0, 1) := by decide +kernel
theorem dX11_paper_3 : decode cX11_paper 3 = .ok (.ldc2_w 77, 3) := by decide +kernel
theorem dX11_paper_6 : decode cX11_paper 6 = .ok (.invokestatic 57, 3) := by decide +kernel
theorem dX11_paper_9 : decode cX11_paper 9 = .ok (.ifCond .eq 49, 3) := by decide +kernel
theorem dX11_paper_12 : decode cX11_paper 12 = .ok (.iload_n 2, 1) := by decide +kernel
theorem dX11_paper_13 : decode cX11_paper 13 = .ok (.ifCond .lt 45, 3) := by decide +kernel
theorem dX11_paper_16 : decode cX11_paper 16 = .ok (.aload_n 0, 1) := by decide +kernel
theorem dX11_paper_17 : decode cX11_paper 17 = .ok (.iload_n 2, 1) := by decide +kernel
theorem dX11_paper_18 : decode cX11_paper 18 = .ok (.bipush 100, 2) := by decide +kernel
theorem dX11_paper_20 : decode cX11_paper 20 = .ok (.irem, 1) := by decide +kernel
theorem dX11_paper_21 : decode cX11_paper 21 = .ok (.i2l, 1) := by decide +kernel
theorem dX11_paper_22 : decode cX11_paper 22 = .ok (.invokevirtual 81, 3) := by decide +kernel
theorem dX11_paper_25 : decode cX11_paper 25 = .ok (.ifCond .eq 33, 3) := by decide +kernel
theorem dX11_paper_28 : decode cX11_paper 28 = .ok (.iload_n 1, 1) := by decide +kernel
theorem dX11_paper_29 : decode cX11_paper 29 = .ok (.iconst 4, 1) := by decide +kernel
theorem dX11_paper_30 : decode cX11_paper 30 = .ok (.if_icmp .ne 12, 3) := by decide +kernel
theorem dX11_paper_33 : decode cX11_paper 33 = .ok (.iload_n 2, 1) := by decide +kernel
theorem dX11_paper_34 : decode cX11_paper 34 = .ok (.bipush 100, 2) := by decide +kernel
theorem dX11_paper_36 : decode cX11_paper 36 = .ok (.if_icmp .ge 22, 3) := by decide +kernel
theorem dX11_paper_39 : decode cX11_paper 39 = .ok (.goto 15, 3) := by decide +kernel
theorem dX11_paper_42 : decode cX11_paper 42 = .ok (.aload_n 0, 1) := by decide +kernel
theorem dX11_paper_43 : decode cX11_paper 43 = .ok (.iload_n 2, 1) := by decide +kernel
theorem dX11_paper_44 : decode cX11_paper 44 = .ok (.bipush 100, 2) := by decide +kernel
theorem dX11_paper_46 : decode cX11_paper 46 = .ok (.idiv, 1) := by decide +kernel
theorem dX11_paper_47 : decode cX11_paper 47 = .ok (.i2l, 1) := by decide +kernel
theorem dX11_paper_48 : decode cX11_paper 48 = .ok (.invokevirtual 81, 3) := by decide +kernel
theorem dX11_paper_51 : decode cX11_paper 51 = .ok (.ifCond .eq 7, 3) := by decide +kernel
theorem dX11_paper_54 : decode cX11_paper 54 = .ok (.iconst 1, 1) := by decide +kernel
theorem dX11_paper_55 : decode cX11_paper 55 = .ok (.goto 4, 3) := by decide +kernel
theorem dX11_paper_58 : decode cX11_paper 58 = .ok (.iconst 0, 1) := by decide +kernel
theorem dX11_paper_59 : decode cX11_paper 59 = .ok (.istore 6, 2) := by decide +kernel
theorem dX11_paper_61 : decode cX11_paper 61 = .ok (.iload 6, 2) := by decide +kernel
theorem dX11_paper_63 : decode cX11_paper 63 = .ok (.ifCond .eq 32, 3) := by decide +kernel
theorem dX11_paper_66 : decode cX11_paper 66 = .ok (.lload_n 3, 1) := by decide +kernel
theorem dX11_paper_67 : decode cX11_paper 67 = .ok (.lconst 1, 1) := by decide +kernel
theorem dX11_paper_68 : decode cX11_paper 68 = .ok (.ldc2_w 61, 3) := by decide +kernel
theorem dX11_paper_71 : decode cX11_paper 71 = .ok (.invokestatic 57, 3) := by decide +kernel
theorem dX11_paper_74 : decode cX11_paper 74 = .ok (.ifCond .eq 21, 3) := by decide +kernel
theorem dX11_paper_77 : decode cX11_paper 77 = .ok (.iload 5, 2) := by decide +kernel
theorem dX11_paper_79 : decode cX11_paper 79 = .ok (.i2l, 1) := by decide +kernel
theorem dX11_paper_80 : decode cX11_paper 80 = .ok (.aload_n 0, 1) := by decide +kernel
theorem dX11_paper_81 : decode cX11_paper 81 = .ok (.getfield 9, 3) := by decide +kernel
theorem dX11_paper_84 : decode cX11_paper 84 = .ok (.iconst 0, 1) := by decide +kernel
theorem dX11_paper_85 : decode cX11_paper 85 = .ok (.laload, 1) := by decide +kernel
theorem dX11_paper_86 : decode cX11_paper 86 = .ok (.ldc2_w 91, 3) := by decide +kernel
theorem dX11_paper_89 : decode cX11_paper 89 = .ok (.invokestatic 57, 3) := by decide +kernel
theorem dX11_paper_92 : decode cX11_paper 92 = .ok (.ifCond .ne 11, 3) := by decide +kernel
theorem dX11_paper_95 : decode cX11_paper 95 = .ok (.aload_n 0, 1) := by decide +kernel
theorem dX11_paper_96 : decode cX11_paper 96 = .ok (.ldc 67, 2) := by decide +kernel
theorem dX11_paper_98 : decode cX11_paper 98 = .ok (.invokevirtual 68, 3) := by decide +kernel
theorem dX11_paper_101 : decode cX11_paper 101 = .ok (.i2l, 1) := by decide +kernel
theorem dX11_paper_102 : decode cX11_paper 102 = .ok (.lreturn, 1) := by decide +kernel
theorem dX11_paper_103 : decode cX11_paper 103 = .ok (.iload_n 1, 1) := by decide +kernel
theorem dX11_paper_104 : decode cX11_paper 104 = .ok (.iconst 4, 1) := by decide +kernel
theorem dX11_paper_105 : decode cX11_paper 105 = .ok (.if_icmp .eq 22, 3) := by decide +kernel
theorem dX11_paper_108 : decode cX11_paper 108 = .ok (.iload_n 2, 1) := by decide +kernel
theorem dX11_paper_109 : decode cX11_paper 109 = .ok (.bipush 100, 2) := by decide +kernel
theorem dX11_paper_111 : decode cX11_paper 111 = .ok (.idiv, 1) := by decide +kernel
theorem dX11_paper_112 : decode cX11_paper 112 = .ok (.iload_n 2, 1) := by decide +kernel
theorem dX11_paper_113 : decode cX11_paper 113 = .ok (.bipush 100, 2) := by decide +kernel
theorem dX11_paper_115 : decode cX11_paper 115 = .ok (.irem, 1) := by decide +kernel
theorem dX11_paper_116 : decode cX11_paper 116 = .ok (.if_icmp .ne 11, 3) := by decide +kernel
theorem dX11_paper_119 : decode cX11_paper 119 = .ok (.aload_n 0, 1) := by decide +kernel
theorem dX11_paper_120 : decode cX11_paper 120 = .ok (.ldc 93, 2) := by decide +kernel
theorem dX11_paper_122 : decode cX11_paper 122 = .ok (.invokevirtual 68, 3) := by decide +kernel
theorem dX11_paper_125 : decode cX11_paper 125 = .ok (.i2l, 1) := by decide +kernel
theorem dX11_paper_126 : decode cX11_paper 126 = .ok (.lreturn, 1) := by decide +kernel
theorem dX11_paper_127 : decode cX11_paper 127 = .ok (.aload_n 0, 1) := by decide +kernel
theorem dX11_paper_128 : decode cX11_paper 128 = .ok (.getfield 9, 3) := by decide +kernel
theorem dX11_paper_131 : decode cX11_paper 131 = .ok (.iconst 5, 1) := by decide +kernel
theorem dX11_paper_132 : decode cX11_paper 132 = .ok (.laload, 1) := by decide +kernel
theorem dX11_paper_133 : decode cX11_paper 133 = .ok (.l2i, 1) := by decide +kernel
theorem dX11_paper_134 : decode cX11_paper 134 = .ok (.istore 7, 2) := by decide +kernel
theorem dX11_paper_136 : decode cX11_paper 136 = .ok (.iload 7, 2) := by decide +kernel
theorem dX11_paper_138 : decode cX11_paper 138 = .ok (.bipush 24, 2) := by decide +kernel
theorem dX11_paper_140 : decode cX11_paper 140 = .ok (.if_icmp .ne 11, 3) := by decide +kernel
theorem dX11_paper_143 : decode cX11_paper 143 = .ok (.aload_n 0, 1) := by decide +kernel
theorem dX11_paper_144 : decode cX11_paper 144 = .ok (.ldc 72, 2) := by decide +kernel
theorem dX11_paper_146 : decode cX11_paper 146 = .ok (.invokevirtual 68, 3) := by decide +kernel
theorem dX11_paper_149 : decode cX11_paper 149 = .ok (.i2l, 1) := by decide +kernel
theorem dX11_paper_150 : decode cX11_paper 150 = .ok (.lreturn, 1) := by decide +kernel
theorem dX11_paper_151 : decode cX11_paper 151 = .ok (.aload_n 0, 1) := by decide +kernel
theorem dX11_paper_152 : decode cX11_paper 152 = .ok (.getfield 9, 3) := by decide +kernel
theorem dX11_paper_155 : decode cX11_paper 155 = .ok (.iload 7, 2) := by decide +kernel
theorem dX11_paper_157 : decode cX11_paper 157 = .ok (.iconst 0, 1) := by decide +kernel
theorem dX11_paper_158 : decode cX11_paper 158 = .ok (.invokestatic 94, 3) := by decide +kernel
theorem dX11_paper_161 : decode cX11_paper 161 = .ok (.iload_n 1, 1) := by decide +kernel
theorem dX11_paper_162 : decode cX11_paper 162 = .ok (.i2l, 1) := by decide +kernel
theorem dX11_paper_163 : decode cX11_paper 163 = .ok (.lastore, 1) := by decide +kernel
theorem dX11_paper_164 : decode cX11_paper 164 = .ok (.aload_n 0, 1) := by decide +kernel
theorem dX11_paper_165 : decode cX11_paper 165 = .ok (.getfield 9, 3) := by decide +kernel
theorem dX11_paper_168 : decode cX11_paper 168 = .ok (.iload 7, 2) := by decide +kernel
theorem dX11_paper_170 : decode cX11_paper 170 = .ok (.iconst 1, 1) := by decide +kernel
theorem dX11_paper_171 : decode cX11_paper 171 = .ok (.invokestatic 94, 3) := by decide +kernel
theorem dX11_paper_174 : decode cX11_paper 174 = .ok (.iload_n 1, 1) := by decide +kernel
theorem dX11_paper_175 : decode cX11_paper 175 = .ok (.iconst 4, 1) := by decide +kernel
theorem dX11_paper_176 : decode cX11_paper 176 = .ok (.if_icmp .ne 9, 3) := by decide +kernel
theorem dX11_paper_179 : decode cX11_paper 179 = .ok (.ldc2_w 97, 3) := by decide +kernel
theorem dX11_paper_182 : decode cX11_paper 182 = .ok (.goto 8, 3) := by decide +kernel
theorem dX11_paper_185 : decode cX11_paper 185 = .ok (.iload_n 2, 1) := by decide +kernel
theorem dX11_paper_186 : decode cX11_paper 186 = .ok (.bipush 100, 2) := by decide +kernel
theorem dX11_paper_188 : decode cX11_paper 188 = .ok (.idiv, 1) := by decide +kernel
theorem dX11_paper_189 : decode cX11_paper 189 = .ok (.i2l, 1) := by decide +kernel
theorem dX11_paper_190 : decode cX11_paper 190 = .ok (.lastore, 1) := by decide +kernel
theorem dX11_paper_191 : decode cX11_paper 191 = .ok (.aload_n 0, 1) := by decide +kernel
theorem dX11_paper_192 : decode cX11_paper 192 = .ok (.getfield 9, 3) := by decide +kernel
theorem dX11_paper_195 : decode cX11_paper 195 = .ok (.iload 7, 2) := by decide +kernel
theorem dX11_paper_197 : decode cX11_paper 197 = .ok (.iconst 2, 1) := by decide +kernel
theorem dX11_paper_198 : decode cX11_paper 198 = .ok (.invokestatic 94, 3) := by decide +kernel
theorem dX11_paper_201 : decode cX11_paper 201 = .ok (.iload_n 2, 1) := by decide +kernel
theorem dX11_paper_202 : decode cX11_paper 202 = .ok (.bipush 100, 2) := by decide +kernel
theorem dX11_paper_204 : decode cX11_paper 204 = .ok (.irem, 1) := by decide +kernel
theorem dX11_paper_205 : decode cX11_paper 205 = .ok (.i2l, 1) := by decide +kernel
theorem dX11_paper_206 : decode cX11_paper 206 = .ok (.lastore, 1) := by decide +kernel
theorem dX11_paper_207 : decode cX11_paper 207 = .ok (.aload_n 0, 1) := by decide +kernel
theorem dX11_paper_208 : decode cX11_paper 208 = .ok (.getfield 9, 3) := by decide +kernel
theorem dX11_paper_211 : decode cX11_paper 211 = .ok (.iload 7, 2) := by decide +kernel
theorem dX11_paper_213 : decode cX11_paper 213 = .ok (.iconst 3, 1) := by decide +kernel
theorem dX11_paper_214 : decode cX11_paper 214 = .ok (.invokestatic 94, 3) := by decide +kernel
theorem dX11_paper_217 : decode cX11_paper 217 = .ok (.lload_n 3, 1) := by decide +kernel
theorem dX11_paper_218 : decode cX11_paper 218 = .ok (.lastore, 1) := by decide +kernel
theorem dX11_paper_219 : decode cX11_paper 219 = .ok (.aload_n 0, 1) := by decide +kernel
theorem dX11_paper_220 : decode cX11_paper 220 = .ok (.getfield 9, 3) := by decide +kernel
theorem dX11_paper_223 : decode cX11_paper 223 = .ok (.iload 7, 2) := by decide +kernel
theorem dX11_paper_225 : decode cX11_paper 225 = .ok (.iconst 4, 1) := by decide +kernel
theorem dX11_paper_226 : decode cX11_paper 226 = .ok (.invokestatic 94, 3) := by decide +kernel
theorem dX11_paper_229 : decode cX11_paper 229 = .ok (.aload_n 0, 1) := by decide +kernel
theorem dX11_paper_230 : decode cX11_paper 230 = .ok (.getfield 9, 3) := by decide +kernel
theorem dX11_paper_233 : decode cX11_paper 233 = .ok (.iconst 0, 1) := by decide +kernel
theorem dX11_paper_234 : decode cX11_paper 234 = .ok (.laload, 1) := by decide +kernel
theorem dX11_paper_235 : decode cX11_paper 235 = .ok (.lastore, 1) := by decide +kernel
theorem dX11_paper_236 : decode cX11_paper 236 = .ok (.aload_n 0, 1) := by decide +kernel
theorem dX11_paper_237 : decode cX11_paper 237 = .ok (.getfield 9, 3) := by decide +kernel
theorem dX11_paper_240 : decode cX11_paper 240 = .ok (.iload 7, 2) := by decide +kernel
theorem dX11_paper_242 : decode cX11_paper 242 = .ok (.iconst 5, 1) := by decide +kernel
theorem dX11_paper_243 : decode cX11_paper 243 = .ok (.invokestatic 94, 3) := by decide +kernel
theorem dX11_paper_246 : decode cX11_paper 246 = .ok (.iload 5, 2) := by decide +kernel
theorem dX11_paper_248 : decode cX11_paper 248 = .ok (.i2l, 1) := by decide +kernel
theorem dX11_paper_249 : decode cX11_paper 249 = .ok (.lastore, 1) := by decide +kernel
theorem dX11_paper_250 : decode cX11_paper 250 = .ok (.aload_n 0, 1) := by decide +kernel
theorem dX11_paper_251 : decode cX11_paper 251 = .ok (.getfield 9, 3) := by decide +kernel
theorem dX11_paper_254 : decode cX11_paper 254 = .ok (.iload 7, 2) := by decide +kernel
theorem dX11_paper_256 : decode cX11_paper 256 = .ok (.bipush 6, 2) := by decide +kernel
theorem dX11_paper_258 : decode cX11_paper 258 = .ok (.invokestatic 94, 3) := by decide +kernel
theorem dX11_paper_261 : decode cX11_paper 261 = .ok (.lconst 0, 1) := by decide +kernel
theorem dX11_paper_262 : decode cX11_paper 262 = .ok (.lastore, 1) := by decide +kernel
theorem dX11_paper_263 : decode cX11_paper 263 = .ok (.aload_n 0, 1) := by decide +kernel
theorem dX11_paper_264 : decode cX11_paper 264 = .ok (.getfield 9, 3) := by decide +kernel
theorem dX11_paper_267 : decode cX11_paper 267 = .ok (.iconst 5, 1) := by decide +kernel
theorem dX11_paper_268 : decode cX11_paper 268 = .ok (.dup2, 1) := by decide +kernel
theorem dX11_paper_269 : decode cX11_paper 269 = .ok (.laload, 1) := by decide +kernel
theorem dX11_paper_270 : decode cX11_paper 270 = .ok (.lconst 1, 1) := by decide +kernel
theorem dX11_paper_271 : decode cX11_paper 271 = .ok (.ladd, 1) := by decide +kernel
theorem dX11_paper_272 : decode cX11_paper 272 = .ok (.lastore, 1) := by decide +kernel
theorem dX11_paper_273 : decode cX11_paper 273 = .ok (.iload 7, 2) := by decide +kernel
theorem dX11_paper_275 : decode cX11_paper 275 = .ok (.i2l, 1) := by decide +kernel
theorem dX11_paper_276 : decode cX11_paper 276 = .ok (.lreturn, 1) := by decide +kernel
theorem dX11_as_0 : decode cX11_as 0 = .ok (.aload_n 0, 1) := by decide +kernel
theorem dX11_as_1 : decode cX11_as 1 = .ok (.iload_n 1, 1) := by decide +kernel
theorem dX11_as_2 : decode cX11_as 2 = .ok (.invokevirtual 99, 3) := by decide +kernel
theorem dX11_as_5 : decode cX11_as 5 = .ok (.ifCond .eq 15, 3) := by decide +kernel
theorem dX11_as_8 : decode cX11_as 8 = .ok (.iload_n 2, 1) := by decide +kernel
theorem dX11_as_9 : decode cX11_as 9 = .ok (.i2l, 1) := by decide +kernel
theorem dX11_as_10 : decode cX11_as 10 = .ok (.lconst 0, 1) := by decide +kernel
theorem dX11_as_11 : decode cX11_as 11 = .ok (.ldc2_w 77, 3) := by decide +kernel
theorem dX11_as_14 : decode cX11_as 14 = .ok (.invokestatic 57, 3) := by decide +kernel
theorem dX11_as_17 : decode cX11_as 17 = .ok (.ifCond .ne 11, 3) := by decide +kernel
theorem dX11_as_20 : decode cX11_as 20 = .ok (.aload_n 0, 1) := by decide +kernel
theorem dX11_as_21 : decode cX11_as 21 = .ok (.ldc 67, 2) := by decide +kernel
theorem dX11_as_23 : decode cX11_as 23 = .ok (.invokevirtual 68, 3) := by decide +kernel
theorem dX11_as_26 : decode cX11_as 26 = .ok (.i2l, 1) := by decide +kernel
theorem dX11_as_27 : decode cX11_as 27 = .ok (.lreturn, 1) := by decide +kernel
theorem dX11_as_28 : decode cX11_as 28 = .ok (.aload_n 0, 1) := by decide +kernel
theorem dX11_as_29 : decode cX11_as 29 = .ok (.getfield 9, 3) := by decide +kernel
theorem dX11_as_32 : decode cX11_as 32 = .ok (.iload_n 1, 1) := by decide +kernel
theorem dX11_as_33 : decode cX11_as 33 = .ok (.iconst 0, 1) := by decide +kernel
theorem dX11_as_34 : decode cX11_as 34 = .ok (.invokestatic 94, 3) := by decide +kernel
theorem dX11_as_37 : decode cX11_as 37 = .ok (.laload, 1) := by decide +kernel
theorem dX11_as_38 : decode cX11_as 38 = .ok (.lstore_n 3, 1) := by decide +kernel
theorem dX11_as_39 : decode cX11_as 39 = .ok (.iload_n 2, 1) := by decide +kernel
theorem dX11_as_40 : decode cX11_as 40 = .ok (.ifCond .eq 28, 3) := by decide +kernel
theorem dX11_as_43 : decode cX11_as 43 = .ok (.lload_n 3, 1) := by decide +kernel
theorem dX11_as_44 : decode cX11_as 44 = .ok (.iload_n 2, 1) := by decide +kernel
theorem dX11_as_45 : decode cX11_as 45 = .ok (.i2l, 1) := by decide +kernel
theorem dX11_as_46 : decode cX11_as 46 = .ok (.lcmp, 1) := by decide +kernel
theorem dX11_as_47 : decode cX11_as 47 = .ok (.ifCond .eq 21, 3) := by decide +kernel
theorem dX11_as_50 : decode cX11_as 50 = .ok (.iload_n 2, 1) := by decide +kernel
theorem dX11_as_51 : decode cX11_as 51 = .ok (.iconst 1, 1) := by decide +kernel
theorem dX11_as_52 : decode cX11_as 52 = .ok (.if_icmp .ne 21, 3) := by decide +kernel
theorem dX11_as_55 : decode cX11_as 55 = .ok (.lload_n 3, 1) := by decide +kernel
theorem dX11_as_56 : decode cX11_as 56 = .ok (.ldc2_w 85, 3) := by decide +kernel
theorem dX11_as_59 : decode cX11_as 59 = .ok (.ldc2_w 103, 3) := by decide +kernel
theorem dX11_as_62 : decode cX11_as 62 = .ok (.invokestatic 57, 3) := by decide +kernel
theorem dX11_as_65 : decode cX11_as 65 = .ok (.ifCond .eq 8, 3) := by decide +kernel
theorem dX11_as_68 : decode cX11_as 68 = .ok (.iload_n 1, 1) := by decide +kernel
theorem dX11_as_69 : decode cX11_as 69 = .ok (.i2l, 1) := by decide +kernel
theorem dX11_as_70 : decode cX11_as 70 = .ok (.goto 10, 3) := by decide +kernel
theorem dX11_as_73 : decode cX11_as 73 = .ok (.aload_n 0, 1) := by decide +kernel
theorem dX11_as_74 : decode cX11_as 74 = .ok (.ldc 105, 2) := by decide +kernel
theorem dX11_as_76 : decode cX11_as 76 = .ok (.invokevirtual 68, 3) := by decide +kernel
theorem dX11_as_79 : decode cX11_as 79 = .ok (.i2l, 1) := by decide +kernel
theorem dX11_as_80 : decode cX11_as 80 = .ok (.lreturn, 1) := by decide +kernel
theorem dX11_paperIs_0 : decode cX11_paperIs 0 = .ok (.aload_n 0, 1) := by decide +kernel
theorem dX11_paperIs_1 : decode cX11_paperIs 1 = .ok (.iload_n 1, 1) := by decide +kernel
theorem dX11_paperIs_2 : decode cX11_paperIs 2 = .ok (.invokevirtual 99, 3) := by decide +kernel
theorem dX11_paperIs_5 : decode cX11_paperIs 5 = .ok (.ifCond .eq 15, 3) := by decide +kernel
theorem dX11_paperIs_8 : decode cX11_paperIs 8 = .ok (.iload_n 2, 1) := by decide +kernel
theorem dX11_paperIs_9 : decode cX11_paperIs 9 = .ok (.i2l, 1) := by decide +kernel
theorem dX11_paperIs_10 : decode cX11_paperIs 10 = .ok (.lconst 0, 1) := by decide +kernel
theorem dX11_paperIs_11 : decode cX11_paperIs 11 = .ok (.ldc2_w 106, 3) := by decide +kernel
theorem dX11_paperIs_14 : decode cX11_paperIs 14 = .ok (.invokestatic 57, 3) := by decide +kernel
theorem dX11_paperIs_17 : decode cX11_paperIs 17 = .ok (.ifCond .ne 13, 3) := by decide +kernel
theorem dX11_paperIs_20 : decode cX11_paperIs 20 = .ok (.aload_n 0, 1) := by decide +kernel
theorem dX11_paperIs_21 : decode cX11_paperIs 21 = .ok (.ldc 67, 2) := by decide +kernel
theorem dX11_paperIs_23 : decode cX11_paperIs 23 = .ok (.invokevirtual 68, 3) := by decide +kernel
theorem dX11_paperIs_26 : decode cX11_paperIs 26 = .ok (.i2l, 1) := by decide +kernel
theorem dX11_paperIs_27 : decode cX11_paperIs 27 = .ok (.goto 13, 3) := by decide +kernel
theorem dX11_paperIs_30 : decode cX11_paperIs 30 = .ok (.aload_n 0, 1) := by decide +kernel
theorem dX11_paperIs_31 : decode cX11_paperIs 31 = .ok (.getfield 9, 3) := by decide +kernel
theorem dX11_paperIs_34 : decode cX11_paperIs 34 = .ok (.iload_n 1, 1) := by decide +kernel
theorem dX11_paperIs_35 : decode cX11_paperIs 35 = .ok (.iload_n 2, 1) := by decide +kernel
theorem dX11_paperIs_36 : decode cX11_paperIs 36 = .ok (.invokestatic 94, 3) := by decide +kernel
theorem dX11_paperIs_39 : decode cX11_paperIs 39 = .ok (.laload, 1) := by decide +kernel
theorem dX11_paperIs_40 : decode cX11_paperIs 40 = .ok (.lreturn, 1) := by decide +kernel
theorem dX11_isOpen_0 : decode cX11_isOpen 0 = .ok (.aload_n 0, 1) := by decide +kernel
theorem dX11_isOpen_1 : decode cX11_isOpen 1 = .ok (.getfield 9, 3) := by decide +kernel
theorem dX11_isOpen_4 : decode cX11_isOpen 4 = .ok (.iload_n 1, 1) := by decide +kernel
theorem dX11_isOpen_5 : decode cX11_isOpen 5 = .ok (.bipush 6, 2) := by decide +kernel
theorem dX11_isOpen_7 : decode cX11_isOpen 7 = .ok (.invokestatic 94, 3) := by decide +kernel
theorem dX11_isOpen_10 : decode cX11_isOpen 10 = .ok (.laload, 1) := by decide +kernel
theorem dX11_isOpen_11 : decode cX11_isOpen 11 = .ok (.lconst 0, 1) := by decide +kernel
theorem dX11_isOpen_12 : decode cX11_isOpen 12 = .ok (.lcmp, 1) := by decide +kernel
theorem dX11_isOpen_13 : decode cX11_isOpen 13 = .ok (.ifCond .ne 7, 3) := by decide +kernel
theorem dX11_isOpen_16 : decode cX11_isOpen 16 = .ok (.iconst 1, 1) := by decide +kernel
theorem dX11_isOpen_17 : decode cX11_isOpen 17 = .ok (.goto 4, 3) := by decide +kernel
theorem dX11_isOpen_20 : decode cX11_isOpen 20 = .ok (.iconst 0, 1) := by decide +kernel
theorem dX11_isOpen_21 : decode cX11_isOpen 21 = .ok (.ireturn, 1) := by decide +kernel
theorem dX11_lawOn_0 : decode cX11_lawOn 0 = .ok (.iconst (-1), 1) := by decide +kernel
theorem dX11_lawOn_1 : decode cX11_lawOn 1 = .ok (.istore_n 3, 1) := by decide +kernel
theorem dX11_lawOn_2 : decode cX11_lawOn 2 = .ok (.iconst 0, 1) := by decide +kernel
theorem dX11_lawOn_3 : decode cX11_lawOn 3 = .ok (.istore 4, 2) := by decide +kernel
theorem dX11_lawOn_5 : decode cX11_lawOn 5 = .ok (.iload 4, 2) := by decide +kernel
theorem dX11_lawOn_7 : decode cX11_lawOn 7 = .ok (.i2l, 1) := by decide +kernel
theorem dX11_lawOn_8 : decode cX11_lawOn 8 = .ok (.aload_n 0, 1) := by decide +kernel
theorem dX11_lawOn_9 : decode cX11_lawOn 9 = .ok (.getfield 9, 3) := by decide +kernel
theorem dX11_lawOn_12 : decode cX11_lawOn 12 = .ok (.bipush 6, 2) := by decide +kernel
theorem dX11_lawOn_14 : decode cX11_lawOn 14 = .ok (.laload, 1) := by decide +kernel
theorem dX11_lawOn_15 : decode cX11_lawOn 15 = .ok (.lcmp, 1) := by decide +kernel
theorem dX11_lawOn_16 : decode cX11_lawOn 16 = .ok (.ifCond .ge 56, 3) := by decide +kernel
theorem dX11_lawOn_19 : decode cX11_lawOn 19 = .ok (.aload_n 0, 1) := by decide +kernel
theorem dX11_lawOn_20 : decode cX11_lawOn 20 = .ok (.getfield 9, 3) := by decide +kernel
theorem dX11_lawOn_23 : decode cX11_lawOn 23 = .ok (.sipush 278, 3) := by decide +kernel
theorem dX11_lawOn_26 : decode cX11_lawOn 26 = .ok (.iconst 2, 1) := by decide +kernel
theorem dX11_lawOn_27 : decode cX11_lawOn 27 = .ok (.iload 4, 2) := by decide +kernel
theorem dX11_lawOn_29 : decode cX11_lawOn 29 = .ok (.imul, 1) := by decide +kernel
theorem dX11_lawOn_30 : decode cX11_lawOn 30 = .ok (.iadd, 1) := by decide +kernel
theorem dX11_lawOn_31 : decode cX11_lawOn 31 = .ok (.laload, 1) := by decide +kernel
theorem dX11_lawOn_32 : decode cX11_lawOn 32 = .ok (.iload_n 1, 1) := by decide +kernel
theorem dX11_lawOn_33 : decode cX11_lawOn 33 = .ok (.i2l, 1) := by decide +kernel
theorem dX11_lawOn_34 : decode cX11_lawOn 34 = .ok (.lcmp, 1) := by decide +kernel
theorem dX11_lawOn_35 : decode cX11_lawOn 35 = .ok (.ifCond .ne 29, 3) := by decide +kernel
theorem dX11_lawOn_38 : decode cX11_lawOn 38 = .ok (.aload_n 0, 1) := by decide +kernel
theorem dX11_lawOn_39 : decode cX11_lawOn 39 = .ok (.getfield 9, 3) := by decide +kernel
