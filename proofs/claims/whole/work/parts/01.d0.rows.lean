theorem dX0_init_0 : decode cX0_init 0 = .ok (.aload_n 0, 1) := by decide +kernel
theorem dX0_init_1 : decode cX0_init 1 = .ok (.invokespecial 3, 3) := by decide +kernel
theorem dX0_init_4 : decode cX0_init 4 = .ok (.aload_n 0, 1) := by decide +kernel
theorem dX0_init_5 : decode cX0_init 5 = .ok (.bipush 9, 2) := by decide +kernel
theorem dX0_init_7 : decode cX0_init 7 = .ok (.anewarray 9, 3) := by decide +kernel
theorem dX0_init_10 : decode cX0_init 10 = .ok (.putfield 11, 3) := by decide +kernel
theorem dX0_init_13 : decode cX0_init 13 = .ok (.iconst 0, 1) := by decide +kernel
theorem dX0_init_14 : decode cX0_init 14 = .ok (.istore 5, 2) := by decide +kernel
theorem dX0_init_16 : decode cX0_init 16 = .ok (.iload 5, 2) := by decide +kernel
theorem dX0_init_18 : decode cX0_init 18 = .ok (.aload_n 0, 1) := by decide +kernel
theorem dX0_init_19 : decode cX0_init 19 = .ok (.getfield 11, 3) := by decide +kernel
theorem dX0_init_22 : decode cX0_init 22 = .ok (.arraylength, 1) := by decide +kernel
theorem dX0_init_23 : decode cX0_init 23 = .ok (.if_icmp .ge 28, 3) := by decide +kernel
theorem dX0_init_26 : decode cX0_init 26 = .ok (.aload_n 0, 1) := by decide +kernel
theorem dX0_init_27 : decode cX0_init 27 = .ok (.getfield 11, 3) := by decide +kernel
theorem dX0_init_30 : decode cX0_init 30 = .ok (.iload 5, 2) := by decide +kernel
theorem dX0_init_32 : decode cX0_init 32 = .ok (.new 9, 3) := by decide +kernel
theorem dX0_init_35 : decode cX0_init 35 = .ok (.dup, 1) := by decide +kernel
theorem dX0_init_36 : decode cX0_init 36 = .ok (.aload_n 1, 1) := by decide +kernel
theorem dX0_init_37 : decode cX0_init 37 = .ok (.aload_n 2, 1) := by decide +kernel
theorem dX0_init_38 : decode cX0_init 38 = .ok (.aload_n 3, 1) := by decide +kernel
theorem dX0_init_39 : decode cX0_init 39 = .ok (.aload 4, 2) := by decide +kernel
theorem dX0_init_41 : decode cX0_init 41 = .ok (.invokespecial 17, 3) := by decide +kernel
theorem dX0_init_44 : decode cX0_init 44 = .ok (.aastore, 1) := by decide +kernel
theorem dX0_init_45 : decode cX0_init 45 = .ok (.iinc 5 1, 3) := by decide +kernel
theorem dX0_init_48 : decode cX0_init 48 = .ok (.goto (-32), 3) := by decide +kernel
theorem dX0_init_51 : decode cX0_init 51 = .ok (.return_, 1) := by decide +kernel
theorem dX0_printedIn_0 : decode cX0_printedIn 0 = .ok (.aload_n 0, 1) := by decide +kernel
theorem dX0_printedIn_1 : decode cX0_printedIn 1 = .ok (.getfield 11, 3) := by decide +kernel
theorem dX0_printedIn_4 : decode cX0_printedIn 4 = .ok (.iconst 0, 1) := by decide +kernel
theorem dX0_printedIn_5 : decode cX0_printedIn 5 = .ok (.aaload, 1) := by decide +kernel
theorem dX0_printedIn_6 : decode cX0_printedIn 6 = .ok (.astore_n 3, 1) := by decide +kernel
theorem dX0_printedIn_7 : decode cX0_printedIn 7 = .ok (.aload_n 3, 1) := by decide +kernel
theorem dX0_printedIn_8 : decode cX0_printedIn 8 = .ok (.aload_n 1, 1) := by decide +kernel
theorem dX0_printedIn_9 : decode cX0_printedIn 9 = .ok (.invokevirtual 20, 3) := by decide +kernel
theorem dX0_printedIn_12 : decode cX0_printedIn 12 = .ok (.iconst 0, 1) := by decide +kernel
theorem dX0_printedIn_13 : decode cX0_printedIn 13 = .ok (.istore 4, 2) := by decide +kernel
theorem dX0_printedIn_15 : decode cX0_printedIn 15 = .ok (.iload 4, 2) := by decide +kernel
theorem dX0_printedIn_17 : decode cX0_printedIn 17 = .ok (.iload_n 2, 1) := by decide +kernel
theorem dX0_printedIn_18 : decode cX0_printedIn 18 = .ok (.if_icmp .ge 13, 3) := by decide +kernel
theorem dX0_printedIn_21 : decode cX0_printedIn 21 = .ok (.aload_n 3, 1) := by decide +kernel
theorem dX0_printedIn_22 : decode cX0_printedIn 22 = .ok (.invokevirtual 24, 3) := by decide +kernel
theorem dX0_printedIn_25 : decode cX0_printedIn 25 = .ok (.iinc 4 1, 3) := by decide +kernel
theorem dX0_printedIn_28 : decode cX0_printedIn 28 = .ok (.goto (-13), 3) := by decide +kernel
theorem dX0_printedIn_31 : decode cX0_printedIn 31 = .ok (.aload_n 3, 1) := by decide +kernel
theorem dX0_printedIn_32 : decode cX0_printedIn 32 = .ok (.getfield 27, 3) := by decide +kernel
theorem dX0_printedIn_35 : decode cX0_printedIn 35 = .ok (.aload_n 1, 1) := by decide +kernel
theorem dX0_printedIn_36 : decode cX0_printedIn 36 = .ok (.getfield 27, 3) := by decide +kernel
theorem dX0_printedIn_39 : decode cX0_printedIn 39 = .ok (.lsub, 1) := by decide +kernel
theorem dX0_printedIn_40 : decode cX0_printedIn 40 = .ok (.lreturn, 1) := by decide +kernel
theorem dX0_daysToMelting_0 : decode cX0_daysToMelting 0 = .ok (.aload_n 0, 1) := by decide +kernel
theorem dX0_daysToMelting_1 : decode cX0_daysToMelting 1 = .ok (.getfield 11, 3) := by decide +kernel
theorem dX0_daysToMelting_4 : decode cX0_daysToMelting 4 = .ok (.iconst 0, 1) := by decide +kernel
theorem dX0_daysToMelting_5 : decode cX0_daysToMelting 5 = .ok (.aaload, 1) := by decide +kernel
theorem dX0_daysToMelting_6 : decode cX0_daysToMelting 6 = .ok (.astore_n 3, 1) := by decide +kernel
theorem dX0_daysToMelting_7 : decode cX0_daysToMelting 7 = .ok (.aload_n 3, 1) := by decide +kernel
theorem dX0_daysToMelting_8 : decode cX0_daysToMelting 8 = .ok (.aload_n 1, 1) := by decide +kernel
theorem dX0_daysToMelting_9 : decode cX0_daysToMelting 9 = .ok (.invokevirtual 20, 3) := by decide +kernel
theorem dX0_daysToMelting_12 : decode cX0_daysToMelting 12 = .ok (.iconst 1, 1) := by decide +kernel
theorem dX0_daysToMelting_13 : decode cX0_daysToMelting 13 = .ok (.istore 4, 2) := by decide +kernel
theorem dX0_daysToMelting_15 : decode cX0_daysToMelting 15 = .ok (.iload 4, 2) := by decide +kernel
theorem dX0_daysToMelting_17 : decode cX0_daysToMelting 17 = .ok (.iload_n 2, 1) := by decide +kernel
theorem dX0_daysToMelting_18 : decode cX0_daysToMelting 18 = .ok (.if_icmp .gt 42, 3) := by decide +kernel
theorem dX0_daysToMelting_21 : decode cX0_daysToMelting 21 = .ok (.aload_n 3, 1) := by decide +kernel
theorem dX0_daysToMelting_22 : decode cX0_daysToMelting 22 = .ok (.invokevirtual 24, 3) := by decide +kernel
theorem dX0_daysToMelting_25 : decode cX0_daysToMelting 25 = .ok (.aload_n 3, 1) := by decide +kernel
theorem dX0_daysToMelting_26 : decode cX0_daysToMelting 26 = .ok (.aload_n 3, 1) := by decide +kernel
theorem dX0_daysToMelting_27 : decode cX0_daysToMelting 27 = .ok (.getfield 31, 3) := by decide +kernel
theorem dX0_daysToMelting_30 : decode cX0_daysToMelting 30 = .ok (.invokevirtual 35, 3) := by decide +kernel
theorem dX0_daysToMelting_33 : decode cX0_daysToMelting 33 = .ok (.ldc2_w 39, 3) := by decide +kernel
theorem dX0_daysToMelting_36 : decode cX0_daysToMelting 36 = .ok (.aload_n 3, 1) := by decide +kernel
theorem dX0_daysToMelting_37 : decode cX0_daysToMelting 37 = .ok (.aload_n 3, 1) := by decide +kernel
theorem dX0_daysToMelting_38 : decode cX0_daysToMelting 38 = .ok (.getfield 31, 3) := by decide +kernel
theorem dX0_daysToMelting_41 : decode cX0_daysToMelting 41 = .ok (.iconst 1, 1) := by decide +kernel
theorem dX0_daysToMelting_42 : decode cX0_daysToMelting 42 = .ok (.isub, 1) := by decide +kernel
theorem dX0_daysToMelting_43 : decode cX0_daysToMelting 43 = .ok (.invokevirtual 35, 3) := by decide +kernel
theorem dX0_daysToMelting_46 : decode cX0_daysToMelting 46 = .ok (.lmul, 1) := by decide +kernel
theorem dX0_daysToMelting_47 : decode cX0_daysToMelting 47 = .ok (.lcmp, 1) := by decide +kernel
theorem dX0_daysToMelting_48 : decode cX0_daysToMelting 48 = .ok (.ifCond .lt 6, 3) := by decide +kernel
theorem dX0_daysToMelting_51 : decode cX0_daysToMelting 51 = .ok (.iload 4, 2) := by decide +kernel
theorem dX0_daysToMelting_53 : decode cX0_daysToMelting 53 = .ok (.ireturn, 1) := by decide +kernel
theorem dX0_daysToMelting_54 : decode cX0_daysToMelting 54 = .ok (.iinc 4 1, 3) := by decide +kernel
theorem dX0_daysToMelting_57 : decode cX0_daysToMelting 57 = .ok (.goto (-42), 3) := by decide +kernel
theorem dX0_daysToMelting_60 : decode cX0_daysToMelting 60 = .ok (.iconst (-1), 1) := by decide +kernel
theorem dX0_daysToMelting_61 : decode cX0_daysToMelting 61 = .ok (.ireturn, 1) := by decide +kernel
theorem dX0_priceWith_0 : decode cX0_priceWith 0 = .ok (.aload_n 0, 1) := by decide +kernel
theorem dX0_priceWith_1 : decode cX0_priceWith 1 = .ok (.getfield 11, 3) := by decide +kernel
theorem dX0_priceWith_4 : decode cX0_priceWith 4 = .ok (.iconst 0, 1) := by decide +kernel
theorem dX0_priceWith_5 : decode cX0_priceWith 5 = .ok (.aaload, 1) := by decide +kernel
theorem dX0_priceWith_6 : decode cX0_priceWith 6 = .ok (.astore 6, 2) := by decide +kernel
theorem dX0_priceWith_8 : decode cX0_priceWith 8 = .ok (.aload 6, 2) := by decide +kernel
theorem dX0_priceWith_10 : decode cX0_priceWith 10 = .ok (.aload_n 1, 1) := by decide +kernel
theorem dX0_priceWith_11 : decode cX0_priceWith 11 = .ok (.invokevirtual 20, 3) := by decide +kernel
theorem dX0_priceWith_14 : decode cX0_priceWith 14 = .ok (.aload 6, 2) := by decide +kernel
theorem dX0_priceWith_16 : decode cX0_priceWith 16 = .ok (.aload 6, 2) := by decide +kernel
theorem dX0_priceWith_18 : decode cX0_priceWith 18 = .ok (.getfield 41, 3) := by decide +kernel
theorem dX0_priceWith_21 : decode cX0_priceWith 21 = .ok (.iload_n 2, 1) := by decide +kernel
theorem dX0_priceWith_22 : decode cX0_priceWith 22 = .ok (.aaload, 1) := by decide +kernel
theorem dX0_priceWith_23 : decode cX0_priceWith 23 = .ok (.lload_n 3, 1) := by decide +kernel
theorem dX0_priceWith_24 : decode cX0_priceWith 24 = .ok (.invokevirtual 45, 3) := by decide +kernel
theorem dX0_priceWith_27 : decode cX0_priceWith 27 = .ok (.iconst 0, 1) := by decide +kernel
theorem dX0_priceWith_28 : decode cX0_priceWith 28 = .ok (.istore 7, 2) := by decide +kernel
theorem dX0_priceWith_30 : decode cX0_priceWith 30 = .ok (.iload 7, 2) := by decide +kernel
theorem dX0_priceWith_32 : decode cX0_priceWith 32 = .ok (.iload 5, 2) := by decide +kernel
theorem dX0_priceWith_34 : decode cX0_priceWith 34 = .ok (.if_icmp .ge 14, 3) := by decide +kernel
theorem dX0_priceWith_37 : decode cX0_priceWith 37 = .ok (.aload 6, 2) := by decide +kernel
theorem dX0_priceWith_39 : decode cX0_priceWith 39 = .ok (.invokevirtual 24, 3) := by decide +kernel
theorem dX0_priceWith_42 : decode cX0_priceWith 42 = .ok (.iinc 7 1, 3) := by decide +kernel
theorem dX0_priceWith_45 : decode cX0_priceWith 45 = .ok (.goto (-15), 3) := by decide +kernel
theorem dX0_priceWith_48 : decode cX0_priceWith 48 = .ok (.aload 6, 2) := by decide +kernel
theorem dX0_priceWith_50 : decode cX0_priceWith 50 = .ok (.aload 6, 2) := by decide +kernel
theorem dX0_priceWith_52 : decode cX0_priceWith 52 = .ok (.getfield 31, 3) := by decide +kernel
theorem dX0_priceWith_55 : decode cX0_priceWith 55 = .ok (.invokevirtual 35, 3) := by decide +kernel
theorem dX0_priceWith_58 : decode cX0_priceWith 58 = .ok (.lreturn, 1) := by decide +kernel
theorem dX0_hungerBy_0 : decode cX0_hungerBy 0 = .ok (.aload_n 0, 1) := by decide +kernel
theorem dX0_hungerBy_1 : decode cX0_hungerBy 1 = .ok (.getfield 11, 3) := by decide +kernel
theorem dX0_hungerBy_4 : decode cX0_hungerBy 4 = .ok (.iconst 0, 1) := by decide +kernel
theorem dX0_hungerBy_5 : decode cX0_hungerBy 5 = .ok (.aaload, 1) := by decide +kernel
theorem dX0_hungerBy_6 : decode cX0_hungerBy 6 = .ok (.astore_n 3, 1) := by decide +kernel
theorem dX0_hungerBy_7 : decode cX0_hungerBy 7 = .ok (.aload_n 3, 1) := by decide +kernel
theorem dX0_hungerBy_8 : decode cX0_hungerBy 8 = .ok (.aload_n 1, 1) := by decide +kernel
theorem dX0_hungerBy_9 : decode cX0_hungerBy 9 = .ok (.invokevirtual 20, 3) := by decide +kernel
theorem dX0_hungerBy_12 : decode cX0_hungerBy 12 = .ok (.iconst 0, 1) := by decide +kernel
theorem dX0_hungerBy_13 : decode cX0_hungerBy 13 = .ok (.istore 4, 2) := by decide +kernel
theorem dX0_hungerBy_15 : decode cX0_hungerBy 15 = .ok (.iload 4, 2) := by decide +kernel
theorem dX0_hungerBy_17 : decode cX0_hungerBy 17 = .ok (.aload_n 2, 1) := by decide +kernel
theorem dX0_hungerBy_18 : decode cX0_hungerBy 18 = .ok (.getfield 49, 3) := by decide +kernel
theorem dX0_hungerBy_21 : decode cX0_hungerBy 21 = .ok (.if_icmp .ge 29, 3) := by decide +kernel
theorem dX0_hungerBy_24 : decode cX0_hungerBy 24 = .ok (.aload_n 2, 1) := by decide +kernel
theorem dX0_hungerBy_25 : decode cX0_hungerBy 25 = .ok (.getfield 54, 3) := by decide +kernel
theorem dX0_hungerBy_28 : decode cX0_hungerBy 28 = .ok (.iload 4, 2) := by decide +kernel
theorem dX0_hungerBy_30 : decode cX0_hungerBy 30 = .ok (.iaload, 1) := by decide +kernel
theorem dX0_hungerBy_31 : decode cX0_hungerBy 31 = .ok (.iconst 1, 1) := by decide +kernel
theorem dX0_hungerBy_32 : decode cX0_hungerBy 32 = .ok (.if_icmp .ne 8, 3) := by decide +kernel
theorem dX0_hungerBy_35 : decode cX0_hungerBy 35 = .ok (.aload_n 3, 1) := by decide +kernel
theorem dX0_hungerBy_36 : decode cX0_hungerBy 36 = .ok (.invokevirtual 58, 3) := by decide +kernel
theorem dX0_hungerBy_39 : decode cX0_hungerBy 39 = .ok (.pop2, 1) := by decide +kernel
theorem dX0_hungerBy_40 : decode cX0_hungerBy 40 = .ok (.aload_n 3, 1) := by decide +kernel
theorem dX0_hungerBy_41 : decode cX0_hungerBy 41 = .ok (.invokevirtual 24, 3) := by decide +kernel
theorem dX0_hungerBy_44 : decode cX0_hungerBy 44 = .ok (.iinc 4 1, 3) := by decide +kernel
theorem dX0_hungerBy_47 : decode cX0_hungerBy 47 = .ok (.goto (-32), 3) := by decide +kernel
theorem dX0_hungerBy_50 : decode cX0_hungerBy 50 = .ok (.aload_n 3, 1) := by decide +kernel
theorem dX0_hungerBy_51 : decode cX0_hungerBy 51 = .ok (.invokevirtual 62, 3) := by decide +kernel
theorem dX0_hungerBy_54 : decode cX0_hungerBy 54 = .ok (.aload_n 1, 1) := by decide +kernel
theorem dX0_hungerBy_55 : decode cX0_hungerBy 55 = .ok (.invokevirtual 62, 3) := by decide +kernel
theorem dX0_hungerBy_58 : decode cX0_hungerBy 58 = .ok (.lsub, 1) := by decide +kernel
theorem dX0_hungerBy_59 : decode cX0_hungerBy 59 = .ok (.lreturn, 1) := by decide +kernel
theorem dX0_beginSearch_0 : decode cX0_beginSearch 0 = .ok (.aload_n 0, 1) := by decide +kernel
theorem dX0_beginSearch_1 : decode cX0_beginSearch 1 = .ok (.getfield 11, 3) := by decide +kernel
theorem dX0_beginSearch_4 : decode cX0_beginSearch 4 = .ok (.iconst 0, 1) := by decide +kernel
theorem dX0_beginSearch_5 : decode cX0_beginSearch 5 = .ok (.aaload, 1) := by decide +kernel
theorem dX0_beginSearch_6 : decode cX0_beginSearch 6 = .ok (.aload_n 1, 1) := by decide +kernel
theorem dX0_beginSearch_7 : decode cX0_beginSearch 7 = .ok (.invokevirtual 20, 3) := by decide +kernel
theorem dX0_beginSearch_10 : decode cX0_beginSearch 10 = .ok (.aload_n 0, 1) := by decide +kernel
theorem dX0_beginSearch_11 : decode cX0_beginSearch 11 = .ok (.aload_n 1, 1) := by decide +kernel
theorem dX0_beginSearch_12 : decode cX0_beginSearch 12 = .ok (.invokevirtual 62, 3) := by decide +kernel
theorem dX0_beginSearch_15 : decode cX0_beginSearch 15 = .ok (.putfield 65, 3) := by decide +kernel
theorem dX0_beginSearch_18 : decode cX0_beginSearch 18 = .ok (.aload_n 0, 1) := by decide +kernel
theorem dX0_beginSearch_19 : decode cX0_beginSearch 19 = .ok (.iconst (-1), 1) := by decide +kernel
theorem dX0_beginSearch_20 : decode cX0_beginSearch 20 = .ok (.putfield 68, 3) := by decide +kernel
theorem dX0_beginSearch_23 : decode cX0_beginSearch 23 = .ok (.return_, 1) := by decide +kernel
theorem dX0_search_0 : decode cX0_search 0 = .ok (.iload_n 1, 1) := by decide +kernel
theorem dX0_search_1 : decode cX0_search 1 = .ok (.iload_n 2, 1) := by decide +kernel
theorem dX0_search_2 : decode cX0_search 2 = .ok (.if_icmp .ge 9, 3) := by decide +kernel
theorem dX0_search_5 : decode cX0_search 5 = .ok (.iload_n 1, 1) := by decide +kernel
theorem dX0_search_6 : decode cX0_search 6 = .ok (.bipush 8, 2) := by decide +kernel
theorem dX0_search_8 : decode cX0_search 8 = .ok (.if_icmp .lt 15, 3) := by decide +kernel
theorem dX0_search_11 : decode cX0_search 11 = .ok (.aload_n 0, 1) := by decide +kernel
theorem dX0_search_12 : decode cX0_search 12 = .ok (.aload_n 0, 1) := by decide +kernel
theorem dX0_search_13 : decode cX0_search 13 = .ok (.getfield 11, 3) := by decide +kernel
theorem dX0_search_16 : decode cX0_search 16 = .ok (.iload_n 1, 1) := by decide +kernel
theorem dX0_search_17 : decode cX0_search 17 = .ok (.aaload, 1) := by decide +kernel
theorem dX0_search_18 : decode cX0_search 18 = .ok (.iload_n 3, 1) := by decide +kernel
theorem dX0_search_19 : decode cX0_search 19 = .ok (.invokevirtual 71, 3) := by decide +kernel
theorem dX0_search_22 : decode cX0_search 22 = .ok (.return_, 1) := by decide +kernel
theorem dX0_search_23 : decode cX0_search 23 = .ok (.aload_n 0, 1) := by decide +kernel
theorem dX0_search_24 : decode cX0_search 24 = .ok (.getfield 11, 3) := by decide +kernel
theorem dX0_search_27 : decode cX0_search 27 = .ok (.iload_n 1, 1) := by decide +kernel
theorem dX0_search_28 : decode cX0_search 28 = .ok (.iconst 1, 1) := by decide +kernel
theorem dX0_search_29 : decode cX0_search 29 = .ok (.iadd, 1) := by decide +kernel
theorem dX0_search_30 : decode cX0_search 30 = .ok (.aaload, 1) := by decide +kernel
theorem dX0_search_31 : decode cX0_search 31 = .ok (.astore 4, 2) := by decide +kernel
theorem dX0_search_33 : decode cX0_search 33 = .ok (.aload 4, 2) := by decide +kernel
theorem dX0_search_35 : decode cX0_search 35 = .ok (.aload_n 0, 1) := by decide +kernel
theorem dX0_search_36 : decode cX0_search 36 = .ok (.getfield 11, 3) := by decide +kernel
theorem dX0_search_39 : decode cX0_search 39 = .ok (.iload_n 1, 1) := by decide +kernel
theorem dX0_search_40 : decode cX0_search 40 = .ok (.aaload, 1) := by decide +kernel
theorem dX0_search_41 : decode cX0_search 41 = .ok (.invokevirtual 20, 3) := by decide +kernel
theorem dX0_search_44 : decode cX0_search 44 = .ok (.aload 4, 2) := by decide +kernel
theorem dX0_search_46 : decode cX0_search 46 = .ok (.invokevirtual 24, 3) := by decide +kernel
theorem dX0_search_49 : decode cX0_search 49 = .ok (.aload_n 0, 1) := by decide +kernel
theorem dX0_search_50 : decode cX0_search 50 = .ok (.iload_n 1, 1) := by decide +kernel
theorem dX0_search_51 : decode cX0_search 51 = .ok (.iconst 1, 1) := by decide +kernel
theorem dX0_search_52 : decode cX0_search 52 = .ok (.iadd, 1) := by decide +kernel
theorem dX0_search_53 : decode cX0_search 53 = .ok (.iload_n 2, 1) := by decide +kernel
theorem dX0_search_54 : decode cX0_search 54 = .ok (.iload_n 3, 1) := by decide +kernel
theorem dX0_search_55 : decode cX0_search 55 = .ok (.invokevirtual 75, 3) := by decide +kernel
theorem dX0_search_58 : decode cX0_search 58 = .ok (.aload 4, 2) := by decide +kernel
theorem dX0_search_60 : decode cX0_search 60 = .ok (.aload_n 0, 1) := by decide +kernel
theorem dX0_search_61 : decode cX0_search 61 = .ok (.getfield 11, 3) := by decide +kernel
theorem dX0_search_64 : decode cX0_search 64 = .ok (.iload_n 1, 1) := by decide +kernel
theorem dX0_search_65 : decode cX0_search 65 = .ok (.aaload, 1) := by decide +kernel
theorem dX0_search_66 : decode cX0_search 66 = .ok (.invokevirtual 20, 3) := by decide +kernel
theorem dX0_search_69 : decode cX0_search 69 = .ok (.aload 4, 2) := by decide +kernel
theorem dX0_search_71 : decode cX0_search 71 = .ok (.invokevirtual 58, 3) := by decide +kernel
theorem dX0_search_74 : decode cX0_search 74 = .ok (.pop2, 1) := by decide +kernel
theorem dX0_search_75 : decode cX0_search 75 = .ok (.aload 4, 2) := by decide +kernel
theorem dX0_search_77 : decode cX0_search 77 = .ok (.invokevirtual 24, 3) := by decide +kernel
theorem dX0_search_80 : decode cX0_search 80 = .ok (.aload_n 0, 1) := by decide +kernel
theorem dX0_search_81 : decode cX0_search 81 = .ok (.iload_n 1, 1) := by decide +kernel
theorem dX0_search_82 : decode cX0_search 82 = .ok (.iconst 1, 1) := by decide +kernel
theorem dX0_search_83 : decode cX0_search 83 = .ok (.iadd, 1) := by decide +kernel
theorem dX0_search_84 : decode cX0_search 84 = .ok (.iload_n 2, 1) := by decide +kernel
theorem dX0_search_85 : decode cX0_search 85 = .ok (.iload_n 3, 1) := by decide +kernel
theorem dX0_search_86 : decode cX0_search 86 = .ok (.iconst 1, 1) := by decide +kernel
theorem dX0_search_87 : decode cX0_search 87 = .ok (.iload_n 1, 1) := by decide +kernel
theorem dX0_search_88 : decode cX0_search 88 = .ok (.ishl, 1) := by decide +kernel
theorem dX0_search_89 : decode cX0_search 89 = .ok (.ior, 1) := by decide +kernel
theorem dX0_search_90 : decode cX0_search 90 = .ok (.invokevirtual 75, 3) := by decide +kernel
theorem dX0_search_93 : decode cX0_search 93 = .ok (.return_, 1) := by decide +kernel
theorem dX0_weigh_0 : decode cX0_weigh 0 = .ok (.aload_n 1, 1) := by decide +kernel
theorem dX0_weigh_1 : decode cX0_weigh 1 = .ok (.invokevirtual 62, 3) := by decide +kernel
theorem dX0_weigh_4 : decode cX0_weigh 4 = .ok (.aload_n 0, 1) := by decide +kernel
theorem dX0_weigh_5 : decode cX0_weigh 5 = .ok (.getfield 65, 3) := by decide +kernel
theorem dX0_weigh_8 : decode cX0_weigh 8 = .ok (.lsub, 1) := by decide +kernel
theorem dX0_weigh_9 : decode cX0_weigh 9 = .ok (.lstore_n 3, 1) := by decide +kernel
theorem dX0_weigh_10 : decode cX0_weigh 10 = .ok (.aload_n 1, 1) := by decide +kernel
theorem dX0_weigh_11 : decode cX0_weigh 11 = .ok (.aload_n 1, 1) := by decide +kernel
theorem dX0_weigh_12 : decode cX0_weigh 12 = .ok (.getfield 31, 3) := by decide +kernel
theorem dX0_weigh_15 : decode cX0_weigh 15 = .ok (.invokevirtual 35, 3) := by decide +kernel
theorem dX0_weigh_18 : decode cX0_weigh 18 = .ok (.lstore 5, 2) := by decide +kernel
theorem dX0_weigh_20 : decode cX0_weigh 20 = .ok (.iload_n 2, 1) := by decide +kernel
theorem dX0_weigh_21 : decode cX0_weigh 21 = .ok (.invokestatic 79, 3) := by decide +kernel
theorem dX0_weigh_24 : decode cX0_weigh 24 = .ok (.istore 7, 2) := by decide +kernel
theorem dX0_weigh_26 : decode cX0_weigh 26 = .ok (.aload_n 0, 1) := by decide +kernel
theorem dX0_weigh_27 : decode cX0_weigh 27 = .ok (.getfield 68, 3) := by decide +kernel
theorem dX0_weigh_30 : decode cX0_weigh 30 = .ok (.ifCond .lt 16, 3) := by decide +kernel
theorem dX0_weigh_33 : decode cX0_weigh 33 = .ok (.aload_n 0, 1) := by decide +kernel
theorem dX0_weigh_34 : decode cX0_weigh 34 = .ok (.lload_n 3, 1) := by decide +kernel
theorem dX0_weigh_35 : decode cX0_weigh 35 = .ok (.lload 5, 2) := by decide +kernel
theorem dX0_weigh_37 : decode cX0_weigh 37 = .ok (.iload 7, 2) := by decide +kernel
theorem dX0_weigh_39 : decode cX0_weigh 39 = .ok (.iload_n 2, 1) := by decide +kernel
theorem dX0_weigh_40 : decode cX0_weigh 40 = .ok (.invokevirtual 85, 3) := by decide +kernel
theorem dX0_weigh_43 : decode cX0_weigh 43 = .ok (.ifCond .eq 25, 3) := by decide +kernel
theorem dX0_weigh_46 : decode cX0_weigh 46 = .ok (.aload_n 0, 1) := by decide +kernel
theorem dX0_weigh_47 : decode cX0_weigh 47 = .ok (.lload_n 3, 1) := by decide +kernel
theorem dX0_weigh_48 : decode cX0_weigh 48 = .ok (.putfield 89, 3) := by decide +kernel
theorem dX0_weigh_51 : decode cX0_weigh 51 = .ok (.aload_n 0, 1) := by decide +kernel
theorem dX0_weigh_52 : decode cX0_weigh 52 = .ok (.lload 5, 2) := by decide +kernel
theorem dX0_weigh_54 : decode cX0_weigh 54 = .ok (.putfield 92, 3) := by decide +kernel
theorem dX0_weigh_57 : decode cX0_weigh 57 = .ok (.aload_n 0, 1) := by decide +kernel
theorem dX0_weigh_58 : decode cX0_weigh 58 = .ok (.iload 7, 2) := by decide +kernel
theorem dX0_weigh_60 : decode cX0_weigh 60 = .ok (.putfield 95, 3) := by decide +kernel
theorem dX0_weigh_63 : decode cX0_weigh 63 = .ok (.aload_n 0, 1) := by decide +kernel
theorem dX0_weigh_64 : decode cX0_weigh 64 = .ok (.iload_n 2, 1) := by decide +kernel
theorem dX0_weigh_65 : decode cX0_weigh 65 = .ok (.putfield 68, 3) := by decide +kernel
theorem dX0_weigh_68 : decode cX0_weigh 68 = .ok (.return_, 1) := by decide +kernel
theorem dX0_isBetter_0 : decode cX0_isBetter 0 = .ok (.lload_n 1, 1) := by decide +kernel
theorem dX0_isBetter_1 : decode cX0_isBetter 1 = .ok (.aload_n 0, 1) := by decide +kernel
theorem dX0_isBetter_2 : decode cX0_isBetter 2 = .ok (.getfield 89, 3) := by decide +kernel
theorem dX0_isBetter_5 : decode cX0_isBetter 5 = .ok (.lcmp, 1) := by decide +kernel
theorem dX0_isBetter_6 : decode cX0_isBetter 6 = .ok (.ifCond .eq 18, 3) := by decide +kernel
theorem dX0_isBetter_9 : decode cX0_isBetter 9 = .ok (.lload_n 1, 1) := by decide +kernel
theorem dX0_isBetter_10 : decode cX0_isBetter 10 = .ok (.aload_n 0, 1) := by decide +kernel
theorem dX0_isBetter_11 : decode cX0_isBetter 11 = .ok (.getfield 89, 3) := by decide +kernel
theorem dX0_isBetter_14 : decode cX0_isBetter 14 = .ok (.lcmp, 1) := by decide +kernel
theorem dX0_isBetter_15 : decode cX0_isBetter 15 = .ok (.ifCond .ge 7, 3) := by decide +kernel
theorem dX0_isBetter_18 : decode cX0_isBetter 18 = .ok (.iconst 1, 1) := by decide +kernel
theorem dX0_isBetter_19 : decode cX0_isBetter 19 = .ok (.goto 4, 3) := by decide +kernel
theorem dX0_isBetter_22 : decode cX0_isBetter 22 = .ok (.iconst 0, 1) := by decide +kernel
theorem dX0_isBetter_23 : decode cX0_isBetter 23 = .ok (.ireturn, 1) := by decide +kernel
theorem dX0_isBetter_24 : decode cX0_isBetter 24 = .ok (.lload_n 3, 1) := by decide +kernel
theorem dX0_isBetter_25 : decode cX0_isBetter 25 = .ok (.aload_n 0, 1) := by decide +kernel
theorem dX0_isBetter_26 : decode cX0_isBetter 26 = .ok (.getfield 92, 3) := by decide +kernel
theorem dX0_isBetter_29 : decode cX0_isBetter 29 = .ok (.lcmp, 1) := by decide +kernel
theorem dX0_isBetter_30 : decode cX0_isBetter 30 = .ok (.ifCond .eq 18, 3) := by decide +kernel
theorem dX0_isBetter_33 : decode cX0_isBetter 33 = .ok (.lload_n 3, 1) := by decide +kernel
theorem dX0_isBetter_34 : decode cX0_isBetter 34 = .ok (.aload_n 0, 1) := by decide +kernel
theorem dX0_isBetter_35 : decode cX0_isBetter 35 = .ok (.getfield 92, 3) := by decide +kernel
theorem dX0_isBetter_38 : decode cX0_isBetter 38 = .ok (.lcmp, 1) := by decide +kernel
theorem dX0_isBetter_39 : decode cX0_isBetter 39 = .ok (.ifCond .ge 7, 3) := by decide +kernel
theorem dX0_isBetter_42 : decode cX0_isBetter 42 = .ok (.iconst 1, 1) := by decide +kernel
theorem dX0_isBetter_43 : decode cX0_isBetter 43 = .ok (.goto 4, 3) := by decide +kernel
theorem dX0_isBetter_46 : decode cX0_isBetter 46 = .ok (.iconst 0, 1) := by decide +kernel
theorem dX0_isBetter_47 : decode cX0_isBetter 47 = .ok (.ireturn, 1) := by decide +kernel
theorem dX0_isBetter_48 : decode cX0_isBetter 48 = .ok (.iload 5, 2) := by decide +kernel
theorem dX0_isBetter_50 : decode cX0_isBetter 50 = .ok (.aload_n 0, 1) := by decide +kernel
theorem dX0_isBetter_51 : decode cX0_isBetter 51 = .ok (.getfield 95, 3) := by decide +kernel
theorem dX0_isBetter_54 : decode cX0_isBetter 54 = .ok (.if_icmp .eq 20, 3) := by decide +kernel
theorem dX0_isBetter_57 : decode cX0_isBetter 57 = .ok (.iload 5, 2) := by decide +kernel
theorem dX0_isBetter_59 : decode cX0_isBetter 59 = .ok (.aload_n 0, 1) := by decide +kernel
theorem dX0_isBetter_60 : decode cX0_isBetter 60 = .ok (.getfield 95, 3) := by decide +kernel
theorem dX0_isBetter_63 : decode cX0_isBetter 63 = .ok (.if_icmp .ge 7, 3) := by decide +kernel
theorem dX0_isBetter_66 : decode cX0_isBetter 66 = .ok (.iconst 1, 1) := by decide +kernel
theorem dX0_isBetter_67 : decode cX0_isBetter 67 = .ok (.goto 21, 3) := by decide +kernel
theorem dX0_isBetter_70 : decode cX0_isBetter 70 = .ok (.iconst 0, 1) := by decide +kernel
theorem dX0_isBetter_71 : decode cX0_isBetter 71 = .ok (.goto 17, 3) := by decide +kernel
theorem dX0_isBetter_74 : decode cX0_isBetter 74 = .ok (.iload 6, 2) := by decide +kernel
theorem dX0_isBetter_76 : decode cX0_isBetter 76 = .ok (.aload_n 0, 1) := by decide +kernel
theorem dX0_isBetter_77 : decode cX0_isBetter 77 = .ok (.getfield 68, 3) := by decide +kernel
theorem dX0_isBetter_80 : decode cX0_isBetter 80 = .ok (.if_icmp .ge 7, 3) := by decide +kernel
theorem dX0_isBetter_83 : decode cX0_isBetter 83 = .ok (.iconst 1, 1) := by decide +kernel
theorem dX0_isBetter_84 : decode cX0_isBetter 84 = .ok (.goto 4, 3) := by decide +kernel
theorem dX0_isBetter_87 : decode cX0_isBetter 87 = .ok (.iconst 0, 1) := by decide +kernel
theorem dX0_isBetter_88 : decode cX0_isBetter 88 = .ok (.ireturn, 1) := by decide +kernel
theorem dX1_init_0 : decode cX1_init 0 = .ok (.aload_n 0, 1) := by decide +kernel
theorem dX1_init_1 : decode cX1_init 1 = .ok (.invokespecial 3, 3) := by decide +kernel
theorem dX1_init_4 : decode cX1_init 4 = .ok (.aload_n 0, 1) := by decide +kernel
theorem dX1_init_5 : decode cX1_init 5 = .ok (.aload_n 1, 1) := by decide +kernel
theorem dX1_init_6 : decode cX1_init 6 = .ok (.putfield 9, 3) := by decide +kernel
theorem dX1_init_9 : decode cX1_init 9 = .ok (.aload_n 0, 1) := by decide +kernel
theorem dX1_init_10 : decode cX1_init 10 = .ok (.iload_n 2, 1) := by decide +kernel
theorem dX1_init_11 : decode cX1_init 11 = .ok (.putfield 15, 3) := by decide +kernel
theorem dX1_init_14 : decode cX1_init 14 = .ok (.aload_n 0, 1) := by decide +kernel
theorem dX1_init_15 : decode cX1_init 15 = .ok (.iload_n 3, 1) := by decide +kernel
theorem dX1_init_16 : decode cX1_init 16 = .ok (.putfield 19, 3) := by decide +kernel
theorem dX1_init_19 : decode cX1_init 19 = .ok (.return_, 1) := by decide +kernel
theorem dX1_startFor_0 : decode cX1_startFor 0 = .ok (.iload_n 1, 1) := by decide +kernel
theorem dX1_startFor_1 : decode cX1_startFor 1 = .ok (.iconst 3, 1) := by decide +kernel
theorem dX1_startFor_2 : decode cX1_startFor 2 = .ok (.if_icmp .ne 8, 3) := by decide +kernel
theorem dX1_startFor_5 : decode cX1_startFor 5 = .ok (.aload_n 0, 1) := by decide +kernel
theorem dX1_startFor_6 : decode cX1_startFor 6 = .ok (.getfield 15, 3) := by decide +kernel
theorem dX1_startFor_9 : decode cX1_startFor 9 = .ok (.ireturn, 1) := by decide +kernel
theorem dX1_startFor_10 : decode cX1_startFor 10 = .ok (.iload_n 1, 1) := by decide +kernel
theorem dX1_startFor_11 : decode cX1_startFor 11 = .ok (.iconst 4, 1) := by decide +kernel
theorem dX1_startFor_12 : decode cX1_startFor 12 = .ok (.if_icmp .ne 10, 3) := by decide +kernel
theorem dX1_startFor_15 : decode cX1_startFor 15 = .ok (.aload_n 0, 1) := by decide +kernel
theorem dX1_startFor_16 : decode cX1_startFor 16 = .ok (.getfield 19, 3) := by decide +kernel
theorem dX1_startFor_19 : decode cX1_startFor 19 = .ok (.goto 4, 3) := by decide +kernel
theorem dX1_startFor_22 : decode cX1_startFor 22 = .ok (.iconst 0, 1) := by decide +kernel
theorem dX1_startFor_23 : decode cX1_startFor 23 = .ok (.ireturn, 1) := by decide +kernel
theorem dX1_endFor_0 : decode cX1_endFor 0 = .ok (.iload_n 1, 1) := by decide +kernel
theorem dX1_endFor_1 : decode cX1_endFor 1 = .ok (.iconst 3, 1) := by decide +kernel
theorem dX1_endFor_2 : decode cX1_endFor 2 = .ok (.if_icmp .ne 8, 3) := by decide +kernel
theorem dX1_endFor_5 : decode cX1_endFor 5 = .ok (.aload_n 0, 1) := by decide +kernel
theorem dX1_endFor_6 : decode cX1_endFor 6 = .ok (.getfield 19, 3) := by decide +kernel
theorem dX1_endFor_9 : decode cX1_endFor 9 = .ok (.ireturn, 1) := by decide +kernel
theorem dX1_endFor_10 : decode cX1_endFor 10 = .ok (.iload_n 1, 1) := by decide +kernel
theorem dX1_endFor_11 : decode cX1_endFor 11 = .ok (.iconst 4, 1) := by decide +kernel
theorem dX1_endFor_12 : decode cX1_endFor 12 = .ok (.if_icmp .ne 11, 3) := by decide +kernel
theorem dX1_endFor_15 : decode cX1_endFor 15 = .ok (.aload_n 0, 1) := by decide +kernel
theorem dX1_endFor_16 : decode cX1_endFor 16 = .ok (.getfield 9, 3) := by decide +kernel
theorem dX1_endFor_19 : decode cX1_endFor 19 = .ok (.arraylength, 1) := by decide +kernel
theorem dX1_endFor_20 : decode cX1_endFor 20 = .ok (.goto 7, 3) := by decide +kernel
theorem dX1_endFor_23 : decode cX1_endFor 23 = .ok (.aload_n 0, 1) := by decide +kernel
theorem dX1_endFor_24 : decode cX1_endFor 24 = .ok (.getfield 15, 3) := by decide +kernel
theorem dX1_endFor_27 : decode cX1_endFor 27 = .ok (.ireturn, 1) := by decide +kernel
theorem dX1_run_0 : decode cX1_run 0 = .ok (.iconst 0, 1) := by decide +kernel
theorem dX1_run_1 : decode cX1_run 1 = .ok (.istore 4, 2) := by decide +kernel
theorem dX1_run_3 : decode cX1_run 3 = .ok (.aload_n 0, 1) := by decide +kernel
theorem dX1_run_4 : decode cX1_run 4 = .ok (.iload_n 1, 1) := by decide +kernel
theorem dX1_run_5 : decode cX1_run 5 = .ok (.invokevirtual 22, 3) := by decide +kernel
theorem dX1_run_8 : decode cX1_run 8 = .ok (.istore 5, 2) := by decide +kernel
theorem dX1_run_10 : decode cX1_run 10 = .ok (.aload_n 0, 1) := by decide +kernel
theorem dX1_run_11 : decode cX1_run 11 = .ok (.iload_n 1, 1) := by decide +kernel
theorem dX1_run_12 : decode cX1_run 12 = .ok (.invokevirtual 26, 3) := by decide +kernel
theorem dX1_run_15 : decode cX1_run 15 = .ok (.istore 6, 2) := by decide +kernel
theorem dX1_run_17 : decode cX1_run 17 = .ok (.iload 6, 2) := by decide +kernel
theorem dX1_run_19 : decode cX1_run 19 = .ok (.iload 5, 2) := by decide +kernel
theorem dX1_run_21 : decode cX1_run 21 = .ok (.if_icmp .ge 139, 3) := by decide +kernel
theorem dX1_run_24 : decode cX1_run 24 = .ok (.iload 6, 2) := by decide +kernel
theorem dX1_run_26 : decode cX1_run 26 = .ok (.aload_n 0, 1) := by decide +kernel
theorem dX1_run_27 : decode cX1_run 27 = .ok (.getfield 9, 3) := by decide +kernel
theorem dX1_run_30 : decode cX1_run 30 = .ok (.arraylength, 1) := by decide +kernel
theorem dX1_run_31 : decode cX1_run 31 = .ok (.if_icmp .ge 129, 3) := by decide +kernel
theorem dX1_run_34 : decode cX1_run 34 = .ok (.aload_n 0, 1) := by decide +kernel
theorem dX1_run_35 : decode cX1_run 35 = .ok (.getfield 9, 3) := by decide +kernel
theorem dX1_run_38 : decode cX1_run 38 = .ok (.iload 6, 2) := by decide +kernel
theorem dX1_run_40 : decode cX1_run 40 = .ok (.iaload, 1) := by decide +kernel
theorem dX1_run_41 : decode cX1_run 41 = .ok (.istore 7, 2) := by decide +kernel
theorem dX1_run_43 : decode cX1_run 43 = .ok (.iload 7, 2) := by decide +kernel
theorem dX1_run_45 : decode cX1_run 45 = .ok (.bipush (-7), 2) := by decide +kernel
theorem dX1_run_47 : decode cX1_run 47 = .ok (.if_icmp .lt 37, 3) := by decide +kernel
theorem dX1_run_50 : decode cX1_run 50 = .ok (.iload 4, 2) := by decide +kernel
theorem dX1_run_52 : decode cX1_run 52 = .ok (.aload_n 3, 1) := by decide +kernel
theorem dX1_run_53 : decode cX1_run 53 = .ok (.arraylength, 1) := by decide +kernel
theorem dX1_run_54 : decode cX1_run 54 = .ok (.if_icmp .ge 30, 3) := by decide +kernel
theorem dX1_run_57 : decode cX1_run 57 = .ok (.aload_n 3, 1) := by decide +kernel
theorem dX1_run_58 : decode cX1_run 58 = .ok (.iload 4, 2) := by decide +kernel
theorem dX1_run_60 : decode cX1_run 60 = .ok (.iload 7, 2) := by decide +kernel
theorem dX1_run_62 : decode cX1_run 62 = .ok (.ifCond .lt 9, 3) := by decide +kernel
theorem dX1_run_65 : decode cX1_run 65 = .ok (.iload 7, 2) := by decide +kernel
theorem dX1_run_67 : decode cX1_run 67 = .ok (.i2l, 1) := by decide +kernel
theorem dX1_run_68 : decode cX1_run 68 = .ok (.goto 9, 3) := by decide +kernel
theorem dX1_run_71 : decode cX1_run 71 = .ok (.aload_n 2, 1) := by decide +kernel
theorem dX1_run_72 : decode cX1_run 72 = .ok (.iconst (-1), 1) := by decide +kernel
theorem dX1_run_73 : decode cX1_run 73 = .ok (.iload 7, 2) := by decide +kernel
theorem dX1_run_75 : decode cX1_run 75 = .ok (.isub, 1) := by decide +kernel
theorem dX1_run_76 : decode cX1_run 76 = .ok (.laload, 1) := by decide +kernel
theorem dX1_run_77 : decode cX1_run 77 = .ok (.lastore, 1) := by decide +kernel
theorem dX1_run_78 : decode cX1_run 78 = .ok (.iinc 4 1, 3) := by decide +kernel
theorem dX1_run_81 : decode cX1_run 81 = .ok (.goto 73, 3) := by decide +kernel
theorem dX1_run_84 : decode cX1_run 84 = .ok (.iload 7, 2) := by decide +kernel
theorem dX1_run_86 : decode cX1_run 86 = .ok (.bipush (-13), 2) := by decide +kernel
theorem dX1_run_88 : decode cX1_run 88 = .ok (.if_icmp .ne 34, 3) := by decide +kernel
theorem dX1_run_91 : decode cX1_run 91 = .ok (.iload 4, 2) := by decide +kernel
theorem dX1_run_93 : decode cX1_run 93 = .ok (.iconst 1, 1) := by decide +kernel
theorem dX1_run_94 : decode cX1_run 94 = .ok (.if_icmp .lt 28, 3) := by decide +kernel
theorem dX1_run_97 : decode cX1_run 97 = .ok (.aload_n 3, 1) := by decide +kernel
theorem dX1_run_98 : decode cX1_run 98 = .ok (.iload 4, 2) := by decide +kernel
theorem dX1_run_100 : decode cX1_run 100 = .ok (.iconst 1, 1) := by decide +kernel
theorem dX1_run_101 : decode cX1_run 101 = .ok (.isub, 1) := by decide +kernel
theorem dX1_run_102 : decode cX1_run 102 = .ok (.aload_n 3, 1) := by decide +kernel
theorem dX1_run_103 : decode cX1_run 103 = .ok (.iload 4, 2) := by decide +kernel
theorem dX1_run_105 : decode cX1_run 105 = .ok (.iconst 1, 1) := by decide +kernel
theorem dX1_run_106 : decode cX1_run 106 = .ok (.isub, 1) := by decide +kernel
theorem dX1_run_107 : decode cX1_run 107 = .ok (.laload, 1) := by decide +kernel
theorem dX1_run_108 : decode cX1_run 108 = .ok (.lconst 0, 1) := by decide +kernel
theorem dX1_run_109 : decode cX1_run 109 = .ok (.lcmp, 1) := by decide +kernel
theorem dX1_run_110 : decode cX1_run 110 = .ok (.ifCond .ne 7, 3) := by decide +kernel
theorem dX1_run_113 : decode cX1_run 113 = .ok (.lconst 1, 1) := by decide +kernel
theorem dX1_run_114 : decode cX1_run 114 = .ok (.goto 4, 3) := by decide +kernel
theorem dX1_run_117 : decode cX1_run 117 = .ok (.lconst 0, 1) := by decide +kernel
theorem dX1_run_118 : decode cX1_run 118 = .ok (.lastore, 1) := by decide +kernel
theorem dX1_run_119 : decode cX1_run 119 = .ok (.goto 35, 3) := by decide +kernel
theorem dX1_run_122 : decode cX1_run 122 = .ok (.iload 4, 2) := by decide +kernel
theorem dX1_run_124 : decode cX1_run 124 = .ok (.iconst 2, 1) := by decide +kernel
theorem dX1_run_125 : decode cX1_run 125 = .ok (.if_icmp .lt 29, 3) := by decide +kernel
theorem dX1_run_128 : decode cX1_run 128 = .ok (.aload_n 3, 1) := by decide +kernel
theorem dX1_run_129 : decode cX1_run 129 = .ok (.iload 4, 2) := by decide +kernel
theorem dX1_run_131 : decode cX1_run 131 = .ok (.iconst 2, 1) := by decide +kernel
theorem dX1_run_132 : decode cX1_run 132 = .ok (.isub, 1) := by decide +kernel
theorem dX1_run_133 : decode cX1_run 133 = .ok (.iload 7, 2) := by decide +kernel
theorem dX1_run_135 : decode cX1_run 135 = .ok (.aload_n 3, 1) := by decide +kernel
theorem dX1_run_136 : decode cX1_run 136 = .ok (.iload 4, 2) := by decide +kernel
theorem dX1_run_138 : decode cX1_run 138 = .ok (.iconst 2, 1) := by decide +kernel
theorem dX1_run_139 : decode cX1_run 139 = .ok (.isub, 1) := by decide +kernel
theorem dX1_run_140 : decode cX1_run 140 = .ok (.laload, 1) := by decide +kernel
theorem dX1_run_141 : decode cX1_run 141 = .ok (.aload_n 3, 1) := by decide +kernel
theorem dX1_run_142 : decode cX1_run 142 = .ok (.iload 4, 2) := by decide +kernel
theorem dX1_run_144 : decode cX1_run 144 = .ok (.iconst 1, 1) := by decide +kernel
theorem dX1_run_145 : decode cX1_run 145 = .ok (.isub, 1) := by decide +kernel
theorem dX1_run_146 : decode cX1_run 146 = .ok (.laload, 1) := by decide +kernel
theorem dX1_run_147 : decode cX1_run 147 = .ok (.invokestatic 29, 3) := by decide +kernel
theorem dX1_run_150 : decode cX1_run 150 = .ok (.lastore, 1) := by decide +kernel
theorem dX1_run_151 : decode cX1_run 151 = .ok (.iinc 4 (-1), 3) := by decide +kernel
theorem dX1_run_154 : decode cX1_run 154 = .ok (.iinc 6 1, 3) := by decide +kernel
theorem dX1_run_157 : decode cX1_run 157 = .ok (.goto (-140), 3) := by decide +kernel
theorem dX1_run_160 : decode cX1_run 160 = .ok (.aload_n 3, 1) := by decide +kernel
theorem dX1_run_161 : decode cX1_run 161 = .ok (.iconst 0, 1) := by decide +kernel
theorem dX1_run_162 : decode cX1_run 162 = .ok (.laload, 1) := by decide +kernel
theorem dX1_run_163 : decode cX1_run 163 = .ok (.lreturn, 1) := by decide +kernel
theorem dX1_join_0 : decode cX1_join 0 = .ok (.iload_n 0, 1) := by decide +kernel
theorem dX1_join_1 : decode cX1_join 1 = .ok (.tableswitch 135 (-22) (-11) #[111, 99, 135, 131, 127, 123, 135, 135, 135, 135, 63, 81], 63) := by decide +kernel
theorem dX1_join_64 : decode cX1_join 64 = .ok (.lload_n 1, 1) := by decide +kernel
theorem dX1_join_65 : decode cX1_join 65 = .ok (.lconst 0, 1) := by decide +kernel
theorem dX1_join_66 : decode cX1_join 66 = .ok (.lcmp, 1) := by decide +kernel
theorem dX1_join_67 : decode cX1_join 67 = .ok (.ifCond .ne 9, 3) := by decide +kernel
theorem dX1_join_70 : decode cX1_join 70 = .ok (.lload_n 3, 1) := by decide +kernel
theorem dX1_join_71 : decode cX1_join 71 = .ok (.lconst 0, 1) := by decide +kernel
theorem dX1_join_72 : decode cX1_join 72 = .ok (.lcmp, 1) := by decide +kernel
theorem dX1_join_73 : decode cX1_join 73 = .ok (.ifCond .eq 7, 3) := by decide +kernel
theorem dX1_join_76 : decode cX1_join 76 = .ok (.lconst 1, 1) := by decide +kernel
theorem dX1_join_77 : decode cX1_join 77 = .ok (.goto 4, 3) := by decide +kernel
theorem dX1_join_80 : decode cX1_join 80 = .ok (.lconst 0, 1) := by decide +kernel
theorem dX1_join_81 : decode cX1_join 81 = .ok (.lreturn, 1) := by decide +kernel
theorem dX1_join_82 : decode cX1_join 82 = .ok (.lload_n 1, 1) := by decide +kernel
theorem dX1_join_83 : decode cX1_join 83 = .ok (.lconst 0, 1) := by decide +kernel
theorem dX1_join_84 : decode cX1_join 84 = .ok (.lcmp, 1) := by decide +kernel
theorem dX1_join_85 : decode cX1_join 85 = .ok (.ifCond .eq 13, 3) := by decide +kernel
theorem dX1_join_88 : decode cX1_join 88 = .ok (.lload_n 3, 1) := by decide +kernel
theorem dX1_join_89 : decode cX1_join 89 = .ok (.lconst 0, 1) := by decide +kernel
theorem dX1_join_90 : decode cX1_join 90 = .ok (.lcmp, 1) := by decide +kernel
theorem dX1_join_91 : decode cX1_join 91 = .ok (.ifCond .eq 7, 3) := by decide +kernel
theorem dX1_join_94 : decode cX1_join 94 = .ok (.lconst 1, 1) := by decide +kernel
theorem dX1_join_95 : decode cX1_join 95 = .ok (.goto 4, 3) := by decide +kernel
theorem dX1_join_98 : decode cX1_join 98 = .ok (.lconst 0, 1) := by decide +kernel
theorem dX1_join_99 : decode cX1_join 99 = .ok (.lreturn, 1) := by decide +kernel
theorem dX1_join_100 : decode cX1_join 100 = .ok (.lload_n 1, 1) := by decide +kernel
theorem dX1_join_101 : decode cX1_join 101 = .ok (.lload_n 3, 1) := by decide +kernel
theorem dX1_join_102 : decode cX1_join 102 = .ok (.lcmp, 1) := by decide +kernel
theorem dX1_join_103 : decode cX1_join 103 = .ok (.ifCond .ge 7, 3) := by decide +kernel
theorem dX1_join_106 : decode cX1_join 106 = .ok (.lconst 1, 1) := by decide +kernel
theorem dX1_join_107 : decode cX1_join 107 = .ok (.goto 4, 3) := by decide +kernel
theorem dX1_join_110 : decode cX1_join 110 = .ok (.lconst 0, 1) := by decide +kernel
theorem dX1_join_111 : decode cX1_join 111 = .ok (.lreturn, 1) := by decide +kernel
theorem dX1_join_112 : decode cX1_join 112 = .ok (.lload_n 1, 1) := by decide +kernel
theorem dX1_join_113 : decode cX1_join 113 = .ok (.lload_n 3, 1) := by decide +kernel
theorem dX1_join_114 : decode cX1_join 114 = .ok (.lcmp, 1) := by decide +kernel
theorem dX1_join_115 : decode cX1_join 115 = .ok (.ifCond .ne 7, 3) := by decide +kernel
theorem dX1_join_118 : decode cX1_join 118 = .ok (.lconst 1, 1) := by decide +kernel
theorem dX1_join_119 : decode cX1_join 119 = .ok (.goto 4, 3) := by decide +kernel
theorem dX1_join_122 : decode cX1_join 122 = .ok (.lconst 0, 1) := by decide +kernel
theorem dX1_join_123 : decode cX1_join 123 = .ok (.lreturn, 1) := by decide +kernel
theorem dX1_join_124 : decode cX1_join 124 = .ok (.lload_n 1, 1) := by decide +kernel
theorem dX1_join_125 : decode cX1_join 125 = .ok (.lload_n 3, 1) := by decide +kernel
theorem dX1_join_126 : decode cX1_join 126 = .ok (.ladd, 1) := by decide +kernel
theorem dX1_join_127 : decode cX1_join 127 = .ok (.lreturn, 1) := by decide +kernel
theorem dX1_join_128 : decode cX1_join 128 = .ok (.lload_n 1, 1) := by decide +kernel
theorem dX1_join_129 : decode cX1_join 129 = .ok (.lload_n 3, 1) := by decide +kernel
theorem dX1_join_130 : decode cX1_join 130 = .ok (.lsub, 1) := by decide +kernel
theorem dX1_join_131 : decode cX1_join 131 = .ok (.lreturn, 1) := by decide +kernel
theorem dX1_join_132 : decode cX1_join 132 = .ok (.lload_n 1, 1) := by decide +kernel
theorem dX1_join_133 : decode cX1_join 133 = .ok (.lload_n 3, 1) := by decide +kernel
theorem dX1_join_134 : decode cX1_join 134 = .ok (.lmul, 1) := by decide +kernel
theorem dX1_join_135 : decode cX1_join 135 = .ok (.lreturn, 1) := by decide +kernel
theorem dX1_join_136 : decode cX1_join 136 = .ok (.lload_n 3, 1) := by decide +kernel
theorem dX1_join_137 : decode cX1_join 137 = .ok (.lconst 0, 1) := by decide +kernel
theorem dX1_join_138 : decode cX1_join 138 = .ok (.lcmp, 1) := by decide +kernel
theorem dX1_join_139 : decode cX1_join 139 = .ok (.ifCond .ne 7, 3) := by decide +kernel
theorem dX1_join_142 : decode cX1_join 142 = .ok (.lconst 0, 1) := by decide +kernel
theorem dX1_join_143 : decode cX1_join 143 = .ok (.goto 6, 3) := by decide +kernel
theorem dX1_join_146 : decode cX1_join 146 = .ok (.lload_n 1, 1) := by decide +kernel
theorem dX1_join_147 : decode cX1_join 147 = .ok (.lload_n 3, 1) := by decide +kernel
theorem dX1_join_148 : decode cX1_join 148 = .ok (.ldiv, 1) := by decide +kernel
theorem dX1_join_149 : decode cX1_join 149 = .ok (.lreturn, 1) := by decide +kernel
theorem dX2_init_0 : decode cX2_init 0 = .ok (.aload_n 0, 1) := by decide +kernel
theorem dX2_init_1 : decode cX2_init 1 = .ok (.invokespecial 3, 3) := by decide +kernel
theorem dX2_init_4 : decode cX2_init 4 = .ok (.aload_n 0, 1) := by decide +kernel
theorem dX2_init_5 : decode cX2_init 5 = .ok (.bipush 7, 2) := by decide +kernel
theorem dX2_init_7 : decode cX2_init 7 = .ok (.newarray .long, 2) := by decide +kernel
theorem dX2_init_9 : decode cX2_init 9 = .ok (.putfield 9, 3) := by decide +kernel
theorem dX2_init_12 : decode cX2_init 12 = .ok (.aload_n 0, 1) := by decide +kernel
theorem dX2_init_13 : decode cX2_init 13 = .ok (.bipush 40, 2) := by decide +kernel
theorem dX2_init_15 : decode cX2_init 15 = .ok (.newarray .long, 2) := by decide +kernel
theorem dX2_init_17 : decode cX2_init 17 = .ok (.putfield 15, 3) := by decide +kernel
theorem dX2_init_20 : decode cX2_init 20 = .ok (.return_, 1) := by decide +kernel
theorem dX2_rule_0 : decode cX2_rule 0 = .ok (.aload_n 2, 1) := by decide +kernel
theorem dX2_rule_1 : decode cX2_rule 1 = .ok (.getfield 18, 3) := by decide +kernel
theorem dX2_rule_4 : decode cX2_rule 4 = .ok (.ifCond .eq 11, 3) := by decide +kernel
theorem dX2_rule_7 : decode cX2_rule 7 = .ok (.aload_n 2, 1) := by decide +kernel
theorem dX2_rule_8 : decode cX2_rule 8 = .ok (.getfield 18, 3) := by decide +kernel
theorem dX2_rule_11 : decode cX2_rule 11 = .ok (.iconst 5, 1) := by decide +kernel
theorem dX2_rule_12 : decode cX2_rule 12 = .ok (.if_icmp .ne 8, 3) := by decide +kernel
theorem dX2_rule_15 : decode cX2_rule 15 = .ok (.aload_n 2, 1) := by decide +kernel
theorem dX2_rule_16 : decode cX2_rule 16 = .ok (.getfield 24, 3) := by decide +kernel
theorem dX2_rule_19 : decode cX2_rule 19 = .ok (.lreturn, 1) := by decide +kernel
theorem dX2_rule_20 : decode cX2_rule 20 = .ok (.aload_n 2, 1) := by decide +kernel
theorem dX2_rule_21 : decode cX2_rule 21 = .ok (.getfield 18, 3) := by decide +kernel
theorem dX2_rule_24 : decode cX2_rule 24 = .ok (.iconst 2, 1) := by decide +kernel
theorem dX2_rule_25 : decode cX2_rule 25 = .ok (.if_icmp .ne 19, 3) := by decide +kernel
theorem dX2_rule_28 : decode cX2_rule 28 = .ok (.aload_n 2, 1) := by decide +kernel
theorem dX2_rule_29 : decode cX2_rule 29 = .ok (.getfield 24, 3) := by decide +kernel
theorem dX2_rule_32 : decode cX2_rule 32 = .ok (.aload_n 1, 1) := by decide +kernel
theorem dX2_rule_33 : decode cX2_rule 33 = .ok (.aload_n 1, 1) := by decide +kernel
theorem dX2_rule_34 : decode cX2_rule 34 = .ok (.getfield 28, 3) := by decide +kernel
theorem dX2_rule_37 : decode cX2_rule 37 = .ok (.invokevirtual 33, 3) := by decide +kernel
theorem dX2_rule_40 : decode cX2_rule 40 = .ok (.invokestatic 37, 3) := by decide +kernel
theorem dX2_rule_43 : decode cX2_rule 43 = .ok (.lreturn, 1) := by decide +kernel
theorem dX2_rule_44 : decode cX2_rule 44 = .ok (.aload_n 1, 1) := by decide +kernel
theorem dX2_rule_45 : decode cX2_rule 45 = .ok (.getfield 41, 3) := by decide +kernel
theorem dX2_rule_48 : decode cX2_rule 48 = .ok (.iload_n 3, 1) := by decide +kernel
theorem dX2_rule_49 : decode cX2_rule 49 = .ok (.aload_n 1, 1) := by decide +kernel
theorem dX2_rule_50 : decode cX2_rule 50 = .ok (.getfield 28, 3) := by decide +kernel
theorem dX2_rule_53 : decode cX2_rule 53 = .ok (.invokevirtual 45, 3) := by decide +kernel
theorem dX2_rule_56 : decode cX2_rule 56 = .ok (.istore 4, 2) := by decide +kernel
theorem dX2_rule_58 : decode cX2_rule 58 = .ok (.iload 4, 2) := by decide +kernel
theorem dX2_rule_60 : decode cX2_rule 60 = .ok (.ifCond .lt 16, 3) := by decide +kernel
theorem dX2_rule_63 : decode cX2_rule 63 = .ok (.aload_n 1, 1) := by decide +kernel
theorem dX2_rule_64 : decode cX2_rule 64 = .ok (.getfield 41, 3) := by decide +kernel
theorem dX2_rule_67 : decode cX2_rule 67 = .ok (.getfield 51, 3) := by decide +kernel
theorem dX2_rule_70 : decode cX2_rule 70 = .ok (.iload 4, 2) := by decide +kernel
theorem dX2_rule_72 : decode cX2_rule 72 = .ok (.aaload, 1) := by decide +kernel
theorem dX2_rule_73 : decode cX2_rule 73 = .ok (.ifnonnull 8, 3) := by decide +kernel
theorem dX2_rule_76 : decode cX2_rule 76 = .ok (.aload_n 2, 1) := by decide +kernel
theorem dX2_rule_77 : decode cX2_rule 77 = .ok (.getfield 24, 3) := by decide +kernel
theorem dX2_rule_80 : decode cX2_rule 80 = .ok (.lreturn, 1) := by decide +kernel
theorem dX2_rule_81 : decode cX2_rule 81 = .ok (.aload_n 0, 1) := by decide +kernel
theorem dX2_rule_82 : decode cX2_rule 82 = .ok (.aload_n 1, 1) := by decide +kernel
theorem dX2_rule_83 : decode cX2_rule 83 = .ok (.aload_n 2, 1) := by decide +kernel
theorem dX2_rule_84 : decode cX2_rule 84 = .ok (.invokevirtual 55, 3) := by decide +kernel
theorem dX2_rule_87 : decode cX2_rule 87 = .ok (.aload_n 1, 1) := by decide +kernel
theorem dX2_rule_88 : decode cX2_rule 88 = .ok (.getfield 41, 3) := by decide +kernel
theorem dX2_rule_91 : decode cX2_rule 91 = .ok (.getfield 51, 3) := by decide +kernel
theorem dX2_rule_94 : decode cX2_rule 94 = .ok (.iload 4, 2) := by decide +kernel
theorem dX2_rule_96 : decode cX2_rule 96 = .ok (.aaload, 1) := by decide +kernel
theorem dX2_rule_97 : decode cX2_rule 97 = .ok (.aload_n 2, 1) := by decide +kernel
theorem dX2_rule_98 : decode cX2_rule 98 = .ok (.getfield 18, 3) := by decide +kernel
theorem dX2_rule_101 : decode cX2_rule 101 = .ok (.aload_n 0, 1) := by decide +kernel
theorem dX2_rule_102 : decode cX2_rule 102 = .ok (.getfield 9, 3) := by decide +kernel
theorem dX2_rule_105 : decode cX2_rule 105 = .ok (.aload_n 0, 1) := by decide +kernel
theorem dX2_rule_106 : decode cX2_rule 106 = .ok (.getfield 15, 3) := by decide +kernel
theorem dX2_rule_109 : decode cX2_rule 109 = .ok (.invokevirtual 59, 3) := by decide +kernel
theorem dX2_rule_112 : decode cX2_rule 112 = .ok (.lstore 5, 2) := by decide +kernel
theorem dX2_rule_114 : decode cX2_rule 114 = .ok (.lconst 0, 1) := by decide +kernel
theorem dX2_rule_115 : decode cX2_rule 115 = .ok (.ldc2_w 65, 3) := by decide +kernel
theorem dX2_rule_118 : decode cX2_rule 118 = .ok (.lload 5, 2) := by decide +kernel
theorem dX2_rule_120 : decode cX2_rule 120 = .ok (.invokestatic 67, 3) := by decide +kernel
theorem dX2_rule_123 : decode cX2_rule 123 = .ok (.invokestatic 72, 3) := by decide +kernel
theorem dX2_rule_126 : decode cX2_rule 126 = .ok (.lreturn, 1) := by decide +kernel
theorem dX2_goldIn_0 : decode cX2_goldIn 0 = .ok (.lload_n 0, 1) := by decide +kernel
theorem dX2_goldIn_1 : decode cX2_goldIn 1 = .ok (.ldc2_w 65, 3) := by decide +kernel
theorem dX2_goldIn_4 : decode cX2_goldIn 4 = .ok (.lload_n 2, 1) := by decide +kernel
theorem dX2_goldIn_5 : decode cX2_goldIn 5 = .ok (.ldiv, 1) := by decide +kernel
theorem dX2_goldIn_6 : decode cX2_goldIn 6 = .ok (.lcmp, 1) := by decide +kernel
theorem dX2_goldIn_7 : decode cX2_goldIn 7 = .ok (.ifCond .le 9, 3) := by decide +kernel
theorem dX2_goldIn_10 : decode cX2_goldIn 10 = .ok (.ldc2_w 65, 3) := by decide +kernel
theorem dX2_goldIn_13 : decode cX2_goldIn 13 = .ok (.goto 6, 3) := by decide +kernel
theorem dX2_goldIn_16 : decode cX2_goldIn 16 = .ok (.lload_n 0, 1) := by decide +kernel
theorem dX2_goldIn_17 : decode cX2_goldIn 17 = .ok (.lload_n 2, 1) := by decide +kernel
theorem dX2_goldIn_18 : decode cX2_goldIn 18 = .ok (.lmul, 1) := by decide +kernel
theorem dX2_goldIn_19 : decode cX2_goldIn 19 = .ok (.lreturn, 1) := by decide +kernel
theorem dX2_fillNames_0 : decode cX2_fillNames 0 = .ok (.aload_n 1, 1) := by decide +kernel
theorem dX2_fillNames_1 : decode cX2_fillNames 1 = .ok (.getfield 28, 3) := by decide +kernel
theorem dX2_fillNames_4 : decode cX2_fillNames 4 = .ok (.istore_n 3, 1) := by decide +kernel
theorem dX2_fillNames_5 : decode cX2_fillNames 5 = .ok (.aload_n 0, 1) := by decide +kernel
theorem dX2_fillNames_6 : decode cX2_fillNames 6 = .ok (.getfield 9, 3) := by decide +kernel
theorem dX2_fillNames_9 : decode cX2_fillNames 9 = .ok (.iconst 0, 1) := by decide +kernel
theorem dX2_fillNames_10 : decode cX2_fillNames 10 = .ok (.aload_n 2, 1) := by decide +kernel
theorem dX2_fillNames_11 : decode cX2_fillNames 11 = .ok (.getfield 24, 3) := by decide +kernel
theorem dX2_fillNames_14 : decode cX2_fillNames 14 = .ok (.lastore, 1) := by decide +kernel
theorem dX2_fillNames_15 : decode cX2_fillNames 15 = .ok (.aload_n 0, 1) := by decide +kernel
theorem dX2_fillNames_16 : decode cX2_fillNames 16 = .ok (.getfield 9, 3) := by decide +kernel
theorem dX2_fillNames_19 : decode cX2_fillNames 19 = .ok (.iconst 1, 1) := by decide +kernel
theorem dX2_fillNames_20 : decode cX2_fillNames 20 = .ok (.iload_n 3, 1) := by decide +kernel
theorem dX2_fillNames_21 : decode cX2_fillNames 21 = .ok (.aload_n 2, 1) := by decide +kernel
theorem dX2_fillNames_22 : decode cX2_fillNames 22 = .ok (.getfield 75, 3) := by decide +kernel
theorem dX2_fillNames_25 : decode cX2_fillNames 25 = .ok (.isub, 1) := by decide +kernel
theorem dX2_fillNames_26 : decode cX2_fillNames 26 = .ok (.i2l, 1) := by decide +kernel
theorem dX2_fillNames_27 : decode cX2_fillNames 27 = .ok (.lastore, 1) := by decide +kernel
theorem dX2_fillNames_28 : decode cX2_fillNames 28 = .ok (.aload_n 0, 1) := by decide +kernel
theorem dX2_fillNames_29 : decode cX2_fillNames 29 = .ok (.getfield 9, 3) := by decide +kernel
theorem dX2_fillNames_32 : decode cX2_fillNames 32 = .ok (.iconst 2, 1) := by decide +kernel
theorem dX2_fillNames_33 : decode cX2_fillNames 33 = .ok (.aload_n 1, 1) := by decide +kernel
theorem dX2_fillNames_34 : decode cX2_fillNames 34 = .ok (.iload_n 3, 1) := by decide +kernel
theorem dX2_fillNames_35 : decode cX2_fillNames 35 = .ok (.invokevirtual 33, 3) := by decide +kernel
theorem dX2_fillNames_38 : decode cX2_fillNames 38 = .ok (.lastore, 1) := by decide +kernel
theorem dX2_fillNames_39 : decode cX2_fillNames 39 = .ok (.aload_n 0, 1) := by decide +kernel
theorem dX2_fillNames_40 : decode cX2_fillNames 40 = .ok (.getfield 9, 3) := by decide +kernel
theorem dX2_fillNames_43 : decode cX2_fillNames 43 = .ok (.iconst 3, 1) := by decide +kernel
theorem dX2_fillNames_44 : decode cX2_fillNames 44 = .ok (.aload_n 1, 1) := by decide +kernel
theorem dX2_fillNames_45 : decode cX2_fillNames 45 = .ok (.aload_n 2, 1) := by decide +kernel
theorem dX2_fillNames_46 : decode cX2_fillNames 46 = .ok (.getfield 75, 3) := by decide +kernel
theorem dX2_fillNames_49 : decode cX2_fillNames 49 = .ok (.invokevirtual 33, 3) := by decide +kernel
theorem dX2_fillNames_52 : decode cX2_fillNames 52 = .ok (.lastore, 1) := by decide +kernel
theorem dX2_fillNames_53 : decode cX2_fillNames 53 = .ok (.aload_n 0, 1) := by decide +kernel
theorem dX2_fillNames_54 : decode cX2_fillNames 54 = .ok (.getfield 9, 3) := by decide +kernel
theorem dX2_fillNames_57 : decode cX2_fillNames 57 = .ok (.iconst 4, 1) := by decide +kernel
theorem dX2_fillNames_58 : decode cX2_fillNames 58 = .ok (.aload_n 1, 1) := by decide +kernel
theorem dX2_fillNames_59 : decode cX2_fillNames 59 = .ok (.iconst 0, 1) := by decide +kernel
theorem dX2_fillNames_60 : decode cX2_fillNames 60 = .ok (.iload_n 3, 1) := by decide +kernel
theorem dX2_fillNames_61 : decode cX2_fillNames 61 = .ok (.iconst 3, 1) := by decide +kernel
theorem dX2_fillNames_62 : decode cX2_fillNames 62 = .ok (.isub, 1) := by decide +kernel
theorem dX2_fillNames_63 : decode cX2_fillNames 63 = .ok (.invokestatic 78, 3) := by decide +kernel
theorem dX2_fillNames_66 : decode cX2_fillNames 66 = .ok (.invokevirtual 33, 3) := by decide +kernel
theorem dX2_fillNames_69 : decode cX2_fillNames 69 = .ok (.lastore, 1) := by decide +kernel
theorem dX2_fillNames_70 : decode cX2_fillNames 70 = .ok (.aload_n 0, 1) := by decide +kernel
theorem dX2_fillNames_71 : decode cX2_fillNames 71 = .ok (.getfield 9, 3) := by decide +kernel
theorem dX2_fillNames_74 : decode cX2_fillNames 74 = .ok (.iconst 5, 1) := by decide +kernel
theorem dX2_fillNames_75 : decode cX2_fillNames 75 = .ok (.aload_n 1, 1) := by decide +kernel
theorem dX2_fillNames_76 : decode cX2_fillNames 76 = .ok (.iload_n 3, 1) := by decide +kernel
theorem dX2_fillNames_77 : decode cX2_fillNames 77 = .ok (.iload_n 3, 1) := by decide +kernel
theorem dX2_fillNames_78 : decode cX2_fillNames 78 = .ok (.bipush 7, 2) := by decide +kernel
theorem dX2_fillNames_80 : decode cX2_fillNames 80 = .ok (.irem, 1) := by decide +kernel
theorem dX2_fillNames_81 : decode cX2_fillNames 81 = .ok (.isub, 1) := by decide +kernel
theorem dX2_fillNames_82 : decode cX2_fillNames 82 = .ok (.invokevirtual 33, 3) := by decide +kernel
theorem dX2_fillNames_85 : decode cX2_fillNames 85 = .ok (.lastore, 1) := by decide +kernel
theorem dX2_fillNames_86 : decode cX2_fillNames 86 = .ok (.aload_n 0, 1) := by decide +kernel
theorem dX2_fillNames_87 : decode cX2_fillNames 87 = .ok (.getfield 9, 3) := by decide +kernel
theorem dX2_fillNames_90 : decode cX2_fillNames 90 = .ok (.bipush 6, 2) := by decide +kernel
theorem dX2_fillNames_92 : decode cX2_fillNames 92 = .ok (.aload_n 2, 1) := by decide +kernel
theorem dX2_fillNames_93 : decode cX2_fillNames 93 = .ok (.getfield 18, 3) := by decide +kernel
theorem dX2_fillNames_96 : decode cX2_fillNames 96 = .ok (.i2l, 1) := by decide +kernel
theorem dX2_fillNames_97 : decode cX2_fillNames 97 = .ok (.lastore, 1) := by decide +kernel
theorem dX2_fillNames_98 : decode cX2_fillNames 98 = .ok (.return_, 1) := by decide +kernel
theorem dX3_init_0 : decode cX3_init 0 = .ok (.aload_n 0, 1) := by decide +kernel
theorem dX3_init_1 : decode cX3_init 1 = .ok (.invokespecial 3, 3) := by decide +kernel
theorem dX3_init_4 : decode cX3_init 4 = .ok (.aload_n 0, 1) := by decide +kernel
theorem dX3_init_5 : decode cX3_init 5 = .ok (.iconst 5, 1) := by decide +kernel
theorem dX3_init_6 : decode cX3_init 6 = .ok (.anewarray 9, 3) := by decide +kernel
theorem dX3_init_9 : decode cX3_init 9 = .ok (.putfield 11, 3) := by decide +kernel
theorem dX3_init_12 : decode cX3_init 12 = .ok (.aload_n 0, 1) := by decide +kernel
theorem dX3_init_13 : decode cX3_init 13 = .ok (.bipush 12, 2) := by decide +kernel
theorem dX3_init_15 : decode cX3_init 15 = .ok (.anewarray 9, 3) := by decide +kernel
theorem dX3_init_18 : decode cX3_init 18 = .ok (.putfield 17, 3) := by decide +kernel
theorem dX3_init_21 : decode cX3_init 21 = .ok (.aload_n 0, 1) := by decide +kernel
theorem dX3_init_22 : decode cX3_init 22 = .ok (.bipush 12, 2) := by decide +kernel
theorem dX3_init_24 : decode cX3_init 24 = .ok (.newarray .int, 2) := by decide +kernel
theorem dX3_init_26 : decode cX3_init 26 = .ok (.putfield 20, 3) := by decide +kernel
theorem dX3_init_29 : decode cX3_init 29 = .ok (.aload_n 0, 1) := by decide +kernel
theorem dX3_init_30 : decode cX3_init 30 = .ok (.bipush 12, 2) := by decide +kernel
theorem dX3_init_32 : decode cX3_init 32 = .ok (.newarray .int, 2) := by decide +kernel
theorem dX3_init_34 : decode cX3_init 34 = .ok (.putfield 24, 3) := by decide +kernel
theorem dX3_init_37 : decode cX3_init 37 = .ok (.return_, 1) := by decide +kernel
theorem dX3_take_0 : decode cX3_take 0 = .ok (.iconst 0, 1) := by decide +kernel
theorem dX3_take_1 : decode cX3_take 1 = .ok (.istore_n 2, 1) := by decide +kernel
theorem dX3_take_2 : decode cX3_take 2 = .ok (.iload_n 2, 1) := by decide +kernel
theorem dX3_take_3 : decode cX3_take 3 = .ok (.iconst 5, 1) := by decide +kernel
theorem dX3_take_4 : decode cX3_take 4 = .ok (.if_icmp .ge 21, 3) := by decide +kernel
theorem dX3_take_7 : decode cX3_take 7 = .ok (.aload_n 0, 1) := by decide +kernel
theorem dX3_take_8 : decode cX3_take 8 = .ok (.getfield 11, 3) := by decide +kernel
theorem dX3_take_11 : decode cX3_take 11 = .ok (.iload_n 2, 1) := by decide +kernel
theorem dX3_take_12 : decode cX3_take 12 = .ok (.aload_n 1, 1) := by decide +kernel
theorem dX3_take_13 : decode cX3_take 13 = .ok (.getfield 11, 3) := by decide +kernel
theorem dX3_take_16 : decode cX3_take 16 = .ok (.iload_n 2, 1) := by decide +kernel
theorem dX3_take_17 : decode cX3_take 17 = .ok (.aaload, 1) := by decide +kernel
theorem dX3_take_18 : decode cX3_take 18 = .ok (.aastore, 1) := by decide +kernel
theorem dX3_take_19 : decode cX3_take 19 = .ok (.iinc 2 1, 3) := by decide +kernel
theorem dX3_take_22 : decode cX3_take 22 = .ok (.goto (-20), 3) := by decide +kernel
theorem dX3_take_25 : decode cX3_take 25 = .ok (.iconst 0, 1) := by decide +kernel
theorem dX3_take_26 : decode cX3_take 26 = .ok (.istore_n 2, 1) := by decide +kernel
theorem dX3_take_27 : decode cX3_take 27 = .ok (.iload_n 2, 1) := by decide +kernel
theorem dX3_take_28 : decode cX3_take 28 = .ok (.bipush 12, 2) := by decide +kernel
theorem dX3_take_30 : decode cX3_take 30 = .ok (.if_icmp .ge 45, 3) := by decide +kernel
theorem dX3_take_33 : decode cX3_take 33 = .ok (.aload_n 0, 1) := by decide +kernel
theorem dX3_take_34 : decode cX3_take 34 = .ok (.getfield 17, 3) := by decide +kernel
theorem dX3_take_37 : decode cX3_take 37 = .ok (.iload_n 2, 1) := by decide +kernel
theorem dX3_take_38 : decode cX3_take 38 = .ok (.aload_n 1, 1) := by decide +kernel
theorem dX3_take_39 : decode cX3_take 39 = .ok (.getfield 17, 3) := by decide +kernel
theorem dX3_take_42 : decode cX3_take 42 = .ok (.iload_n 2, 1) := by decide +kernel
theorem dX3_take_43 : decode cX3_take 43 = .ok (.aaload, 1) := by decide +kernel
theorem dX3_take_44 : decode cX3_take 44 = .ok (.aastore, 1) := by decide +kernel
theorem dX3_take_45 : decode cX3_take 45 = .ok (.aload_n 0, 1) := by decide +kernel
theorem dX3_take_46 : decode cX3_take 46 = .ok (.getfield 20, 3) := by decide +kernel
theorem dX3_take_49 : decode cX3_take 49 = .ok (.iload_n 2, 1) := by decide +kernel
theorem dX3_take_50 : decode cX3_take 50 = .ok (.aload_n 1, 1) := by decide +kernel
theorem dX3_take_51 : decode cX3_take 51 = .ok (.getfield 20, 3) := by decide +kernel
theorem dX3_take_54 : decode cX3_take 54 = .ok (.iload_n 2, 1) := by decide +kernel
theorem dX3_take_55 : decode cX3_take 55 = .ok (.iaload, 1) := by decide +kernel
theorem dX3_take_56 : decode cX3_take 56 = .ok (.iastore, 1) := by decide +kernel
theorem dX3_take_57 : decode cX3_take 57 = .ok (.aload_n 0, 1) := by decide +kernel
theorem dX3_take_58 : decode cX3_take 58 = .ok (.getfield 24, 3) := by decide +kernel
theorem dX3_take_61 : decode cX3_take 61 = .ok (.iload_n 2, 1) := by decide +kernel
theorem dX3_take_62 : decode cX3_take 62 = .ok (.aload_n 1, 1) := by decide +kernel
theorem dX3_take_63 : decode cX3_take 63 = .ok (.getfield 24, 3) := by decide +kernel
theorem dX3_take_66 : decode cX3_take 66 = .ok (.iload_n 2, 1) := by decide +kernel
theorem dX3_take_67 : decode cX3_take 67 = .ok (.iaload, 1) := by decide +kernel
theorem dX3_take_68 : decode cX3_take 68 = .ok (.iastore, 1) := by decide +kernel
theorem dX3_take_69 : decode cX3_take 69 = .ok (.iinc 2 1, 3) := by decide +kernel
theorem dX3_take_72 : decode cX3_take 72 = .ok (.goto (-45), 3) := by decide +kernel
theorem dX3_take_75 : decode cX3_take 75 = .ok (.aload_n 0, 1) := by decide +kernel
theorem dX3_take_76 : decode cX3_take 76 = .ok (.aload_n 1, 1) := by decide +kernel
theorem dX3_take_77 : decode cX3_take 77 = .ok (.getfield 27, 3) := by decide +kernel
theorem dX3_take_80 : decode cX3_take 80 = .ok (.putfield 27, 3) := by decide +kernel
theorem dX3_take_83 : decode cX3_take 83 = .ok (.return_, 1) := by decide +kernel
theorem dX3_enact_0 : decode cX3_enact 0 = .ok (.aload_n 0, 1) := by decide +kernel
theorem dX3_enact_1 : decode cX3_enact 1 = .ok (.getfield 27, 3) := by decide +kernel
theorem dX3_enact_4 : decode cX3_enact 4 = .ok (.bipush 12, 2) := by decide +kernel
theorem dX3_enact_6 : decode cX3_enact 6 = .ok (.if_icmp .lt 5, 3) := by decide +kernel
theorem dX3_enact_9 : decode cX3_enact 9 = .ok (.iconst (-1), 1) := by decide +kernel
theorem dX3_enact_10 : decode cX3_enact 10 = .ok (.ireturn, 1) := by decide +kernel
theorem dX3_enact_11 : decode cX3_enact 11 = .ok (.aload_n 0, 1) := by decide +kernel
theorem dX3_enact_12 : decode cX3_enact 12 = .ok (.getfield 17, 3) := by decide +kernel
theorem dX3_enact_15 : decode cX3_enact 15 = .ok (.aload_n 0, 1) := by decide +kernel
theorem dX3_enact_16 : decode cX3_enact 16 = .ok (.getfield 27, 3) := by decide +kernel
theorem dX3_enact_19 : decode cX3_enact 19 = .ok (.aload_n 1, 1) := by decide +kernel
theorem dX3_enact_20 : decode cX3_enact 20 = .ok (.aastore, 1) := by decide +kernel
theorem dX3_enact_21 : decode cX3_enact 21 = .ok (.aload_n 0, 1) := by decide +kernel
theorem dX3_enact_22 : decode cX3_enact 22 = .ok (.getfield 20, 3) := by decide +kernel
theorem dX3_enact_25 : decode cX3_enact 25 = .ok (.aload_n 0, 1) := by decide +kernel
theorem dX3_enact_26 : decode cX3_enact 26 = .ok (.getfield 27, 3) := by decide +kernel
theorem dX3_enact_29 : decode cX3_enact 29 = .ok (.iload_n 2, 1) := by decide +kernel
theorem dX3_enact_30 : decode cX3_enact 30 = .ok (.iastore, 1) := by decide +kernel
theorem dX3_enact_31 : decode cX3_enact 31 = .ok (.aload_n 0, 1) := by decide +kernel
theorem dX3_enact_32 : decode cX3_enact 32 = .ok (.getfield 24, 3) := by decide +kernel
theorem dX3_enact_35 : decode cX3_enact 35 = .ok (.aload_n 0, 1) := by decide +kernel
theorem dX3_enact_36 : decode cX3_enact 36 = .ok (.getfield 27, 3) := by decide +kernel
theorem dX3_enact_39 : decode cX3_enact 39 = .ok (.iload_n 3, 1) := by decide +kernel
theorem dX3_enact_40 : decode cX3_enact 40 = .ok (.iastore, 1) := by decide +kernel
theorem dX3_enact_41 : decode cX3_enact 41 = .ok (.aload_n 0, 1) := by decide +kernel
theorem dX3_enact_42 : decode cX3_enact 42 = .ok (.dup, 1) := by decide +kernel
theorem dX3_enact_43 : decode cX3_enact 43 = .ok (.getfield 27, 3) := by decide +kernel
theorem dX3_enact_46 : decode cX3_enact 46 = .ok (.iconst 1, 1) := by decide +kernel
theorem dX3_enact_47 : decode cX3_enact 47 = .ok (.iadd, 1) := by decide +kernel
theorem dX3_enact_48 : decode cX3_enact 48 = .ok (.putfield 27, 3) := by decide +kernel
theorem dX3_enact_51 : decode cX3_enact 51 = .ok (.aload_n 0, 1) := by decide +kernel
theorem dX3_enact_52 : decode cX3_enact 52 = .ok (.getfield 27, 3) := by decide +kernel
theorem dX3_enact_55 : decode cX3_enact 55 = .ok (.iconst 1, 1) := by decide +kernel
theorem dX3_enact_56 : decode cX3_enact 56 = .ok (.isub, 1) := by decide +kernel
theorem dX3_enact_57 : decode cX3_enact 57 = .ok (.ireturn, 1) := by decide +kernel
theorem dX3_latest_0 : decode cX3_latest 0 = .ok (.aload_n 0, 1) := by decide +kernel
theorem dX3_latest_1 : decode cX3_latest 1 = .ok (.getfield 27, 3) := by decide +kernel
theorem dX3_latest_4 : decode cX3_latest 4 = .ok (.iconst 1, 1) := by decide +kernel
theorem dX3_latest_5 : decode cX3_latest 5 = .ok (.isub, 1) := by decide +kernel
theorem dX3_latest_6 : decode cX3_latest 6 = .ok (.istore_n 3, 1) := by decide +kernel
theorem dX3_latest_7 : decode cX3_latest 7 = .ok (.iload_n 3, 1) := by decide +kernel
theorem dX3_latest_8 : decode cX3_latest 8 = .ok (.ifCond .lt 31, 3) := by decide +kernel
theorem dX3_latest_11 : decode cX3_latest 11 = .ok (.aload_n 0, 1) := by decide +kernel
theorem dX3_latest_12 : decode cX3_latest 12 = .ok (.getfield 20, 3) := by decide +kernel
theorem dX3_latest_15 : decode cX3_latest 15 = .ok (.iload_n 3, 1) := by decide +kernel
theorem dX3_latest_16 : decode cX3_latest 16 = .ok (.iaload, 1) := by decide +kernel
theorem dX3_latest_17 : decode cX3_latest 17 = .ok (.iload_n 1, 1) := by decide +kernel
theorem dX3_latest_18 : decode cX3_latest 18 = .ok (.if_icmp .ne 15, 3) := by decide +kernel
theorem dX3_latest_21 : decode cX3_latest 21 = .ok (.aload_n 0, 1) := by decide +kernel
theorem dX3_latest_22 : decode cX3_latest 22 = .ok (.getfield 24, 3) := by decide +kernel
theorem dX3_latest_25 : decode cX3_latest 25 = .ok (.iload_n 3, 1) := by decide +kernel
theorem dX3_latest_26 : decode cX3_latest 26 = .ok (.iaload, 1) := by decide +kernel
theorem dX3_latest_27 : decode cX3_latest 27 = .ok (.iload_n 2, 1) := by decide +kernel
theorem dX3_latest_28 : decode cX3_latest 28 = .ok (.if_icmp .gt 5, 3) := by decide +kernel
theorem dX3_latest_31 : decode cX3_latest 31 = .ok (.iload_n 3, 1) := by decide +kernel
theorem dX3_latest_32 : decode cX3_latest 32 = .ok (.ireturn, 1) := by decide +kernel
theorem dX3_latest_33 : decode cX3_latest 33 = .ok (.iinc 3 (-1), 3) := by decide +kernel
theorem dX3_latest_36 : decode cX3_latest 36 = .ok (.goto (-29), 3) := by decide +kernel
theorem dX3_latest_39 : decode cX3_latest 39 = .ok (.iconst (-1), 1) := by decide +kernel
theorem dX3_latest_40 : decode cX3_latest 40 = .ok (.ireturn, 1) := by decide +kernel
theorem dX4_init_0 : decode cX4_init 0 = .ok (.aload_n 0, 1) := by decide +kernel
theorem dX4_init_1 : decode cX4_init 1 = .ok (.invokespecial 3, 3) := by decide +kernel
theorem dX4_init_4 : decode cX4_init 4 = .ok (.aload_n 0, 1) := by decide +kernel
theorem dX4_init_5 : decode cX4_init 5 = .ok (.bipush 10, 2) := by decide +kernel
theorem dX4_init_7 : decode cX4_init 7 = .ok (.newarray .long, 2) := by decide +kernel
theorem dX4_init_9 : decode cX4_init 9 = .ok (.putfield 9, 3) := by decide +kernel
theorem dX4_init_12 : decode cX4_init 12 = .ok (.aload_n 0, 1) := by decide +kernel
theorem dX4_init_13 : decode cX4_init 13 = .ok (.bipush 10, 2) := by decide +kernel
theorem dX4_init_15 : decode cX4_init 15 = .ok (.newarray .int, 2) := by decide +kernel
theorem dX4_init_17 : decode cX4_init 17 = .ok (.putfield 15, 3) := by decide +kernel
theorem dX4_init_20 : decode cX4_init 20 = .ok (.return_, 1) := by decide +kernel
theorem dX4_hold_0 : decode cX4_hold 0 = .ok (.lconst 0, 1) := by decide +kernel
theorem dX4_hold_1 : decode cX4_hold 1 = .ok (.lstore_n 2, 1) := by decide +kernel
theorem dX4_hold_2 : decode cX4_hold 2 = .ok (.lconst 0, 1) := by decide +kernel
theorem dX4_hold_3 : decode cX4_hold 3 = .ok (.lstore 4, 2) := by decide +kernel
theorem dX4_hold_5 : decode cX4_hold 5 = .ok (.iconst 0, 1) := by decide +kernel
theorem dX4_hold_6 : decode cX4_hold 6 = .ok (.istore 6, 2) := by decide +kernel
theorem dX4_hold_8 : decode cX4_hold 8 = .ok (.iload 6, 2) := by decide +kernel
theorem dX4_hold_10 : decode cX4_hold 10 = .ok (.aload_n 1, 1) := by decide +kernel
theorem dX4_hold_11 : decode cX4_hold 11 = .ok (.getfield 19, 3) := by decide +kernel
theorem dX4_hold_14 : decode cX4_hold 14 = .ok (.if_icmp .ge 95, 3) := by decide +kernel
theorem dX4_hold_17 : decode cX4_hold 17 = .ok (.aload_n 1, 1) := by decide +kernel
theorem dX4_hold_18 : decode cX4_hold 18 = .ok (.getfield 25, 3) := by decide +kernel
theorem dX4_hold_21 : decode cX4_hold 21 = .ok (.iload 6, 2) := by decide +kernel
theorem dX4_hold_23 : decode cX4_hold 23 = .ok (.aaload, 1) := by decide +kernel
theorem dX4_hold_24 : decode cX4_hold 24 = .ok (.astore 7, 2) := by decide +kernel
theorem dX4_hold_26 : decode cX4_hold 26 = .ok (.aload_n 0, 1) := by decide +kernel
theorem dX4_hold_27 : decode cX4_hold 27 = .ok (.getfield 9, 3) := by decide +kernel
theorem dX4_hold_30 : decode cX4_hold 30 = .ok (.iload 6, 2) := by decide +kernel
theorem dX4_hold_32 : decode cX4_hold 32 = .ok (.aload 7, 2) := by decide +kernel
theorem dX4_hold_34 : decode cX4_hold 34 = .ok (.getfield 29, 3) := by decide +kernel
theorem dX4_hold_37 : decode cX4_hold 37 = .ok (.aload 7, 2) := by decide +kernel
theorem dX4_hold_39 : decode cX4_hold 39 = .ok (.getfield 35, 3) := by decide +kernel
theorem dX4_hold_42 : decode cX4_hold 42 = .ok (.i2l, 1) := by decide +kernel
theorem dX4_hold_43 : decode cX4_hold 43 = .ok (.lmul, 1) := by decide +kernel
theorem dX4_hold_44 : decode cX4_hold 44 = .ok (.ldc2_w 38, 3) := by decide +kernel
theorem dX4_hold_47 : decode cX4_hold 47 = .ok (.ldiv, 1) := by decide +kernel
theorem dX4_hold_48 : decode cX4_hold 48 = .ok (.lastore, 1) := by decide +kernel
theorem dX4_hold_49 : decode cX4_hold 49 = .ok (.aload_n 0, 1) := by decide +kernel
theorem dX4_hold_50 : decode cX4_hold 50 = .ok (.getfield 15, 3) := by decide +kernel
theorem dX4_hold_53 : decode cX4_hold 53 = .ok (.iload 6, 2) := by decide +kernel
theorem dX4_hold_55 : decode cX4_hold 55 = .ok (.aload_n 1, 1) := by decide +kernel
theorem dX4_hold_56 : decode cX4_hold 56 = .ok (.aload 7, 2) := by decide +kernel
theorem dX4_hold_58 : decode cX4_hold 58 = .ok (.invokevirtual 40, 3) := by decide +kernel
theorem dX4_hold_61 : decode cX4_hold 61 = .ok (.ifCond .eq 7, 3) := by decide +kernel
theorem dX4_hold_64 : decode cX4_hold 64 = .ok (.iconst 0, 1) := by decide +kernel
theorem dX4_hold_65 : decode cX4_hold 65 = .ok (.goto 14, 3) := by decide +kernel
theorem dX4_hold_68 : decode cX4_hold 68 = .ok (.iconst 0, 1) := by decide +kernel
theorem dX4_hold_69 : decode cX4_hold 69 = .ok (.aload 7, 2) := by decide +kernel
theorem dX4_hold_71 : decode cX4_hold 71 = .ok (.getfield 44, 3) := by decide +kernel
theorem dX4_hold_74 : decode cX4_hold 74 = .ok (.iconst 1, 1) := by decide +kernel
theorem dX4_hold_75 : decode cX4_hold 75 = .ok (.isub, 1) := by decide +kernel
theorem dX4_hold_76 : decode cX4_hold 76 = .ok (.invokestatic 47, 3) := by decide +kernel
theorem dX4_hold_79 : decode cX4_hold 79 = .ok (.iastore, 1) := by decide +kernel
theorem dX4_hold_80 : decode cX4_hold 80 = .ok (.lload_n 2, 1) := by decide +kernel
theorem dX4_hold_81 : decode cX4_hold 81 = .ok (.aload_n 0, 1) := by decide +kernel
theorem dX4_hold_82 : decode cX4_hold 82 = .ok (.getfield 9, 3) := by decide +kernel
theorem dX4_hold_85 : decode cX4_hold 85 = .ok (.iload 6, 2) := by decide +kernel
theorem dX4_hold_87 : decode cX4_hold 87 = .ok (.laload, 1) := by decide +kernel
theorem dX4_hold_88 : decode cX4_hold 88 = .ok (.ladd, 1) := by decide +kernel
theorem dX4_hold_89 : decode cX4_hold 89 = .ok (.lstore_n 2, 1) := by decide +kernel
theorem dX4_hold_90 : decode cX4_hold 90 = .ok (.lload 4, 2) := by decide +kernel
theorem dX4_hold_92 : decode cX4_hold 92 = .ok (.aload_n 0, 1) := by decide +kernel
theorem dX4_hold_93 : decode cX4_hold 93 = .ok (.getfield 15, 3) := by decide +kernel
theorem dX4_hold_96 : decode cX4_hold 96 = .ok (.iload 6, 2) := by decide +kernel
theorem dX4_hold_98 : decode cX4_hold 98 = .ok (.iaload, 1) := by decide +kernel
theorem dX4_hold_99 : decode cX4_hold 99 = .ok (.i2l, 1) := by decide +kernel
theorem dX4_hold_100 : decode cX4_hold 100 = .ok (.ladd, 1) := by decide +kernel
theorem dX4_hold_101 : decode cX4_hold 101 = .ok (.lstore 4, 2) := by decide +kernel
theorem dX4_hold_103 : decode cX4_hold 103 = .ok (.iinc 6 1, 3) := by decide +kernel
theorem dX4_hold_106 : decode cX4_hold 106 = .ok (.goto (-98), 3) := by decide +kernel
theorem dX4_hold_109 : decode cX4_hold 109 = .ok (.lload 4, 2) := by decide +kernel
theorem dX4_hold_111 : decode cX4_hold 111 = .ok (.lconst 0, 1) := by decide +kernel
theorem dX4_hold_112 : decode cX4_hold 112 = .ok (.lcmp, 1) := by decide +kernel
theorem dX4_hold_113 : decode cX4_hold 113 = .ok (.ifCond .gt 12, 3) := by decide +kernel
theorem dX4_hold_116 : decode cX4_hold 116 = .ok (.aload_n 1, 1) := by decide +kernel
theorem dX4_hold_117 : decode cX4_hold 117 = .ok (.aload_n 1, 1) := by decide +kernel
theorem dX4_hold_118 : decode cX4_hold 118 = .ok (.getfield 53, 3) := by decide +kernel
theorem dX4_hold_121 : decode cX4_hold 121 = .ok (.invokevirtual 56, 3) := by decide +kernel
theorem dX4_hold_124 : decode cX4_hold 124 = .ok (.lreturn, 1) := by decide +kernel
theorem dX4_hold_125 : decode cX4_hold 125 = .ok (.lconst 1, 1) := by decide +kernel
theorem dX4_hold_126 : decode cX4_hold 126 = .ok (.ldc2_w 60, 3) := by decide +kernel
theorem dX4_hold_129 : decode cX4_hold 129 = .ok (.lload_n 2, 1) := by decide +kernel
theorem dX4_hold_130 : decode cX4_hold 130 = .ok (.lload 4, 2) := by decide +kernel
theorem dX4_hold_132 : decode cX4_hold 132 = .ok (.ldiv, 1) := by decide +kernel
theorem dX4_hold_133 : decode cX4_hold 133 = .ok (.invokestatic 62, 3) := by decide +kernel
theorem dX4_hold_136 : decode cX4_hold 136 = .ok (.invokestatic 66, 3) := by decide +kernel
theorem dX4_hold_139 : decode cX4_hold 139 = .ok (.lstore 6, 2) := by decide +kernel
theorem dX4_hold_141 : decode cX4_hold 141 = .ok (.iconst 0, 1) := by decide +kernel
theorem dX4_hold_142 : decode cX4_hold 142 = .ok (.istore 8, 2) := by decide +kernel
theorem dX4_hold_144 : decode cX4_hold 144 = .ok (.iload 8, 2) := by decide +kernel
theorem dX4_hold_146 : decode cX4_hold 146 = .ok (.aload_n 1, 1) := by decide +kernel
theorem dX4_hold_147 : decode cX4_hold 147 = .ok (.getfield 19, 3) := by decide +kernel
theorem dX4_hold_150 : decode cX4_hold 150 = .ok (.if_icmp .ge 18, 3) := by decide +kernel
theorem dX4_hold_153 : decode cX4_hold 153 = .ok (.aload_n 0, 1) := by decide +kernel
theorem dX4_hold_154 : decode cX4_hold 154 = .ok (.aload_n 1, 1) := by decide +kernel
theorem dX4_hold_155 : decode cX4_hold 155 = .ok (.iload 8, 2) := by decide +kernel
theorem dX4_hold_157 : decode cX4_hold 157 = .ok (.lload 6, 2) := by decide +kernel
theorem dX4_hold_159 : decode cX4_hold 159 = .ok (.invokevirtual 68, 3) := by decide +kernel
theorem dX4_hold_162 : decode cX4_hold 162 = .ok (.iinc 8 1, 3) := by decide +kernel
theorem dX4_hold_165 : decode cX4_hold 165 = .ok (.goto (-21), 3) := by decide +kernel
theorem dX4_hold_168 : decode cX4_hold 168 = .ok (.lload 6, 2) := by decide +kernel
theorem dX4_hold_170 : decode cX4_hold 170 = .ok (.lreturn, 1) := by decide +kernel
theorem dX4_buyFor_0 : decode cX4_buyFor 0 = .ok (.sipush 9999, 3) := by decide +kernel
theorem dX4_buyFor_3 : decode cX4_buyFor 3 = .ok (.aload_n 1, 1) := by decide +kernel
theorem dX4_buyFor_4 : decode cX4_buyFor 4 = .ok (.getfield 25, 3) := by decide +kernel
theorem dX4_buyFor_7 : decode cX4_buyFor 7 = .ok (.iload_n 2, 1) := by decide +kernel
theorem dX4_buyFor_8 : decode cX4_buyFor 8 = .ok (.aaload, 1) := by decide +kernel
theorem dX4_buyFor_9 : decode cX4_buyFor 9 = .ok (.getfield 44, 3) := by decide +kernel
theorem dX4_buyFor_12 : decode cX4_buyFor 12 = .ok (.isub, 1) := by decide +kernel
theorem dX4_buyFor_13 : decode cX4_buyFor 13 = .ok (.istore 5, 2) := by decide +kernel
theorem dX4_buyFor_15 : decode cX4_buyFor 15 = .ok (.iload 5, 2) := by decide +kernel
theorem dX4_buyFor_17 : decode cX4_buyFor 17 = .ok (.i2l, 1) := by decide +kernel
theorem dX4_buyFor_18 : decode cX4_buyFor 18 = .ok (.aload_n 0, 1) := by decide +kernel
theorem dX4_buyFor_19 : decode cX4_buyFor 19 = .ok (.getfield 9, 3) := by decide +kernel
theorem dX4_buyFor_22 : decode cX4_buyFor 22 = .ok (.iload_n 2, 1) := by decide +kernel
theorem dX4_buyFor_23 : decode cX4_buyFor 23 = .ok (.laload, 1) := by decide +kernel
theorem dX4_buyFor_24 : decode cX4_buyFor 24 = .ok (.lload_n 3, 1) := by decide +kernel
theorem dX4_buyFor_25 : decode cX4_buyFor 25 = .ok (.ldiv, 1) := by decide +kernel
theorem dX4_buyFor_26 : decode cX4_buyFor 26 = .ok (.invokestatic 62, 3) := by decide +kernel
theorem dX4_buyFor_29 : decode cX4_buyFor 29 = .ok (.l2i, 1) := by decide +kernel
theorem dX4_buyFor_30 : decode cX4_buyFor 30 = .ok (.istore 6, 2) := by decide +kernel
theorem dX4_buyFor_32 : decode cX4_buyFor 32 = .ok (.iconst 0, 1) := by decide +kernel
theorem dX4_buyFor_33 : decode cX4_buyFor 33 = .ok (.istore 7, 2) := by decide +kernel
theorem dX4_buyFor_35 : decode cX4_buyFor 35 = .ok (.iload 7, 2) := by decide +kernel
theorem dX4_buyFor_37 : decode cX4_buyFor 37 = .ok (.aload_n 1, 1) := by decide +kernel
theorem dX4_buyFor_38 : decode cX4_buyFor 38 = .ok (.getfield 19, 3) := by decide +kernel
theorem dX4_buyFor_41 : decode cX4_buyFor 41 = .ok (.if_icmp .ge 73, 3) := by decide +kernel
theorem dX4_buyFor_44 : decode cX4_buyFor 44 = .ok (.iload 6, 2) := by decide +kernel
theorem dX4_buyFor_46 : decode cX4_buyFor 46 = .ok (.ifCond .le 68, 3) := by decide +kernel
theorem dX4_buyFor_49 : decode cX4_buyFor 49 = .ok (.iload 7, 2) := by decide +kernel
theorem dX4_buyFor_51 : decode cX4_buyFor 51 = .ok (.iload_n 2, 1) := by decide +kernel
theorem dX4_buyFor_52 : decode cX4_buyFor 52 = .ok (.if_icmp .eq 56, 3) := by decide +kernel
theorem dX4_buyFor_55 : decode cX4_buyFor 55 = .ok (.iload 6, 2) := by decide +kernel
theorem dX4_buyFor_57 : decode cX4_buyFor 57 = .ok (.aload_n 0, 1) := by decide +kernel
theorem dX4_buyFor_58 : decode cX4_buyFor 58 = .ok (.getfield 15, 3) := by decide +kernel
theorem dX4_buyFor_61 : decode cX4_buyFor 61 = .ok (.iload 7, 2) := by decide +kernel
theorem dX4_buyFor_63 : decode cX4_buyFor 63 = .ok (.iaload, 1) := by decide +kernel
theorem dX4_buyFor_64 : decode cX4_buyFor 64 = .ok (.invokestatic 72, 3) := by decide +kernel
theorem dX4_buyFor_67 : decode cX4_buyFor 67 = .ok (.istore 8, 2) := by decide +kernel
theorem dX4_buyFor_69 : decode cX4_buyFor 69 = .ok (.iload 6, 2) := by decide +kernel
theorem dX4_buyFor_71 : decode cX4_buyFor 71 = .ok (.iload 8, 2) := by decide +kernel
theorem dX4_buyFor_73 : decode cX4_buyFor 73 = .ok (.isub, 1) := by decide +kernel
theorem dX4_buyFor_74 : decode cX4_buyFor 74 = .ok (.istore 6, 2) := by decide +kernel
theorem dX4_buyFor_76 : decode cX4_buyFor 76 = .ok (.aload_n 0, 1) := by decide +kernel
theorem dX4_buyFor_77 : decode cX4_buyFor 77 = .ok (.getfield 15, 3) := by decide +kernel
theorem dX4_buyFor_80 : decode cX4_buyFor 80 = .ok (.iload 7, 2) := by decide +kernel
theorem dX4_buyFor_82 : decode cX4_buyFor 82 = .ok (.dup2, 1) := by decide +kernel
theorem dX4_buyFor_83 : decode cX4_buyFor 83 = .ok (.iaload, 1) := by decide +kernel
theorem dX4_buyFor_84 : decode cX4_buyFor 84 = .ok (.iload 8, 2) := by decide +kernel
theorem dX4_buyFor_86 : decode cX4_buyFor 86 = .ok (.isub, 1) := by decide +kernel
theorem dX4_buyFor_87 : decode cX4_buyFor 87 = .ok (.iastore, 1) := by decide +kernel
theorem dX4_buyFor_88 : decode cX4_buyFor 88 = .ok (.aload_n 1, 1) := by decide +kernel
theorem dX4_buyFor_89 : decode cX4_buyFor 89 = .ok (.aload_n 1, 1) := by decide +kernel
theorem dX4_buyFor_90 : decode cX4_buyFor 90 = .ok (.getfield 25, 3) := by decide +kernel
theorem dX4_buyFor_93 : decode cX4_buyFor 93 = .ok (.iload_n 2, 1) := by decide +kernel
theorem dX4_buyFor_94 : decode cX4_buyFor 94 = .ok (.aaload, 1) := by decide +kernel
theorem dX4_buyFor_95 : decode cX4_buyFor 95 = .ok (.aload_n 1, 1) := by decide +kernel
theorem dX4_buyFor_96 : decode cX4_buyFor 96 = .ok (.getfield 25, 3) := by decide +kernel
theorem dX4_buyFor_99 : decode cX4_buyFor 99 = .ok (.iload 7, 2) := by decide +kernel
theorem dX4_buyFor_101 : decode cX4_buyFor 101 = .ok (.aaload, 1) := by decide +kernel
theorem dX4_buyFor_102 : decode cX4_buyFor 102 = .ok (.iload 8, 2) := by decide +kernel
theorem dX4_buyFor_104 : decode cX4_buyFor 104 = .ok (.lload_n 3, 1) := by decide +kernel
theorem dX4_buyFor_105 : decode cX4_buyFor 105 = .ok (.invokevirtual 74, 3) := by decide +kernel
theorem dX4_buyFor_108 : decode cX4_buyFor 108 = .ok (.iinc 7 1, 3) := by decide +kernel
theorem dX4_buyFor_111 : decode cX4_buyFor 111 = .ok (.goto (-76), 3) := by decide +kernel
theorem dX4_buyFor_114 : decode cX4_buyFor 114 = .ok (.return_, 1) := by decide +kernel
theorem dX5_init_0 : decode cX5_init 0 = .ok (.aload_n 0, 1) := by decide +kernel
theorem dX5_init_1 : decode cX5_init 1 = .ok (.invokespecial 3, 3) := by decide +kernel
theorem dX5_init_4 : decode cX5_init 4 = .ok (.return_, 1) := by decide +kernel
theorem dX5_take_0 : decode cX5_take 0 = .ok (.aload_n 0, 1) := by decide +kernel
theorem dX5_take_1 : decode cX5_take 1 = .ok (.aload_n 1, 1) := by decide +kernel
theorem dX5_take_2 : decode cX5_take 2 = .ok (.getfield 9, 3) := by decide +kernel
theorem dX5_take_5 : decode cX5_take 5 = .ok (.putfield 9, 3) := by decide +kernel
theorem dX5_take_8 : decode cX5_take 8 = .ok (.aload_n 0, 1) := by decide +kernel
theorem dX5_take_9 : decode cX5_take 9 = .ok (.aload_n 1, 1) := by decide +kernel
theorem dX5_take_10 : decode cX5_take 10 = .ok (.getfield 15, 3) := by decide +kernel
theorem dX5_take_13 : decode cX5_take 13 = .ok (.putfield 15, 3) := by decide +kernel
theorem dX5_take_16 : decode cX5_take 16 = .ok (.aload_n 0, 1) := by decide +kernel
theorem dX5_take_17 : decode cX5_take 17 = .ok (.aload_n 1, 1) := by decide +kernel
theorem dX5_take_18 : decode cX5_take 18 = .ok (.getfield 18, 3) := by decide +kernel
theorem dX5_take_21 : decode cX5_take 21 = .ok (.putfield 18, 3) := by decide +kernel
theorem dX5_take_24 : decode cX5_take 24 = .ok (.aload_n 0, 1) := by decide +kernel
theorem dX5_take_25 : decode cX5_take 25 = .ok (.aload_n 1, 1) := by decide +kernel
theorem dX5_take_26 : decode cX5_take 26 = .ok (.getfield 21, 3) := by decide +kernel
theorem dX5_take_29 : decode cX5_take 29 = .ok (.putfield 21, 3) := by decide +kernel
theorem dX5_take_32 : decode cX5_take 32 = .ok (.aload_n 0, 1) := by decide +kernel
theorem dX5_take_33 : decode cX5_take 33 = .ok (.aload_n 1, 1) := by decide +kernel
theorem dX5_take_34 : decode cX5_take 34 = .ok (.getfield 25, 3) := by decide +kernel
theorem dX5_take_37 : decode cX5_take 37 = .ok (.putfield 25, 3) := by decide +kernel
theorem dX5_take_40 : decode cX5_take 40 = .ok (.aload_n 0, 1) := by decide +kernel
theorem dX5_take_41 : decode cX5_take 41 = .ok (.aload_n 1, 1) := by decide +kernel
theorem dX5_take_42 : decode cX5_take 42 = .ok (.getfield 28, 3) := by decide +kernel
theorem dX5_take_45 : decode cX5_take 45 = .ok (.putfield 28, 3) := by decide +kernel
theorem dX5_take_48 : decode cX5_take 48 = .ok (.aload_n 0, 1) := by decide +kernel
theorem dX5_take_49 : decode cX5_take 49 = .ok (.aload_n 1, 1) := by decide +kernel
theorem dX5_take_50 : decode cX5_take 50 = .ok (.getfield 31, 3) := by decide +kernel
theorem dX5_take_53 : decode cX5_take 53 = .ok (.putfield 31, 3) := by decide +kernel
theorem dX5_take_56 : decode cX5_take 56 = .ok (.return_, 1) := by decide +kernel
theorem dX5_isOpen_0 : decode cX5_isOpen 0 = .ok (.aload_n 0, 1) := by decide +kernel
theorem dX5_isOpen_1 : decode cX5_isOpen 1 = .ok (.getfield 31, 3) := by decide +kernel
theorem dX5_isOpen_4 : decode cX5_isOpen 4 = .ok (.ifCond .ne 7, 3) := by decide +kernel
theorem dX5_isOpen_7 : decode cX5_isOpen 7 = .ok (.iconst 1, 1) := by decide +kernel
theorem dX5_isOpen_8 : decode cX5_isOpen 8 = .ok (.goto 4, 3) := by decide +kernel
theorem dX5_isOpen_11 : decode cX5_isOpen 11 = .ok (.iconst 0, 1) := by decide +kernel
theorem dX5_isOpen_12 : decode cX5_isOpen 12 = .ok (.ireturn, 1) := by decide +kernel
theorem dX5_isPaidAtOnce_0 : decode cX5_isPaidAtOnce 0 = .ok (.aload_n 0, 1) := by decide +kernel
theorem dX5_isPaidAtOnce_1 : decode cX5_isPaidAtOnce 1 = .ok (.getfield 9, 3) := by decide +kernel
theorem dX5_isPaidAtOnce_4 : decode cX5_isPaidAtOnce 4 = .ok (.iconst 1, 1) := by decide +kernel
theorem dX5_isPaidAtOnce_5 : decode cX5_isPaidAtOnce 5 = .ok (.if_icmp .eq 11, 3) := by decide +kernel
theorem dX5_isPaidAtOnce_8 : decode cX5_isPaidAtOnce 8 = .ok (.aload_n 0, 1) := by decide +kernel
theorem dX5_isPaidAtOnce_9 : decode cX5_isPaidAtOnce 9 = .ok (.getfield 9, 3) := by decide +kernel
theorem dX5_isPaidAtOnce_12 : decode cX5_isPaidAtOnce 12 = .ok (.iconst 2, 1) := by decide +kernel
theorem dX5_isPaidAtOnce_13 : decode cX5_isPaidAtOnce 13 = .ok (.if_icmp .ne 7, 3) := by decide +kernel
theorem dX5_isPaidAtOnce_16 : decode cX5_isPaidAtOnce 16 = .ok (.iconst 1, 1) := by decide +kernel
theorem dX5_isPaidAtOnce_17 : decode cX5_isPaidAtOnce 17 = .ok (.goto 4, 3) := by decide +kernel
theorem dX5_isPaidAtOnce_20 : decode cX5_isPaidAtOnce 20 = .ok (.iconst 0, 1) := by decide +kernel
theorem dX5_isPaidAtOnce_21 : decode cX5_isPaidAtOnce 21 = .ok (.ireturn, 1) := by decide +kernel
theorem dX5_isUnder_0 : decode cX5_isUnder 0 = .ok (.aload_n 0, 1) := by decide +kernel
theorem dX5_isUnder_1 : decode cX5_isUnder 1 = .ok (.getfield 9, 3) := by decide +kernel
theorem dX5_isUnder_4 : decode cX5_isUnder 4 = .ok (.istore_n 2, 1) := by decide +kernel
theorem dX5_isUnder_5 : decode cX5_isUnder 5 = .ok (.iconst 0, 1) := by decide +kernel
theorem dX5_isUnder_6 : decode cX5_isUnder 6 = .ok (.istore_n 3, 1) := by decide +kernel
theorem dX5_isUnder_7 : decode cX5_isUnder 7 = .ok (.iload_n 3, 1) := by decide +kernel
theorem dX5_isUnder_8 : decode cX5_isUnder 8 = .ok (.bipush 6, 2) := by decide +kernel
theorem dX5_isUnder_10 : decode cX5_isUnder 10 = .ok (.if_icmp .ge 34, 3) := by decide +kernel
theorem dX5_isUnder_13 : decode cX5_isUnder 13 = .ok (.iload_n 2, 1) := by decide +kernel
theorem dX5_isUnder_14 : decode cX5_isUnder 14 = .ok (.ifCond .lt 30, 3) := by decide +kernel
theorem dX5_isUnder_17 : decode cX5_isUnder 17 = .ok (.iload_n 2, 1) := by decide +kernel
theorem dX5_isUnder_18 : decode cX5_isUnder 18 = .ok (.getstatic 34, 3) := by decide +kernel
theorem dX5_isUnder_21 : decode cX5_isUnder 21 = .ok (.arraylength, 1) := by decide +kernel
theorem dX5_isUnder_22 : decode cX5_isUnder 22 = .ok (.if_icmp .ge 22, 3) := by decide +kernel
theorem dX5_isUnder_25 : decode cX5_isUnder 25 = .ok (.iload_n 2, 1) := by decide +kernel
theorem dX5_isUnder_26 : decode cX5_isUnder 26 = .ok (.iload_n 1, 1) := by decide +kernel
theorem dX5_isUnder_27 : decode cX5_isUnder 27 = .ok (.if_icmp .ne 5, 3) := by decide +kernel
theorem dX5_isUnder_30 : decode cX5_isUnder 30 = .ok (.iconst 1, 1) := by decide +kernel
theorem dX5_isUnder_31 : decode cX5_isUnder 31 = .ok (.ireturn, 1) := by decide +kernel
theorem dX5_isUnder_32 : decode cX5_isUnder 32 = .ok (.getstatic 34, 3) := by decide +kernel
theorem dX5_isUnder_35 : decode cX5_isUnder 35 = .ok (.iload_n 2, 1) := by decide +kernel
theorem dX5_isUnder_36 : decode cX5_isUnder 36 = .ok (.iaload, 1) := by decide +kernel
theorem dX5_isUnder_37 : decode cX5_isUnder 37 = .ok (.istore_n 2, 1) := by decide +kernel
theorem dX5_isUnder_38 : decode cX5_isUnder 38 = .ok (.iinc 3 1, 3) := by decide +kernel
theorem dX5_isUnder_41 : decode cX5_isUnder 41 = .ok (.goto (-34), 3) := by decide +kernel
theorem dX5_isUnder_44 : decode cX5_isUnder 44 = .ok (.iconst 0, 1) := by decide +kernel
theorem dX5_isUnder_45 : decode cX5_isUnder 45 = .ok (.ireturn, 1) := by decide +kernel
theorem dX5_isPayDay_0 : decode cX5_isPayDay 0 = .ok (.aload_n 0, 1) := by decide +kernel
theorem dX5_isPayDay_1 : decode cX5_isPayDay 1 = .ok (.getfield 9, 3) := by decide +kernel
theorem dX5_isPayDay_4 : decode cX5_isPayDay 4 = .ok (.iconst 3, 1) := by decide +kernel
theorem dX5_isPayDay_5 : decode cX5_isPayDay 5 = .ok (.if_icmp .ne 16, 3) := by decide +kernel
theorem dX5_isPayDay_8 : decode cX5_isPayDay 8 = .ok (.iload_n 1, 1) := by decide +kernel
theorem dX5_isPayDay_9 : decode cX5_isPayDay 9 = .ok (.bipush 10, 2) := by decide +kernel
theorem dX5_isPayDay_11 : decode cX5_isPayDay 11 = .ok (.irem, 1) := by decide +kernel
theorem dX5_isPayDay_12 : decode cX5_isPayDay 12 = .ok (.ifCond .ne 7, 3) := by decide +kernel
theorem dX5_isPayDay_15 : decode cX5_isPayDay 15 = .ok (.iconst 1, 1) := by decide +kernel
theorem dX5_isPayDay_16 : decode cX5_isPayDay 16 = .ok (.goto 4, 3) := by decide +kernel
theorem dX5_isPayDay_19 : decode cX5_isPayDay 19 = .ok (.iconst 0, 1) := by decide +kernel
theorem dX5_isPayDay_20 : decode cX5_isPayDay 20 = .ok (.ireturn, 1) := by decide +kernel
theorem dX5_isPayDay_21 : decode cX5_isPayDay 21 = .ok (.aload_n 0, 1) := by decide +kernel
theorem dX5_isPayDay_22 : decode cX5_isPayDay 22 = .ok (.invokevirtual 38, 3) := by decide +kernel
theorem dX5_isPayDay_25 : decode cX5_isPayDay 25 = .ok (.ifCond .eq 15, 3) := by decide +kernel
theorem dX5_isPayDay_28 : decode cX5_isPayDay 28 = .ok (.aload_n 0, 1) := by decide +kernel
theorem dX5_isPayDay_29 : decode cX5_isPayDay 29 = .ok (.getfield 28, 3) := by decide +kernel
theorem dX5_isPayDay_32 : decode cX5_isPayDay 32 = .ok (.iload_n 1, 1) := by decide +kernel
theorem dX5_isPayDay_33 : decode cX5_isPayDay 33 = .ok (.if_icmp .gt 7, 3) := by decide +kernel
theorem dX5_isPayDay_36 : decode cX5_isPayDay 36 = .ok (.iconst 1, 1) := by decide +kernel
theorem dX5_isPayDay_37 : decode cX5_isPayDay 37 = .ok (.goto 4, 3) := by decide +kernel
theorem dX5_isPayDay_40 : decode cX5_isPayDay 40 = .ok (.iconst 0, 1) := by decide +kernel
theorem dX5_isPayDay_41 : decode cX5_isPayDay 41 = .ok (.ireturn, 1) := by decide +kernel
theorem dX5_endsOn_0 : decode cX5_endsOn 0 = .ok (.aload_n 0, 1) := by decide +kernel
theorem dX5_endsOn_1 : decode cX5_endsOn 1 = .ok (.getfield 9, 3) := by decide +kernel
theorem dX5_endsOn_4 : decode cX5_endsOn 4 = .ok (.iconst 3, 1) := by decide +kernel
theorem dX5_endsOn_5 : decode cX5_endsOn 5 = .ok (.if_icmp .eq 11, 3) := by decide +kernel
theorem dX5_endsOn_8 : decode cX5_endsOn 8 = .ok (.aload_n 0, 1) := by decide +kernel
theorem dX5_endsOn_9 : decode cX5_endsOn 9 = .ok (.getfield 9, 3) := by decide +kernel
theorem dX5_endsOn_12 : decode cX5_endsOn 12 = .ok (.iconst 4, 1) := by decide +kernel
theorem dX5_endsOn_13 : decode cX5_endsOn 13 = .ok (.if_icmp .ne 15, 3) := by decide +kernel
theorem dX5_endsOn_16 : decode cX5_endsOn 16 = .ok (.aload_n 0, 1) := by decide +kernel
theorem dX5_endsOn_17 : decode cX5_endsOn 17 = .ok (.getfield 28, 3) := by decide +kernel
theorem dX5_endsOn_20 : decode cX5_endsOn 20 = .ok (.iload_n 1, 1) := by decide +kernel
theorem dX5_endsOn_21 : decode cX5_endsOn 21 = .ok (.if_icmp .ne 7, 3) := by decide +kernel
theorem dX5_endsOn_24 : decode cX5_endsOn 24 = .ok (.iconst 1, 1) := by decide +kernel
theorem dX5_endsOn_25 : decode cX5_endsOn 25 = .ok (.goto 4, 3) := by decide +kernel
theorem dX5_endsOn_28 : decode cX5_endsOn 28 = .ok (.iconst 0, 1) := by decide +kernel
theorem dX5_endsOn_29 : decode cX5_endsOn 29 = .ok (.ireturn, 1) := by decide +kernel
theorem dX5_tell_0 : decode cX5_tell 0 = .ok (.iload_n 1, 1) := by decide +kernel
theorem dX5_tell_1 : decode cX5_tell 1 = .ok (.tableswitch 74 0 5 #[39, 45, 51, 57, 62, 68], 39) := by decide +kernel
theorem dX5_tell_40 : decode cX5_tell 40 = .ok (.aload_n 0, 1) := by decide +kernel
theorem dX5_tell_41 : decode cX5_tell 41 = .ok (.getfield 9, 3) := by decide +kernel
theorem dX5_tell_44 : decode cX5_tell 44 = .ok (.i2l, 1) := by decide +kernel
theorem dX5_tell_45 : decode cX5_tell 45 = .ok (.lreturn, 1) := by decide +kernel
theorem dX5_tell_46 : decode cX5_tell 46 = .ok (.aload_n 0, 1) := by decide +kernel
theorem dX5_tell_47 : decode cX5_tell 47 = .ok (.getfield 15, 3) := by decide +kernel
theorem dX5_tell_50 : decode cX5_tell 50 = .ok (.i2l, 1) := by decide +kernel
theorem dX5_tell_51 : decode cX5_tell 51 = .ok (.lreturn, 1) := by decide +kernel
theorem dX5_tell_52 : decode cX5_tell 52 = .ok (.aload_n 0, 1) := by decide +kernel
theorem dX5_tell_53 : decode cX5_tell 53 = .ok (.getfield 18, 3) := by decide +kernel
theorem dX5_tell_56 : decode cX5_tell 56 = .ok (.i2l, 1) := by decide +kernel
theorem dX5_tell_57 : decode cX5_tell 57 = .ok (.lreturn, 1) := by decide +kernel
theorem dX5_tell_58 : decode cX5_tell 58 = .ok (.aload_n 0, 1) := by decide +kernel
theorem dX5_tell_59 : decode cX5_tell 59 = .ok (.getfield 21, 3) := by decide +kernel
theorem dX5_tell_62 : decode cX5_tell 62 = .ok (.lreturn, 1) := by decide +kernel
theorem dX5_tell_63 : decode cX5_tell 63 = .ok (.aload_n 0, 1) := by decide +kernel
theorem dX5_tell_64 : decode cX5_tell 64 = .ok (.getfield 25, 3) := by decide +kernel
theorem dX5_tell_67 : decode cX5_tell 67 = .ok (.i2l, 1) := by decide +kernel
theorem dX5_tell_68 : decode cX5_tell 68 = .ok (.lreturn, 1) := by decide +kernel
theorem dX5_tell_69 : decode cX5_tell 69 = .ok (.aload_n 0, 1) := by decide +kernel
theorem dX5_tell_70 : decode cX5_tell 70 = .ok (.getfield 28, 3) := by decide +kernel
theorem dX5_tell_73 : decode cX5_tell 73 = .ok (.i2l, 1) := by decide +kernel
theorem dX5_tell_74 : decode cX5_tell 74 = .ok (.lreturn, 1) := by decide +kernel
theorem dX5_tell_75 : decode cX5_tell 75 = .ok (.aload_n 0, 1) := by decide +kernel
theorem dX5_tell_76 : decode cX5_tell 76 = .ok (.getfield 31, 3) := by decide +kernel
theorem dX5_tell_79 : decode cX5_tell 79 = .ok (.i2l, 1) := by decide +kernel
theorem dX5_tell_80 : decode cX5_tell 80 = .ok (.lreturn, 1) := by decide +kernel
theorem dX6_init_0 : decode cX6_init 0 = .ok (.aload_n 0, 1) := by decide +kernel
theorem dX6_init_1 : decode cX6_init 1 = .ok (.invokespecial 3, 3) := by decide +kernel
theorem dX6_init_4 : decode cX6_init 4 = .ok (.return_, 1) := by decide +kernel
theorem dX6_begin_0 : decode cX6_begin 0 = .ok (.aload_n 0, 1) := by decide +kernel
theorem dX6_begin_1 : decode cX6_begin 1 = .ok (.lload_n 1, 1) := by decide +kernel
theorem dX6_begin_2 : decode cX6_begin 2 = .ok (.putfield 9, 3) := by decide +kernel
theorem dX6_begin_5 : decode cX6_begin 5 = .ok (.aload_n 0, 1) := by decide +kernel
theorem dX6_begin_6 : decode cX6_begin 6 = .ok (.iload_n 3, 1) := by decide +kernel
theorem dX6_begin_7 : decode cX6_begin 7 = .ok (.putfield 15, 3) := by decide +kernel
theorem dX6_begin_10 : decode cX6_begin 10 = .ok (.aload_n 0, 1) := by decide +kernel
theorem dX6_begin_11 : decode cX6_begin 11 = .ok (.iload 4, 2) := by decide +kernel
theorem dX6_begin_13 : decode cX6_begin 13 = .ok (.putfield 19, 3) := by decide +kernel
theorem dX6_begin_16 : decode cX6_begin 16 = .ok (.aload_n 0, 1) := by decide +kernel
theorem dX6_begin_17 : decode cX6_begin 17 = .ok (.iconst 5, 1) := by decide +kernel
theorem dX6_begin_18 : decode cX6_begin 18 = .ok (.putfield 22, 3) := by decide +kernel
theorem dX6_begin_21 : decode cX6_begin 21 = .ok (.aload_n 0, 1) := by decide +kernel
theorem dX6_begin_22 : decode cX6_begin 22 = .ok (.sipush 1000, 3) := by decide +kernel
theorem dX6_begin_25 : decode cX6_begin 25 = .ok (.putfield 25, 3) := by decide +kernel
theorem dX6_begin_28 : decode cX6_begin 28 = .ok (.aload_n 0, 1) := by decide +kernel
theorem dX6_begin_29 : decode cX6_begin 29 = .ok (.iconst 0, 1) := by decide +kernel
theorem dX6_begin_30 : decode cX6_begin 30 = .ok (.putfield 28, 3) := by decide +kernel
theorem dX6_begin_33 : decode cX6_begin 33 = .ok (.aload_n 0, 1) := by decide +kernel
theorem dX6_begin_34 : decode cX6_begin 34 = .ok (.lconst 0, 1) := by decide +kernel
theorem dX6_begin_35 : decode cX6_begin 35 = .ok (.putfield 31, 3) := by decide +kernel
theorem dX6_begin_38 : decode cX6_begin 38 = .ok (.aload_n 0, 1) := by decide +kernel
theorem dX6_begin_39 : decode cX6_begin 39 = .ok (.lconst 0, 1) := by decide +kernel
theorem dX6_begin_40 : decode cX6_begin 40 = .ok (.putfield 34, 3) := by decide +kernel
theorem dX6_begin_43 : decode cX6_begin 43 = .ok (.aload_n 0, 1) := by decide +kernel
theorem dX6_begin_44 : decode cX6_begin 44 = .ok (.lconst 0, 1) := by decide +kernel
theorem dX6_begin_45 : decode cX6_begin 45 = .ok (.putfield 37, 3) := by decide +kernel
theorem dX6_begin_48 : decode cX6_begin 48 = .ok (.aload_n 0, 1) := by decide +kernel
theorem dX6_begin_49 : decode cX6_begin 49 = .ok (.lconst 0, 1) := by decide +kernel
theorem dX6_begin_50 : decode cX6_begin 50 = .ok (.putfield 40, 3) := by decide +kernel
theorem dX6_begin_53 : decode cX6_begin 53 = .ok (.return_, 1) := by decide +kernel
theorem dX6_take_0 : decode cX6_take 0 = .ok (.aload_n 0, 1) := by decide +kernel
theorem dX6_take_1 : decode cX6_take 1 = .ok (.aload_n 1, 1) := by decide +kernel
theorem dX6_take_2 : decode cX6_take 2 = .ok (.getfield 9, 3) := by decide +kernel
theorem dX6_take_5 : decode cX6_take 5 = .ok (.putfield 9, 3) := by decide +kernel
theorem dX6_take_8 : decode cX6_take 8 = .ok (.aload_n 0, 1) := by decide +kernel
theorem dX6_take_9 : decode cX6_take 9 = .ok (.aload_n 1, 1) := by decide +kernel
theorem dX6_take_10 : decode cX6_take 10 = .ok (.getfield 15, 3) := by decide +kernel
theorem dX6_take_13 : decode cX6_take 13 = .ok (.putfield 15, 3) := by decide +kernel
theorem dX6_take_16 : decode cX6_take 16 = .ok (.aload_n 0, 1) := by decide +kernel
theorem dX6_take_17 : decode cX6_take 17 = .ok (.aload_n 1, 1) := by decide +kernel
theorem dX6_take_18 : decode cX6_take 18 = .ok (.getfield 19, 3) := by decide +kernel
theorem dX6_take_21 : decode cX6_take 21 = .ok (.putfield 19, 3) := by decide +kernel
theorem dX6_take_24 : decode cX6_take 24 = .ok (.aload_n 0, 1) := by decide +kernel
theorem dX6_take_25 : decode cX6_take 25 = .ok (.aload_n 1, 1) := by decide +kernel
theorem dX6_take_26 : decode cX6_take 26 = .ok (.getfield 22, 3) := by decide +kernel
theorem dX6_take_29 : decode cX6_take 29 = .ok (.putfield 22, 3) := by decide +kernel
theorem dX6_take_32 : decode cX6_take 32 = .ok (.aload_n 0, 1) := by decide +kernel
theorem dX6_take_33 : decode cX6_take 33 = .ok (.aload_n 1, 1) := by decide +kernel
theorem dX6_take_34 : decode cX6_take 34 = .ok (.getfield 25, 3) := by decide +kernel
theorem dX6_take_37 : decode cX6_take 37 = .ok (.putfield 25, 3) := by decide +kernel
theorem dX6_take_40 : decode cX6_take 40 = .ok (.aload_n 0, 1) := by decide +kernel
theorem dX6_take_41 : decode cX6_take 41 = .ok (.aload_n 1, 1) := by decide +kernel
theorem dX6_take_42 : decode cX6_take 42 = .ok (.getfield 28, 3) := by decide +kernel
theorem dX6_take_45 : decode cX6_take 45 = .ok (.putfield 28, 3) := by decide +kernel
theorem dX6_take_48 : decode cX6_take 48 = .ok (.aload_n 0, 1) := by decide +kernel
theorem dX6_take_49 : decode cX6_take 49 = .ok (.aload_n 1, 1) := by decide +kernel
theorem dX6_take_50 : decode cX6_take 50 = .ok (.getfield 31, 3) := by decide +kernel
theorem dX6_take_53 : decode cX6_take 53 = .ok (.putfield 31, 3) := by decide +kernel
theorem dX6_take_56 : decode cX6_take 56 = .ok (.aload_n 0, 1) := by decide +kernel
theorem dX6_take_57 : decode cX6_take 57 = .ok (.aload_n 1, 1) := by decide +kernel
theorem dX6_take_58 : decode cX6_take 58 = .ok (.getfield 34, 3) := by decide +kernel
theorem dX6_take_61 : decode cX6_take 61 = .ok (.putfield 34, 3) := by decide +kernel
theorem dX6_take_64 : decode cX6_take 64 = .ok (.aload_n 0, 1) := by decide +kernel
theorem dX6_take_65 : decode cX6_take 65 = .ok (.aload_n 1, 1) := by decide +kernel
theorem dX6_take_66 : decode cX6_take 66 = .ok (.getfield 37, 3) := by decide +kernel
theorem dX6_take_69 : decode cX6_take 69 = .ok (.putfield 37, 3) := by decide +kernel
theorem dX6_take_72 : decode cX6_take 72 = .ok (.aload_n 0, 1) := by decide +kernel
theorem dX6_take_73 : decode cX6_take 73 = .ok (.aload_n 1, 1) := by decide +kernel
theorem dX6_take_74 : decode cX6_take 74 = .ok (.getfield 40, 3) := by decide +kernel
theorem dX6_take_77 : decode cX6_take 77 = .ok (.putfield 40, 3) := by decide +kernel
theorem dX6_take_80 : decode cX6_take 80 = .ok (.return_, 1) := by decide +kernel
theorem dX6_changeHabit_0 : decode cX6_changeHabit 0 = .ok (.iload_n 1, 1) := by decide +kernel
theorem dX6_changeHabit_1 : decode cX6_changeHabit 1 = .ok (.ifCond .ne 16, 3) := by decide +kernel
theorem dX6_changeHabit_4 : decode cX6_changeHabit 4 = .ok (.aload_n 0, 1) := by decide +kernel
theorem dX6_changeHabit_5 : decode cX6_changeHabit 5 = .ok (.getfield 22, 3) := by decide +kernel
theorem dX6_changeHabit_8 : decode cX6_changeHabit 8 = .ok (.istore_n 3, 1) := by decide +kernel
theorem dX6_changeHabit_9 : decode cX6_changeHabit 9 = .ok (.aload_n 0, 1) := by decide +kernel
theorem dX6_changeHabit_10 : decode cX6_changeHabit 10 = .ok (.iload_n 2, 1) := by decide +kernel
theorem dX6_changeHabit_11 : decode cX6_changeHabit 11 = .ok (.putfield 22, 3) := by decide +kernel
theorem dX6_changeHabit_14 : decode cX6_changeHabit 14 = .ok (.goto 31, 3) := by decide +kernel
theorem dX6_changeHabit_17 : decode cX6_changeHabit 17 = .ok (.iload_n 1, 1) := by decide +kernel
theorem dX6_changeHabit_18 : decode cX6_changeHabit 18 = .ok (.iconst 1, 1) := by decide +kernel
theorem dX6_changeHabit_19 : decode cX6_changeHabit 19 = .ok (.if_icmp .ne 16, 3) := by decide +kernel
theorem dX6_changeHabit_22 : decode cX6_changeHabit 22 = .ok (.aload_n 0, 1) := by decide +kernel
theorem dX6_changeHabit_23 : decode cX6_changeHabit 23 = .ok (.getfield 25, 3) := by decide +kernel
theorem dX6_changeHabit_26 : decode cX6_changeHabit 26 = .ok (.istore_n 3, 1) := by decide +kernel
theorem dX6_changeHabit_27 : decode cX6_changeHabit 27 = .ok (.aload_n 0, 1) := by decide +kernel
theorem dX6_changeHabit_28 : decode cX6_changeHabit 28 = .ok (.iload_n 2, 1) := by decide +kernel
theorem dX6_changeHabit_29 : decode cX6_changeHabit 29 = .ok (.putfield 25, 3) := by decide +kernel
theorem dX6_changeHabit_32 : decode cX6_changeHabit 32 = .ok (.goto 13, 3) := by decide +kernel
theorem dX6_changeHabit_35 : decode cX6_changeHabit 35 = .ok (.aload_n 0, 1) := by decide +kernel
theorem dX6_changeHabit_36 : decode cX6_changeHabit 36 = .ok (.getfield 19, 3) := by decide +kernel
theorem dX6_changeHabit_39 : decode cX6_changeHabit 39 = .ok (.istore_n 3, 1) := by decide +kernel
theorem dX6_changeHabit_40 : decode cX6_changeHabit 40 = .ok (.aload_n 0, 1) := by decide +kernel
theorem dX6_changeHabit_41 : decode cX6_changeHabit 41 = .ok (.iload_n 2, 1) := by decide +kernel
theorem dX6_changeHabit_42 : decode cX6_changeHabit 42 = .ok (.putfield 19, 3) := by decide +kernel
theorem dX6_changeHabit_45 : decode cX6_changeHabit 45 = .ok (.iload_n 3, 1) := by decide +kernel
theorem dX6_changeHabit_46 : decode cX6_changeHabit 46 = .ok (.ireturn, 1) := by decide +kernel
theorem dX6_tell_0 : decode cX6_tell 0 = .ok (.iload_n 1, 1) := by decide +kernel
theorem dX6_tell_1 : decode cX6_tell 1 = .ok (.tableswitch 83 0 6 #[43, 48, 54, 60, 66, 72, 78], 43) := by decide +kernel
theorem dX6_tell_44 : decode cX6_tell 44 = .ok (.aload_n 0, 1) := by decide +kernel
theorem dX6_tell_45 : decode cX6_tell 45 = .ok (.getfield 9, 3) := by decide +kernel
theorem dX6_tell_48 : decode cX6_tell 48 = .ok (.lreturn, 1) := by decide +kernel
theorem dX6_tell_49 : decode cX6_tell 49 = .ok (.aload_n 0, 1) := by decide +kernel
theorem dX6_tell_50 : decode cX6_tell 50 = .ok (.getfield 15, 3) := by decide +kernel
theorem dX6_tell_53 : decode cX6_tell 53 = .ok (.i2l, 1) := by decide +kernel
theorem dX6_tell_54 : decode cX6_tell 54 = .ok (.lreturn, 1) := by decide +kernel
