theorem dX10_isWithin_0 : decode cX10_isWithin 0 = .ok (.iload_n 1, 1) := by decide +kernel
theorem dX10_isWithin_1 : decode cX10_isWithin 1 = .ok (.istore_n 3, 1) := by decide +kernel
theorem dX10_isWithin_2 : decode cX10_isWithin 2 = .ok (.iload_n 3, 1) := by decide +kernel
theorem dX10_isWithin_3 : decode cX10_isWithin 3 = .ok (.ifCond .lt 22, 3) := by decide +kernel
theorem dX10_isWithin_6 : decode cX10_isWithin 6 = .ok (.iload_n 3, 1) := by decide +kernel
theorem dX10_isWithin_7 : decode cX10_isWithin 7 = .ok (.iload_n 2, 1) := by decide +kernel
theorem dX10_isWithin_8 : decode cX10_isWithin 8 = .ok (.if_icmp .eq 17, 3) := by decide +kernel
theorem dX10_isWithin_11 : decode cX10_isWithin 11 = .ok (.aload_n 0, 1) := by decide +kernel
theorem dX10_isWithin_12 : decode cX10_isWithin 12 = .ok (.getfield 7, 3) := by decide +kernel
theorem dX10_isWithin_15 : decode cX10_isWithin 15 = .ok (.iload_n 3, 1) := by decide +kernel
theorem dX10_isWithin_16 : decode cX10_isWithin 16 = .ok (.iconst 1, 1) := by decide +kernel
theorem dX10_isWithin_17 : decode cX10_isWithin 17 = .ok (.invokestatic 65, 3) := by decide +kernel
theorem dX10_isWithin_20 : decode cX10_isWithin 20 = .ok (.iaload, 1) := by decide +kernel
theorem dX10_isWithin_21 : decode cX10_isWithin 21 = .ok (.istore_n 3, 1) := by decide +kernel
theorem dX10_isWithin_22 : decode cX10_isWithin 22 = .ok (.goto (-20), 3) := by decide +kernel
theorem dX10_isWithin_25 : decode cX10_isWithin 25 = .ok (.iload_n 3, 1) := by decide +kernel
theorem dX10_isWithin_26 : decode cX10_isWithin 26 = .ok (.iload_n 2, 1) := by decide +kernel
theorem dX10_isWithin_27 : decode cX10_isWithin 27 = .ok (.if_icmp .ne 7, 3) := by decide +kernel
theorem dX10_isWithin_30 : decode cX10_isWithin 30 = .ok (.iconst 1, 1) := by decide +kernel
theorem dX10_isWithin_31 : decode cX10_isWithin 31 = .ok (.goto 4, 3) := by decide +kernel
theorem dX10_isWithin_34 : decode cX10_isWithin 34 = .ok (.iconst 0, 1) := by decide +kernel
theorem dX10_isWithin_35 : decode cX10_isWithin 35 = .ok (.ireturn, 1) := by decide +kernel
theorem dX10_points_0 : decode cX10_points 0 = .ok (.aload_n 0, 1) := by decide +kernel
theorem dX10_points_1 : decode cX10_points 1 = .ok (.invokevirtual 150, 3) := by decide +kernel
theorem dX10_points_4 : decode cX10_points 4 = .ok (.aload_n 0, 1) := by decide +kernel
theorem dX10_points_5 : decode cX10_points 5 = .ok (.aload_n 0, 1) := by decide +kernel
theorem dX10_points_6 : decode cX10_points 6 = .ok (.iload_n 1, 1) := by decide +kernel
theorem dX10_points_7 : decode cX10_points 7 = .ok (.invokevirtual 153, 3) := by decide +kernel
theorem dX10_points_10 : decode cX10_points 10 = .ok (.ifCond .eq 7, 3) := by decide +kernel
theorem dX10_points_13 : decode cX10_points 13 = .ok (.iconst 0, 1) := by decide +kernel
theorem dX10_points_14 : decode cX10_points 14 = .ok (.goto 4, 3) := by decide +kernel
theorem dX10_points_17 : decode cX10_points 17 = .ok (.iconst 1, 1) := by decide +kernel
theorem dX10_points_18 : decode cX10_points 18 = .ok (.putfield 51, 3) := by decide +kernel
theorem dX10_points_21 : decode cX10_points 21 = .ok (.iconst 0, 1) := by decide +kernel
theorem dX10_points_22 : decode cX10_points 22 = .ok (.istore_n 2, 1) := by decide +kernel
theorem dX10_points_23 : decode cX10_points 23 = .ok (.iconst 0, 1) := by decide +kernel
theorem dX10_points_24 : decode cX10_points 24 = .ok (.istore_n 3, 1) := by decide +kernel
theorem dX10_points_25 : decode cX10_points 25 = .ok (.aload_n 0, 1) := by decide +kernel
theorem dX10_points_26 : decode cX10_points 26 = .ok (.getfield 51, 3) := by decide +kernel
theorem dX10_points_29 : decode cX10_points 29 = .ok (.ifCond .ne 41, 3) := by decide +kernel
theorem dX10_points_32 : decode cX10_points 32 = .ok (.iload_n 3, 1) := by decide +kernel
theorem dX10_points_33 : decode cX10_points 33 = .ok (.aload_n 0, 1) := by decide +kernel
theorem dX10_points_34 : decode cX10_points 34 = .ok (.getfield 7, 3) := by decide +kernel
theorem dX10_points_37 : decode cX10_points 37 = .ok (.iconst 3, 1) := by decide +kernel
theorem dX10_points_38 : decode cX10_points 38 = .ok (.iaload, 1) := by decide +kernel
theorem dX10_points_39 : decode cX10_points 39 = .ok (.if_icmp .ge 31, 3) := by decide +kernel
theorem dX10_points_42 : decode cX10_points 42 = .ok (.iload_n 2, 1) := by decide +kernel
theorem dX10_points_43 : decode cX10_points 43 = .ok (.aload_n 0, 1) := by decide +kernel
theorem dX10_points_44 : decode cX10_points 44 = .ok (.iload_n 3, 1) := by decide +kernel
theorem dX10_points_45 : decode cX10_points 45 = .ok (.iload_n 1, 1) := by decide +kernel
theorem dX10_points_46 : decode cX10_points 46 = .ok (.invokevirtual 227, 3) := by decide +kernel
theorem dX10_points_49 : decode cX10_points 49 = .ok (.ifCond .eq 12, 3) := by decide +kernel
theorem dX10_points_52 : decode cX10_points 52 = .ok (.aload_n 0, 1) := by decide +kernel
theorem dX10_points_53 : decode cX10_points 53 = .ok (.getfield 28, 3) := by decide +kernel
theorem dX10_points_56 : decode cX10_points 56 = .ok (.iload_n 3, 1) := by decide +kernel
theorem dX10_points_57 : decode cX10_points 57 = .ok (.iaload, 1) := by decide +kernel
theorem dX10_points_58 : decode cX10_points 58 = .ok (.goto 4, 3) := by decide +kernel
theorem dX10_points_61 : decode cX10_points 61 = .ok (.iconst 0, 1) := by decide +kernel
theorem dX10_points_62 : decode cX10_points 62 = .ok (.iadd, 1) := by decide +kernel
theorem dX10_points_63 : decode cX10_points 63 = .ok (.istore_n 2, 1) := by decide +kernel
theorem dX10_points_64 : decode cX10_points 64 = .ok (.iinc 3 1, 3) := by decide +kernel
theorem dX10_points_67 : decode cX10_points 67 = .ok (.goto (-42), 3) := by decide +kernel
theorem dX10_points_70 : decode cX10_points 70 = .ok (.iload_n 2, 1) := by decide +kernel
theorem dX10_points_71 : decode cX10_points 71 = .ok (.ireturn, 1) := by decide +kernel
theorem dX10_lacks_0 : decode cX10_lacks 0 = .ok (.aload_n 0, 1) := by decide +kernel
theorem dX10_lacks_1 : decode cX10_lacks 1 = .ok (.invokevirtual 150, 3) := by decide +kernel
theorem dX10_lacks_4 : decode cX10_lacks 4 = .ok (.aload_n 0, 1) := by decide +kernel
theorem dX10_lacks_5 : decode cX10_lacks 5 = .ok (.aload_n 0, 1) := by decide +kernel
theorem dX10_lacks_6 : decode cX10_lacks 6 = .ok (.iload_n 1, 1) := by decide +kernel
theorem dX10_lacks_7 : decode cX10_lacks 7 = .ok (.invokevirtual 153, 3) := by decide +kernel
theorem dX10_lacks_10 : decode cX10_lacks 10 = .ok (.ifCond .eq 19, 3) := by decide +kernel
theorem dX10_lacks_13 : decode cX10_lacks 13 = .ok (.aload_n 0, 1) := by decide +kernel
theorem dX10_lacks_14 : decode cX10_lacks 14 = .ok (.iload_n 1, 1) := by decide +kernel
theorem dX10_lacks_15 : decode cX10_lacks 15 = .ok (.invokevirtual 86, 3) := by decide +kernel
theorem dX10_lacks_18 : decode cX10_lacks 18 = .ok (.ifCond .eq 7, 3) := by decide +kernel
theorem dX10_lacks_21 : decode cX10_lacks 21 = .ok (.iconst 2, 1) := by decide +kernel
theorem dX10_lacks_22 : decode cX10_lacks 22 = .ok (.goto 8, 3) := by decide +kernel
theorem dX10_lacks_25 : decode cX10_lacks 25 = .ok (.iconst 0, 1) := by decide +kernel
theorem dX10_lacks_26 : decode cX10_lacks 26 = .ok (.goto 4, 3) := by decide +kernel
theorem dX10_lacks_29 : decode cX10_lacks 29 = .ok (.iconst 1, 1) := by decide +kernel
theorem dX10_lacks_30 : decode cX10_lacks 30 = .ok (.putfield 51, 3) := by decide +kernel
theorem dX10_lacks_33 : decode cX10_lacks 33 = .ok (.aload_n 0, 1) := by decide +kernel
theorem dX10_lacks_34 : decode cX10_lacks 34 = .ok (.getfield 51, 3) := by decide +kernel
theorem dX10_lacks_37 : decode cX10_lacks 37 = .ok (.ifCond .gt 12, 3) := by decide +kernel
theorem dX10_lacks_40 : decode cX10_lacks 40 = .ok (.aload_n 0, 1) := by decide +kernel
theorem dX10_lacks_41 : decode cX10_lacks 41 = .ok (.getfield 31, 3) := by decide +kernel
theorem dX10_lacks_44 : decode cX10_lacks 44 = .ok (.iload_n 1, 1) := by decide +kernel
theorem dX10_lacks_45 : decode cX10_lacks 45 = .ok (.baload, 1) := by decide +kernel
theorem dX10_lacks_46 : decode cX10_lacks 46 = .ok (.ifCond .eq 7, 3) := by decide +kernel
theorem dX10_lacks_49 : decode cX10_lacks 49 = .ok (.iconst 0, 1) := by decide +kernel
theorem dX10_lacks_50 : decode cX10_lacks 50 = .ok (.goto 20, 3) := by decide +kernel
theorem dX10_lacks_53 : decode cX10_lacks 53 = .ok (.aload_n 0, 1) := by decide +kernel
theorem dX10_lacks_54 : decode cX10_lacks 54 = .ok (.getfield 7, 3) := by decide +kernel
theorem dX10_lacks_57 : decode cX10_lacks 57 = .ok (.iload_n 1, 1) := by decide +kernel
theorem dX10_lacks_58 : decode cX10_lacks 58 = .ok (.iconst 2, 1) := by decide +kernel
theorem dX10_lacks_59 : decode cX10_lacks 59 = .ok (.invokestatic 65, 3) := by decide +kernel
theorem dX10_lacks_62 : decode cX10_lacks 62 = .ok (.iaload, 1) := by decide +kernel
theorem dX10_lacks_63 : decode cX10_lacks 63 = .ok (.aload_n 0, 1) := by decide +kernel
theorem dX10_lacks_64 : decode cX10_lacks 64 = .ok (.getfield 28, 3) := by decide +kernel
theorem dX10_lacks_67 : decode cX10_lacks 67 = .ok (.iload_n 1, 1) := by decide +kernel
theorem dX10_lacks_68 : decode cX10_lacks 68 = .ok (.iaload, 1) := by decide +kernel
theorem dX10_lacks_69 : decode cX10_lacks 69 = .ok (.isub, 1) := by decide +kernel
theorem dX10_lacks_70 : decode cX10_lacks 70 = .ok (.ireturn, 1) := by decide +kernel
theorem dX10_allRoots_0 : decode cX10_allRoots 0 = .ok (.iconst 0, 1) := by decide +kernel
theorem dX10_allRoots_1 : decode cX10_allRoots 1 = .ok (.istore_n 1, 1) := by decide +kernel
theorem dX10_allRoots_2 : decode cX10_allRoots 2 = .ok (.iconst 0, 1) := by decide +kernel
theorem dX10_allRoots_3 : decode cX10_allRoots 3 = .ok (.istore_n 2, 1) := by decide +kernel
theorem dX10_allRoots_4 : decode cX10_allRoots 4 = .ok (.iload_n 2, 1) := by decide +kernel
theorem dX10_allRoots_5 : decode cX10_allRoots 5 = .ok (.aload_n 0, 1) := by decide +kernel
theorem dX10_allRoots_6 : decode cX10_allRoots 6 = .ok (.getfield 7, 3) := by decide +kernel
theorem dX10_allRoots_9 : decode cX10_allRoots 9 = .ok (.iconst 3, 1) := by decide +kernel
theorem dX10_allRoots_10 : decode cX10_allRoots 10 = .ok (.iaload, 1) := by decide +kernel
theorem dX10_allRoots_11 : decode cX10_allRoots 11 = .ok (.if_icmp .ge 30, 3) := by decide +kernel
theorem dX10_allRoots_14 : decode cX10_allRoots 14 = .ok (.iload_n 1, 1) := by decide +kernel
theorem dX10_allRoots_15 : decode cX10_allRoots 15 = .ok (.aload_n 0, 1) := by decide +kernel
theorem dX10_allRoots_16 : decode cX10_allRoots 16 = .ok (.getfield 7, 3) := by decide +kernel
theorem dX10_allRoots_19 : decode cX10_allRoots 19 = .ok (.iload_n 2, 1) := by decide +kernel
theorem dX10_allRoots_20 : decode cX10_allRoots 20 = .ok (.iconst 1, 1) := by decide +kernel
theorem dX10_allRoots_21 : decode cX10_allRoots 21 = .ok (.invokestatic 65, 3) := by decide +kernel
theorem dX10_allRoots_24 : decode cX10_allRoots 24 = .ok (.iaload, 1) := by decide +kernel
theorem dX10_allRoots_25 : decode cX10_allRoots 25 = .ok (.ifCond .ge 7, 3) := by decide +kernel
theorem dX10_allRoots_28 : decode cX10_allRoots 28 = .ok (.iconst 1, 1) := by decide +kernel
theorem dX10_allRoots_29 : decode cX10_allRoots 29 = .ok (.goto 4, 3) := by decide +kernel
theorem dX10_allRoots_32 : decode cX10_allRoots 32 = .ok (.iconst 0, 1) := by decide +kernel
theorem dX10_allRoots_33 : decode cX10_allRoots 33 = .ok (.iadd, 1) := by decide +kernel
theorem dX10_allRoots_34 : decode cX10_allRoots 34 = .ok (.istore_n 1, 1) := by decide +kernel
theorem dX10_allRoots_35 : decode cX10_allRoots 35 = .ok (.iinc 2 1, 3) := by decide +kernel
theorem dX10_allRoots_38 : decode cX10_allRoots 38 = .ok (.goto (-34), 3) := by decide +kernel
theorem dX10_allRoots_41 : decode cX10_allRoots 41 = .ok (.iload_n 1, 1) := by decide +kernel
theorem dX10_allRoots_42 : decode cX10_allRoots 42 = .ok (.ireturn, 1) := by decide +kernel
theorem dX10_isComplete_0 : decode cX10_isComplete 0 = .ok (.aload_n 0, 1) := by decide +kernel
theorem dX10_isComplete_1 : decode cX10_isComplete 1 = .ok (.iconst 0, 1) := by decide +kernel
theorem dX10_isComplete_2 : decode cX10_isComplete 2 = .ok (.putfield 51, 3) := by decide +kernel
theorem dX10_isComplete_5 : decode cX10_isComplete 5 = .ok (.aload_n 0, 1) := by decide +kernel
theorem dX10_isComplete_6 : decode cX10_isComplete 6 = .ok (.invokevirtual 150, 3) := by decide +kernel
theorem dX10_isComplete_9 : decode cX10_isComplete 9 = .ok (.aload_n 0, 1) := by decide +kernel
theorem dX10_isComplete_10 : decode cX10_isComplete 10 = .ok (.getfield 100, 3) := by decide +kernel
theorem dX10_isComplete_13 : decode cX10_isComplete 13 = .ok (.ifCond .le 18, 3) := by decide +kernel
theorem dX10_isComplete_16 : decode cX10_isComplete 16 = .ok (.aload_n 0, 1) := by decide +kernel
theorem dX10_isComplete_17 : decode cX10_isComplete 17 = .ok (.getfield 100, 3) := by decide +kernel
theorem dX10_isComplete_20 : decode cX10_isComplete 20 = .ok (.aload_n 0, 1) := by decide +kernel
theorem dX10_isComplete_21 : decode cX10_isComplete 21 = .ok (.invokevirtual 230, 3) := by decide +kernel
theorem dX10_isComplete_24 : decode cX10_isComplete 24 = .ok (.if_icmp .ne 7, 3) := by decide +kernel
theorem dX10_isComplete_27 : decode cX10_isComplete 27 = .ok (.iconst 1, 1) := by decide +kernel
theorem dX10_isComplete_28 : decode cX10_isComplete 28 = .ok (.goto 4, 3) := by decide +kernel
theorem dX10_isComplete_31 : decode cX10_isComplete 31 = .ok (.iconst 0, 1) := by decide +kernel
theorem dX10_isComplete_32 : decode cX10_isComplete 32 = .ok (.ireturn, 1) := by decide +kernel
theorem dX10_rootsWith_0 : decode cX10_rootsWith 0 = .ok (.aload_n 0, 1) := by decide +kernel
theorem dX10_rootsWith_1 : decode cX10_rootsWith 1 = .ok (.aload_n 0, 1) := by decide +kernel
theorem dX10_rootsWith_2 : decode cX10_rootsWith 2 = .ok (.iload_n 1, 1) := by decide +kernel
theorem dX10_rootsWith_3 : decode cX10_rootsWith 3 = .ok (.iload_n 2, 1) := by decide +kernel
theorem dX10_rootsWith_4 : decode cX10_rootsWith 4 = .ok (.iload_n 3, 1) := by decide +kernel
theorem dX10_rootsWith_5 : decode cX10_rootsWith 5 = .ok (.iload 4, 2) := by decide +kernel
theorem dX10_rootsWith_7 : decode cX10_rootsWith 7 = .ok (.invokevirtual 129, 3) := by decide +kernel
theorem dX10_rootsWith_10 : decode cX10_rootsWith 10 = .ok (.ifCond .ne 7, 3) := by decide +kernel
theorem dX10_rootsWith_13 : decode cX10_rootsWith 13 = .ok (.iconst 1, 1) := by decide +kernel
theorem dX10_rootsWith_14 : decode cX10_rootsWith 14 = .ok (.goto 19, 3) := by decide +kernel
theorem dX10_rootsWith_17 : decode cX10_rootsWith 17 = .ok (.aload_n 0, 1) := by decide +kernel
theorem dX10_rootsWith_18 : decode cX10_rootsWith 18 = .ok (.getfield 7, 3) := by decide +kernel
theorem dX10_rootsWith_21 : decode cX10_rootsWith 21 = .ok (.iconst 1, 1) := by decide +kernel
theorem dX10_rootsWith_22 : decode cX10_rootsWith 22 = .ok (.iaload, 1) := by decide +kernel
theorem dX10_rootsWith_23 : decode cX10_rootsWith 23 = .ok (.bipush 6, 2) := by decide +kernel
theorem dX10_rootsWith_25 : decode cX10_rootsWith 25 = .ok (.if_icmp .ne 7, 3) := by decide +kernel
theorem dX10_rootsWith_28 : decode cX10_rootsWith 28 = .ok (.iconst 2, 1) := by decide +kernel
theorem dX10_rootsWith_29 : decode cX10_rootsWith 29 = .ok (.goto 4, 3) := by decide +kernel
theorem dX10_rootsWith_32 : decode cX10_rootsWith 32 = .ok (.iconst 0, 1) := by decide +kernel
theorem dX10_rootsWith_33 : decode cX10_rootsWith 33 = .ok (.putfield 51, 3) := by decide +kernel
theorem dX10_rootsWith_36 : decode cX10_rootsWith 36 = .ok (.aload_n 0, 1) := by decide +kernel
theorem dX10_rootsWith_37 : decode cX10_rootsWith 37 = .ok (.getfield 51, 3) := by decide +kernel
theorem dX10_rootsWith_40 : decode cX10_rootsWith 40 = .ok (.ifCond .le 5, 3) := by decide +kernel
theorem dX10_rootsWith_43 : decode cX10_rootsWith 43 = .ok (.iconst 0, 1) := by decide +kernel
theorem dX10_rootsWith_44 : decode cX10_rootsWith 44 = .ok (.ireturn, 1) := by decide +kernel
theorem dX10_rootsWith_45 : decode cX10_rootsWith 45 = .ok (.aload_n 0, 1) := by decide +kernel
theorem dX10_rootsWith_46 : decode cX10_rootsWith 46 = .ok (.iload_n 1, 1) := by decide +kernel
theorem dX10_rootsWith_47 : decode cX10_rootsWith 47 = .ok (.iload_n 2, 1) := by decide +kernel
theorem dX10_rootsWith_48 : decode cX10_rootsWith 48 = .ok (.iload_n 3, 1) := by decide +kernel
theorem dX10_rootsWith_49 : decode cX10_rootsWith 49 = .ok (.iload 4, 2) := by decide +kernel
theorem dX10_rootsWith_51 : decode cX10_rootsWith 51 = .ok (.invokevirtual 139, 3) := by decide +kernel
theorem dX10_rootsWith_54 : decode cX10_rootsWith 54 = .ok (.pop, 1) := by decide +kernel
theorem dX10_rootsWith_55 : decode cX10_rootsWith 55 = .ok (.aload_n 0, 1) := by decide +kernel
theorem dX10_rootsWith_56 : decode cX10_rootsWith 56 = .ok (.invokevirtual 171, 3) := by decide +kernel
theorem dX10_rootsWith_59 : decode cX10_rootsWith 59 = .ok (.istore 5, 2) := by decide +kernel
theorem dX10_rootsWith_61 : decode cX10_rootsWith 61 = .ok (.aload_n 0, 1) := by decide +kernel
theorem dX10_rootsWith_62 : decode cX10_rootsWith 62 = .ok (.getfield 7, 3) := by decide +kernel
theorem dX10_rootsWith_65 : decode cX10_rootsWith 65 = .ok (.iconst 1, 1) := by decide +kernel
theorem dX10_rootsWith_66 : decode cX10_rootsWith 66 = .ok (.dup2, 1) := by decide +kernel
theorem dX10_rootsWith_67 : decode cX10_rootsWith 67 = .ok (.iaload, 1) := by decide +kernel
theorem dX10_rootsWith_68 : decode cX10_rootsWith 68 = .ok (.iconst 1, 1) := by decide +kernel
theorem dX10_rootsWith_69 : decode cX10_rootsWith 69 = .ok (.isub, 1) := by decide +kernel
theorem dX10_rootsWith_70 : decode cX10_rootsWith 70 = .ok (.iastore, 1) := by decide +kernel
theorem dX10_rootsWith_71 : decode cX10_rootsWith 71 = .ok (.iload 5, 2) := by decide +kernel
theorem dX10_rootsWith_73 : decode cX10_rootsWith 73 = .ok (.ireturn, 1) := by decide +kernel
theorem dX10_lapses_0 : decode cX10_lapses 0 = .ok (.aload_n 0, 1) := by decide +kernel
theorem dX10_lapses_1 : decode cX10_lapses 1 = .ok (.iconst 0, 1) := by decide +kernel
theorem dX10_lapses_2 : decode cX10_lapses 2 = .ok (.putfield 51, 3) := by decide +kernel
theorem dX10_lapses_5 : decode cX10_lapses 5 = .ok (.aload_n 0, 1) := by decide +kernel
theorem dX10_lapses_6 : decode cX10_lapses 6 = .ok (.getfield 7, 3) := by decide +kernel
theorem dX10_lapses_9 : decode cX10_lapses 9 = .ok (.iconst 0, 1) := by decide +kernel
theorem dX10_lapses_10 : decode cX10_lapses 10 = .ok (.iaload, 1) := by decide +kernel
theorem dX10_lapses_11 : decode cX10_lapses 11 = .ok (.istore_n 1, 1) := by decide +kernel
theorem dX10_lapses_12 : decode cX10_lapses 12 = .ok (.aload_n 0, 1) := by decide +kernel
theorem dX10_lapses_13 : decode cX10_lapses 13 = .ok (.invokevirtual 171, 3) := by decide +kernel
theorem dX10_lapses_16 : decode cX10_lapses 16 = .ok (.istore_n 2, 1) := by decide +kernel
theorem dX10_lapses_17 : decode cX10_lapses 17 = .ok (.aload_n 0, 1) := by decide +kernel
theorem dX10_lapses_18 : decode cX10_lapses 18 = .ok (.getfield 7, 3) := by decide +kernel
theorem dX10_lapses_21 : decode cX10_lapses 21 = .ok (.iconst 0, 1) := by decide +kernel
theorem dX10_lapses_22 : decode cX10_lapses 22 = .ok (.iaload, 1) := by decide +kernel
theorem dX10_lapses_23 : decode cX10_lapses 23 = .ok (.bipush 60, 2) := by decide +kernel
theorem dX10_lapses_25 : decode cX10_lapses 25 = .ok (.if_icmp .ge 37, 3) := by decide +kernel
theorem dX10_lapses_28 : decode cX10_lapses 28 = .ok (.aload_n 0, 1) := by decide +kernel
theorem dX10_lapses_29 : decode cX10_lapses 29 = .ok (.getfield 7, 3) := by decide +kernel
theorem dX10_lapses_32 : decode cX10_lapses 32 = .ok (.iconst 0, 1) := by decide +kernel
theorem dX10_lapses_33 : decode cX10_lapses 33 = .ok (.dup2, 1) := by decide +kernel
theorem dX10_lapses_34 : decode cX10_lapses 34 = .ok (.iaload, 1) := by decide +kernel
theorem dX10_lapses_35 : decode cX10_lapses 35 = .ok (.iconst 1, 1) := by decide +kernel
theorem dX10_lapses_36 : decode cX10_lapses 36 = .ok (.iadd, 1) := by decide +kernel
theorem dX10_lapses_37 : decode cX10_lapses 37 = .ok (.iastore, 1) := by decide +kernel
theorem dX10_lapses_38 : decode cX10_lapses 38 = .ok (.aload_n 0, 1) := by decide +kernel
theorem dX10_lapses_39 : decode cX10_lapses 39 = .ok (.invokevirtual 171, 3) := by decide +kernel
theorem dX10_lapses_42 : decode cX10_lapses 42 = .ok (.iload_n 2, 1) := by decide +kernel
theorem dX10_lapses_43 : decode cX10_lapses 43 = .ok (.if_icmp .ge (-26), 3) := by decide +kernel
theorem dX10_lapses_46 : decode cX10_lapses 46 = .ok (.aload_n 0, 1) := by decide +kernel
theorem dX10_lapses_47 : decode cX10_lapses 47 = .ok (.getfield 7, 3) := by decide +kernel
theorem dX10_lapses_50 : decode cX10_lapses 50 = .ok (.iconst 0, 1) := by decide +kernel
theorem dX10_lapses_51 : decode cX10_lapses 51 = .ok (.iaload, 1) := by decide +kernel
theorem dX10_lapses_52 : decode cX10_lapses 52 = .ok (.istore_n 3, 1) := by decide +kernel
theorem dX10_lapses_53 : decode cX10_lapses 53 = .ok (.aload_n 0, 1) := by decide +kernel
theorem dX10_lapses_54 : decode cX10_lapses 54 = .ok (.getfield 7, 3) := by decide +kernel
theorem dX10_lapses_57 : decode cX10_lapses 57 = .ok (.iconst 0, 1) := by decide +kernel
theorem dX10_lapses_58 : decode cX10_lapses 58 = .ok (.iload_n 1, 1) := by decide +kernel
theorem dX10_lapses_59 : decode cX10_lapses 59 = .ok (.iastore, 1) := by decide +kernel
theorem dX10_lapses_60 : decode cX10_lapses 60 = .ok (.iload_n 3, 1) := by decide +kernel
theorem dX10_lapses_61 : decode cX10_lapses 61 = .ok (.ireturn, 1) := by decide +kernel
theorem dX10_lapses_62 : decode cX10_lapses 62 = .ok (.aload_n 0, 1) := by decide +kernel
theorem dX10_lapses_63 : decode cX10_lapses 63 = .ok (.getfield 7, 3) := by decide +kernel
theorem dX10_lapses_66 : decode cX10_lapses 66 = .ok (.iconst 0, 1) := by decide +kernel
theorem dX10_lapses_67 : decode cX10_lapses 67 = .ok (.iload_n 1, 1) := by decide +kernel
theorem dX10_lapses_68 : decode cX10_lapses 68 = .ok (.iastore, 1) := by decide +kernel
theorem dX10_lapses_69 : decode cX10_lapses 69 = .ok (.aload_n 0, 1) := by decide +kernel
theorem dX10_lapses_70 : decode cX10_lapses 70 = .ok (.iconst 1, 1) := by decide +kernel
theorem dX10_lapses_71 : decode cX10_lapses 71 = .ok (.invokevirtual 57, 3) := by decide +kernel
theorem dX10_lapses_74 : decode cX10_lapses 74 = .ok (.ireturn, 1) := by decide +kernel
theorem dX10_lays_0 : decode cX10_lays 0 = .ok (.aload_n 0, 1) := by decide +kernel
theorem dX10_lays_1 : decode cX10_lays 1 = .ok (.getfield 48, 3) := by decide +kernel
theorem dX10_lays_4 : decode cX10_lays 4 = .ok (.iconst 2, 1) := by decide +kernel
theorem dX10_lays_5 : decode cX10_lays 5 = .ok (.aload_n 0, 1) := by decide +kernel
theorem dX10_lays_6 : decode cX10_lays 6 = .ok (.getfield 233, 3) := by decide +kernel
theorem dX10_lays_9 : decode cX10_lays 9 = .ok (.imul, 1) := by decide +kernel
theorem dX10_lays_10 : decode cX10_lays 10 = .ok (.iload_n 1, 1) := by decide +kernel
theorem dX10_lays_11 : decode cX10_lays 11 = .ok (.iastore, 1) := by decide +kernel
theorem dX10_lays_12 : decode cX10_lays 12 = .ok (.aload_n 0, 1) := by decide +kernel
theorem dX10_lays_13 : decode cX10_lays 13 = .ok (.getfield 48, 3) := by decide +kernel
theorem dX10_lays_16 : decode cX10_lays 16 = .ok (.iconst 2, 1) := by decide +kernel
theorem dX10_lays_17 : decode cX10_lays 17 = .ok (.aload_n 0, 1) := by decide +kernel
theorem dX10_lays_18 : decode cX10_lays 18 = .ok (.getfield 233, 3) := by decide +kernel
theorem dX10_lays_21 : decode cX10_lays 21 = .ok (.imul, 1) := by decide +kernel
theorem dX10_lays_22 : decode cX10_lays 22 = .ok (.iconst 1, 1) := by decide +kernel
theorem dX10_lays_23 : decode cX10_lays 23 = .ok (.iadd, 1) := by decide +kernel
theorem dX10_lays_24 : decode cX10_lays 24 = .ok (.iload_n 2, 1) := by decide +kernel
theorem dX10_lays_25 : decode cX10_lays 25 = .ok (.iastore, 1) := by decide +kernel
theorem dX10_lays_26 : decode cX10_lays 26 = .ok (.aload_n 0, 1) := by decide +kernel
theorem dX10_lays_27 : decode cX10_lays 27 = .ok (.dup, 1) := by decide +kernel
theorem dX10_lays_28 : decode cX10_lays 28 = .ok (.getfield 233, 3) := by decide +kernel
theorem dX10_lays_31 : decode cX10_lays 31 = .ok (.iconst 1, 1) := by decide +kernel
theorem dX10_lays_32 : decode cX10_lays 32 = .ok (.iadd, 1) := by decide +kernel
theorem dX10_lays_33 : decode cX10_lays 33 = .ok (.putfield 233, 3) := by decide +kernel
theorem dX10_lays_36 : decode cX10_lays 36 = .ok (.return_, 1) := by decide +kernel
theorem dX10_firstUnmet_0 : decode cX10_firstUnmet 0 = .ok (.iload_n 1, 1) := by decide +kernel
theorem dX10_firstUnmet_1 : decode cX10_firstUnmet 1 = .ok (.iconst 1, 1) := by decide +kernel
theorem dX10_firstUnmet_2 : decode cX10_firstUnmet 2 = .ok (.iadd, 1) := by decide +kernel
theorem dX10_firstUnmet_3 : decode cX10_firstUnmet 3 = .ok (.istore_n 2, 1) := by decide +kernel
theorem dX10_firstUnmet_4 : decode cX10_firstUnmet 4 = .ok (.aload_n 0, 1) := by decide +kernel
theorem dX10_firstUnmet_5 : decode cX10_firstUnmet 5 = .ok (.getfield 7, 3) := by decide +kernel
theorem dX10_firstUnmet_8 : decode cX10_firstUnmet 8 = .ok (.iload_n 2, 1) := by decide +kernel
theorem dX10_firstUnmet_9 : decode cX10_firstUnmet 9 = .ok (.iconst 1, 1) := by decide +kernel
theorem dX10_firstUnmet_10 : decode cX10_firstUnmet 10 = .ok (.invokestatic 65, 3) := by decide +kernel
theorem dX10_firstUnmet_13 : decode cX10_firstUnmet 13 = .ok (.iaload, 1) := by decide +kernel
theorem dX10_firstUnmet_14 : decode cX10_firstUnmet 14 = .ok (.iload_n 1, 1) := by decide +kernel
theorem dX10_firstUnmet_15 : decode cX10_firstUnmet 15 = .ok (.if_icmp .ne 12, 3) := by decide +kernel
theorem dX10_firstUnmet_18 : decode cX10_firstUnmet 18 = .ok (.aload_n 0, 1) := by decide +kernel
theorem dX10_firstUnmet_19 : decode cX10_firstUnmet 19 = .ok (.getfield 31, 3) := by decide +kernel
theorem dX10_firstUnmet_22 : decode cX10_firstUnmet 22 = .ok (.iload_n 2, 1) := by decide +kernel
theorem dX10_firstUnmet_23 : decode cX10_firstUnmet 23 = .ok (.baload, 1) := by decide +kernel
theorem dX10_firstUnmet_24 : decode cX10_firstUnmet 24 = .ok (.ifCond .eq 9, 3) := by decide +kernel
theorem dX10_firstUnmet_27 : decode cX10_firstUnmet 27 = .ok (.iinc 2 1, 3) := by decide +kernel
theorem dX10_firstUnmet_30 : decode cX10_firstUnmet 30 = .ok (.goto (-26), 3) := by decide +kernel
theorem dX10_firstUnmet_33 : decode cX10_firstUnmet 33 = .ok (.iload_n 2, 1) := by decide +kernel
theorem dX10_firstUnmet_34 : decode cX10_firstUnmet 34 = .ok (.ireturn, 1) := by decide +kernel
theorem dX10_findLayers_0 : decode cX10_findLayers 0 = .ok (.aload_n 0, 1) := by decide +kernel
theorem dX10_findLayers_1 : decode cX10_findLayers 1 = .ok (.invokevirtual 150, 3) := by decide +kernel
theorem dX10_findLayers_4 : decode cX10_findLayers 4 = .ok (.aload_n 0, 1) := by decide +kernel
theorem dX10_findLayers_5 : decode cX10_findLayers 5 = .ok (.iconst 0, 1) := by decide +kernel
theorem dX10_findLayers_6 : decode cX10_findLayers 6 = .ok (.putfield 233, 3) := by decide +kernel
theorem dX10_findLayers_9 : decode cX10_findLayers 9 = .ok (.iload_n 1, 1) := by decide +kernel
theorem dX10_findLayers_10 : decode cX10_findLayers 10 = .ok (.istore_n 2, 1) := by decide +kernel
theorem dX10_findLayers_11 : decode cX10_findLayers 11 = .ok (.aload_n 0, 1) := by decide +kernel
theorem dX10_findLayers_12 : decode cX10_findLayers 12 = .ok (.getfield 31, 3) := by decide +kernel
theorem dX10_findLayers_15 : decode cX10_findLayers 15 = .ok (.iload_n 2, 1) := by decide +kernel
theorem dX10_findLayers_16 : decode cX10_findLayers 16 = .ok (.baload, 1) := by decide +kernel
theorem dX10_findLayers_17 : decode cX10_findLayers 17 = .ok (.ifCond .eq 4, 3) := by decide +kernel
theorem dX10_findLayers_20 : decode cX10_findLayers 20 = .ok (.return_, 1) := by decide +kernel
theorem dX10_findLayers_21 : decode cX10_findLayers 21 = .ok (.aload_n 0, 1) := by decide +kernel
theorem dX10_findLayers_22 : decode cX10_findLayers 22 = .ok (.iload_n 2, 1) := by decide +kernel
theorem dX10_findLayers_23 : decode cX10_findLayers 23 = .ok (.invokevirtual 86, 3) := by decide +kernel
theorem dX10_findLayers_26 : decode cX10_findLayers 26 = .ok (.ifCond .eq 75, 3) := by decide +kernel
theorem dX10_findLayers_29 : decode cX10_findLayers 29 = .ok (.iconst 0, 1) := by decide +kernel
theorem dX10_findLayers_30 : decode cX10_findLayers 30 = .ok (.istore_n 3, 1) := by decide +kernel
theorem dX10_findLayers_31 : decode cX10_findLayers 31 = .ok (.iload_n 2, 1) := by decide +kernel
theorem dX10_findLayers_32 : decode cX10_findLayers 32 = .ok (.iconst 1, 1) := by decide +kernel
theorem dX10_findLayers_33 : decode cX10_findLayers 33 = .ok (.iadd, 1) := by decide +kernel
theorem dX10_findLayers_34 : decode cX10_findLayers 34 = .ok (.istore 4, 2) := by decide +kernel
theorem dX10_findLayers_36 : decode cX10_findLayers 36 = .ok (.iload 4, 2) := by decide +kernel
theorem dX10_findLayers_38 : decode cX10_findLayers 38 = .ok (.aload_n 0, 1) := by decide +kernel
theorem dX10_findLayers_39 : decode cX10_findLayers 39 = .ok (.getfield 7, 3) := by decide +kernel
theorem dX10_findLayers_42 : decode cX10_findLayers 42 = .ok (.iconst 3, 1) := by decide +kernel
theorem dX10_findLayers_43 : decode cX10_findLayers 43 = .ok (.iaload, 1) := by decide +kernel
theorem dX10_findLayers_44 : decode cX10_findLayers 44 = .ok (.if_icmp .ge 42, 3) := by decide +kernel
theorem dX10_findLayers_47 : decode cX10_findLayers 47 = .ok (.iload_n 3, 1) := by decide +kernel
theorem dX10_findLayers_48 : decode cX10_findLayers 48 = .ok (.aload_n 0, 1) := by decide +kernel
theorem dX10_findLayers_49 : decode cX10_findLayers 49 = .ok (.getfield 7, 3) := by decide +kernel
theorem dX10_findLayers_52 : decode cX10_findLayers 52 = .ok (.iload 4, 2) := by decide +kernel
theorem dX10_findLayers_54 : decode cX10_findLayers 54 = .ok (.iconst 1, 1) := by decide +kernel
theorem dX10_findLayers_55 : decode cX10_findLayers 55 = .ok (.invokestatic 65, 3) := by decide +kernel
theorem dX10_findLayers_58 : decode cX10_findLayers 58 = .ok (.iaload, 1) := by decide +kernel
theorem dX10_findLayers_59 : decode cX10_findLayers 59 = .ok (.iload_n 2, 1) := by decide +kernel
theorem dX10_findLayers_60 : decode cX10_findLayers 60 = .ok (.if_icmp .ne 17, 3) := by decide +kernel
theorem dX10_findLayers_63 : decode cX10_findLayers 63 = .ok (.aload_n 0, 1) := by decide +kernel
theorem dX10_findLayers_64 : decode cX10_findLayers 64 = .ok (.getfield 31, 3) := by decide +kernel
theorem dX10_findLayers_67 : decode cX10_findLayers 67 = .ok (.iload 4, 2) := by decide +kernel
theorem dX10_findLayers_69 : decode cX10_findLayers 69 = .ok (.baload, 1) := by decide +kernel
theorem dX10_findLayers_70 : decode cX10_findLayers 70 = .ok (.ifCond .eq 7, 3) := by decide +kernel
theorem dX10_findLayers_73 : decode cX10_findLayers 73 = .ok (.iconst 1, 1) := by decide +kernel
theorem dX10_findLayers_74 : decode cX10_findLayers 74 = .ok (.goto 4, 3) := by decide +kernel
theorem dX10_findLayers_77 : decode cX10_findLayers 77 = .ok (.iconst 0, 1) := by decide +kernel
theorem dX10_findLayers_78 : decode cX10_findLayers 78 = .ok (.iadd, 1) := by decide +kernel
theorem dX10_findLayers_79 : decode cX10_findLayers 79 = .ok (.istore_n 3, 1) := by decide +kernel
theorem dX10_findLayers_80 : decode cX10_findLayers 80 = .ok (.iinc 4 1, 3) := by decide +kernel
theorem dX10_findLayers_83 : decode cX10_findLayers 83 = .ok (.goto (-47), 3) := by decide +kernel
theorem dX10_findLayers_86 : decode cX10_findLayers 86 = .ok (.aload_n 0, 1) := by decide +kernel
theorem dX10_findLayers_87 : decode cX10_findLayers 87 = .ok (.iconst 1, 1) := by decide +kernel
theorem dX10_findLayers_88 : decode cX10_findLayers 88 = .ok (.iload_n 3, 1) := by decide +kernel
theorem dX10_findLayers_89 : decode cX10_findLayers 89 = .ok (.invokevirtual 236, 3) := by decide +kernel
theorem dX10_findLayers_92 : decode cX10_findLayers 92 = .ok (.aload_n 0, 1) := by decide +kernel
theorem dX10_findLayers_93 : decode cX10_findLayers 93 = .ok (.iload_n 2, 1) := by decide +kernel
theorem dX10_findLayers_94 : decode cX10_findLayers 94 = .ok (.invokevirtual 240, 3) := by decide +kernel
theorem dX10_findLayers_97 : decode cX10_findLayers 97 = .ok (.istore_n 2, 1) := by decide +kernel
theorem dX10_findLayers_98 : decode cX10_findLayers 98 = .ok (.goto (-77), 3) := by decide +kernel
theorem dX10_findLayers_101 : decode cX10_findLayers 101 = .ok (.aload_n 0, 1) := by decide +kernel
theorem dX10_findLayers_102 : decode cX10_findLayers 102 = .ok (.iconst 2, 1) := by decide +kernel
theorem dX10_findLayers_103 : decode cX10_findLayers 103 = .ok (.aload_n 0, 1) := by decide +kernel
theorem dX10_findLayers_104 : decode cX10_findLayers 104 = .ok (.getfield 7, 3) := by decide +kernel
theorem dX10_findLayers_107 : decode cX10_findLayers 107 = .ok (.iload_n 2, 1) := by decide +kernel
theorem dX10_findLayers_108 : decode cX10_findLayers 108 = .ok (.iconst 2, 1) := by decide +kernel
theorem dX10_findLayers_109 : decode cX10_findLayers 109 = .ok (.invokestatic 65, 3) := by decide +kernel
theorem dX10_findLayers_112 : decode cX10_findLayers 112 = .ok (.iaload, 1) := by decide +kernel
theorem dX10_findLayers_113 : decode cX10_findLayers 113 = .ok (.aload_n 0, 1) := by decide +kernel
theorem dX10_findLayers_114 : decode cX10_findLayers 114 = .ok (.getfield 28, 3) := by decide +kernel
theorem dX10_findLayers_117 : decode cX10_findLayers 117 = .ok (.iload_n 2, 1) := by decide +kernel
theorem dX10_findLayers_118 : decode cX10_findLayers 118 = .ok (.iaload, 1) := by decide +kernel
theorem dX10_findLayers_119 : decode cX10_findLayers 119 = .ok (.isub, 1) := by decide +kernel
theorem dX10_findLayers_120 : decode cX10_findLayers 120 = .ok (.invokevirtual 236, 3) := by decide +kernel
theorem dX10_findLayers_123 : decode cX10_findLayers 123 = .ok (.iconst 0, 1) := by decide +kernel
theorem dX10_findLayers_124 : decode cX10_findLayers 124 = .ok (.istore_n 3, 1) := by decide +kernel
theorem dX10_findLayers_125 : decode cX10_findLayers 125 = .ok (.iload_n 3, 1) := by decide +kernel
theorem dX10_findLayers_126 : decode cX10_findLayers 126 = .ok (.aload_n 0, 1) := by decide +kernel
theorem dX10_findLayers_127 : decode cX10_findLayers 127 = .ok (.getfield 7, 3) := by decide +kernel
theorem dX10_findLayers_130 : decode cX10_findLayers 130 = .ok (.iconst 1, 1) := by decide +kernel
theorem dX10_findLayers_131 : decode cX10_findLayers 131 = .ok (.iaload, 1) := by decide +kernel
theorem dX10_findLayers_132 : decode cX10_findLayers 132 = .ok (.if_icmp .ge 98, 3) := by decide +kernel
theorem dX10_findLayers_135 : decode cX10_findLayers 135 = .ok (.aload_n 0, 1) := by decide +kernel
theorem dX10_findLayers_136 : decode cX10_findLayers 136 = .ok (.getfield 25, 3) := by decide +kernel
theorem dX10_findLayers_139 : decode cX10_findLayers 139 = .ok (.iload_n 3, 1) := by decide +kernel
theorem dX10_findLayers_140 : decode cX10_findLayers 140 = .ok (.iaload, 1) := by decide +kernel
theorem dX10_findLayers_141 : decode cX10_findLayers 141 = .ok (.iload_n 2, 1) := by decide +kernel
theorem dX10_findLayers_142 : decode cX10_findLayers 142 = .ok (.if_icmp .eq 82, 3) := by decide +kernel
theorem dX10_findLayers_145 : decode cX10_findLayers 145 = .ok (.aload_n 0, 1) := by decide +kernel
theorem dX10_findLayers_146 : decode cX10_findLayers 146 = .ok (.iload_n 2, 1) := by decide +kernel
theorem dX10_findLayers_147 : decode cX10_findLayers 147 = .ok (.aload_n 0, 1) := by decide +kernel
theorem dX10_findLayers_148 : decode cX10_findLayers 148 = .ok (.getfield 7, 3) := by decide +kernel
theorem dX10_findLayers_151 : decode cX10_findLayers 151 = .ok (.iload_n 3, 1) := by decide +kernel
theorem dX10_findLayers_152 : decode cX10_findLayers 152 = .ok (.iconst 0, 1) := by decide +kernel
theorem dX10_findLayers_153 : decode cX10_findLayers 153 = .ok (.invokestatic 83, 3) := by decide +kernel
theorem dX10_findLayers_156 : decode cX10_findLayers 156 = .ok (.iaload, 1) := by decide +kernel
theorem dX10_findLayers_157 : decode cX10_findLayers 157 = .ok (.invokevirtual 90, 3) := by decide +kernel
theorem dX10_findLayers_160 : decode cX10_findLayers 160 = .ok (.ifCond .eq 64, 3) := by decide +kernel
theorem dX10_findLayers_163 : decode cX10_findLayers 163 = .ok (.aload_n 0, 1) := by decide +kernel
theorem dX10_findLayers_164 : decode cX10_findLayers 164 = .ok (.aload_n 0, 1) := by decide +kernel
theorem dX10_findLayers_165 : decode cX10_findLayers 165 = .ok (.getfield 7, 3) := by decide +kernel
theorem dX10_findLayers_168 : decode cX10_findLayers 168 = .ok (.iload_n 3, 1) := by decide +kernel
theorem dX10_findLayers_169 : decode cX10_findLayers 169 = .ok (.iconst 2, 1) := by decide +kernel
theorem dX10_findLayers_170 : decode cX10_findLayers 170 = .ok (.invokestatic 83, 3) := by decide +kernel
theorem dX10_findLayers_173 : decode cX10_findLayers 173 = .ok (.iaload, 1) := by decide +kernel
theorem dX10_findLayers_174 : decode cX10_findLayers 174 = .ok (.aload_n 0, 1) := by decide +kernel
theorem dX10_findLayers_175 : decode cX10_findLayers 175 = .ok (.getfield 7, 3) := by decide +kernel
theorem dX10_findLayers_178 : decode cX10_findLayers 178 = .ok (.iload_n 2, 1) := by decide +kernel
theorem dX10_findLayers_179 : decode cX10_findLayers 179 = .ok (.iconst 4, 1) := by decide +kernel
theorem dX10_findLayers_180 : decode cX10_findLayers 180 = .ok (.invokestatic 65, 3) := by decide +kernel
theorem dX10_findLayers_183 : decode cX10_findLayers 183 = .ok (.iaload, 1) := by decide +kernel
theorem dX10_findLayers_184 : decode cX10_findLayers 184 = .ok (.if_icmp .ge 7, 3) := by decide +kernel
theorem dX10_findLayers_187 : decode cX10_findLayers 187 = .ok (.iconst 3, 1) := by decide +kernel
theorem dX10_findLayers_188 : decode cX10_findLayers 188 = .ok (.goto 31, 3) := by decide +kernel
theorem dX10_findLayers_191 : decode cX10_findLayers 191 = .ok (.aload_n 0, 1) := by decide +kernel
theorem dX10_findLayers_192 : decode cX10_findLayers 192 = .ok (.iload_n 2, 1) := by decide +kernel
theorem dX10_findLayers_193 : decode cX10_findLayers 193 = .ok (.iload_n 3, 1) := by decide +kernel
theorem dX10_findLayers_194 : decode cX10_findLayers 194 = .ok (.invokevirtual 94, 3) := by decide +kernel
theorem dX10_findLayers_197 : decode cX10_findLayers 197 = .ok (.ifCond .eq 7, 3) := by decide +kernel
theorem dX10_findLayers_200 : decode cX10_findLayers 200 = .ok (.iconst 4, 1) := by decide +kernel
theorem dX10_findLayers_201 : decode cX10_findLayers 201 = .ok (.goto 18, 3) := by decide +kernel
theorem dX10_findLayers_204 : decode cX10_findLayers 204 = .ok (.aload_n 0, 1) := by decide +kernel
theorem dX10_findLayers_205 : decode cX10_findLayers 205 = .ok (.getfield 25, 3) := by decide +kernel
theorem dX10_findLayers_208 : decode cX10_findLayers 208 = .ok (.iload_n 3, 1) := by decide +kernel
theorem dX10_findLayers_209 : decode cX10_findLayers 209 = .ok (.iaload, 1) := by decide +kernel
theorem dX10_findLayers_210 : decode cX10_findLayers 210 = .ok (.ifCond .lt 7, 3) := by decide +kernel
theorem dX10_findLayers_213 : decode cX10_findLayers 213 = .ok (.iconst 5, 1) := by decide +kernel
theorem dX10_findLayers_214 : decode cX10_findLayers 214 = .ok (.goto 5, 3) := by decide +kernel
theorem dX10_findLayers_217 : decode cX10_findLayers 217 = .ok (.bipush 6, 2) := by decide +kernel
theorem dX10_findLayers_219 : decode cX10_findLayers 219 = .ok (.iload_n 3, 1) := by decide +kernel
theorem dX10_findLayers_220 : decode cX10_findLayers 220 = .ok (.invokevirtual 236, 3) := by decide +kernel
theorem dX10_findLayers_223 : decode cX10_findLayers 223 = .ok (.return_, 1) := by decide +kernel
theorem dX10_findLayers_224 : decode cX10_findLayers 224 = .ok (.iinc 3 1, 3) := by decide +kernel
theorem dX10_findLayers_227 : decode cX10_findLayers 227 = .ok (.goto (-102), 3) := by decide +kernel
theorem dX10_findLayers_230 : decode cX10_findLayers 230 = .ok (.return_, 1) := by decide +kernel
theorem dX10_layers_0 : decode cX10_layers 0 = .ok (.aload_n 0, 1) := by decide +kernel
theorem dX10_layers_1 : decode cX10_layers 1 = .ok (.aload_n 0, 1) := by decide +kernel
theorem dX10_layers_2 : decode cX10_layers 2 = .ok (.iload_n 1, 1) := by decide +kernel
theorem dX10_layers_3 : decode cX10_layers 3 = .ok (.invokevirtual 153, 3) := by decide +kernel
theorem dX10_layers_6 : decode cX10_layers 6 = .ok (.ifCond .eq 7, 3) := by decide +kernel
theorem dX10_layers_9 : decode cX10_layers 9 = .ok (.iconst 0, 1) := by decide +kernel
theorem dX10_layers_10 : decode cX10_layers 10 = .ok (.goto 4, 3) := by decide +kernel
theorem dX10_layers_13 : decode cX10_layers 13 = .ok (.iconst 1, 1) := by decide +kernel
theorem dX10_layers_14 : decode cX10_layers 14 = .ok (.putfield 51, 3) := by decide +kernel
theorem dX10_layers_17 : decode cX10_layers 17 = .ok (.aload_n 0, 1) := by decide +kernel
theorem dX10_layers_18 : decode cX10_layers 18 = .ok (.getfield 51, 3) := by decide +kernel
theorem dX10_layers_21 : decode cX10_layers 21 = .ok (.ifCond .le 5, 3) := by decide +kernel
theorem dX10_layers_24 : decode cX10_layers 24 = .ok (.iconst 0, 1) := by decide +kernel
theorem dX10_layers_25 : decode cX10_layers 25 = .ok (.ireturn, 1) := by decide +kernel
theorem dX10_layers_26 : decode cX10_layers 26 = .ok (.aload_n 0, 1) := by decide +kernel
theorem dX10_layers_27 : decode cX10_layers 27 = .ok (.iload_n 1, 1) := by decide +kernel
theorem dX10_layers_28 : decode cX10_layers 28 = .ok (.invokevirtual 243, 3) := by decide +kernel
theorem dX10_layers_31 : decode cX10_layers 31 = .ok (.aload_n 0, 1) := by decide +kernel
theorem dX10_layers_32 : decode cX10_layers 32 = .ok (.getfield 233, 3) := by decide +kernel
theorem dX10_layers_35 : decode cX10_layers 35 = .ok (.ireturn, 1) := by decide +kernel
theorem dX10_why_0 : decode cX10_why 0 = .ok (.aload_n 0, 1) := by decide +kernel
theorem dX10_why_1 : decode cX10_why 1 = .ok (.aload_n 0, 1) := by decide +kernel
theorem dX10_why_2 : decode cX10_why 2 = .ok (.iload_n 1, 1) := by decide +kernel
theorem dX10_why_3 : decode cX10_why 3 = .ok (.invokevirtual 153, 3) := by decide +kernel
theorem dX10_why_6 : decode cX10_why 6 = .ok (.ifCond .eq 7, 3) := by decide +kernel
theorem dX10_why_9 : decode cX10_why 9 = .ok (.iconst 0, 1) := by decide +kernel
theorem dX10_why_10 : decode cX10_why 10 = .ok (.goto 4, 3) := by decide +kernel
theorem dX10_why_13 : decode cX10_why 13 = .ok (.iconst 1, 1) := by decide +kernel
theorem dX10_why_14 : decode cX10_why 14 = .ok (.putfield 51, 3) := by decide +kernel
theorem dX10_why_17 : decode cX10_why 17 = .ok (.aload_n 0, 1) := by decide +kernel
theorem dX10_why_18 : decode cX10_why 18 = .ok (.getfield 51, 3) := by decide +kernel
theorem dX10_why_21 : decode cX10_why 21 = .ok (.ifCond .le 5, 3) := by decide +kernel
theorem dX10_why_24 : decode cX10_why 24 = .ok (.iconst 0, 1) := by decide +kernel
theorem dX10_why_25 : decode cX10_why 25 = .ok (.ireturn, 1) := by decide +kernel
theorem dX10_why_26 : decode cX10_why 26 = .ok (.aload_n 0, 1) := by decide +kernel
theorem dX10_why_27 : decode cX10_why 27 = .ok (.iload_n 1, 1) := by decide +kernel
theorem dX10_why_28 : decode cX10_why 28 = .ok (.invokevirtual 243, 3) := by decide +kernel
theorem dX10_why_31 : decode cX10_why 31 = .ok (.aload_n 0, 1) := by decide +kernel
theorem dX10_why_32 : decode cX10_why 32 = .ok (.iload_n 2, 1) := by decide +kernel
theorem dX10_why_33 : decode cX10_why 33 = .ok (.iconst 0, 1) := by decide +kernel
theorem dX10_why_34 : decode cX10_why 34 = .ok (.aload_n 0, 1) := by decide +kernel
theorem dX10_why_35 : decode cX10_why 35 = .ok (.getfield 233, 3) := by decide +kernel
theorem dX10_why_38 : decode cX10_why 38 = .ok (.iconst 1, 1) := by decide +kernel
theorem dX10_why_39 : decode cX10_why 39 = .ok (.isub, 1) := by decide +kernel
theorem dX10_why_40 : decode cX10_why 40 = .ok (.invokestatic 61, 3) := by decide +kernel
theorem dX10_why_43 : decode cX10_why 43 = .ok (.ifCond .ne 7, 3) := by decide +kernel
theorem dX10_why_46 : decode cX10_why 46 = .ok (.iconst 2, 1) := by decide +kernel
theorem dX10_why_47 : decode cX10_why 47 = .ok (.goto 17, 3) := by decide +kernel
theorem dX10_why_50 : decode cX10_why 50 = .ok (.iload_n 3, 1) := by decide +kernel
theorem dX10_why_51 : decode cX10_why 51 = .ok (.iconst 0, 1) := by decide +kernel
theorem dX10_why_52 : decode cX10_why 52 = .ok (.iconst 1, 1) := by decide +kernel
theorem dX10_why_53 : decode cX10_why 53 = .ok (.invokestatic 61, 3) := by decide +kernel
theorem dX10_why_56 : decode cX10_why 56 = .ok (.ifCond .eq 7, 3) := by decide +kernel
theorem dX10_why_59 : decode cX10_why 59 = .ok (.iconst 0, 1) := by decide +kernel
theorem dX10_why_60 : decode cX10_why 60 = .ok (.goto 4, 3) := by decide +kernel
theorem dX10_why_63 : decode cX10_why 63 = .ok (.iconst 3, 1) := by decide +kernel
theorem dX10_why_64 : decode cX10_why 64 = .ok (.putfield 51, 3) := by decide +kernel
theorem dX10_why_67 : decode cX10_why 67 = .ok (.aload_n 0, 1) := by decide +kernel
theorem dX10_why_68 : decode cX10_why 68 = .ok (.getfield 51, 3) := by decide +kernel
theorem dX10_why_71 : decode cX10_why 71 = .ok (.ifCond .le 7, 3) := by decide +kernel
theorem dX10_why_74 : decode cX10_why 74 = .ok (.iconst 0, 1) := by decide +kernel
theorem dX10_why_75 : decode cX10_why 75 = .ok (.goto 13, 3) := by decide +kernel
theorem dX10_why_78 : decode cX10_why 78 = .ok (.aload_n 0, 1) := by decide +kernel
theorem dX10_why_79 : decode cX10_why 79 = .ok (.getfield 48, 3) := by decide +kernel
theorem dX10_why_82 : decode cX10_why 82 = .ok (.iconst 2, 1) := by decide +kernel
theorem dX10_why_83 : decode cX10_why 83 = .ok (.iload_n 2, 1) := by decide +kernel
theorem dX10_why_84 : decode cX10_why 84 = .ok (.imul, 1) := by decide +kernel
theorem dX10_why_85 : decode cX10_why 85 = .ok (.iload_n 3, 1) := by decide +kernel
theorem dX10_why_86 : decode cX10_why 86 = .ok (.iadd, 1) := by decide +kernel
theorem dX10_why_87 : decode cX10_why 87 = .ok (.iaload, 1) := by decide +kernel
theorem dX10_why_88 : decode cX10_why 88 = .ok (.ireturn, 1) := by decide +kernel
theorem dX10_pass_0 : decode cX10_pass 0 = .ok (.aload_n 0, 1) := by decide +kernel
theorem dX10_pass_1 : decode cX10_pass 1 = .ok (.iload_n 1, 1) := by decide +kernel
theorem dX10_pass_2 : decode cX10_pass 2 = .ok (.ifCond .lt 16, 3) := by decide +kernel
theorem dX10_pass_5 : decode cX10_pass 5 = .ok (.iload_n 1, 1) := by decide +kernel
theorem dX10_pass_6 : decode cX10_pass 6 = .ok (.bipush 60, 2) := by decide +kernel
theorem dX10_pass_8 : decode cX10_pass 8 = .ok (.aload_n 0, 1) := by decide +kernel
theorem dX10_pass_9 : decode cX10_pass 9 = .ok (.getfield 7, 3) := by decide +kernel
theorem dX10_pass_12 : decode cX10_pass 12 = .ok (.iconst 0, 1) := by decide +kernel
theorem dX10_pass_13 : decode cX10_pass 13 = .ok (.iaload, 1) := by decide +kernel
theorem dX10_pass_14 : decode cX10_pass 14 = .ok (.isub, 1) := by decide +kernel
theorem dX10_pass_15 : decode cX10_pass 15 = .ok (.if_icmp .le 7, 3) := by decide +kernel
theorem dX10_pass_18 : decode cX10_pass 18 = .ok (.iconst 1, 1) := by decide +kernel
theorem dX10_pass_19 : decode cX10_pass 19 = .ok (.goto 4, 3) := by decide +kernel
theorem dX10_pass_22 : decode cX10_pass 22 = .ok (.iconst 0, 1) := by decide +kernel
theorem dX10_pass_23 : decode cX10_pass 23 = .ok (.putfield 51, 3) := by decide +kernel
theorem dX10_pass_26 : decode cX10_pass 26 = .ok (.aload_n 0, 1) := by decide +kernel
theorem dX10_pass_27 : decode cX10_pass 27 = .ok (.getfield 51, 3) := by decide +kernel
theorem dX10_pass_30 : decode cX10_pass 30 = .ok (.ifCond .le 5, 3) := by decide +kernel
theorem dX10_pass_33 : decode cX10_pass 33 = .ok (.iconst 0, 1) := by decide +kernel
theorem dX10_pass_34 : decode cX10_pass 34 = .ok (.ireturn, 1) := by decide +kernel
theorem dX10_pass_35 : decode cX10_pass 35 = .ok (.aload_n 0, 1) := by decide +kernel
theorem dX10_pass_36 : decode cX10_pass 36 = .ok (.invokevirtual 136, 3) := by decide +kernel
theorem dX10_pass_39 : decode cX10_pass 39 = .ok (.aload_n 0, 1) := by decide +kernel
theorem dX10_pass_40 : decode cX10_pass 40 = .ok (.getfield 7, 3) := by decide +kernel
theorem dX10_pass_43 : decode cX10_pass 43 = .ok (.iconst 0, 1) := by decide +kernel
theorem dX10_pass_44 : decode cX10_pass 44 = .ok (.dup2, 1) := by decide +kernel
theorem dX10_pass_45 : decode cX10_pass 45 = .ok (.iaload, 1) := by decide +kernel
theorem dX10_pass_46 : decode cX10_pass 46 = .ok (.iload_n 1, 1) := by decide +kernel
theorem dX10_pass_47 : decode cX10_pass 47 = .ok (.iadd, 1) := by decide +kernel
theorem dX10_pass_48 : decode cX10_pass 48 = .ok (.iastore, 1) := by decide +kernel
theorem dX10_pass_49 : decode cX10_pass 49 = .ok (.aload_n 0, 1) := by decide +kernel
theorem dX10_pass_50 : decode cX10_pass 50 = .ok (.getfield 7, 3) := by decide +kernel
theorem dX10_pass_53 : decode cX10_pass 53 = .ok (.iconst 0, 1) := by decide +kernel
theorem dX10_pass_54 : decode cX10_pass 54 = .ok (.iaload, 1) := by decide +kernel
theorem dX10_pass_55 : decode cX10_pass 55 = .ok (.ireturn, 1) := by decide +kernel
theorem dX10_year_0 : decode cX10_year 0 = .ok (.aload_n 0, 1) := by decide +kernel
theorem dX10_year_1 : decode cX10_year 1 = .ok (.iconst 0, 1) := by decide +kernel
theorem dX10_year_2 : decode cX10_year 2 = .ok (.putfield 51, 3) := by decide +kernel
theorem dX10_year_5 : decode cX10_year 5 = .ok (.aload_n 0, 1) := by decide +kernel
theorem dX10_year_6 : decode cX10_year 6 = .ok (.getfield 7, 3) := by decide +kernel
theorem dX10_year_9 : decode cX10_year 9 = .ok (.iconst 0, 1) := by decide +kernel
theorem dX10_year_10 : decode cX10_year 10 = .ok (.iaload, 1) := by decide +kernel
theorem dX10_year_11 : decode cX10_year 11 = .ok (.ireturn, 1) := by decide +kernel
theorem dX10_allPoints_0 : decode cX10_allPoints 0 = .ok (.iconst 0, 1) := by decide +kernel
theorem dX10_allPoints_1 : decode cX10_allPoints 1 = .ok (.istore_n 1, 1) := by decide +kernel
theorem dX10_allPoints_2 : decode cX10_allPoints 2 = .ok (.iconst 0, 1) := by decide +kernel
theorem dX10_allPoints_3 : decode cX10_allPoints 3 = .ok (.istore_n 2, 1) := by decide +kernel
theorem dX10_allPoints_4 : decode cX10_allPoints 4 = .ok (.iload_n 2, 1) := by decide +kernel
theorem dX10_allPoints_5 : decode cX10_allPoints 5 = .ok (.aload_n 0, 1) := by decide +kernel
theorem dX10_allPoints_6 : decode cX10_allPoints 6 = .ok (.getfield 7, 3) := by decide +kernel
theorem dX10_allPoints_9 : decode cX10_allPoints 9 = .ok (.iconst 1, 1) := by decide +kernel
theorem dX10_allPoints_10 : decode cX10_allPoints 10 = .ok (.iaload, 1) := by decide +kernel
theorem dX10_allPoints_11 : decode cX10_allPoints 11 = .ok (.if_icmp .ge 22, 3) := by decide +kernel
theorem dX10_allPoints_14 : decode cX10_allPoints 14 = .ok (.iload_n 1, 1) := by decide +kernel
theorem dX10_allPoints_15 : decode cX10_allPoints 15 = .ok (.aload_n 0, 1) := by decide +kernel
theorem dX10_allPoints_16 : decode cX10_allPoints 16 = .ok (.getfield 7, 3) := by decide +kernel
theorem dX10_allPoints_19 : decode cX10_allPoints 19 = .ok (.iload_n 2, 1) := by decide +kernel
theorem dX10_allPoints_20 : decode cX10_allPoints 20 = .ok (.iconst 1, 1) := by decide +kernel
theorem dX10_allPoints_21 : decode cX10_allPoints 21 = .ok (.invokestatic 83, 3) := by decide +kernel
theorem dX10_allPoints_24 : decode cX10_allPoints 24 = .ok (.iaload, 1) := by decide +kernel
theorem dX10_allPoints_25 : decode cX10_allPoints 25 = .ok (.iadd, 1) := by decide +kernel
theorem dX10_allPoints_26 : decode cX10_allPoints 26 = .ok (.istore_n 1, 1) := by decide +kernel
theorem dX10_allPoints_27 : decode cX10_allPoints 27 = .ok (.iinc 2 1, 3) := by decide +kernel
theorem dX10_allPoints_30 : decode cX10_allPoints 30 = .ok (.goto (-26), 3) := by decide +kernel
theorem dX10_allPoints_33 : decode cX10_allPoints 33 = .ok (.iload_n 1, 1) := by decide +kernel
theorem dX10_allPoints_34 : decode cX10_allPoints 34 = .ok (.ireturn, 1) := by decide +kernel
theorem dX10_unused_0 : decode cX10_unused 0 = .ok (.iconst 0, 1) := by decide +kernel
theorem dX10_unused_1 : decode cX10_unused 1 = .ok (.istore_n 1, 1) := by decide +kernel
theorem dX10_unused_2 : decode cX10_unused 2 = .ok (.iconst 0, 1) := by decide +kernel
theorem dX10_unused_3 : decode cX10_unused 3 = .ok (.istore_n 2, 1) := by decide +kernel
theorem dX10_unused_4 : decode cX10_unused 4 = .ok (.iload_n 2, 1) := by decide +kernel
theorem dX10_unused_5 : decode cX10_unused 5 = .ok (.aload_n 0, 1) := by decide +kernel
theorem dX10_unused_6 : decode cX10_unused 6 = .ok (.getfield 7, 3) := by decide +kernel
theorem dX10_unused_9 : decode cX10_unused 9 = .ok (.iconst 1, 1) := by decide +kernel
theorem dX10_unused_10 : decode cX10_unused 10 = .ok (.iaload, 1) := by decide +kernel
theorem dX10_unused_11 : decode cX10_unused 11 = .ok (.if_icmp .ge 26, 3) := by decide +kernel
theorem dX10_unused_14 : decode cX10_unused 14 = .ok (.iload_n 1, 1) := by decide +kernel
theorem dX10_unused_15 : decode cX10_unused 15 = .ok (.aload_n 0, 1) := by decide +kernel
theorem dX10_unused_16 : decode cX10_unused 16 = .ok (.getfield 25, 3) := by decide +kernel
theorem dX10_unused_19 : decode cX10_unused 19 = .ok (.iload_n 2, 1) := by decide +kernel
theorem dX10_unused_20 : decode cX10_unused 20 = .ok (.iaload, 1) := by decide +kernel
theorem dX10_unused_21 : decode cX10_unused 21 = .ok (.ifCond .ge 7, 3) := by decide +kernel
theorem dX10_unused_24 : decode cX10_unused 24 = .ok (.iconst 1, 1) := by decide +kernel
theorem dX10_unused_25 : decode cX10_unused 25 = .ok (.goto 4, 3) := by decide +kernel
theorem dX10_unused_28 : decode cX10_unused 28 = .ok (.iconst 0, 1) := by decide +kernel
theorem dX10_unused_29 : decode cX10_unused 29 = .ok (.iadd, 1) := by decide +kernel
theorem dX10_unused_30 : decode cX10_unused 30 = .ok (.istore_n 1, 1) := by decide +kernel
theorem dX10_unused_31 : decode cX10_unused 31 = .ok (.iinc 2 1, 3) := by decide +kernel
theorem dX10_unused_34 : decode cX10_unused 34 = .ok (.goto (-30), 3) := by decide +kernel
theorem dX10_unused_37 : decode cX10_unused 37 = .ok (.iload_n 1, 1) := by decide +kernel
theorem dX10_unused_38 : decode cX10_unused 38 = .ok (.ireturn, 1) := by decide +kernel
theorem dX10_allLeaves_0 : decode cX10_allLeaves 0 = .ok (.iconst 0, 1) := by decide +kernel
theorem dX10_allLeaves_1 : decode cX10_allLeaves 1 = .ok (.istore_n 1, 1) := by decide +kernel
theorem dX10_allLeaves_2 : decode cX10_allLeaves 2 = .ok (.iconst 0, 1) := by decide +kernel
theorem dX10_allLeaves_3 : decode cX10_allLeaves 3 = .ok (.istore_n 2, 1) := by decide +kernel
theorem dX10_allLeaves_4 : decode cX10_allLeaves 4 = .ok (.iload_n 2, 1) := by decide +kernel
theorem dX10_allLeaves_5 : decode cX10_allLeaves 5 = .ok (.aload_n 0, 1) := by decide +kernel
theorem dX10_allLeaves_6 : decode cX10_allLeaves 6 = .ok (.getfield 7, 3) := by decide +kernel
theorem dX10_allLeaves_9 : decode cX10_allLeaves 9 = .ok (.iconst 3, 1) := by decide +kernel
theorem dX10_allLeaves_10 : decode cX10_allLeaves 10 = .ok (.iaload, 1) := by decide +kernel
theorem dX10_allLeaves_11 : decode cX10_allLeaves 11 = .ok (.if_icmp .ge 25, 3) := by decide +kernel
theorem dX10_allLeaves_14 : decode cX10_allLeaves 14 = .ok (.iload_n 1, 1) := by decide +kernel
theorem dX10_allLeaves_15 : decode cX10_allLeaves 15 = .ok (.aload_n 0, 1) := by decide +kernel
theorem dX10_allLeaves_16 : decode cX10_allLeaves 16 = .ok (.iload_n 2, 1) := by decide +kernel
theorem dX10_allLeaves_17 : decode cX10_allLeaves 17 = .ok (.invokevirtual 86, 3) := by decide +kernel
theorem dX10_allLeaves_20 : decode cX10_allLeaves 20 = .ok (.ifCond .eq 7, 3) := by decide +kernel
theorem dX10_allLeaves_23 : decode cX10_allLeaves 23 = .ok (.iconst 0, 1) := by decide +kernel
theorem dX10_allLeaves_24 : decode cX10_allLeaves 24 = .ok (.goto 4, 3) := by decide +kernel
theorem dX10_allLeaves_27 : decode cX10_allLeaves 27 = .ok (.iconst 1, 1) := by decide +kernel
theorem dX10_allLeaves_28 : decode cX10_allLeaves 28 = .ok (.iadd, 1) := by decide +kernel
theorem dX10_allLeaves_29 : decode cX10_allLeaves 29 = .ok (.istore_n 1, 1) := by decide +kernel
theorem dX10_allLeaves_30 : decode cX10_allLeaves 30 = .ok (.iinc 2 1, 3) := by decide +kernel
theorem dX10_allLeaves_33 : decode cX10_allLeaves 33 = .ok (.goto (-29), 3) := by decide +kernel
theorem dX10_allLeaves_36 : decode cX10_allLeaves 36 = .ok (.iload_n 1, 1) := by decide +kernel
theorem dX10_allLeaves_37 : decode cX10_allLeaves 37 = .ok (.ireturn, 1) := by decide +kernel
theorem dX10_account_0 : decode cX10_account 0 = .ok (.aload_n 0, 1) := by decide +kernel
theorem dX10_account_1 : decode cX10_account 1 = .ok (.iload_n 1, 1) := by decide +kernel
theorem dX10_account_2 : decode cX10_account 2 = .ok (.iconst 0, 1) := by decide +kernel
theorem dX10_account_3 : decode cX10_account 3 = .ok (.bipush 9, 2) := by decide +kernel
theorem dX10_account_5 : decode cX10_account 5 = .ok (.invokestatic 61, 3) := by decide +kernel
theorem dX10_account_8 : decode cX10_account 8 = .ok (.ifCond .eq 7, 3) := by decide +kernel
theorem dX10_account_11 : decode cX10_account 11 = .ok (.iconst 0, 1) := by decide +kernel
theorem dX10_account_12 : decode cX10_account 12 = .ok (.goto 4, 3) := by decide +kernel
theorem dX10_account_15 : decode cX10_account 15 = .ok (.iconst 1, 1) := by decide +kernel
theorem dX10_account_16 : decode cX10_account 16 = .ok (.putfield 51, 3) := by decide +kernel
theorem dX10_account_19 : decode cX10_account 19 = .ok (.aload_n 0, 1) := by decide +kernel
theorem dX10_account_20 : decode cX10_account 20 = .ok (.getfield 51, 3) := by decide +kernel
theorem dX10_account_23 : decode cX10_account 23 = .ok (.ifCond .le 5, 3) := by decide +kernel
theorem dX10_account_26 : decode cX10_account 26 = .ok (.iconst 0, 1) := by decide +kernel
theorem dX10_account_27 : decode cX10_account 27 = .ok (.ireturn, 1) := by decide +kernel
theorem dX10_account_28 : decode cX10_account 28 = .ok (.aload_n 0, 1) := by decide +kernel
theorem dX10_account_29 : decode cX10_account 29 = .ok (.invokevirtual 150, 3) := by decide +kernel
theorem dX10_account_32 : decode cX10_account 32 = .ok (.iload_n 1, 1) := by decide +kernel
theorem dX10_account_33 : decode cX10_account 33 = .ok (.tableswitch 90 0 8 #[51, 51, 51, 60, 65, 70, 75, 80, 85], 51) := by decide +kernel
theorem dX10_account_84 : decode cX10_account 84 = .ok (.aload_n 0, 1) := by decide +kernel
theorem dX10_account_85 : decode cX10_account 85 = .ok (.getfield 7, 3) := by decide +kernel
theorem dX10_account_88 : decode cX10_account 88 = .ok (.iconst 1, 1) := by decide +kernel
theorem dX10_account_89 : decode cX10_account 89 = .ok (.iload_n 1, 1) := by decide +kernel
theorem dX10_account_90 : decode cX10_account 90 = .ok (.iadd, 1) := by decide +kernel
theorem dX10_account_91 : decode cX10_account 91 = .ok (.iaload, 1) := by decide +kernel
theorem dX10_account_92 : decode cX10_account 92 = .ok (.ireturn, 1) := by decide +kernel
theorem dX10_account_93 : decode cX10_account 93 = .ok (.aload_n 0, 1) := by decide +kernel
theorem dX10_account_94 : decode cX10_account 94 = .ok (.invokevirtual 246, 3) := by decide +kernel
theorem dX10_account_97 : decode cX10_account 97 = .ok (.ireturn, 1) := by decide +kernel
theorem dX10_account_98 : decode cX10_account 98 = .ok (.aload_n 0, 1) := by decide +kernel
theorem dX10_account_99 : decode cX10_account 99 = .ok (.invokevirtual 230, 3) := by decide +kernel
theorem dX10_account_102 : decode cX10_account 102 = .ok (.ireturn, 1) := by decide +kernel
theorem dX10_account_103 : decode cX10_account 103 = .ok (.aload_n 0, 1) := by decide +kernel
theorem dX10_account_104 : decode cX10_account 104 = .ok (.getfield 100, 3) := by decide +kernel
theorem dX10_account_107 : decode cX10_account 107 = .ok (.ireturn, 1) := by decide +kernel
theorem dX10_account_108 : decode cX10_account 108 = .ok (.aload_n 0, 1) := by decide +kernel
theorem dX10_account_109 : decode cX10_account 109 = .ok (.getfield 103, 3) := by decide +kernel
theorem dX10_account_112 : decode cX10_account 112 = .ok (.ireturn, 1) := by decide +kernel
theorem dX10_account_113 : decode cX10_account 113 = .ok (.aload_n 0, 1) := by decide +kernel
theorem dX10_account_114 : decode cX10_account 114 = .ok (.getfield 97, 3) := by decide +kernel
theorem dX10_account_117 : decode cX10_account 117 = .ok (.ireturn, 1) := by decide +kernel
theorem dX10_account_118 : decode cX10_account 118 = .ok (.aload_n 0, 1) := by decide +kernel
theorem dX10_account_119 : decode cX10_account 119 = .ok (.invokevirtual 249, 3) := by decide +kernel
theorem dX10_account_122 : decode cX10_account 122 = .ok (.ireturn, 1) := by decide +kernel
theorem dX10_account_123 : decode cX10_account 123 = .ok (.aload_n 0, 1) := by decide +kernel
theorem dX10_account_124 : decode cX10_account 124 = .ok (.invokevirtual 252, 3) := by decide +kernel
theorem dX10_account_127 : decode cX10_account 127 = .ok (.ireturn, 1) := by decide +kernel
theorem dX10_meanGrade_0 : decode cX10_meanGrade 0 = .ok (.aload_n 0, 1) := by decide +kernel
theorem dX10_meanGrade_1 : decode cX10_meanGrade 1 = .ok (.invokevirtual 150, 3) := by decide +kernel
theorem dX10_meanGrade_4 : decode cX10_meanGrade 4 = .ok (.iconst 0, 1) := by decide +kernel
theorem dX10_meanGrade_5 : decode cX10_meanGrade 5 = .ok (.istore_n 1, 1) := by decide +kernel
theorem dX10_meanGrade_6 : decode cX10_meanGrade 6 = .ok (.iconst 0, 1) := by decide +kernel
theorem dX10_meanGrade_7 : decode cX10_meanGrade 7 = .ok (.istore_n 2, 1) := by decide +kernel
theorem dX10_meanGrade_8 : decode cX10_meanGrade 8 = .ok (.iload_n 2, 1) := by decide +kernel
theorem dX10_meanGrade_9 : decode cX10_meanGrade 9 = .ok (.aload_n 0, 1) := by decide +kernel
theorem dX10_meanGrade_10 : decode cX10_meanGrade 10 = .ok (.getfield 7, 3) := by decide +kernel
theorem dX10_meanGrade_13 : decode cX10_meanGrade 13 = .ok (.iconst 1, 1) := by decide +kernel
theorem dX10_meanGrade_14 : decode cX10_meanGrade 14 = .ok (.iaload, 1) := by decide +kernel
theorem dX10_meanGrade_15 : decode cX10_meanGrade 15 = .ok (.if_icmp .ge 46, 3) := by decide +kernel
theorem dX10_meanGrade_18 : decode cX10_meanGrade 18 = .ok (.iload_n 1, 1) := by decide +kernel
theorem dX10_meanGrade_19 : decode cX10_meanGrade 19 = .ok (.aload_n 0, 1) := by decide +kernel
theorem dX10_meanGrade_20 : decode cX10_meanGrade 20 = .ok (.getfield 25, 3) := by decide +kernel
theorem dX10_meanGrade_23 : decode cX10_meanGrade 23 = .ok (.iload_n 2, 1) := by decide +kernel
theorem dX10_meanGrade_24 : decode cX10_meanGrade 24 = .ok (.iaload, 1) := by decide +kernel
theorem dX10_meanGrade_25 : decode cX10_meanGrade 25 = .ok (.ifCond .ge 7, 3) := by decide +kernel
theorem dX10_meanGrade_28 : decode cX10_meanGrade 28 = .ok (.iconst 0, 1) := by decide +kernel
theorem dX10_meanGrade_29 : decode cX10_meanGrade 29 = .ok (.goto 24, 3) := by decide +kernel
theorem dX10_meanGrade_32 : decode cX10_meanGrade 32 = .ok (.aload_n 0, 1) := by decide +kernel
theorem dX10_meanGrade_33 : decode cX10_meanGrade 33 = .ok (.getfield 7, 3) := by decide +kernel
theorem dX10_meanGrade_36 : decode cX10_meanGrade 36 = .ok (.iload_n 2, 1) := by decide +kernel
theorem dX10_meanGrade_37 : decode cX10_meanGrade 37 = .ok (.iconst 1, 1) := by decide +kernel
theorem dX10_meanGrade_38 : decode cX10_meanGrade 38 = .ok (.invokestatic 83, 3) := by decide +kernel
theorem dX10_meanGrade_41 : decode cX10_meanGrade 41 = .ok (.iaload, 1) := by decide +kernel
theorem dX10_meanGrade_42 : decode cX10_meanGrade 42 = .ok (.aload_n 0, 1) := by decide +kernel
theorem dX10_meanGrade_43 : decode cX10_meanGrade 43 = .ok (.getfield 7, 3) := by decide +kernel
theorem dX10_meanGrade_46 : decode cX10_meanGrade 46 = .ok (.iload_n 2, 1) := by decide +kernel
theorem dX10_meanGrade_47 : decode cX10_meanGrade 47 = .ok (.iconst 2, 1) := by decide +kernel
theorem dX10_meanGrade_48 : decode cX10_meanGrade 48 = .ok (.invokestatic 83, 3) := by decide +kernel
theorem dX10_meanGrade_51 : decode cX10_meanGrade 51 = .ok (.iaload, 1) := by decide +kernel
theorem dX10_meanGrade_52 : decode cX10_meanGrade 52 = .ok (.imul, 1) := by decide +kernel
theorem dX10_meanGrade_53 : decode cX10_meanGrade 53 = .ok (.iadd, 1) := by decide +kernel
theorem dX10_meanGrade_54 : decode cX10_meanGrade 54 = .ok (.istore_n 1, 1) := by decide +kernel
theorem dX10_meanGrade_55 : decode cX10_meanGrade 55 = .ok (.iinc 2 1, 3) := by decide +kernel
theorem dX10_meanGrade_58 : decode cX10_meanGrade 58 = .ok (.goto (-50), 3) := by decide +kernel
theorem dX10_meanGrade_61 : decode cX10_meanGrade 61 = .ok (.aload_n 0, 1) := by decide +kernel
theorem dX10_meanGrade_62 : decode cX10_meanGrade 62 = .ok (.aload_n 0, 1) := by decide +kernel
theorem dX10_meanGrade_63 : decode cX10_meanGrade 63 = .ok (.getfield 97, 3) := by decide +kernel
theorem dX10_meanGrade_66 : decode cX10_meanGrade 66 = .ok (.ifCond .ne 7, 3) := by decide +kernel
theorem dX10_meanGrade_69 : decode cX10_meanGrade 69 = .ok (.iconst 1, 1) := by decide +kernel
theorem dX10_meanGrade_70 : decode cX10_meanGrade 70 = .ok (.goto 4, 3) := by decide +kernel
theorem dX10_meanGrade_73 : decode cX10_meanGrade 73 = .ok (.iconst 0, 1) := by decide +kernel
theorem dX10_meanGrade_74 : decode cX10_meanGrade 74 = .ok (.putfield 51, 3) := by decide +kernel
theorem dX10_meanGrade_77 : decode cX10_meanGrade 77 = .ok (.aload_n 0, 1) := by decide +kernel
theorem dX10_meanGrade_78 : decode cX10_meanGrade 78 = .ok (.getfield 97, 3) := by decide +kernel
theorem dX10_meanGrade_81 : decode cX10_meanGrade 81 = .ok (.ifCond .ne 7, 3) := by decide +kernel
theorem dX10_meanGrade_84 : decode cX10_meanGrade 84 = .ok (.dconst 0, 1) := by decide +kernel
theorem dX10_meanGrade_85 : decode cX10_meanGrade 85 = .ok (.goto 11, 3) := by decide +kernel
theorem dX10_meanGrade_88 : decode cX10_meanGrade 88 = .ok (.iload_n 1, 1) := by decide +kernel
theorem dX10_meanGrade_89 : decode cX10_meanGrade 89 = .ok (.i2d, 1) := by decide +kernel
theorem dX10_meanGrade_90 : decode cX10_meanGrade 90 = .ok (.aload_n 0, 1) := by decide +kernel
theorem dX10_meanGrade_91 : decode cX10_meanGrade 91 = .ok (.getfield 97, 3) := by decide +kernel
theorem dX10_meanGrade_94 : decode cX10_meanGrade 94 = .ok (.i2d, 1) := by decide +kernel
theorem dX10_meanGrade_95 : decode cX10_meanGrade 95 = .ok (.ddiv, 1) := by decide +kernel
theorem dX10_meanGrade_96 : decode cX10_meanGrade 96 = .ok (.dreturn, 1) := by decide +kernel
