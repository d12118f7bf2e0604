theorem dX0_init_0 : decode cX0_init 0 = .ok (.aload_n 0, 1) := by decide +kernel
theorem dX0_init_1 : decode cX0_init 1 = .ok (.invokespecial 3, 3) := by decide +kernel
theorem dX0_init_4 : decode cX0_init 4 = .ok (.aload_n 0, 1) := by decide +kernel
theorem dX0_init_5 : decode cX0_init 5 = .ok (.iconst 0, 1) := by decide +kernel
theorem dX0_init_6 : decode cX0_init 6 = .ok (.putfield 9, 3) := by decide +kernel
theorem dX0_init_9 : decode cX0_init 9 = .ok (.aload_n 0, 1) := by decide +kernel
theorem dX0_init_10 : decode cX0_init 10 = .ok (.iconst 0, 1) := by decide +kernel
theorem dX0_init_11 : decode cX0_init 11 = .ok (.putfield 15, 3) := by decide +kernel
theorem dX0_init_14 : decode cX0_init 14 = .ok (.aload_n 0, 1) := by decide +kernel
theorem dX0_init_15 : decode cX0_init 15 = .ok (.bipush 6, 2) := by decide +kernel
theorem dX0_init_17 : decode cX0_init 17 = .ok (.newarray .int, 2) := by decide +kernel
theorem dX0_init_19 : decode cX0_init 19 = .ok (.putfield 18, 3) := by decide +kernel
theorem dX0_init_22 : decode cX0_init 22 = .ok (.aload_n 0, 1) := by decide +kernel
theorem dX0_init_23 : decode cX0_init 23 = .ok (.bipush 6, 2) := by decide +kernel
theorem dX0_init_25 : decode cX0_init 25 = .ok (.newarray .int, 2) := by decide +kernel
theorem dX0_init_27 : decode cX0_init 27 = .ok (.putfield 22, 3) := by decide +kernel
theorem dX0_init_30 : decode cX0_init 30 = .ok (.aload_n 0, 1) := by decide +kernel
theorem dX0_init_31 : decode cX0_init 31 = .ok (.iconst 4, 1) := by decide +kernel
theorem dX0_init_32 : decode cX0_init 32 = .ok (.newarray .int, 2) := by decide +kernel
theorem dX0_init_34 : decode cX0_init 34 = .ok (.putfield 25, 3) := by decide +kernel
theorem dX0_init_37 : decode cX0_init 37 = .ok (.aload_n 0, 1) := by decide +kernel
theorem dX0_init_38 : decode cX0_init 38 = .ok (.bipush 6, 2) := by decide +kernel
theorem dX0_init_40 : decode cX0_init 40 = .ok (.newarray .int, 2) := by decide +kernel
theorem dX0_init_42 : decode cX0_init 42 = .ok (.putfield 28, 3) := by decide +kernel
theorem dX0_init_45 : decode cX0_init 45 = .ok (.aload_n 0, 1) := by decide +kernel
theorem dX0_init_46 : decode cX0_init 46 = .ok (.iconst 0, 1) := by decide +kernel
theorem dX0_init_47 : decode cX0_init 47 = .ok (.putfield 31, 3) := by decide +kernel
theorem dX0_init_50 : decode cX0_init 50 = .ok (.aload_n 0, 1) := by decide +kernel
theorem dX0_init_51 : decode cX0_init 51 = .ok (.iconst 0, 1) := by decide +kernel
theorem dX0_init_52 : decode cX0_init 52 = .ok (.putfield 34, 3) := by decide +kernel
theorem dX0_init_55 : decode cX0_init 55 = .ok (.aload_n 0, 1) := by decide +kernel
theorem dX0_init_56 : decode cX0_init 56 = .ok (.iconst 0, 1) := by decide +kernel
theorem dX0_init_57 : decode cX0_init 57 = .ok (.putfield 37, 3) := by decide +kernel
theorem dX0_init_60 : decode cX0_init 60 = .ok (.aload_n 0, 1) := by decide +kernel
theorem dX0_init_61 : decode cX0_init 61 = .ok (.aload_n 1, 1) := by decide +kernel
theorem dX0_init_62 : decode cX0_init 62 = .ok (.putfield 40, 3) := by decide +kernel
theorem dX0_init_65 : decode cX0_init 65 = .ok (.return_, 1) := by decide +kernel
theorem dX0_findFor_0 : decode cX0_findFor 0 = .ok (.aload_n 0, 1) := by decide +kernel
theorem dX0_findFor_1 : decode cX0_findFor 1 = .ok (.getfield 40, 3) := by decide +kernel
theorem dX0_findFor_4 : decode cX0_findFor 4 = .ok (.aload_n 1, 1) := by decide +kernel
theorem dX0_findFor_5 : decode cX0_findFor 5 = .ok (.if_acmp .ne 4, 3) := by decide +kernel
theorem dX0_findFor_8 : decode cX0_findFor 8 = .ok (.return_, 1) := by decide +kernel
theorem dX0_findFor_9 : decode cX0_findFor 9 = .ok (.aload_n 0, 1) := by decide +kernel
theorem dX0_findFor_10 : decode cX0_findFor 10 = .ok (.aload_n 1, 1) := by decide +kernel
theorem dX0_findFor_11 : decode cX0_findFor 11 = .ok (.putfield 40, 3) := by decide +kernel
theorem dX0_findFor_14 : decode cX0_findFor 14 = .ok (.aload_n 0, 1) := by decide +kernel
theorem dX0_findFor_15 : decode cX0_findFor 15 = .ok (.aload_n 0, 1) := by decide +kernel
theorem dX0_findFor_16 : decode cX0_findFor 16 = .ok (.getfield 40, 3) := by decide +kernel
theorem dX0_findFor_19 : decode cX0_findFor 19 = .ok (.getfield 44, 3) := by decide +kernel
theorem dX0_findFor_22 : decode cX0_findFor 22 = .ok (.arraylength, 1) := by decide +kernel
theorem dX0_findFor_23 : decode cX0_findFor 23 = .ok (.bipush 6, 2) := by decide +kernel
theorem dX0_findFor_25 : decode cX0_findFor 25 = .ok (.invokestatic 50, 3) := by decide +kernel
theorem dX0_findFor_28 : decode cX0_findFor 28 = .ok (.putfield 9, 3) := by decide +kernel
theorem dX0_findFor_31 : decode cX0_findFor 31 = .ok (.aload_n 0, 1) := by decide +kernel
theorem dX0_findFor_32 : decode cX0_findFor 32 = .ok (.aload_n 0, 1) := by decide +kernel
theorem dX0_findFor_33 : decode cX0_findFor 33 = .ok (.getfield 40, 3) := by decide +kernel
theorem dX0_findFor_36 : decode cX0_findFor 36 = .ok (.getfield 56, 3) := by decide +kernel
theorem dX0_findFor_39 : decode cX0_findFor 39 = .ok (.getfield 60, 3) := by decide +kernel
theorem dX0_findFor_42 : decode cX0_findFor 42 = .ok (.arraylength, 1) := by decide +kernel
theorem dX0_findFor_43 : decode cX0_findFor 43 = .ok (.iconst 4, 1) := by decide +kernel
theorem dX0_findFor_44 : decode cX0_findFor 44 = .ok (.invokestatic 50, 3) := by decide +kernel
theorem dX0_findFor_47 : decode cX0_findFor 47 = .ok (.putfield 15, 3) := by decide +kernel
theorem dX0_findFor_50 : decode cX0_findFor 50 = .ok (.iconst 0, 1) := by decide +kernel
theorem dX0_findFor_51 : decode cX0_findFor 51 = .ok (.istore_n 2, 1) := by decide +kernel
theorem dX0_findFor_52 : decode cX0_findFor 52 = .ok (.iload_n 2, 1) := by decide +kernel
theorem dX0_findFor_53 : decode cX0_findFor 53 = .ok (.aload_n 0, 1) := by decide +kernel
theorem dX0_findFor_54 : decode cX0_findFor 54 = .ok (.getfield 9, 3) := by decide +kernel
theorem dX0_findFor_57 : decode cX0_findFor 57 = .ok (.if_icmp .ge 28, 3) := by decide +kernel
theorem dX0_findFor_60 : decode cX0_findFor 60 = .ok (.aload_n 0, 1) := by decide +kernel
theorem dX0_findFor_61 : decode cX0_findFor 61 = .ok (.getfield 18, 3) := by decide +kernel
theorem dX0_findFor_64 : decode cX0_findFor 64 = .ok (.iload_n 2, 1) := by decide +kernel
theorem dX0_findFor_65 : decode cX0_findFor 65 = .ok (.aload_n 0, 1) := by decide +kernel
theorem dX0_findFor_66 : decode cX0_findFor 66 = .ok (.aload_n 0, 1) := by decide +kernel
theorem dX0_findFor_67 : decode cX0_findFor 67 = .ok (.getfield 40, 3) := by decide +kernel
theorem dX0_findFor_70 : decode cX0_findFor 70 = .ok (.getfield 44, 3) := by decide +kernel
theorem dX0_findFor_73 : decode cX0_findFor 73 = .ok (.iload_n 2, 1) := by decide +kernel
theorem dX0_findFor_74 : decode cX0_findFor 74 = .ok (.aaload, 1) := by decide +kernel
theorem dX0_findFor_75 : decode cX0_findFor 75 = .ok (.invokevirtual 65, 3) := by decide +kernel
theorem dX0_findFor_78 : decode cX0_findFor 78 = .ok (.iastore, 1) := by decide +kernel
theorem dX0_findFor_79 : decode cX0_findFor 79 = .ok (.iinc 2 1, 3) := by decide +kernel
theorem dX0_findFor_82 : decode cX0_findFor 82 = .ok (.goto (-30), 3) := by decide +kernel
theorem dX0_findFor_85 : decode cX0_findFor 85 = .ok (.iconst 0, 1) := by decide +kernel
theorem dX0_findFor_86 : decode cX0_findFor 86 = .ok (.istore_n 2, 1) := by decide +kernel
theorem dX0_findFor_87 : decode cX0_findFor 87 = .ok (.iload_n 2, 1) := by decide +kernel
theorem dX0_findFor_88 : decode cX0_findFor 88 = .ok (.aload_n 0, 1) := by decide +kernel
theorem dX0_findFor_89 : decode cX0_findFor 89 = .ok (.getfield 15, 3) := by decide +kernel
theorem dX0_findFor_92 : decode cX0_findFor 92 = .ok (.if_icmp .ge 16, 3) := by decide +kernel
theorem dX0_findFor_95 : decode cX0_findFor 95 = .ok (.aload_n 0, 1) := by decide +kernel
theorem dX0_findFor_96 : decode cX0_findFor 96 = .ok (.getfield 25, 3) := by decide +kernel
theorem dX0_findFor_99 : decode cX0_findFor 99 = .ok (.iload_n 2, 1) := by decide +kernel
theorem dX0_findFor_100 : decode cX0_findFor 100 = .ok (.iconst 0, 1) := by decide +kernel
theorem dX0_findFor_101 : decode cX0_findFor 101 = .ok (.iastore, 1) := by decide +kernel
theorem dX0_findFor_102 : decode cX0_findFor 102 = .ok (.iinc 2 1, 3) := by decide +kernel
theorem dX0_findFor_105 : decode cX0_findFor 105 = .ok (.goto (-18), 3) := by decide +kernel
theorem dX0_findFor_108 : decode cX0_findFor 108 = .ok (.aload_n 0, 1) := by decide +kernel
theorem dX0_findFor_109 : decode cX0_findFor 109 = .ok (.sipush (-1000), 3) := by decide +kernel
theorem dX0_findFor_112 : decode cX0_findFor 112 = .ok (.putfield 31, 3) := by decide +kernel
theorem dX0_findFor_115 : decode cX0_findFor 115 = .ok (.aload_n 0, 1) := by decide +kernel
theorem dX0_findFor_116 : decode cX0_findFor 116 = .ok (.iconst 0, 1) := by decide +kernel
theorem dX0_findFor_117 : decode cX0_findFor 117 = .ok (.invokestatic 69, 3) := by decide +kernel
theorem dX0_findFor_120 : decode cX0_findFor 120 = .ok (.return_, 1) := by decide +kernel
theorem dX0_takerOf_0 : decode cX0_takerOf 0 = .ok (.iload_n 1, 1) := by decide +kernel
theorem dX0_takerOf_1 : decode cX0_takerOf 1 = .ok (.ifCond .lt 11, 3) := by decide +kernel
theorem dX0_takerOf_4 : decode cX0_takerOf 4 = .ok (.iload_n 1, 1) := by decide +kernel
theorem dX0_takerOf_5 : decode cX0_takerOf 5 = .ok (.aload_n 0, 1) := by decide +kernel
theorem dX0_takerOf_6 : decode cX0_takerOf 6 = .ok (.getfield 9, 3) := by decide +kernel
theorem dX0_takerOf_9 : decode cX0_takerOf 9 = .ok (.if_icmp .lt 5, 3) := by decide +kernel
theorem dX0_takerOf_12 : decode cX0_takerOf 12 = .ok (.iconst (-1), 1) := by decide +kernel
theorem dX0_takerOf_13 : decode cX0_takerOf 13 = .ok (.ireturn, 1) := by decide +kernel
theorem dX0_takerOf_14 : decode cX0_takerOf 14 = .ok (.aload_n 0, 1) := by decide +kernel
theorem dX0_takerOf_15 : decode cX0_takerOf 15 = .ok (.getfield 28, 3) := by decide +kernel
theorem dX0_takerOf_18 : decode cX0_takerOf 18 = .ok (.iload_n 1, 1) := by decide +kernel
theorem dX0_takerOf_19 : decode cX0_takerOf 19 = .ok (.iaload, 1) := by decide +kernel
theorem dX0_takerOf_20 : decode cX0_takerOf 20 = .ok (.istore_n 2, 1) := by decide +kernel
theorem dX0_takerOf_21 : decode cX0_takerOf 21 = .ok (.iload_n 2, 1) := by decide +kernel
theorem dX0_takerOf_22 : decode cX0_takerOf 22 = .ok (.ifCond .lt 26, 3) := by decide +kernel
theorem dX0_takerOf_25 : decode cX0_takerOf 25 = .ok (.iload_n 2, 1) := by decide +kernel
theorem dX0_takerOf_26 : decode cX0_takerOf 26 = .ok (.aload_n 0, 1) := by decide +kernel
theorem dX0_takerOf_27 : decode cX0_takerOf 27 = .ok (.getfield 15, 3) := by decide +kernel
theorem dX0_takerOf_30 : decode cX0_takerOf 30 = .ok (.if_icmp .ge 18, 3) := by decide +kernel
theorem dX0_takerOf_33 : decode cX0_takerOf 33 = .ok (.aload_n 0, 1) := by decide +kernel
theorem dX0_takerOf_34 : decode cX0_takerOf 34 = .ok (.getfield 40, 3) := by decide +kernel
theorem dX0_takerOf_37 : decode cX0_takerOf 37 = .ok (.getfield 56, 3) := by decide +kernel
theorem dX0_takerOf_40 : decode cX0_takerOf 40 = .ok (.getfield 60, 3) := by decide +kernel
theorem dX0_takerOf_43 : decode cX0_takerOf 43 = .ok (.iload_n 2, 1) := by decide +kernel
theorem dX0_takerOf_44 : decode cX0_takerOf 44 = .ok (.iaload, 1) := by decide +kernel
theorem dX0_takerOf_45 : decode cX0_takerOf 45 = .ok (.goto 4, 3) := by decide +kernel
theorem dX0_takerOf_48 : decode cX0_takerOf 48 = .ok (.iconst (-1), 1) := by decide +kernel
theorem dX0_takerOf_49 : decode cX0_takerOf 49 = .ok (.ireturn, 1) := by decide +kernel
theorem dX0_meets_0 : decode cX0_meets 0 = .ok (.aload_n 0, 1) := by decide +kernel
theorem dX0_meets_1 : decode cX0_meets 1 = .ok (.invokevirtual 73, 3) := by decide +kernel
theorem dX0_meets_4 : decode cX0_meets 4 = .ok (.iload_n 1, 1) := by decide +kernel
theorem dX0_meets_5 : decode cX0_meets 5 = .ok (.invokestatic 77, 3) := by decide +kernel
theorem dX0_meets_8 : decode cX0_meets 8 = .ok (.ireturn, 1) := by decide +kernel
theorem dX0_metSet_0 : decode cX0_metSet 0 = .ok (.aload_n 0, 1) := by decide +kernel
theorem dX0_metSet_1 : decode cX0_metSet 1 = .ok (.getfield 40, 3) := by decide +kernel
theorem dX0_metSet_4 : decode cX0_metSet 4 = .ok (.getfield 56, 3) := by decide +kernel
theorem dX0_metSet_7 : decode cX0_metSet 7 = .ok (.aload_n 0, 1) := by decide +kernel
theorem dX0_metSet_8 : decode cX0_metSet 8 = .ok (.getfield 34, 3) := by decide +kernel
theorem dX0_metSet_11 : decode cX0_metSet 11 = .ok (.invokevirtual 81, 3) := by decide +kernel
theorem dX0_metSet_14 : decode cX0_metSet 14 = .ok (.ireturn, 1) := by decide +kernel
theorem dX0_pointsWithin_0 : decode cX0_pointsWithin 0 = .ok (.iconst 0, 1) := by decide +kernel
theorem dX0_pointsWithin_1 : decode cX0_pointsWithin 1 = .ok (.istore_n 2, 1) := by decide +kernel
theorem dX0_pointsWithin_2 : decode cX0_pointsWithin 2 = .ok (.iconst 0, 1) := by decide +kernel
theorem dX0_pointsWithin_3 : decode cX0_pointsWithin 3 = .ok (.istore_n 3, 1) := by decide +kernel
theorem dX0_pointsWithin_4 : decode cX0_pointsWithin 4 = .ok (.iload_n 3, 1) := by decide +kernel
theorem dX0_pointsWithin_5 : decode cX0_pointsWithin 5 = .ok (.aload_n 0, 1) := by decide +kernel
theorem dX0_pointsWithin_6 : decode cX0_pointsWithin 6 = .ok (.getfield 9, 3) := by decide +kernel
theorem dX0_pointsWithin_9 : decode cX0_pointsWithin 9 = .ok (.if_icmp .ge 43, 3) := by decide +kernel
theorem dX0_pointsWithin_12 : decode cX0_pointsWithin 12 = .ok (.aload_n 0, 1) := by decide +kernel
theorem dX0_pointsWithin_13 : decode cX0_pointsWithin 13 = .ok (.getfield 40, 3) := by decide +kernel
theorem dX0_pointsWithin_16 : decode cX0_pointsWithin 16 = .ok (.getfield 56, 3) := by decide +kernel
theorem dX0_pointsWithin_19 : decode cX0_pointsWithin 19 = .ok (.aload_n 0, 1) := by decide +kernel
theorem dX0_pointsWithin_20 : decode cX0_pointsWithin 20 = .ok (.iload_n 3, 1) := by decide +kernel
theorem dX0_pointsWithin_21 : decode cX0_pointsWithin 21 = .ok (.invokevirtual 85, 3) := by decide +kernel
theorem dX0_pointsWithin_24 : decode cX0_pointsWithin 24 = .ok (.iload_n 1, 1) := by decide +kernel
theorem dX0_pointsWithin_25 : decode cX0_pointsWithin 25 = .ok (.invokevirtual 88, 3) := by decide +kernel
theorem dX0_pointsWithin_28 : decode cX0_pointsWithin 28 = .ok (.ifCond .eq 18, 3) := by decide +kernel
theorem dX0_pointsWithin_31 : decode cX0_pointsWithin 31 = .ok (.iload_n 2, 1) := by decide +kernel
theorem dX0_pointsWithin_32 : decode cX0_pointsWithin 32 = .ok (.aload_n 0, 1) := by decide +kernel
theorem dX0_pointsWithin_33 : decode cX0_pointsWithin 33 = .ok (.getfield 40, 3) := by decide +kernel
theorem dX0_pointsWithin_36 : decode cX0_pointsWithin 36 = .ok (.getfield 44, 3) := by decide +kernel
theorem dX0_pointsWithin_39 : decode cX0_pointsWithin 39 = .ok (.iload_n 3, 1) := by decide +kernel
theorem dX0_pointsWithin_40 : decode cX0_pointsWithin 40 = .ok (.aaload, 1) := by decide +kernel
theorem dX0_pointsWithin_41 : decode cX0_pointsWithin 41 = .ok (.getfield 91, 3) := by decide +kernel
theorem dX0_pointsWithin_44 : decode cX0_pointsWithin 44 = .ok (.iadd, 1) := by decide +kernel
theorem dX0_pointsWithin_45 : decode cX0_pointsWithin 45 = .ok (.istore_n 2, 1) := by decide +kernel
theorem dX0_pointsWithin_46 : decode cX0_pointsWithin 46 = .ok (.iinc 3 1, 3) := by decide +kernel
theorem dX0_pointsWithin_49 : decode cX0_pointsWithin 49 = .ok (.goto (-45), 3) := by decide +kernel
theorem dX0_pointsWithin_52 : decode cX0_pointsWithin 52 = .ok (.iload_n 2, 1) := by decide +kernel
theorem dX0_pointsWithin_53 : decode cX0_pointsWithin 53 = .ok (.ireturn, 1) := by decide +kernel
theorem dX0_rootsMet_0 : decode cX0_rootsMet 0 = .ok (.aload_n 0, 1) := by decide +kernel
theorem dX0_rootsMet_1 : decode cX0_rootsMet 1 = .ok (.getfield 40, 3) := by decide +kernel
theorem dX0_rootsMet_4 : decode cX0_rootsMet 4 = .ok (.getfield 56, 3) := by decide +kernel
theorem dX0_rootsMet_7 : decode cX0_rootsMet 7 = .ok (.aload_n 0, 1) := by decide +kernel
theorem dX0_rootsMet_8 : decode cX0_rootsMet 8 = .ok (.getfield 34, 3) := by decide +kernel
theorem dX0_rootsMet_11 : decode cX0_rootsMet 11 = .ok (.invokevirtual 96, 3) := by decide +kernel
theorem dX0_rootsMet_14 : decode cX0_rootsMet 14 = .ok (.ireturn, 1) := by decide +kernel
theorem dX0_leavesMet_0 : decode cX0_leavesMet 0 = .ok (.aload_n 0, 1) := by decide +kernel
theorem dX0_leavesMet_1 : decode cX0_leavesMet 1 = .ok (.getfield 34, 3) := by decide +kernel
theorem dX0_leavesMet_4 : decode cX0_leavesMet 4 = .ok (.invokestatic 99, 3) := by decide +kernel
theorem dX0_leavesMet_7 : decode cX0_leavesMet 7 = .ok (.ireturn, 1) := by decide +kernel
theorem dX0_pointsGiven_0 : decode cX0_pointsGiven 0 = .ok (.aload_n 0, 1) := by decide +kernel
theorem dX0_pointsGiven_1 : decode cX0_pointsGiven 1 = .ok (.getfield 37, 3) := by decide +kernel
theorem dX0_pointsGiven_4 : decode cX0_pointsGiven 4 = .ok (.ireturn, 1) := by decide +kernel
theorem dX0_creditsLeft_0 : decode cX0_creditsLeft 0 = .ok (.iconst 0, 1) := by decide +kernel
theorem dX0_creditsLeft_1 : decode cX0_creditsLeft 1 = .ok (.istore_n 1, 1) := by decide +kernel
theorem dX0_creditsLeft_2 : decode cX0_creditsLeft 2 = .ok (.iconst 0, 1) := by decide +kernel
theorem dX0_creditsLeft_3 : decode cX0_creditsLeft 3 = .ok (.istore_n 2, 1) := by decide +kernel
theorem dX0_creditsLeft_4 : decode cX0_creditsLeft 4 = .ok (.iload_n 2, 1) := by decide +kernel
theorem dX0_creditsLeft_5 : decode cX0_creditsLeft 5 = .ok (.aload_n 0, 1) := by decide +kernel
theorem dX0_creditsLeft_6 : decode cX0_creditsLeft 6 = .ok (.getfield 9, 3) := by decide +kernel
theorem dX0_creditsLeft_9 : decode cX0_creditsLeft 9 = .ok (.if_icmp .ge 21, 3) := by decide +kernel
theorem dX0_creditsLeft_12 : decode cX0_creditsLeft 12 = .ok (.aload_n 0, 1) := by decide +kernel
theorem dX0_creditsLeft_13 : decode cX0_creditsLeft 13 = .ok (.iload_n 2, 1) := by decide +kernel
theorem dX0_creditsLeft_14 : decode cX0_creditsLeft 14 = .ok (.invokevirtual 85, 3) := by decide +kernel
theorem dX0_creditsLeft_17 : decode cX0_creditsLeft 17 = .ok (.iconst (-1), 1) := by decide +kernel
theorem dX0_creditsLeft_18 : decode cX0_creditsLeft 18 = .ok (.if_icmp .ne 6, 3) := by decide +kernel
theorem dX0_creditsLeft_21 : decode cX0_creditsLeft 21 = .ok (.iinc 1 1, 3) := by decide +kernel
theorem dX0_creditsLeft_24 : decode cX0_creditsLeft 24 = .ok (.iinc 2 1, 3) := by decide +kernel
theorem dX0_creditsLeft_27 : decode cX0_creditsLeft 27 = .ok (.goto (-23), 3) := by decide +kernel
theorem dX0_creditsLeft_30 : decode cX0_creditsLeft 30 = .ok (.iload_n 1, 1) := by decide +kernel
theorem dX0_creditsLeft_31 : decode cX0_creditsLeft 31 = .ok (.ireturn, 1) := by decide +kernel
theorem dX0_weightedGrades_0 : decode cX0_weightedGrades 0 = .ok (.iconst 0, 1) := by decide +kernel
theorem dX0_weightedGrades_1 : decode cX0_weightedGrades 1 = .ok (.istore_n 1, 1) := by decide +kernel
theorem dX0_weightedGrades_2 : decode cX0_weightedGrades 2 = .ok (.iconst 0, 1) := by decide +kernel
theorem dX0_weightedGrades_3 : decode cX0_weightedGrades 3 = .ok (.istore_n 2, 1) := by decide +kernel
theorem dX0_weightedGrades_4 : decode cX0_weightedGrades 4 = .ok (.iload_n 2, 1) := by decide +kernel
theorem dX0_weightedGrades_5 : decode cX0_weightedGrades 5 = .ok (.aload_n 0, 1) := by decide +kernel
theorem dX0_weightedGrades_6 : decode cX0_weightedGrades 6 = .ok (.getfield 9, 3) := by decide +kernel
theorem dX0_weightedGrades_9 : decode cX0_weightedGrades 9 = .ok (.if_icmp .ge 46, 3) := by decide +kernel
theorem dX0_weightedGrades_12 : decode cX0_weightedGrades 12 = .ok (.aload_n 0, 1) := by decide +kernel
theorem dX0_weightedGrades_13 : decode cX0_weightedGrades 13 = .ok (.iload_n 2, 1) := by decide +kernel
theorem dX0_weightedGrades_14 : decode cX0_weightedGrades 14 = .ok (.invokevirtual 85, 3) := by decide +kernel
theorem dX0_weightedGrades_17 : decode cX0_weightedGrades 17 = .ok (.iconst (-1), 1) := by decide +kernel
theorem dX0_weightedGrades_18 : decode cX0_weightedGrades 18 = .ok (.if_icmp .eq 31, 3) := by decide +kernel
theorem dX0_weightedGrades_21 : decode cX0_weightedGrades 21 = .ok (.iload_n 1, 1) := by decide +kernel
theorem dX0_weightedGrades_22 : decode cX0_weightedGrades 22 = .ok (.aload_n 0, 1) := by decide +kernel
theorem dX0_weightedGrades_23 : decode cX0_weightedGrades 23 = .ok (.getfield 40, 3) := by decide +kernel
theorem dX0_weightedGrades_26 : decode cX0_weightedGrades 26 = .ok (.getfield 44, 3) := by decide +kernel
theorem dX0_weightedGrades_29 : decode cX0_weightedGrades 29 = .ok (.iload_n 2, 1) := by decide +kernel
theorem dX0_weightedGrades_30 : decode cX0_weightedGrades 30 = .ok (.aaload, 1) := by decide +kernel
theorem dX0_weightedGrades_31 : decode cX0_weightedGrades 31 = .ok (.getfield 104, 3) := by decide +kernel
theorem dX0_weightedGrades_34 : decode cX0_weightedGrades 34 = .ok (.aload_n 0, 1) := by decide +kernel
theorem dX0_weightedGrades_35 : decode cX0_weightedGrades 35 = .ok (.getfield 40, 3) := by decide +kernel
theorem dX0_weightedGrades_38 : decode cX0_weightedGrades 38 = .ok (.getfield 44, 3) := by decide +kernel
theorem dX0_weightedGrades_41 : decode cX0_weightedGrades 41 = .ok (.iload_n 2, 1) := by decide +kernel
theorem dX0_weightedGrades_42 : decode cX0_weightedGrades 42 = .ok (.aaload, 1) := by decide +kernel
theorem dX0_weightedGrades_43 : decode cX0_weightedGrades 43 = .ok (.getfield 91, 3) := by decide +kernel
theorem dX0_weightedGrades_46 : decode cX0_weightedGrades 46 = .ok (.imul, 1) := by decide +kernel
theorem dX0_weightedGrades_47 : decode cX0_weightedGrades 47 = .ok (.iadd, 1) := by decide +kernel
theorem dX0_weightedGrades_48 : decode cX0_weightedGrades 48 = .ok (.istore_n 1, 1) := by decide +kernel
theorem dX0_weightedGrades_49 : decode cX0_weightedGrades 49 = .ok (.iinc 2 1, 3) := by decide +kernel
theorem dX0_weightedGrades_52 : decode cX0_weightedGrades 52 = .ok (.goto (-48), 3) := by decide +kernel
theorem dX0_weightedGrades_55 : decode cX0_weightedGrades 55 = .ok (.iload_n 1, 1) := by decide +kernel
theorem dX0_weightedGrades_56 : decode cX0_weightedGrades 56 = .ok (.ireturn, 1) := by decide +kernel
theorem dX0_leavesFor_0 : decode cX0_leavesFor 0 = .ok (.iconst 0, 1) := by decide +kernel
theorem dX0_leavesFor_1 : decode cX0_leavesFor 1 = .ok (.istore_n 2, 1) := by decide +kernel
theorem dX0_leavesFor_2 : decode cX0_leavesFor 2 = .ok (.iconst 0, 1) := by decide +kernel
theorem dX0_leavesFor_3 : decode cX0_leavesFor 3 = .ok (.istore_n 3, 1) := by decide +kernel
theorem dX0_leavesFor_4 : decode cX0_leavesFor 4 = .ok (.iload_n 3, 1) := by decide +kernel
theorem dX0_leavesFor_5 : decode cX0_leavesFor 5 = .ok (.aload_n 0, 1) := by decide +kernel
theorem dX0_leavesFor_6 : decode cX0_leavesFor 6 = .ok (.getfield 15, 3) := by decide +kernel
theorem dX0_leavesFor_9 : decode cX0_leavesFor 9 = .ok (.if_icmp .ge 52, 3) := by decide +kernel
theorem dX0_leavesFor_12 : decode cX0_leavesFor 12 = .ok (.aload_n 0, 1) := by decide +kernel
theorem dX0_leavesFor_13 : decode cX0_leavesFor 13 = .ok (.getfield 40, 3) := by decide +kernel
theorem dX0_leavesFor_16 : decode cX0_leavesFor 16 = .ok (.getfield 56, 3) := by decide +kernel
theorem dX0_leavesFor_19 : decode cX0_leavesFor 19 = .ok (.getfield 107, 3) := by decide +kernel
theorem dX0_leavesFor_22 : decode cX0_leavesFor 22 = .ok (.aload_n 0, 1) := by decide +kernel
theorem dX0_leavesFor_23 : decode cX0_leavesFor 23 = .ok (.getfield 40, 3) := by decide +kernel
theorem dX0_leavesFor_26 : decode cX0_leavesFor 26 = .ok (.getfield 56, 3) := by decide +kernel
theorem dX0_leavesFor_29 : decode cX0_leavesFor 29 = .ok (.getfield 60, 3) := by decide +kernel
theorem dX0_leavesFor_32 : decode cX0_leavesFor 32 = .ok (.iload_n 3, 1) := by decide +kernel
theorem dX0_leavesFor_33 : decode cX0_leavesFor 33 = .ok (.iaload, 1) := by decide +kernel
theorem dX0_leavesFor_34 : decode cX0_leavesFor 34 = .ok (.aaload, 1) := by decide +kernel
theorem dX0_leavesFor_35 : decode cX0_leavesFor 35 = .ok (.aload_n 1, 1) := by decide +kernel
theorem dX0_leavesFor_36 : decode cX0_leavesFor 36 = .ok (.aload_n 0, 1) := by decide +kernel
theorem dX0_leavesFor_37 : decode cX0_leavesFor 37 = .ok (.getfield 40, 3) := by decide +kernel
theorem dX0_leavesFor_40 : decode cX0_leavesFor 40 = .ok (.getfield 111, 3) := by decide +kernel
theorem dX0_leavesFor_43 : decode cX0_leavesFor 43 = .ok (.invokevirtual 114, 3) := by decide +kernel
theorem dX0_leavesFor_46 : decode cX0_leavesFor 46 = .ok (.ifCond .eq 9, 3) := by decide +kernel
theorem dX0_leavesFor_49 : decode cX0_leavesFor 49 = .ok (.iload_n 2, 1) := by decide +kernel
theorem dX0_leavesFor_50 : decode cX0_leavesFor 50 = .ok (.iconst 1, 1) := by decide +kernel
theorem dX0_leavesFor_51 : decode cX0_leavesFor 51 = .ok (.iload_n 3, 1) := by decide +kernel
theorem dX0_leavesFor_52 : decode cX0_leavesFor 52 = .ok (.ishl, 1) := by decide +kernel
theorem dX0_leavesFor_53 : decode cX0_leavesFor 53 = .ok (.ior, 1) := by decide +kernel
theorem dX0_leavesFor_54 : decode cX0_leavesFor 54 = .ok (.istore_n 2, 1) := by decide +kernel
theorem dX0_leavesFor_55 : decode cX0_leavesFor 55 = .ok (.iinc 3 1, 3) := by decide +kernel
theorem dX0_leavesFor_58 : decode cX0_leavesFor 58 = .ok (.goto (-54), 3) := by decide +kernel
theorem dX0_leavesFor_61 : decode cX0_leavesFor 61 = .ok (.iload_n 2, 1) := by decide +kernel
theorem dX0_leavesFor_62 : decode cX0_leavesFor 62 = .ok (.ireturn, 1) := by decide +kernel
theorem dX0_giveFrom_0 : decode cX0_giveFrom 0 = .ok (.iload_n 1, 1) := by decide +kernel
theorem dX0_giveFrom_1 : decode cX0_giveFrom 1 = .ok (.ifCond .lt 11, 3) := by decide +kernel
theorem dX0_giveFrom_4 : decode cX0_giveFrom 4 = .ok (.iload_n 1, 1) := by decide +kernel
theorem dX0_giveFrom_5 : decode cX0_giveFrom 5 = .ok (.aload_n 0, 1) := by decide +kernel
theorem dX0_giveFrom_6 : decode cX0_giveFrom 6 = .ok (.getfield 9, 3) := by decide +kernel
theorem dX0_giveFrom_9 : decode cX0_giveFrom 9 = .ok (.if_icmp .lt 8, 3) := by decide +kernel
theorem dX0_giveFrom_12 : decode cX0_giveFrom 12 = .ok (.aload_n 0, 1) := by decide +kernel
theorem dX0_giveFrom_13 : decode cX0_giveFrom 13 = .ok (.invokevirtual 120, 3) := by decide +kernel
theorem dX0_giveFrom_16 : decode cX0_giveFrom 16 = .ok (.return_, 1) := by decide +kernel
theorem dX0_giveFrom_17 : decode cX0_giveFrom 17 = .ok (.aload_n 0, 1) := by decide +kernel
theorem dX0_giveFrom_18 : decode cX0_giveFrom 18 = .ok (.getfield 40, 3) := by decide +kernel
theorem dX0_giveFrom_21 : decode cX0_giveFrom 21 = .ok (.getfield 44, 3) := by decide +kernel
theorem dX0_giveFrom_24 : decode cX0_giveFrom 24 = .ok (.iload_n 1, 1) := by decide +kernel
theorem dX0_giveFrom_25 : decode cX0_giveFrom 25 = .ok (.aaload, 1) := by decide +kernel
theorem dX0_giveFrom_26 : decode cX0_giveFrom 26 = .ok (.getfield 91, 3) := by decide +kernel
theorem dX0_giveFrom_29 : decode cX0_giveFrom 29 = .ok (.istore_n 2, 1) := by decide +kernel
theorem dX0_giveFrom_30 : decode cX0_giveFrom 30 = .ok (.iconst 0, 1) := by decide +kernel
theorem dX0_giveFrom_31 : decode cX0_giveFrom 31 = .ok (.istore_n 3, 1) := by decide +kernel
theorem dX0_giveFrom_32 : decode cX0_giveFrom 32 = .ok (.iload_n 3, 1) := by decide +kernel
theorem dX0_giveFrom_33 : decode cX0_giveFrom 33 = .ok (.aload_n 0, 1) := by decide +kernel
theorem dX0_giveFrom_34 : decode cX0_giveFrom 34 = .ok (.getfield 15, 3) := by decide +kernel
theorem dX0_giveFrom_37 : decode cX0_giveFrom 37 = .ok (.if_icmp .ge 56, 3) := by decide +kernel
theorem dX0_giveFrom_40 : decode cX0_giveFrom 40 = .ok (.aload_n 0, 1) := by decide +kernel
theorem dX0_giveFrom_41 : decode cX0_giveFrom 41 = .ok (.getfield 18, 3) := by decide +kernel
theorem dX0_giveFrom_44 : decode cX0_giveFrom 44 = .ok (.iload_n 1, 1) := by decide +kernel
theorem dX0_giveFrom_45 : decode cX0_giveFrom 45 = .ok (.iaload, 1) := by decide +kernel
theorem dX0_giveFrom_46 : decode cX0_giveFrom 46 = .ok (.iload_n 3, 1) := by decide +kernel
theorem dX0_giveFrom_47 : decode cX0_giveFrom 47 = .ok (.invokestatic 77, 3) := by decide +kernel
theorem dX0_giveFrom_50 : decode cX0_giveFrom 50 = .ok (.ifCond .eq 37, 3) := by decide +kernel
theorem dX0_giveFrom_53 : decode cX0_giveFrom 53 = .ok (.aload_n 0, 1) := by decide +kernel
theorem dX0_giveFrom_54 : decode cX0_giveFrom 54 = .ok (.getfield 22, 3) := by decide +kernel
theorem dX0_giveFrom_57 : decode cX0_giveFrom 57 = .ok (.iload_n 1, 1) := by decide +kernel
theorem dX0_giveFrom_58 : decode cX0_giveFrom 58 = .ok (.iload_n 3, 1) := by decide +kernel
theorem dX0_giveFrom_59 : decode cX0_giveFrom 59 = .ok (.iastore, 1) := by decide +kernel
theorem dX0_giveFrom_60 : decode cX0_giveFrom 60 = .ok (.aload_n 0, 1) := by decide +kernel
theorem dX0_giveFrom_61 : decode cX0_giveFrom 61 = .ok (.getfield 25, 3) := by decide +kernel
theorem dX0_giveFrom_64 : decode cX0_giveFrom 64 = .ok (.iload_n 3, 1) := by decide +kernel
theorem dX0_giveFrom_65 : decode cX0_giveFrom 65 = .ok (.dup2, 1) := by decide +kernel
theorem dX0_giveFrom_66 : decode cX0_giveFrom 66 = .ok (.iaload, 1) := by decide +kernel
theorem dX0_giveFrom_67 : decode cX0_giveFrom 67 = .ok (.iload_n 2, 1) := by decide +kernel
theorem dX0_giveFrom_68 : decode cX0_giveFrom 68 = .ok (.iadd, 1) := by decide +kernel
theorem dX0_giveFrom_69 : decode cX0_giveFrom 69 = .ok (.iastore, 1) := by decide +kernel
theorem dX0_giveFrom_70 : decode cX0_giveFrom 70 = .ok (.aload_n 0, 1) := by decide +kernel
theorem dX0_giveFrom_71 : decode cX0_giveFrom 71 = .ok (.iload_n 1, 1) := by decide +kernel
theorem dX0_giveFrom_72 : decode cX0_giveFrom 72 = .ok (.iconst 1, 1) := by decide +kernel
theorem dX0_giveFrom_73 : decode cX0_giveFrom 73 = .ok (.iadd, 1) := by decide +kernel
theorem dX0_giveFrom_74 : decode cX0_giveFrom 74 = .ok (.invokestatic 69, 3) := by decide +kernel
theorem dX0_giveFrom_77 : decode cX0_giveFrom 77 = .ok (.aload_n 0, 1) := by decide +kernel
theorem dX0_giveFrom_78 : decode cX0_giveFrom 78 = .ok (.getfield 25, 3) := by decide +kernel
theorem dX0_giveFrom_81 : decode cX0_giveFrom 81 = .ok (.iload_n 3, 1) := by decide +kernel
theorem dX0_giveFrom_82 : decode cX0_giveFrom 82 = .ok (.dup2, 1) := by decide +kernel
theorem dX0_giveFrom_83 : decode cX0_giveFrom 83 = .ok (.iaload, 1) := by decide +kernel
theorem dX0_giveFrom_84 : decode cX0_giveFrom 84 = .ok (.iload_n 2, 1) := by decide +kernel
theorem dX0_giveFrom_85 : decode cX0_giveFrom 85 = .ok (.isub, 1) := by decide +kernel
theorem dX0_giveFrom_86 : decode cX0_giveFrom 86 = .ok (.iastore, 1) := by decide +kernel
theorem dX0_giveFrom_87 : decode cX0_giveFrom 87 = .ok (.iinc 3 1, 3) := by decide +kernel
theorem dX0_giveFrom_90 : decode cX0_giveFrom 90 = .ok (.goto (-58), 3) := by decide +kernel
theorem dX0_giveFrom_93 : decode cX0_giveFrom 93 = .ok (.aload_n 0, 1) := by decide +kernel
theorem dX0_giveFrom_94 : decode cX0_giveFrom 94 = .ok (.getfield 22, 3) := by decide +kernel
theorem dX0_giveFrom_97 : decode cX0_giveFrom 97 = .ok (.iload_n 1, 1) := by decide +kernel
theorem dX0_giveFrom_98 : decode cX0_giveFrom 98 = .ok (.iconst (-1), 1) := by decide +kernel
theorem dX0_giveFrom_99 : decode cX0_giveFrom 99 = .ok (.iastore, 1) := by decide +kernel
theorem dX0_giveFrom_100 : decode cX0_giveFrom 100 = .ok (.aload_n 0, 1) := by decide +kernel
theorem dX0_giveFrom_101 : decode cX0_giveFrom 101 = .ok (.iload_n 1, 1) := by decide +kernel
theorem dX0_giveFrom_102 : decode cX0_giveFrom 102 = .ok (.iconst 1, 1) := by decide +kernel
theorem dX0_giveFrom_103 : decode cX0_giveFrom 103 = .ok (.iadd, 1) := by decide +kernel
theorem dX0_giveFrom_104 : decode cX0_giveFrom 104 = .ok (.invokestatic 69, 3) := by decide +kernel
theorem dX0_giveFrom_107 : decode cX0_giveFrom 107 = .ok (.return_, 1) := by decide +kernel
theorem dX0_weigh_0 : decode cX0_weigh 0 = .ok (.iconst 0, 1) := by decide +kernel
theorem dX0_weigh_1 : decode cX0_weigh 1 = .ok (.istore_n 1, 1) := by decide +kernel
theorem dX0_weigh_2 : decode cX0_weigh 2 = .ok (.iconst 0, 1) := by decide +kernel
theorem dX0_weigh_3 : decode cX0_weigh 3 = .ok (.istore_n 2, 1) := by decide +kernel
theorem dX0_weigh_4 : decode cX0_weigh 4 = .ok (.iconst 0, 1) := by decide +kernel
theorem dX0_weigh_5 : decode cX0_weigh 5 = .ok (.istore_n 3, 1) := by decide +kernel
theorem dX0_weigh_6 : decode cX0_weigh 6 = .ok (.iload_n 3, 1) := by decide +kernel
theorem dX0_weigh_7 : decode cX0_weigh 7 = .ok (.aload_n 0, 1) := by decide +kernel
theorem dX0_weigh_8 : decode cX0_weigh 8 = .ok (.getfield 15, 3) := by decide +kernel
theorem dX0_weigh_11 : decode cX0_weigh 11 = .ok (.if_icmp .ge 59, 3) := by decide +kernel
theorem dX0_weigh_14 : decode cX0_weigh 14 = .ok (.iload_n 2, 1) := by decide +kernel
theorem dX0_weigh_15 : decode cX0_weigh 15 = .ok (.aload_n 0, 1) := by decide +kernel
theorem dX0_weigh_16 : decode cX0_weigh 16 = .ok (.getfield 25, 3) := by decide +kernel
theorem dX0_weigh_19 : decode cX0_weigh 19 = .ok (.iload_n 3, 1) := by decide +kernel
theorem dX0_weigh_20 : decode cX0_weigh 20 = .ok (.iaload, 1) := by decide +kernel
theorem dX0_weigh_21 : decode cX0_weigh 21 = .ok (.iadd, 1) := by decide +kernel
theorem dX0_weigh_22 : decode cX0_weigh 22 = .ok (.istore_n 2, 1) := by decide +kernel
theorem dX0_weigh_23 : decode cX0_weigh 23 = .ok (.aload_n 0, 1) := by decide +kernel
theorem dX0_weigh_24 : decode cX0_weigh 24 = .ok (.getfield 25, 3) := by decide +kernel
theorem dX0_weigh_27 : decode cX0_weigh 27 = .ok (.iload_n 3, 1) := by decide +kernel
theorem dX0_weigh_28 : decode cX0_weigh 28 = .ok (.iaload, 1) := by decide +kernel
theorem dX0_weigh_29 : decode cX0_weigh 29 = .ok (.aload_n 0, 1) := by decide +kernel
theorem dX0_weigh_30 : decode cX0_weigh 30 = .ok (.getfield 40, 3) := by decide +kernel
theorem dX0_weigh_33 : decode cX0_weigh 33 = .ok (.getfield 56, 3) := by decide +kernel
theorem dX0_weigh_36 : decode cX0_weigh 36 = .ok (.getfield 107, 3) := by decide +kernel
theorem dX0_weigh_39 : decode cX0_weigh 39 = .ok (.aload_n 0, 1) := by decide +kernel
theorem dX0_weigh_40 : decode cX0_weigh 40 = .ok (.getfield 40, 3) := by decide +kernel
theorem dX0_weigh_43 : decode cX0_weigh 43 = .ok (.getfield 56, 3) := by decide +kernel
theorem dX0_weigh_46 : decode cX0_weigh 46 = .ok (.getfield 60, 3) := by decide +kernel
theorem dX0_weigh_49 : decode cX0_weigh 49 = .ok (.iload_n 3, 1) := by decide +kernel
theorem dX0_weigh_50 : decode cX0_weigh 50 = .ok (.iaload, 1) := by decide +kernel
theorem dX0_weigh_51 : decode cX0_weigh 51 = .ok (.aaload, 1) := by decide +kernel
theorem dX0_weigh_52 : decode cX0_weigh 52 = .ok (.getfield 123, 3) := by decide +kernel
theorem dX0_weigh_55 : decode cX0_weigh 55 = .ok (.if_icmp .lt 9, 3) := by decide +kernel
theorem dX0_weigh_58 : decode cX0_weigh 58 = .ok (.iload_n 1, 1) := by decide +kernel
theorem dX0_weigh_59 : decode cX0_weigh 59 = .ok (.iconst 1, 1) := by decide +kernel
theorem dX0_weigh_60 : decode cX0_weigh 60 = .ok (.iload_n 3, 1) := by decide +kernel
theorem dX0_weigh_61 : decode cX0_weigh 61 = .ok (.ishl, 1) := by decide +kernel
theorem dX0_weigh_62 : decode cX0_weigh 62 = .ok (.ior, 1) := by decide +kernel
theorem dX0_weigh_63 : decode cX0_weigh 63 = .ok (.istore_n 1, 1) := by decide +kernel
theorem dX0_weigh_64 : decode cX0_weigh 64 = .ok (.iinc 3 1, 3) := by decide +kernel
theorem dX0_weigh_67 : decode cX0_weigh 67 = .ok (.goto (-61), 3) := by decide +kernel
theorem dX0_weigh_70 : decode cX0_weigh 70 = .ok (.aload_n 0, 1) := by decide +kernel
theorem dX0_weigh_71 : decode cX0_weigh 71 = .ok (.getfield 40, 3) := by decide +kernel
theorem dX0_weigh_74 : decode cX0_weigh 74 = .ok (.getfield 56, 3) := by decide +kernel
theorem dX0_weigh_77 : decode cX0_weigh 77 = .ok (.iload_n 1, 1) := by decide +kernel
theorem dX0_weigh_78 : decode cX0_weigh 78 = .ok (.invokevirtual 96, 3) := by decide +kernel
theorem dX0_weigh_81 : decode cX0_weigh 81 = .ok (.istore_n 3, 1) := by decide +kernel
theorem dX0_weigh_82 : decode cX0_weigh 82 = .ok (.iload_n 3, 1) := by decide +kernel
theorem dX0_weigh_83 : decode cX0_weigh 83 = .ok (.bipush 10, 2) := by decide +kernel
theorem dX0_weigh_85 : decode cX0_weigh 85 = .ok (.imul, 1) := by decide +kernel
theorem dX0_weigh_86 : decode cX0_weigh 86 = .ok (.iload_n 1, 1) := by decide +kernel
theorem dX0_weigh_87 : decode cX0_weigh 87 = .ok (.invokestatic 99, 3) := by decide +kernel
theorem dX0_weigh_90 : decode cX0_weigh 90 = .ok (.iadd, 1) := by decide +kernel
theorem dX0_weigh_91 : decode cX0_weigh 91 = .ok (.sipush 1000, 3) := by decide +kernel
theorem dX0_weigh_94 : decode cX0_weigh 94 = .ok (.imul, 1) := by decide +kernel
theorem dX0_weigh_95 : decode cX0_weigh 95 = .ok (.iload_n 2, 1) := by decide +kernel
theorem dX0_weigh_96 : decode cX0_weigh 96 = .ok (.isub, 1) := by decide +kernel
theorem dX0_weigh_97 : decode cX0_weigh 97 = .ok (.istore 4, 2) := by decide +kernel
theorem dX0_weigh_99 : decode cX0_weigh 99 = .ok (.iload 4, 2) := by decide +kernel
theorem dX0_weigh_101 : decode cX0_weigh 101 = .ok (.aload_n 0, 1) := by decide +kernel
theorem dX0_weigh_102 : decode cX0_weigh 102 = .ok (.getfield 31, 3) := by decide +kernel
theorem dX0_weigh_105 : decode cX0_weigh 105 = .ok (.if_icmp .le 51, 3) := by decide +kernel
theorem dX0_weigh_108 : decode cX0_weigh 108 = .ok (.aload_n 0, 1) := by decide +kernel
theorem dX0_weigh_109 : decode cX0_weigh 109 = .ok (.iload 4, 2) := by decide +kernel
theorem dX0_weigh_111 : decode cX0_weigh 111 = .ok (.putfield 31, 3) := by decide +kernel
theorem dX0_weigh_114 : decode cX0_weigh 114 = .ok (.aload_n 0, 1) := by decide +kernel
theorem dX0_weigh_115 : decode cX0_weigh 115 = .ok (.iload_n 1, 1) := by decide +kernel
theorem dX0_weigh_116 : decode cX0_weigh 116 = .ok (.putfield 34, 3) := by decide +kernel
theorem dX0_weigh_119 : decode cX0_weigh 119 = .ok (.aload_n 0, 1) := by decide +kernel
theorem dX0_weigh_120 : decode cX0_weigh 120 = .ok (.iload_n 2, 1) := by decide +kernel
theorem dX0_weigh_121 : decode cX0_weigh 121 = .ok (.putfield 37, 3) := by decide +kernel
theorem dX0_weigh_124 : decode cX0_weigh 124 = .ok (.iconst 0, 1) := by decide +kernel
theorem dX0_weigh_125 : decode cX0_weigh 125 = .ok (.istore 5, 2) := by decide +kernel
theorem dX0_weigh_127 : decode cX0_weigh 127 = .ok (.iload 5, 2) := by decide +kernel
theorem dX0_weigh_129 : decode cX0_weigh 129 = .ok (.aload_n 0, 1) := by decide +kernel
theorem dX0_weigh_130 : decode cX0_weigh 130 = .ok (.getfield 9, 3) := by decide +kernel
theorem dX0_weigh_133 : decode cX0_weigh 133 = .ok (.if_icmp .ge 23, 3) := by decide +kernel
theorem dX0_weigh_136 : decode cX0_weigh 136 = .ok (.aload_n 0, 1) := by decide +kernel
theorem dX0_weigh_137 : decode cX0_weigh 137 = .ok (.getfield 28, 3) := by decide +kernel
theorem dX0_weigh_140 : decode cX0_weigh 140 = .ok (.iload 5, 2) := by decide +kernel
theorem dX0_weigh_142 : decode cX0_weigh 142 = .ok (.aload_n 0, 1) := by decide +kernel
theorem dX0_weigh_143 : decode cX0_weigh 143 = .ok (.getfield 22, 3) := by decide +kernel
theorem dX0_weigh_146 : decode cX0_weigh 146 = .ok (.iload 5, 2) := by decide +kernel
theorem dX0_weigh_148 : decode cX0_weigh 148 = .ok (.iaload, 1) := by decide +kernel
theorem dX0_weigh_149 : decode cX0_weigh 149 = .ok (.iastore, 1) := by decide +kernel
theorem dX0_weigh_150 : decode cX0_weigh 150 = .ok (.iinc 5 1, 3) := by decide +kernel
theorem dX0_weigh_153 : decode cX0_weigh 153 = .ok (.goto (-26), 3) := by decide +kernel
theorem dX0_weigh_156 : decode cX0_weigh 156 = .ok (.return_, 1) := by decide +kernel
theorem dX1_init_0 : decode cX1_init 0 = .ok (.aload_n 0, 1) := by decide +kernel
theorem dX1_init_1 : decode cX1_init 1 = .ok (.invokespecial 3, 3) := by decide +kernel
theorem dX1_init_4 : decode cX1_init 4 = .ok (.aload_n 0, 1) := by decide +kernel
theorem dX1_init_5 : decode cX1_init 5 = .ok (.aload_n 1, 1) := by decide +kernel
theorem dX1_init_6 : decode cX1_init 6 = .ok (.putfield 9, 3) := by decide +kernel
theorem dX1_init_9 : decode cX1_init 9 = .ok (.aload_n 0, 1) := by decide +kernel
theorem dX1_init_10 : decode cX1_init 10 = .ok (.iload_n 2, 1) := by decide +kernel
theorem dX1_init_11 : decode cX1_init 11 = .ok (.putfield 15, 3) := by decide +kernel
theorem dX1_init_14 : decode cX1_init 14 = .ok (.aload_n 0, 1) := by decide +kernel
theorem dX1_init_15 : decode cX1_init 15 = .ok (.iload_n 3, 1) := by decide +kernel
theorem dX1_init_16 : decode cX1_init 16 = .ok (.putfield 19, 3) := by decide +kernel
theorem dX1_init_19 : decode cX1_init 19 = .ok (.aload_n 0, 1) := by decide +kernel
theorem dX1_init_20 : decode cX1_init 20 = .ok (.iload 4, 2) := by decide +kernel
theorem dX1_init_22 : decode cX1_init 22 = .ok (.putfield 22, 3) := by decide +kernel
theorem dX1_init_25 : decode cX1_init 25 = .ok (.aload_n 0, 1) := by decide +kernel
theorem dX1_init_26 : decode cX1_init 26 = .ok (.iload 5, 2) := by decide +kernel
theorem dX1_init_28 : decode cX1_init 28 = .ok (.putfield 25, 3) := by decide +kernel
theorem dX1_init_31 : decode cX1_init 31 = .ok (.aload_n 0, 1) := by decide +kernel
theorem dX1_init_32 : decode cX1_init 32 = .ok (.iload 6, 2) := by decide +kernel
theorem dX1_init_34 : decode cX1_init 34 = .ok (.putfield 28, 3) := by decide +kernel
theorem dX1_init_37 : decode cX1_init 37 = .ok (.return_, 1) := by decide +kernel
theorem dX1_isGroup_0 : decode cX1_isGroup 0 = .ok (.aload_n 0, 1) := by decide +kernel
theorem dX1_isGroup_1 : decode cX1_isGroup 1 = .ok (.getfield 9, 3) := by decide +kernel
theorem dX1_isGroup_4 : decode cX1_isGroup 4 = .ok (.invokevirtual 31, 3) := by decide +kernel
theorem dX1_isGroup_7 : decode cX1_isGroup 7 = .ok (.ireturn, 1) := by decide +kernel
theorem dX1_names_0 : decode cX1_names 0 = .ok (.aload_n 0, 1) := by decide +kernel
theorem dX1_names_1 : decode cX1_names 1 = .ok (.getfield 9, 3) := by decide +kernel
theorem dX1_names_4 : decode cX1_names 4 = .ok (.aload_n 1, 1) := by decide +kernel
theorem dX1_names_5 : decode cX1_names 5 = .ok (.getfield 37, 3) := by decide +kernel
theorem dX1_names_8 : decode cX1_names 8 = .ok (.invokevirtual 43, 3) := by decide +kernel
theorem dX1_names_11 : decode cX1_names 11 = .ok (.ifCond .lt 7, 3) := by decide +kernel
theorem dX1_names_14 : decode cX1_names 14 = .ok (.iconst 1, 1) := by decide +kernel
theorem dX1_names_15 : decode cX1_names 15 = .ok (.goto 4, 3) := by decide +kernel
theorem dX1_names_18 : decode cX1_names 18 = .ok (.iconst 0, 1) := by decide +kernel
theorem dX1_names_19 : decode cX1_names 19 = .ok (.ireturn, 1) := by decide +kernel
theorem dX1_lastYearFor_0 : decode cX1_lastYearFor 0 = .ok (.aload_n 1, 1) := by decide +kernel
theorem dX1_lastYearFor_1 : decode cX1_lastYearFor 1 = .ok (.getfield 47, 3) := by decide +kernel
theorem dX1_lastYearFor_4 : decode cX1_lastYearFor 4 = .ok (.aload_n 0, 1) := by decide +kernel
theorem dX1_lastYearFor_5 : decode cX1_lastYearFor 5 = .ok (.getfield 25, 3) := by decide +kernel
theorem dX1_lastYearFor_8 : decode cX1_lastYearFor 8 = .ok (.iadd, 1) := by decide +kernel
theorem dX1_lastYearFor_9 : decode cX1_lastYearFor 9 = .ok (.ireturn, 1) := by decide +kernel
theorem dX1_takes_0 : decode cX1_takes 0 = .ok (.aload_n 0, 1) := by decide +kernel
theorem dX1_takes_1 : decode cX1_takes 1 = .ok (.aload_n 1, 1) := by decide +kernel
theorem dX1_takes_2 : decode cX1_takes 2 = .ok (.invokevirtual 50, 3) := by decide +kernel
theorem dX1_takes_5 : decode cX1_takes 5 = .ok (.ifCond .eq 27, 3) := by decide +kernel
theorem dX1_takes_8 : decode cX1_takes 8 = .ok (.aload_n 1, 1) := by decide +kernel
theorem dX1_takes_9 : decode cX1_takes 9 = .ok (.getfield 54, 3) := by decide +kernel
theorem dX1_takes_12 : decode cX1_takes 12 = .ok (.aload_n 0, 1) := by decide +kernel
theorem dX1_takes_13 : decode cX1_takes 13 = .ok (.getfield 28, 3) := by decide +kernel
theorem dX1_takes_16 : decode cX1_takes 16 = .ok (.if_icmp .lt 16, 3) := by decide +kernel
theorem dX1_takes_19 : decode cX1_takes 19 = .ok (.iload_n 2, 1) := by decide +kernel
theorem dX1_takes_20 : decode cX1_takes 20 = .ok (.aload_n 0, 1) := by decide +kernel
theorem dX1_takes_21 : decode cX1_takes 21 = .ok (.aload_n 1, 1) := by decide +kernel
theorem dX1_takes_22 : decode cX1_takes 22 = .ok (.invokevirtual 57, 3) := by decide +kernel
theorem dX1_takes_25 : decode cX1_takes 25 = .ok (.if_icmp .gt 7, 3) := by decide +kernel
theorem dX1_takes_28 : decode cX1_takes 28 = .ok (.iconst 1, 1) := by decide +kernel
theorem dX1_takes_29 : decode cX1_takes 29 = .ok (.goto 4, 3) := by decide +kernel
theorem dX1_takes_32 : decode cX1_takes 32 = .ok (.iconst 0, 1) := by decide +kernel
theorem dX1_takes_33 : decode cX1_takes 33 = .ok (.ireturn, 1) := by decide +kernel
theorem dX1_isInRange_0 : decode cX1_isInRange 0 = .ok (.aload_n 0, 1) := by decide +kernel
theorem dX1_isInRange_1 : decode cX1_isInRange 1 = .ok (.invokevirtual 61, 3) := by decide +kernel
theorem dX1_isInRange_4 : decode cX1_isInRange 4 = .ok (.ifCond .ne 54, 3) := by decide +kernel
theorem dX1_isInRange_7 : decode cX1_isInRange 7 = .ok (.aload_n 0, 1) := by decide +kernel
theorem dX1_isInRange_8 : decode cX1_isInRange 8 = .ok (.getfield 22, 3) := by decide +kernel
theorem dX1_isInRange_11 : decode cX1_isInRange 11 = .ok (.iconst 1, 1) := by decide +kernel
theorem dX1_isInRange_12 : decode cX1_isInRange 12 = .ok (.if_icmp .lt 50, 3) := by decide +kernel
theorem dX1_isInRange_15 : decode cX1_isInRange 15 = .ok (.aload_n 0, 1) := by decide +kernel
theorem dX1_isInRange_16 : decode cX1_isInRange 16 = .ok (.getfield 22, 3) := by decide +kernel
theorem dX1_isInRange_19 : decode cX1_isInRange 19 = .ok (.bipush 30, 2) := by decide +kernel
theorem dX1_isInRange_21 : decode cX1_isInRange 21 = .ok (.if_icmp .gt 41, 3) := by decide +kernel
theorem dX1_isInRange_24 : decode cX1_isInRange 24 = .ok (.aload_n 0, 1) := by decide +kernel
theorem dX1_isInRange_25 : decode cX1_isInRange 25 = .ok (.getfield 25, 3) := by decide +kernel
theorem dX1_isInRange_28 : decode cX1_isInRange 28 = .ok (.ifCond .lt 34, 3) := by decide +kernel
theorem dX1_isInRange_31 : decode cX1_isInRange 31 = .ok (.aload_n 0, 1) := by decide +kernel
theorem dX1_isInRange_32 : decode cX1_isInRange 32 = .ok (.getfield 25, 3) := by decide +kernel
theorem dX1_isInRange_35 : decode cX1_isInRange 35 = .ok (.bipush 60, 2) := by decide +kernel
theorem dX1_isInRange_37 : decode cX1_isInRange 37 = .ok (.if_icmp .gt 25, 3) := by decide +kernel
theorem dX1_isInRange_40 : decode cX1_isInRange 40 = .ok (.aload_n 0, 1) := by decide +kernel
theorem dX1_isInRange_41 : decode cX1_isInRange 41 = .ok (.getfield 28, 3) := by decide +kernel
theorem dX1_isInRange_44 : decode cX1_isInRange 44 = .ok (.bipush 10, 2) := by decide +kernel
theorem dX1_isInRange_46 : decode cX1_isInRange 46 = .ok (.if_icmp .lt 16, 3) := by decide +kernel
theorem dX1_isInRange_49 : decode cX1_isInRange 49 = .ok (.aload_n 0, 1) := by decide +kernel
theorem dX1_isInRange_50 : decode cX1_isInRange 50 = .ok (.getfield 28, 3) := by decide +kernel
theorem dX1_isInRange_53 : decode cX1_isInRange 53 = .ok (.bipush 20, 2) := by decide +kernel
theorem dX1_isInRange_55 : decode cX1_isInRange 55 = .ok (.if_icmp .gt 7, 3) := by decide +kernel
theorem dX1_isInRange_58 : decode cX1_isInRange 58 = .ok (.iconst 1, 1) := by decide +kernel
theorem dX1_isInRange_59 : decode cX1_isInRange 59 = .ok (.goto 4, 3) := by decide +kernel
theorem dX1_isInRange_62 : decode cX1_isInRange 62 = .ok (.iconst 0, 1) := by decide +kernel
theorem dX1_isInRange_63 : decode cX1_isInRange 63 = .ok (.ireturn, 1) := by decide +kernel
theorem dX2_init_0 : decode cX2_init 0 = .ok (.aload_n 0, 1) := by decide +kernel
theorem dX2_init_1 : decode cX2_init 1 = .ok (.invokespecial 1, 3) := by decide +kernel
theorem dX2_init_4 : decode cX2_init 4 = .ok (.aload_n 0, 1) := by decide +kernel
theorem dX2_init_5 : decode cX2_init 5 = .ok (.iload_n 1, 1) := by decide +kernel
theorem dX2_init_6 : decode cX2_init 6 = .ok (.putfield 7, 3) := by decide +kernel
theorem dX2_init_9 : decode cX2_init 9 = .ok (.aload_n 0, 1) := by decide +kernel
theorem dX2_init_10 : decode cX2_init 10 = .ok (.iload_n 2, 1) := by decide +kernel
theorem dX2_init_11 : decode cX2_init 11 = .ok (.putfield 13, 3) := by decide +kernel
theorem dX2_init_14 : decode cX2_init 14 = .ok (.aload_n 0, 1) := by decide +kernel
theorem dX2_init_15 : decode cX2_init 15 = .ok (.iload_n 3, 1) := by decide +kernel
theorem dX2_init_16 : decode cX2_init 16 = .ok (.putfield 17, 3) := by decide +kernel
theorem dX2_init_19 : decode cX2_init 19 = .ok (.aload_n 0, 1) := by decide +kernel
theorem dX2_init_20 : decode cX2_init 20 = .ok (.iload 4, 2) := by decide +kernel
theorem dX2_init_22 : decode cX2_init 22 = .ok (.putfield 20, 3) := by decide +kernel
theorem dX2_init_25 : decode cX2_init 25 = .ok (.return_, 1) := by decide +kernel
theorem dX3_init_0 : decode cX3_init 0 = .ok (.aload_n 0, 1) := by decide +kernel
theorem dX3_init_1 : decode cX3_init 1 = .ok (.invokespecial 3, 3) := by decide +kernel
theorem dX3_init_4 : decode cX3_init 4 = .ok (.aload_n 0, 1) := by decide +kernel
theorem dX3_init_5 : decode cX3_init 5 = .ok (.iload_n 1, 1) := by decide +kernel
theorem dX3_init_6 : decode cX3_init 6 = .ok (.putfield 9, 3) := by decide +kernel
theorem dX3_init_9 : decode cX3_init 9 = .ok (.aload_n 0, 1) := by decide +kernel
theorem dX3_init_10 : decode cX3_init 10 = .ok (.aload_n 2, 1) := by decide +kernel
theorem dX3_init_11 : decode cX3_init 11 = .ok (.putfield 15, 3) := by decide +kernel
theorem dX3_init_14 : decode cX3_init 14 = .ok (.aload_n 0, 1) := by decide +kernel
theorem dX3_init_15 : decode cX3_init 15 = .ok (.aload_n 3, 1) := by decide +kernel
theorem dX3_init_16 : decode cX3_init 16 = .ok (.putfield 19, 3) := by decide +kernel
theorem dX3_init_19 : decode cX3_init 19 = .ok (.aload_n 0, 1) := by decide +kernel
theorem dX3_init_20 : decode cX3_init 20 = .ok (.aload 4, 2) := by decide +kernel
theorem dX3_init_22 : decode cX3_init 22 = .ok (.putfield 23, 3) := by decide +kernel
theorem dX3_init_25 : decode cX3_init 25 = .ok (.return_, 1) := by decide +kernel
theorem dX3_withCredit_0 : decode cX3_withCredit 0 = .ok (.aload_n 0, 1) := by decide +kernel
theorem dX3_withCredit_1 : decode cX3_withCredit 1 = .ok (.getfield 15, 3) := by decide +kernel
theorem dX3_withCredit_4 : decode cX3_withCredit 4 = .ok (.arraylength, 1) := by decide +kernel
theorem dX3_withCredit_5 : decode cX3_withCredit 5 = .ok (.iconst 1, 1) := by decide +kernel
theorem dX3_withCredit_6 : decode cX3_withCredit 6 = .ok (.iadd, 1) := by decide +kernel
theorem dX3_withCredit_7 : decode cX3_withCredit 7 = .ok (.anewarray 27, 3) := by decide +kernel
theorem dX3_withCredit_10 : decode cX3_withCredit 10 = .ok (.astore_n 2, 1) := by decide +kernel
theorem dX3_withCredit_11 : decode cX3_withCredit 11 = .ok (.iconst 0, 1) := by decide +kernel
theorem dX3_withCredit_12 : decode cX3_withCredit 12 = .ok (.istore_n 3, 1) := by decide +kernel
theorem dX3_withCredit_13 : decode cX3_withCredit 13 = .ok (.iload_n 3, 1) := by decide +kernel
theorem dX3_withCredit_14 : decode cX3_withCredit 14 = .ok (.aload_n 0, 1) := by decide +kernel
theorem dX3_withCredit_15 : decode cX3_withCredit 15 = .ok (.getfield 15, 3) := by decide +kernel
theorem dX3_withCredit_18 : decode cX3_withCredit 18 = .ok (.arraylength, 1) := by decide +kernel
theorem dX3_withCredit_19 : decode cX3_withCredit 19 = .ok (.if_icmp .ge 18, 3) := by decide +kernel
theorem dX3_withCredit_22 : decode cX3_withCredit 22 = .ok (.aload_n 2, 1) := by decide +kernel
theorem dX3_withCredit_23 : decode cX3_withCredit 23 = .ok (.iload_n 3, 1) := by decide +kernel
theorem dX3_withCredit_24 : decode cX3_withCredit 24 = .ok (.aload_n 0, 1) := by decide +kernel
theorem dX3_withCredit_25 : decode cX3_withCredit 25 = .ok (.getfield 15, 3) := by decide +kernel
theorem dX3_withCredit_28 : decode cX3_withCredit 28 = .ok (.iload_n 3, 1) := by decide +kernel
theorem dX3_withCredit_29 : decode cX3_withCredit 29 = .ok (.aaload, 1) := by decide +kernel
theorem dX3_withCredit_30 : decode cX3_withCredit 30 = .ok (.aastore, 1) := by decide +kernel
theorem dX3_withCredit_31 : decode cX3_withCredit 31 = .ok (.iinc 3 1, 3) := by decide +kernel
theorem dX3_withCredit_34 : decode cX3_withCredit 34 = .ok (.goto (-21), 3) := by decide +kernel
theorem dX3_withCredit_37 : decode cX3_withCredit 37 = .ok (.aload_n 2, 1) := by decide +kernel
theorem dX3_withCredit_38 : decode cX3_withCredit 38 = .ok (.aload_n 0, 1) := by decide +kernel
theorem dX3_withCredit_39 : decode cX3_withCredit 39 = .ok (.getfield 15, 3) := by decide +kernel
theorem dX3_withCredit_42 : decode cX3_withCredit 42 = .ok (.arraylength, 1) := by decide +kernel
theorem dX3_withCredit_43 : decode cX3_withCredit 43 = .ok (.aload_n 1, 1) := by decide +kernel
theorem dX3_withCredit_44 : decode cX3_withCredit 44 = .ok (.aastore, 1) := by decide +kernel
theorem dX3_withCredit_45 : decode cX3_withCredit 45 = .ok (.new 10, 3) := by decide +kernel
theorem dX3_withCredit_48 : decode cX3_withCredit 48 = .ok (.dup, 1) := by decide +kernel
theorem dX3_withCredit_49 : decode cX3_withCredit 49 = .ok (.aload_n 0, 1) := by decide +kernel
theorem dX3_withCredit_50 : decode cX3_withCredit 50 = .ok (.getfield 9, 3) := by decide +kernel
theorem dX3_withCredit_53 : decode cX3_withCredit 53 = .ok (.aload_n 2, 1) := by decide +kernel
theorem dX3_withCredit_54 : decode cX3_withCredit 54 = .ok (.aload_n 0, 1) := by decide +kernel
theorem dX3_withCredit_55 : decode cX3_withCredit 55 = .ok (.getfield 19, 3) := by decide +kernel
theorem dX3_withCredit_58 : decode cX3_withCredit 58 = .ok (.aload_n 0, 1) := by decide +kernel
theorem dX3_withCredit_59 : decode cX3_withCredit 59 = .ok (.getfield 23, 3) := by decide +kernel
theorem dX3_withCredit_62 : decode cX3_withCredit 62 = .ok (.invokespecial 29, 3) := by decide +kernel
theorem dX3_withCredit_65 : decode cX3_withCredit 65 = .ok (.areturn, 1) := by decide +kernel
theorem dX3_withoutCredit_0 : decode cX3_withoutCredit 0 = .ok (.iload_n 1, 1) := by decide +kernel
theorem dX3_withoutCredit_1 : decode cX3_withoutCredit 1 = .ok (.ifCond .lt 12, 3) := by decide +kernel
theorem dX3_withoutCredit_4 : decode cX3_withoutCredit 4 = .ok (.iload_n 1, 1) := by decide +kernel
theorem dX3_withoutCredit_5 : decode cX3_withoutCredit 5 = .ok (.aload_n 0, 1) := by decide +kernel
theorem dX3_withoutCredit_6 : decode cX3_withoutCredit 6 = .ok (.getfield 15, 3) := by decide +kernel
theorem dX3_withoutCredit_9 : decode cX3_withoutCredit 9 = .ok (.arraylength, 1) := by decide +kernel
theorem dX3_withoutCredit_10 : decode cX3_withoutCredit 10 = .ok (.if_icmp .lt 5, 3) := by decide +kernel
theorem dX3_withoutCredit_13 : decode cX3_withoutCredit 13 = .ok (.aload_n 0, 1) := by decide +kernel
theorem dX3_withoutCredit_14 : decode cX3_withoutCredit 14 = .ok (.areturn, 1) := by decide +kernel
theorem dX3_withoutCredit_15 : decode cX3_withoutCredit 15 = .ok (.aload_n 0, 1) := by decide +kernel
theorem dX3_withoutCredit_16 : decode cX3_withoutCredit 16 = .ok (.getfield 15, 3) := by decide +kernel
theorem dX3_withoutCredit_19 : decode cX3_withoutCredit 19 = .ok (.arraylength, 1) := by decide +kernel
theorem dX3_withoutCredit_20 : decode cX3_withoutCredit 20 = .ok (.iconst 1, 1) := by decide +kernel
theorem dX3_withoutCredit_21 : decode cX3_withoutCredit 21 = .ok (.isub, 1) := by decide +kernel
theorem dX3_withoutCredit_22 : decode cX3_withoutCredit 22 = .ok (.anewarray 27, 3) := by decide +kernel
theorem dX3_withoutCredit_25 : decode cX3_withoutCredit 25 = .ok (.astore_n 2, 1) := by decide +kernel
theorem dX3_withoutCredit_26 : decode cX3_withoutCredit 26 = .ok (.iconst 0, 1) := by decide +kernel
theorem dX3_withoutCredit_27 : decode cX3_withoutCredit 27 = .ok (.istore_n 3, 1) := by decide +kernel
theorem dX3_withoutCredit_28 : decode cX3_withoutCredit 28 = .ok (.iload_n 3, 1) := by decide +kernel
theorem dX3_withoutCredit_29 : decode cX3_withoutCredit 29 = .ok (.aload_n 2, 1) := by decide +kernel
theorem dX3_withoutCredit_30 : decode cX3_withoutCredit 30 = .ok (.arraylength, 1) := by decide +kernel
theorem dX3_withoutCredit_31 : decode cX3_withoutCredit 31 = .ok (.if_icmp .ge 29, 3) := by decide +kernel
theorem dX3_withoutCredit_34 : decode cX3_withoutCredit 34 = .ok (.aload_n 2, 1) := by decide +kernel
theorem dX3_withoutCredit_35 : decode cX3_withoutCredit 35 = .ok (.iload_n 3, 1) := by decide +kernel
theorem dX3_withoutCredit_36 : decode cX3_withoutCredit 36 = .ok (.aload_n 0, 1) := by decide +kernel
theorem dX3_withoutCredit_37 : decode cX3_withoutCredit 37 = .ok (.getfield 15, 3) := by decide +kernel
theorem dX3_withoutCredit_40 : decode cX3_withoutCredit 40 = .ok (.iload_n 3, 1) := by decide +kernel
theorem dX3_withoutCredit_41 : decode cX3_withoutCredit 41 = .ok (.iload_n 1, 1) := by decide +kernel
theorem dX3_withoutCredit_42 : decode cX3_withoutCredit 42 = .ok (.if_icmp .ge 7, 3) := by decide +kernel
theorem dX3_withoutCredit_45 : decode cX3_withoutCredit 45 = .ok (.iload_n 3, 1) := by decide +kernel
theorem dX3_withoutCredit_46 : decode cX3_withoutCredit 46 = .ok (.goto 6, 3) := by decide +kernel
theorem dX3_withoutCredit_49 : decode cX3_withoutCredit 49 = .ok (.iload_n 3, 1) := by decide +kernel
theorem dX3_withoutCredit_50 : decode cX3_withoutCredit 50 = .ok (.iconst 1, 1) := by decide +kernel
theorem dX3_withoutCredit_51 : decode cX3_withoutCredit 51 = .ok (.iadd, 1) := by decide +kernel
theorem dX3_withoutCredit_52 : decode cX3_withoutCredit 52 = .ok (.aaload, 1) := by decide +kernel
theorem dX3_withoutCredit_53 : decode cX3_withoutCredit 53 = .ok (.aastore, 1) := by decide +kernel
theorem dX3_withoutCredit_54 : decode cX3_withoutCredit 54 = .ok (.iinc 3 1, 3) := by decide +kernel
theorem dX3_withoutCredit_57 : decode cX3_withoutCredit 57 = .ok (.goto (-29), 3) := by decide +kernel
theorem dX3_withoutCredit_60 : decode cX3_withoutCredit 60 = .ok (.new 10, 3) := by decide +kernel
theorem dX3_withoutCredit_63 : decode cX3_withoutCredit 63 = .ok (.dup, 1) := by decide +kernel
theorem dX3_withoutCredit_64 : decode cX3_withoutCredit 64 = .ok (.aload_n 0, 1) := by decide +kernel
theorem dX3_withoutCredit_65 : decode cX3_withoutCredit 65 = .ok (.getfield 9, 3) := by decide +kernel
theorem dX3_withoutCredit_68 : decode cX3_withoutCredit 68 = .ok (.aload_n 2, 1) := by decide +kernel
theorem dX3_withoutCredit_69 : decode cX3_withoutCredit 69 = .ok (.aload_n 0, 1) := by decide +kernel
theorem dX3_withoutCredit_70 : decode cX3_withoutCredit 70 = .ok (.getfield 19, 3) := by decide +kernel
theorem dX3_withoutCredit_73 : decode cX3_withoutCredit 73 = .ok (.aload_n 0, 1) := by decide +kernel
theorem dX3_withoutCredit_74 : decode cX3_withoutCredit 74 = .ok (.getfield 23, 3) := by decide +kernel
theorem dX3_withoutCredit_77 : decode cX3_withoutCredit 77 = .ok (.invokespecial 29, 3) := by decide +kernel
theorem dX3_withoutCredit_80 : decode cX3_withoutCredit 80 = .ok (.areturn, 1) := by decide +kernel
theorem dX3_withEquivalence_0 : decode cX3_withEquivalence 0 = .ok (.aload_n 0, 1) := by decide +kernel
theorem dX3_withEquivalence_1 : decode cX3_withEquivalence 1 = .ok (.getfield 19, 3) := by decide +kernel
theorem dX3_withEquivalence_4 : decode cX3_withEquivalence 4 = .ok (.arraylength, 1) := by decide +kernel
theorem dX3_withEquivalence_5 : decode cX3_withEquivalence 5 = .ok (.iconst 1, 1) := by decide +kernel
theorem dX3_withEquivalence_6 : decode cX3_withEquivalence 6 = .ok (.iadd, 1) := by decide +kernel
theorem dX3_withEquivalence_7 : decode cX3_withEquivalence 7 = .ok (.anewarray 32, 3) := by decide +kernel
theorem dX3_withEquivalence_10 : decode cX3_withEquivalence 10 = .ok (.astore_n 2, 1) := by decide +kernel
theorem dX3_withEquivalence_11 : decode cX3_withEquivalence 11 = .ok (.iconst 0, 1) := by decide +kernel
theorem dX3_withEquivalence_12 : decode cX3_withEquivalence 12 = .ok (.istore_n 3, 1) := by decide +kernel
theorem dX3_withEquivalence_13 : decode cX3_withEquivalence 13 = .ok (.iload_n 3, 1) := by decide +kernel
theorem dX3_withEquivalence_14 : decode cX3_withEquivalence 14 = .ok (.aload_n 0, 1) := by decide +kernel
theorem dX3_withEquivalence_15 : decode cX3_withEquivalence 15 = .ok (.getfield 19, 3) := by decide +kernel
theorem dX3_withEquivalence_18 : decode cX3_withEquivalence 18 = .ok (.arraylength, 1) := by decide +kernel
theorem dX3_withEquivalence_19 : decode cX3_withEquivalence 19 = .ok (.if_icmp .ge 18, 3) := by decide +kernel
theorem dX3_withEquivalence_22 : decode cX3_withEquivalence 22 = .ok (.aload_n 2, 1) := by decide +kernel
theorem dX3_withEquivalence_23 : decode cX3_withEquivalence 23 = .ok (.iload_n 3, 1) := by decide +kernel
theorem dX3_withEquivalence_24 : decode cX3_withEquivalence 24 = .ok (.aload_n 0, 1) := by decide +kernel
theorem dX3_withEquivalence_25 : decode cX3_withEquivalence 25 = .ok (.getfield 19, 3) := by decide +kernel
theorem dX3_withEquivalence_28 : decode cX3_withEquivalence 28 = .ok (.iload_n 3, 1) := by decide +kernel
theorem dX3_withEquivalence_29 : decode cX3_withEquivalence 29 = .ok (.aaload, 1) := by decide +kernel
theorem dX3_withEquivalence_30 : decode cX3_withEquivalence 30 = .ok (.aastore, 1) := by decide +kernel
theorem dX3_withEquivalence_31 : decode cX3_withEquivalence 31 = .ok (.iinc 3 1, 3) := by decide +kernel
theorem dX3_withEquivalence_34 : decode cX3_withEquivalence 34 = .ok (.goto (-21), 3) := by decide +kernel
theorem dX3_withEquivalence_37 : decode cX3_withEquivalence 37 = .ok (.aload_n 2, 1) := by decide +kernel
theorem dX3_withEquivalence_38 : decode cX3_withEquivalence 38 = .ok (.aload_n 0, 1) := by decide +kernel
theorem dX3_withEquivalence_39 : decode cX3_withEquivalence 39 = .ok (.getfield 19, 3) := by decide +kernel
theorem dX3_withEquivalence_42 : decode cX3_withEquivalence 42 = .ok (.arraylength, 1) := by decide +kernel
theorem dX3_withEquivalence_43 : decode cX3_withEquivalence 43 = .ok (.aload_n 1, 1) := by decide +kernel
theorem dX3_withEquivalence_44 : decode cX3_withEquivalence 44 = .ok (.aastore, 1) := by decide +kernel
theorem dX3_withEquivalence_45 : decode cX3_withEquivalence 45 = .ok (.new 10, 3) := by decide +kernel
theorem dX3_withEquivalence_48 : decode cX3_withEquivalence 48 = .ok (.dup, 1) := by decide +kernel
theorem dX3_withEquivalence_49 : decode cX3_withEquivalence 49 = .ok (.aload_n 0, 1) := by decide +kernel
theorem dX3_withEquivalence_50 : decode cX3_withEquivalence 50 = .ok (.getfield 9, 3) := by decide +kernel
theorem dX3_withEquivalence_53 : decode cX3_withEquivalence 53 = .ok (.aload_n 0, 1) := by decide +kernel
theorem dX3_withEquivalence_54 : decode cX3_withEquivalence 54 = .ok (.getfield 15, 3) := by decide +kernel
theorem dX3_withEquivalence_57 : decode cX3_withEquivalence 57 = .ok (.aload_n 2, 1) := by decide +kernel
theorem dX3_withEquivalence_58 : decode cX3_withEquivalence 58 = .ok (.aload_n 0, 1) := by decide +kernel
theorem dX3_withEquivalence_59 : decode cX3_withEquivalence 59 = .ok (.getfield 23, 3) := by decide +kernel
theorem dX3_withEquivalence_62 : decode cX3_withEquivalence 62 = .ok (.invokespecial 29, 3) := by decide +kernel
theorem dX3_withEquivalence_65 : decode cX3_withEquivalence 65 = .ok (.areturn, 1) := by decide +kernel
theorem dX3_withProgram_0 : decode cX3_withProgram 0 = .ok (.new 10, 3) := by decide +kernel
theorem dX3_withProgram_3 : decode cX3_withProgram 3 = .ok (.dup, 1) := by decide +kernel
theorem dX3_withProgram_4 : decode cX3_withProgram 4 = .ok (.aload_n 0, 1) := by decide +kernel
theorem dX3_withProgram_5 : decode cX3_withProgram 5 = .ok (.getfield 9, 3) := by decide +kernel
theorem dX3_withProgram_8 : decode cX3_withProgram 8 = .ok (.aload_n 0, 1) := by decide +kernel
theorem dX3_withProgram_9 : decode cX3_withProgram 9 = .ok (.getfield 15, 3) := by decide +kernel
theorem dX3_withProgram_12 : decode cX3_withProgram 12 = .ok (.aload_n 0, 1) := by decide +kernel
theorem dX3_withProgram_13 : decode cX3_withProgram 13 = .ok (.getfield 19, 3) := by decide +kernel
theorem dX3_withProgram_16 : decode cX3_withProgram 16 = .ok (.aload_n 1, 1) := by decide +kernel
theorem dX3_withProgram_17 : decode cX3_withProgram 17 = .ok (.invokespecial 29, 3) := by decide +kernel
theorem dX3_withProgram_20 : decode cX3_withProgram 20 = .ok (.areturn, 1) := by decide +kernel
theorem dX3_inYear_0 : decode cX3_inYear 0 = .ok (.new 10, 3) := by decide +kernel
theorem dX3_inYear_3 : decode cX3_inYear 3 = .ok (.dup, 1) := by decide +kernel
theorem dX3_inYear_4 : decode cX3_inYear 4 = .ok (.iload_n 1, 1) := by decide +kernel
theorem dX3_inYear_5 : decode cX3_inYear 5 = .ok (.aload_n 0, 1) := by decide +kernel
theorem dX3_inYear_6 : decode cX3_inYear 6 = .ok (.getfield 15, 3) := by decide +kernel
theorem dX3_inYear_9 : decode cX3_inYear 9 = .ok (.aload_n 0, 1) := by decide +kernel
theorem dX3_inYear_10 : decode cX3_inYear 10 = .ok (.getfield 19, 3) := by decide +kernel
theorem dX3_inYear_13 : decode cX3_inYear 13 = .ok (.aload_n 0, 1) := by decide +kernel
theorem dX3_inYear_14 : decode cX3_inYear 14 = .ok (.getfield 23, 3) := by decide +kernel
theorem dX3_inYear_17 : decode cX3_inYear 17 = .ok (.invokespecial 29, 3) := by decide +kernel
theorem dX3_inYear_20 : decode cX3_inYear 20 = .ok (.areturn, 1) := by decide +kernel
theorem dX3_reasonAgainst_0 : decode cX3_reasonAgainst 0 = .ok (.aload_n 0, 1) := by decide +kernel
theorem dX3_reasonAgainst_1 : decode cX3_reasonAgainst 1 = .ok (.aload_n 1, 1) := by decide +kernel
theorem dX3_reasonAgainst_2 : decode cX3_reasonAgainst 2 = .ok (.invokevirtual 34, 3) := by decide +kernel
theorem dX3_reasonAgainst_5 : decode cX3_reasonAgainst 5 = .ok (.invokestatic 38, 3) := by decide +kernel
theorem dX3_reasonAgainst_8 : decode cX3_reasonAgainst 8 = .ok (.aload_n 1, 1) := by decide +kernel
theorem dX3_reasonAgainst_9 : decode cX3_reasonAgainst 9 = .ok (.invokevirtual 44, 3) := by decide +kernel
theorem dX3_reasonAgainst_12 : decode cX3_reasonAgainst 12 = .ok (.if_icmp .ge 5, 3) := by decide +kernel
theorem dX3_reasonAgainst_15 : decode cX3_reasonAgainst 15 = .ok (.iconst 2, 1) := by decide +kernel
theorem dX3_reasonAgainst_16 : decode cX3_reasonAgainst 16 = .ok (.ireturn, 1) := by decide +kernel
theorem dX3_reasonAgainst_17 : decode cX3_reasonAgainst 17 = .ok (.aload_n 0, 1) := by decide +kernel
theorem dX3_reasonAgainst_18 : decode cX3_reasonAgainst 18 = .ok (.getfield 15, 3) := by decide +kernel
theorem dX3_reasonAgainst_21 : decode cX3_reasonAgainst 21 = .ok (.arraylength, 1) := by decide +kernel
theorem dX3_reasonAgainst_22 : decode cX3_reasonAgainst 22 = .ok (.aload_n 1, 1) := by decide +kernel
theorem dX3_reasonAgainst_23 : decode cX3_reasonAgainst 23 = .ok (.invokevirtual 44, 3) := by decide +kernel
theorem dX3_reasonAgainst_26 : decode cX3_reasonAgainst 26 = .ok (.isub, 1) := by decide +kernel
theorem dX3_reasonAgainst_27 : decode cX3_reasonAgainst 27 = .ok (.aload_n 1, 1) := by decide +kernel
theorem dX3_reasonAgainst_28 : decode cX3_reasonAgainst 28 = .ok (.invokevirtual 48, 3) := by decide +kernel
theorem dX3_reasonAgainst_31 : decode cX3_reasonAgainst 31 = .ok (.iadd, 1) := by decide +kernel
theorem dX3_reasonAgainst_32 : decode cX3_reasonAgainst 32 = .ok (.bipush 6, 2) := by decide +kernel
theorem dX3_reasonAgainst_34 : decode cX3_reasonAgainst 34 = .ok (.if_icmp .le 5, 3) := by decide +kernel
theorem dX3_reasonAgainst_37 : decode cX3_reasonAgainst 37 = .ok (.iconst 1, 1) := by decide +kernel
theorem dX3_reasonAgainst_38 : decode cX3_reasonAgainst 38 = .ok (.ireturn, 1) := by decide +kernel
theorem dX3_reasonAgainst_39 : decode cX3_reasonAgainst 39 = .ok (.iconst 0, 1) := by decide +kernel
theorem dX3_reasonAgainst_40 : decode cX3_reasonAgainst 40 = .ok (.ireturn, 1) := by decide +kernel
theorem dX3_after_0 : decode cX3_after 0 = .ok (.aload_n 0, 1) := by decide +kernel
theorem dX3_after_1 : decode cX3_after 1 = .ok (.aload_n 1, 1) := by decide +kernel
theorem dX3_after_2 : decode cX3_after 2 = .ok (.invokevirtual 34, 3) := by decide +kernel
theorem dX3_after_5 : decode cX3_after 5 = .ok (.istore_n 2, 1) := by decide +kernel
theorem dX3_after_6 : decode cX3_after 6 = .ok (.aload_n 0, 1) := by decide +kernel
theorem dX3_after_7 : decode cX3_after 7 = .ok (.astore_n 3, 1) := by decide +kernel
theorem dX3_after_8 : decode cX3_after 8 = .ok (.iconst 0, 1) := by decide +kernel
theorem dX3_after_9 : decode cX3_after 9 = .ok (.istore 4, 2) := by decide +kernel
theorem dX3_after_11 : decode cX3_after 11 = .ok (.bipush 20, 2) := by decide +kernel
theorem dX3_after_13 : decode cX3_after 13 = .ok (.istore 5, 2) := by decide +kernel
theorem dX3_after_15 : decode cX3_after 15 = .ok (.aload_n 0, 1) := by decide +kernel
theorem dX3_after_16 : decode cX3_after 16 = .ok (.getfield 9, 3) := by decide +kernel
theorem dX3_after_19 : decode cX3_after 19 = .ok (.istore 6, 2) := by decide +kernel
theorem dX3_after_21 : decode cX3_after 21 = .ok (.aload_n 0, 1) := by decide +kernel
theorem dX3_after_22 : decode cX3_after 22 = .ok (.getfield 15, 3) := by decide +kernel
theorem dX3_after_25 : decode cX3_after 25 = .ok (.arraylength, 1) := by decide +kernel
theorem dX3_after_26 : decode cX3_after 26 = .ok (.iconst 1, 1) := by decide +kernel
theorem dX3_after_27 : decode cX3_after 27 = .ok (.isub, 1) := by decide +kernel
theorem dX3_after_28 : decode cX3_after 28 = .ok (.istore 7, 2) := by decide +kernel
theorem dX3_after_30 : decode cX3_after 30 = .ok (.iload 7, 2) := by decide +kernel
theorem dX3_after_32 : decode cX3_after 32 = .ok (.ifCond .lt 74, 3) := by decide +kernel
theorem dX3_after_35 : decode cX3_after 35 = .ok (.iload_n 2, 1) := by decide +kernel
theorem dX3_after_36 : decode cX3_after 36 = .ok (.iload 7, 2) := by decide +kernel
theorem dX3_after_38 : decode cX3_after 38 = .ok (.invokestatic 51, 3) := by decide +kernel
theorem dX3_after_41 : decode cX3_after 41 = .ok (.ifCond .eq 59, 3) := by decide +kernel
theorem dX3_after_44 : decode cX3_after 44 = .ok (.iload 4, 2) := by decide +kernel
theorem dX3_after_46 : decode cX3_after 46 = .ok (.aload_n 0, 1) := by decide +kernel
theorem dX3_after_47 : decode cX3_after 47 = .ok (.getfield 15, 3) := by decide +kernel
theorem dX3_after_50 : decode cX3_after 50 = .ok (.iload 7, 2) := by decide +kernel
theorem dX3_after_52 : decode cX3_after 52 = .ok (.aaload, 1) := by decide +kernel
theorem dX3_after_53 : decode cX3_after 53 = .ok (.getfield 55, 3) := by decide +kernel
theorem dX3_after_56 : decode cX3_after 56 = .ok (.iadd, 1) := by decide +kernel
theorem dX3_after_57 : decode cX3_after 57 = .ok (.istore 4, 2) := by decide +kernel
theorem dX3_after_59 : decode cX3_after 59 = .ok (.iload 5, 2) := by decide +kernel
theorem dX3_after_61 : decode cX3_after 61 = .ok (.aload_n 0, 1) := by decide +kernel
theorem dX3_after_62 : decode cX3_after 62 = .ok (.getfield 15, 3) := by decide +kernel
theorem dX3_after_65 : decode cX3_after 65 = .ok (.iload 7, 2) := by decide +kernel
theorem dX3_after_67 : decode cX3_after 67 = .ok (.aaload, 1) := by decide +kernel
theorem dX3_after_68 : decode cX3_after 68 = .ok (.getfield 58, 3) := by decide +kernel
theorem dX3_after_71 : decode cX3_after 71 = .ok (.invokestatic 61, 3) := by decide +kernel
theorem dX3_after_74 : decode cX3_after 74 = .ok (.istore 5, 2) := by decide +kernel
theorem dX3_after_76 : decode cX3_after 76 = .ok (.iload 6, 2) := by decide +kernel
theorem dX3_after_78 : decode cX3_after 78 = .ok (.aload_n 0, 1) := by decide +kernel
theorem dX3_after_79 : decode cX3_after 79 = .ok (.getfield 15, 3) := by decide +kernel
theorem dX3_after_82 : decode cX3_after 82 = .ok (.iload 7, 2) := by decide +kernel
theorem dX3_after_84 : decode cX3_after 84 = .ok (.aaload, 1) := by decide +kernel
theorem dX3_after_85 : decode cX3_after 85 = .ok (.getfield 67, 3) := by decide +kernel
theorem dX3_after_88 : decode cX3_after 88 = .ok (.invokestatic 61, 3) := by decide +kernel
theorem dX3_after_91 : decode cX3_after 91 = .ok (.istore 6, 2) := by decide +kernel
theorem dX3_after_93 : decode cX3_after 93 = .ok (.aload_n 3, 1) := by decide +kernel
theorem dX3_after_94 : decode cX3_after 94 = .ok (.iload 7, 2) := by decide +kernel
theorem dX3_after_96 : decode cX3_after 96 = .ok (.invokevirtual 68, 3) := by decide +kernel
theorem dX3_after_99 : decode cX3_after 99 = .ok (.astore_n 3, 1) := by decide +kernel
theorem dX3_after_100 : decode cX3_after 100 = .ok (.iinc 7 (-1), 3) := by decide +kernel
theorem dX3_after_103 : decode cX3_after 103 = .ok (.goto (-73), 3) := by decide +kernel
theorem dX3_after_106 : decode cX3_after 106 = .ok (.aload_n 1, 1) := by decide +kernel
theorem dX3_after_107 : decode cX3_after 107 = .ok (.invokevirtual 48, 3) := by decide +kernel
theorem dX3_after_110 : decode cX3_after 110 = .ok (.iconst 1, 1) := by decide +kernel
theorem dX3_after_111 : decode cX3_after 111 = .ok (.if_icmp .ne 7, 3) := by decide +kernel
theorem dX3_after_114 : decode cX3_after 114 = .ok (.iconst 0, 1) := by decide +kernel
theorem dX3_after_115 : decode cX3_after 115 = .ok (.goto 7, 3) := by decide +kernel
theorem dX3_after_118 : decode cX3_after 118 = .ok (.iload 4, 2) := by decide +kernel
theorem dX3_after_120 : decode cX3_after 120 = .ok (.iconst 2, 1) := by decide +kernel
theorem dX3_after_121 : decode cX3_after 121 = .ok (.idiv, 1) := by decide +kernel
theorem dX3_after_122 : decode cX3_after 122 = .ok (.istore 7, 2) := by decide +kernel
theorem dX3_after_124 : decode cX3_after 124 = .ok (.aload_n 3, 1) := by decide +kernel
theorem dX3_after_125 : decode cX3_after 125 = .ok (.new 27, 3) := by decide +kernel
theorem dX3_after_128 : decode cX3_after 128 = .ok (.dup, 1) := by decide +kernel
theorem dX3_after_129 : decode cX3_after 129 = .ok (.aload_n 1, 1) := by decide +kernel
theorem dX3_after_130 : decode cX3_after 130 = .ok (.getfield 72, 3) := by decide +kernel
theorem dX3_after_133 : decode cX3_after 133 = .ok (.iload 4, 2) := by decide +kernel
theorem dX3_after_135 : decode cX3_after 135 = .ok (.iload 7, 2) := by decide +kernel
theorem dX3_after_137 : decode cX3_after 137 = .ok (.isub, 1) := by decide +kernel
theorem dX3_after_138 : decode cX3_after 138 = .ok (.iload 5, 2) := by decide +kernel
theorem dX3_after_140 : decode cX3_after 140 = .ok (.iload 6, 2) := by decide +kernel
theorem dX3_after_142 : decode cX3_after 142 = .ok (.invokespecial 76, 3) := by decide +kernel
theorem dX3_after_145 : decode cX3_after 145 = .ok (.invokevirtual 79, 3) := by decide +kernel
theorem dX3_after_148 : decode cX3_after 148 = .ok (.astore_n 3, 1) := by decide +kernel
theorem dX3_after_149 : decode cX3_after 149 = .ok (.aload_n 1, 1) := by decide +kernel
theorem dX3_after_150 : decode cX3_after 150 = .ok (.invokevirtual 48, 3) := by decide +kernel
theorem dX3_after_153 : decode cX3_after 153 = .ok (.iconst 1, 1) := by decide +kernel
theorem dX3_after_154 : decode cX3_after 154 = .ok (.if_icmp .ne 5, 3) := by decide +kernel
theorem dX3_after_157 : decode cX3_after 157 = .ok (.aload_n 3, 1) := by decide +kernel
theorem dX3_after_158 : decode cX3_after 158 = .ok (.areturn, 1) := by decide +kernel
theorem dX3_after_159 : decode cX3_after 159 = .ok (.aload_n 3, 1) := by decide +kernel
theorem dX3_after_160 : decode cX3_after 160 = .ok (.new 27, 3) := by decide +kernel
theorem dX3_after_163 : decode cX3_after 163 = .ok (.dup, 1) := by decide +kernel
theorem dX3_after_164 : decode cX3_after 164 = .ok (.aload_n 1, 1) := by decide +kernel
theorem dX3_after_165 : decode cX3_after 165 = .ok (.getfield 83, 3) := by decide +kernel
theorem dX3_after_168 : decode cX3_after 168 = .ok (.iload 7, 2) := by decide +kernel
theorem dX3_after_170 : decode cX3_after 170 = .ok (.iload 5, 2) := by decide +kernel
theorem dX3_after_172 : decode cX3_after 172 = .ok (.iload 6, 2) := by decide +kernel
theorem dX3_after_174 : decode cX3_after 174 = .ok (.invokespecial 76, 3) := by decide +kernel
theorem dX3_after_177 : decode cX3_after 177 = .ok (.invokevirtual 79, 3) := by decide +kernel
theorem dX3_after_180 : decode cX3_after 180 = .ok (.areturn, 1) := by decide +kernel
theorem dX3_acceptingSet_0 : decode cX3_acceptingSet 0 = .ok (.iconst 0, 1) := by decide +kernel
theorem dX3_acceptingSet_1 : decode cX3_acceptingSet 1 = .ok (.istore_n 2, 1) := by decide +kernel
theorem dX3_acceptingSet_2 : decode cX3_acceptingSet 2 = .ok (.iconst 0, 1) := by decide +kernel
theorem dX3_acceptingSet_3 : decode cX3_acceptingSet 3 = .ok (.istore_n 3, 1) := by decide +kernel
theorem dX3_acceptingSet_4 : decode cX3_acceptingSet 4 = .ok (.iload_n 3, 1) := by decide +kernel
theorem dX3_acceptingSet_5 : decode cX3_acceptingSet 5 = .ok (.aload_n 0, 1) := by decide +kernel
theorem dX3_acceptingSet_6 : decode cX3_acceptingSet 6 = .ok (.getfield 23, 3) := by decide +kernel
theorem dX3_acceptingSet_9 : decode cX3_acceptingSet 9 = .ok (.getfield 86, 3) := by decide +kernel
theorem dX3_acceptingSet_12 : decode cX3_acceptingSet 12 = .ok (.arraylength, 1) := by decide +kernel
theorem dX3_acceptingSet_13 : decode cX3_acceptingSet 13 = .ok (.if_icmp .ge 35, 3) := by decide +kernel
theorem dX3_acceptingSet_16 : decode cX3_acceptingSet 16 = .ok (.aload_n 0, 1) := by decide +kernel
theorem dX3_acceptingSet_17 : decode cX3_acceptingSet 17 = .ok (.getfield 23, 3) := by decide +kernel
theorem dX3_acceptingSet_20 : decode cX3_acceptingSet 20 = .ok (.getfield 86, 3) := by decide +kernel
theorem dX3_acceptingSet_23 : decode cX3_acceptingSet 23 = .ok (.iload_n 3, 1) := by decide +kernel
theorem dX3_acceptingSet_24 : decode cX3_acceptingSet 24 = .ok (.aaload, 1) := by decide +kernel
theorem dX3_acceptingSet_25 : decode cX3_acceptingSet 25 = .ok (.aload_n 1, 1) := by decide +kernel
theorem dX3_acceptingSet_26 : decode cX3_acceptingSet 26 = .ok (.aload_n 0, 1) := by decide +kernel
theorem dX3_acceptingSet_27 : decode cX3_acceptingSet 27 = .ok (.getfield 9, 3) := by decide +kernel
theorem dX3_acceptingSet_30 : decode cX3_acceptingSet 30 = .ok (.invokevirtual 92, 3) := by decide +kernel
theorem dX3_acceptingSet_33 : decode cX3_acceptingSet 33 = .ok (.ifCond .eq 9, 3) := by decide +kernel
theorem dX3_acceptingSet_36 : decode cX3_acceptingSet 36 = .ok (.iload_n 2, 1) := by decide +kernel
theorem dX3_acceptingSet_37 : decode cX3_acceptingSet 37 = .ok (.iconst 1, 1) := by decide +kernel
theorem dX3_acceptingSet_38 : decode cX3_acceptingSet 38 = .ok (.iload_n 3, 1) := by decide +kernel
theorem dX3_acceptingSet_39 : decode cX3_acceptingSet 39 = .ok (.ishl, 1) := by decide +kernel
theorem dX3_acceptingSet_40 : decode cX3_acceptingSet 40 = .ok (.ior, 1) := by decide +kernel
theorem dX3_acceptingSet_41 : decode cX3_acceptingSet 41 = .ok (.istore_n 2, 1) := by decide +kernel
theorem dX3_acceptingSet_42 : decode cX3_acceptingSet 42 = .ok (.iinc 3 1, 3) := by decide +kernel
theorem dX3_acceptingSet_45 : decode cX3_acceptingSet 45 = .ok (.goto (-41), 3) := by decide +kernel
theorem dX3_acceptingSet_48 : decode cX3_acceptingSet 48 = .ok (.iload_n 2, 1) := by decide +kernel
theorem dX3_acceptingSet_49 : decode cX3_acceptingSet 49 = .ok (.ireturn, 1) := by decide +kernel
theorem dX3_hasLastYear_0 : decode cX3_hasLastYear 0 = .ok (.iconst 0, 1) := by decide +kernel
theorem dX3_hasLastYear_1 : decode cX3_hasLastYear 1 = .ok (.istore_n 2, 1) := by decide +kernel
theorem dX3_hasLastYear_2 : decode cX3_hasLastYear 2 = .ok (.iload_n 2, 1) := by decide +kernel
theorem dX3_hasLastYear_3 : decode cX3_hasLastYear 3 = .ok (.aload_n 0, 1) := by decide +kernel
theorem dX3_hasLastYear_4 : decode cX3_hasLastYear 4 = .ok (.getfield 15, 3) := by decide +kernel
theorem dX3_hasLastYear_7 : decode cX3_hasLastYear 7 = .ok (.arraylength, 1) := by decide +kernel
theorem dX3_hasLastYear_8 : decode cX3_hasLastYear 8 = .ok (.if_icmp .ge 74, 3) := by decide +kernel
theorem dX3_hasLastYear_11 : decode cX3_hasLastYear 11 = .ok (.iconst 0, 1) := by decide +kernel
theorem dX3_hasLastYear_12 : decode cX3_hasLastYear 12 = .ok (.istore_n 3, 1) := by decide +kernel
theorem dX3_hasLastYear_13 : decode cX3_hasLastYear 13 = .ok (.iload_n 3, 1) := by decide +kernel
theorem dX3_hasLastYear_14 : decode cX3_hasLastYear 14 = .ok (.aload_n 0, 1) := by decide +kernel
theorem dX3_hasLastYear_15 : decode cX3_hasLastYear 15 = .ok (.getfield 23, 3) := by decide +kernel
theorem dX3_hasLastYear_18 : decode cX3_hasLastYear 18 = .ok (.getfield 86, 3) := by decide +kernel
theorem dX3_hasLastYear_21 : decode cX3_hasLastYear 21 = .ok (.arraylength, 1) := by decide +kernel
theorem dX3_hasLastYear_22 : decode cX3_hasLastYear 22 = .ok (.if_icmp .ge 54, 3) := by decide +kernel
theorem dX3_hasLastYear_25 : decode cX3_hasLastYear 25 = .ok (.aload_n 0, 1) := by decide +kernel
theorem dX3_hasLastYear_26 : decode cX3_hasLastYear 26 = .ok (.getfield 23, 3) := by decide +kernel
theorem dX3_hasLastYear_29 : decode cX3_hasLastYear 29 = .ok (.getfield 86, 3) := by decide +kernel
theorem dX3_hasLastYear_32 : decode cX3_hasLastYear 32 = .ok (.iload_n 3, 1) := by decide +kernel
theorem dX3_hasLastYear_33 : decode cX3_hasLastYear 33 = .ok (.aaload, 1) := by decide +kernel
theorem dX3_hasLastYear_34 : decode cX3_hasLastYear 34 = .ok (.aload_n 0, 1) := by decide +kernel
theorem dX3_hasLastYear_35 : decode cX3_hasLastYear 35 = .ok (.getfield 15, 3) := by decide +kernel
theorem dX3_hasLastYear_38 : decode cX3_hasLastYear 38 = .ok (.iload_n 2, 1) := by decide +kernel
theorem dX3_hasLastYear_39 : decode cX3_hasLastYear 39 = .ok (.aaload, 1) := by decide +kernel
theorem dX3_hasLastYear_40 : decode cX3_hasLastYear 40 = .ok (.invokevirtual 98, 3) := by decide +kernel
theorem dX3_hasLastYear_43 : decode cX3_hasLastYear 43 = .ok (.ifCond .eq 27, 3) := by decide +kernel
theorem dX3_hasLastYear_46 : decode cX3_hasLastYear 46 = .ok (.aload_n 0, 1) := by decide +kernel
theorem dX3_hasLastYear_47 : decode cX3_hasLastYear 47 = .ok (.getfield 23, 3) := by decide +kernel
theorem dX3_hasLastYear_50 : decode cX3_hasLastYear 50 = .ok (.getfield 86, 3) := by decide +kernel
theorem dX3_hasLastYear_53 : decode cX3_hasLastYear 53 = .ok (.iload_n 3, 1) := by decide +kernel
theorem dX3_hasLastYear_54 : decode cX3_hasLastYear 54 = .ok (.aaload, 1) := by decide +kernel
theorem dX3_hasLastYear_55 : decode cX3_hasLastYear 55 = .ok (.aload_n 0, 1) := by decide +kernel
theorem dX3_hasLastYear_56 : decode cX3_hasLastYear 56 = .ok (.getfield 15, 3) := by decide +kernel
theorem dX3_hasLastYear_59 : decode cX3_hasLastYear 59 = .ok (.iload_n 2, 1) := by decide +kernel
theorem dX3_hasLastYear_60 : decode cX3_hasLastYear 60 = .ok (.aaload, 1) := by decide +kernel
theorem dX3_hasLastYear_61 : decode cX3_hasLastYear 61 = .ok (.invokevirtual 102, 3) := by decide +kernel
theorem dX3_hasLastYear_64 : decode cX3_hasLastYear 64 = .ok (.iload_n 1, 1) := by decide +kernel
theorem dX3_hasLastYear_65 : decode cX3_hasLastYear 65 = .ok (.if_icmp .ne 5, 3) := by decide +kernel
theorem dX3_hasLastYear_68 : decode cX3_hasLastYear 68 = .ok (.iconst 1, 1) := by decide +kernel
theorem dX3_hasLastYear_69 : decode cX3_hasLastYear 69 = .ok (.ireturn, 1) := by decide +kernel
theorem dX3_hasLastYear_70 : decode cX3_hasLastYear 70 = .ok (.iinc 3 1, 3) := by decide +kernel
theorem dX3_hasLastYear_73 : decode cX3_hasLastYear 73 = .ok (.goto (-60), 3) := by decide +kernel
theorem dX3_hasLastYear_76 : decode cX3_hasLastYear 76 = .ok (.iinc 2 1, 3) := by decide +kernel
theorem dX3_hasLastYear_79 : decode cX3_hasLastYear 79 = .ok (.goto (-77), 3) := by decide +kernel
theorem dX3_hasLastYear_82 : decode cX3_hasLastYear 82 = .ok (.iconst 0, 1) := by decide +kernel
theorem dX3_hasLastYear_83 : decode cX3_hasLastYear 83 = .ok (.ireturn, 1) := by decide +kernel
theorem dX3_pointsOfAll_0 : decode cX3_pointsOfAll 0 = .ok (.iconst 0, 1) := by decide +kernel
theorem dX3_pointsOfAll_1 : decode cX3_pointsOfAll 1 = .ok (.istore_n 1, 1) := by decide +kernel
theorem dX3_pointsOfAll_2 : decode cX3_pointsOfAll 2 = .ok (.iconst 0, 1) := by decide +kernel
theorem dX3_pointsOfAll_3 : decode cX3_pointsOfAll 3 = .ok (.istore_n 2, 1) := by decide +kernel
theorem dX3_pointsOfAll_4 : decode cX3_pointsOfAll 4 = .ok (.iload_n 2, 1) := by decide +kernel
theorem dX3_pointsOfAll_5 : decode cX3_pointsOfAll 5 = .ok (.aload_n 0, 1) := by decide +kernel
theorem dX3_pointsOfAll_6 : decode cX3_pointsOfAll 6 = .ok (.getfield 15, 3) := by decide +kernel
theorem dX3_pointsOfAll_9 : decode cX3_pointsOfAll 9 = .ok (.arraylength, 1) := by decide +kernel
theorem dX3_pointsOfAll_10 : decode cX3_pointsOfAll 10 = .ok (.if_icmp .ge 21, 3) := by decide +kernel
theorem dX3_pointsOfAll_13 : decode cX3_pointsOfAll 13 = .ok (.iload_n 1, 1) := by decide +kernel
theorem dX3_pointsOfAll_14 : decode cX3_pointsOfAll 14 = .ok (.aload_n 0, 1) := by decide +kernel
theorem dX3_pointsOfAll_15 : decode cX3_pointsOfAll 15 = .ok (.getfield 15, 3) := by decide +kernel
theorem dX3_pointsOfAll_18 : decode cX3_pointsOfAll 18 = .ok (.iload_n 2, 1) := by decide +kernel
theorem dX3_pointsOfAll_19 : decode cX3_pointsOfAll 19 = .ok (.aaload, 1) := by decide +kernel
theorem dX3_pointsOfAll_20 : decode cX3_pointsOfAll 20 = .ok (.getfield 55, 3) := by decide +kernel
theorem dX3_pointsOfAll_23 : decode cX3_pointsOfAll 23 = .ok (.iadd, 1) := by decide +kernel
theorem dX3_pointsOfAll_24 : decode cX3_pointsOfAll 24 = .ok (.istore_n 1, 1) := by decide +kernel
theorem dX3_pointsOfAll_25 : decode cX3_pointsOfAll 25 = .ok (.iinc 2 1, 3) := by decide +kernel
theorem dX3_pointsOfAll_28 : decode cX3_pointsOfAll 28 = .ok (.goto (-24), 3) := by decide +kernel
theorem dX3_pointsOfAll_31 : decode cX3_pointsOfAll 31 = .ok (.iload_n 1, 1) := by decide +kernel
theorem dX3_pointsOfAll_32 : decode cX3_pointsOfAll 32 = .ok (.ireturn, 1) := by decide +kernel
theorem dX3_goingSet_0 : decode cX3_goingSet 0 = .ok (.aload_n 0, 1) := by decide +kernel
theorem dX3_goingSet_1 : decode cX3_goingSet 1 = .ok (.aload_n 1, 1) := by decide +kernel
theorem dX3_goingSet_2 : decode cX3_goingSet 2 = .ok (.getfield 106, 3) := by decide +kernel
theorem dX3_goingSet_5 : decode cX3_goingSet 5 = .ok (.invokevirtual 109, 3) := by decide +kernel
theorem dX3_goingSet_8 : decode cX3_goingSet 8 = .ok (.invokestatic 113, 3) := by decide +kernel
theorem dX3_goingSet_11 : decode cX3_goingSet 11 = .ok (.aload_n 0, 1) := by decide +kernel
theorem dX3_goingSet_12 : decode cX3_goingSet 12 = .ok (.aload_n 1, 1) := by decide +kernel
theorem dX3_goingSet_13 : decode cX3_goingSet 13 = .ok (.getfield 116, 3) := by decide +kernel
theorem dX3_goingSet_16 : decode cX3_goingSet 16 = .ok (.invokevirtual 109, 3) := by decide +kernel
theorem dX3_goingSet_19 : decode cX3_goingSet 19 = .ok (.invokestatic 113, 3) := by decide +kernel
theorem dX3_goingSet_22 : decode cX3_goingSet 22 = .ok (.ior, 1) := by decide +kernel
theorem dX3_goingSet_23 : decode cX3_goingSet 23 = .ok (.ireturn, 1) := by decide +kernel
theorem dX3_takenFor_0 : decode cX3_takenFor 0 = .ok (.iconst (-1), 1) := by decide +kernel
theorem dX3_takenFor_1 : decode cX3_takenFor 1 = .ok (.istore_n 2, 1) := by decide +kernel
theorem dX3_takenFor_2 : decode cX3_takenFor 2 = .ok (.iconst (-1), 1) := by decide +kernel
theorem dX3_takenFor_3 : decode cX3_takenFor 3 = .ok (.istore_n 3, 1) := by decide +kernel
theorem dX3_takenFor_4 : decode cX3_takenFor 4 = .ok (.iconst 0, 1) := by decide +kernel
theorem dX3_takenFor_5 : decode cX3_takenFor 5 = .ok (.istore 4, 2) := by decide +kernel
theorem dX3_takenFor_7 : decode cX3_takenFor 7 = .ok (.iload 4, 2) := by decide +kernel
theorem dX3_takenFor_9 : decode cX3_takenFor 9 = .ok (.aload_n 0, 1) := by decide +kernel
theorem dX3_takenFor_10 : decode cX3_takenFor 10 = .ok (.getfield 15, 3) := by decide +kernel
theorem dX3_takenFor_13 : decode cX3_takenFor 13 = .ok (.arraylength, 1) := by decide +kernel
theorem dX3_takenFor_14 : decode cX3_takenFor 14 = .ok (.if_icmp .ge 55, 3) := by decide +kernel
theorem dX3_takenFor_17 : decode cX3_takenFor 17 = .ok (.aload_n 0, 1) := by decide +kernel
theorem dX3_takenFor_18 : decode cX3_takenFor 18 = .ok (.getfield 15, 3) := by decide +kernel
theorem dX3_takenFor_21 : decode cX3_takenFor 21 = .ok (.iload 4, 2) := by decide +kernel
theorem dX3_takenFor_23 : decode cX3_takenFor 23 = .ok (.aaload, 1) := by decide +kernel
theorem dX3_takenFor_24 : decode cX3_takenFor 24 = .ok (.astore 5, 2) := by decide +kernel
theorem dX3_takenFor_26 : decode cX3_takenFor 26 = .ok (.aload 5, 2) := by decide +kernel
theorem dX3_takenFor_28 : decode cX3_takenFor 28 = .ok (.getfield 119, 3) := by decide +kernel
theorem dX3_takenFor_31 : decode cX3_takenFor 31 = .ok (.iload_n 1, 1) := by decide +kernel
theorem dX3_takenFor_32 : decode cX3_takenFor 32 = .ok (.if_icmp .ne 31, 3) := by decide +kernel
theorem dX3_takenFor_35 : decode cX3_takenFor 35 = .ok (.aload 5, 2) := by decide +kernel
theorem dX3_takenFor_37 : decode cX3_takenFor 37 = .ok (.getfield 58, 3) := by decide +kernel
theorem dX3_takenFor_40 : decode cX3_takenFor 40 = .ok (.bipush 10, 2) := by decide +kernel
theorem dX3_takenFor_42 : decode cX3_takenFor 42 = .ok (.if_icmp .lt 21, 3) := by decide +kernel
theorem dX3_takenFor_45 : decode cX3_takenFor 45 = .ok (.aload 5, 2) := by decide +kernel
theorem dX3_takenFor_47 : decode cX3_takenFor 47 = .ok (.getfield 55, 3) := by decide +kernel
theorem dX3_takenFor_50 : decode cX3_takenFor 50 = .ok (.iload_n 3, 1) := by decide +kernel
theorem dX3_takenFor_51 : decode cX3_takenFor 51 = .ok (.if_icmp .le 12, 3) := by decide +kernel
theorem dX3_takenFor_54 : decode cX3_takenFor 54 = .ok (.iload 4, 2) := by decide +kernel
theorem dX3_takenFor_56 : decode cX3_takenFor 56 = .ok (.istore_n 2, 1) := by decide +kernel
theorem dX3_takenFor_57 : decode cX3_takenFor 57 = .ok (.aload 5, 2) := by decide +kernel
theorem dX3_takenFor_59 : decode cX3_takenFor 59 = .ok (.getfield 55, 3) := by decide +kernel
theorem dX3_takenFor_62 : decode cX3_takenFor 62 = .ok (.istore_n 3, 1) := by decide +kernel
theorem dX3_takenFor_63 : decode cX3_takenFor 63 = .ok (.iinc 4 1, 3) := by decide +kernel
theorem dX3_takenFor_66 : decode cX3_takenFor 66 = .ok (.goto (-59), 3) := by decide +kernel
theorem dX3_takenFor_69 : decode cX3_takenFor 69 = .ok (.iload_n 2, 1) := by decide +kernel
theorem dX3_takenFor_70 : decode cX3_takenFor 70 = .ok (.ireturn, 1) := by decide +kernel
theorem dX3_singleton_0 : decode cX3_singleton 0 = .ok (.iload_n 0, 1) := by decide +kernel
theorem dX3_singleton_1 : decode cX3_singleton 1 = .ok (.iconst (-1), 1) := by decide +kernel
theorem dX3_singleton_2 : decode cX3_singleton 2 = .ok (.if_icmp .ne 7, 3) := by decide +kernel
theorem dX3_singleton_5 : decode cX3_singleton 5 = .ok (.iconst 0, 1) := by decide +kernel
theorem dX3_singleton_6 : decode cX3_singleton 6 = .ok (.goto 6, 3) := by decide +kernel
theorem dX3_singleton_9 : decode cX3_singleton 9 = .ok (.iconst 1, 1) := by decide +kernel
theorem dX3_singleton_10 : decode cX3_singleton 10 = .ok (.iload_n 0, 1) := by decide +kernel
theorem dX3_singleton_11 : decode cX3_singleton 11 = .ok (.ishl, 1) := by decide +kernel
theorem dX3_singleton_12 : decode cX3_singleton 12 = .ok (.ireturn, 1) := by decide +kernel
theorem dX4_init_0 : decode cX4_init 0 = .ok (.aload_n 0, 1) := by decide +kernel
theorem dX4_init_1 : decode cX4_init 1 = .ok (.invokespecial 3, 3) := by decide +kernel
theorem dX4_init_4 : decode cX4_init 4 = .ok (.aload_n 0, 1) := by decide +kernel
theorem dX4_init_5 : decode cX4_init 5 = .ok (.iload_n 1, 1) := by decide +kernel
theorem dX4_init_6 : decode cX4_init 6 = .ok (.putfield 9, 3) := by decide +kernel
theorem dX4_init_9 : decode cX4_init 9 = .ok (.aload_n 0, 1) := by decide +kernel
theorem dX4_init_10 : decode cX4_init 10 = .ok (.iload_n 2, 1) := by decide +kernel
theorem dX4_init_11 : decode cX4_init 11 = .ok (.putfield 15, 3) := by decide +kernel
theorem dX4_init_14 : decode cX4_init 14 = .ok (.aload_n 0, 1) := by decide +kernel
theorem dX4_init_15 : decode cX4_init 15 = .ok (.iload_n 3, 1) := by decide +kernel
theorem dX4_init_16 : decode cX4_init 16 = .ok (.putfield 18, 3) := by decide +kernel
theorem dX4_init_19 : decode cX4_init 19 = .ok (.aload_n 0, 1) := by decide +kernel
theorem dX4_init_20 : decode cX4_init 20 = .ok (.iload 4, 2) := by decide +kernel
theorem dX4_init_22 : decode cX4_init 22 = .ok (.putfield 21, 3) := by decide +kernel
theorem dX4_init_25 : decode cX4_init 25 = .ok (.return_, 1) := by decide +kernel
theorem dX4_goingCount_0 : decode cX4_goingCount 0 = .ok (.aload_n 0, 1) := by decide +kernel
theorem dX4_goingCount_1 : decode cX4_goingCount 1 = .ok (.getfield 15, 3) := by decide +kernel
theorem dX4_goingCount_4 : decode cX4_goingCount 4 = .ok (.bipush 32, 2) := by decide +kernel
theorem dX4_goingCount_6 : decode cX4_goingCount 6 = .ok (.if_icmp .ne 7, 3) := by decide +kernel
theorem dX4_goingCount_9 : decode cX4_goingCount 9 = .ok (.iconst 1, 1) := by decide +kernel
theorem dX4_goingCount_10 : decode cX4_goingCount 10 = .ok (.goto 4, 3) := by decide +kernel
theorem dX4_goingCount_13 : decode cX4_goingCount 13 = .ok (.iconst 2, 1) := by decide +kernel
theorem dX4_goingCount_14 : decode cX4_goingCount 14 = .ok (.ireturn, 1) := by decide +kernel
theorem dX4_comingCount_0 : decode cX4_comingCount 0 = .ok (.aload_n 0, 1) := by decide +kernel
theorem dX4_comingCount_1 : decode cX4_comingCount 1 = .ok (.getfield 21, 3) := by decide +kernel
theorem dX4_comingCount_4 : decode cX4_comingCount 4 = .ok (.bipush 32, 2) := by decide +kernel
theorem dX4_comingCount_6 : decode cX4_comingCount 6 = .ok (.if_icmp .ne 7, 3) := by decide +kernel
theorem dX4_comingCount_9 : decode cX4_comingCount 9 = .ok (.iconst 1, 1) := by decide +kernel
theorem dX4_comingCount_10 : decode cX4_comingCount 10 = .ok (.goto 4, 3) := by decide +kernel
theorem dX4_comingCount_13 : decode cX4_comingCount 13 = .ok (.iconst 2, 1) := by decide +kernel
theorem dX4_comingCount_14 : decode cX4_comingCount 14 = .ok (.ireturn, 1) := by decide +kernel
theorem dX5_init_0 : decode cX5_init 0 = .ok (.aload_n 0, 1) := by decide +kernel
theorem dX5_init_1 : decode cX5_init 1 = .ok (.invokespecial 3, 3) := by decide +kernel
theorem dX5_init_4 : decode cX5_init 4 = .ok (.aload_n 0, 1) := by decide +kernel
theorem dX5_init_5 : decode cX5_init 5 = .ok (.bipush 8, 2) := by decide +kernel
theorem dX5_init_7 : decode cX5_init 7 = .ok (.anewarray 9, 3) := by decide +kernel
theorem dX5_init_10 : decode cX5_init 10 = .ok (.putfield 11, 3) := by decide +kernel
theorem dX5_init_13 : decode cX5_init 13 = .ok (.aload_n 0, 1) := by decide +kernel
theorem dX5_init_14 : decode cX5_init 14 = .ok (.iconst 0, 1) := by decide +kernel
theorem dX5_init_15 : decode cX5_init 15 = .ok (.putfield 17, 3) := by decide +kernel
theorem dX5_init_18 : decode cX5_init 18 = .ok (.return_, 1) := by decide +kernel
theorem dX5_keep_0 : decode cX5_keep 0 = .ok (.aload_n 0, 1) := by decide +kernel
theorem dX5_keep_1 : decode cX5_keep 1 = .ok (.getfield 17, 3) := by decide +kernel
theorem dX5_keep_4 : decode cX5_keep 4 = .ok (.aload_n 0, 1) := by decide +kernel
theorem dX5_keep_5 : decode cX5_keep 5 = .ok (.getfield 11, 3) := by decide +kernel
theorem dX5_keep_8 : decode cX5_keep 8 = .ok (.arraylength, 1) := by decide +kernel
theorem dX5_keep_9 : decode cX5_keep 9 = .ok (.if_icmp .lt 45, 3) := by decide +kernel
theorem dX5_keep_12 : decode cX5_keep 12 = .ok (.iconst 1, 1) := by decide +kernel
theorem dX5_keep_13 : decode cX5_keep 13 = .ok (.istore_n 2, 1) := by decide +kernel
theorem dX5_keep_14 : decode cX5_keep 14 = .ok (.iload_n 2, 1) := by decide +kernel
theorem dX5_keep_15 : decode cX5_keep 15 = .ok (.aload_n 0, 1) := by decide +kernel
theorem dX5_keep_16 : decode cX5_keep 16 = .ok (.getfield 11, 3) := by decide +kernel
theorem dX5_keep_19 : decode cX5_keep 19 = .ok (.arraylength, 1) := by decide +kernel
theorem dX5_keep_20 : decode cX5_keep 20 = .ok (.if_icmp .ge 23, 3) := by decide +kernel
theorem dX5_keep_23 : decode cX5_keep 23 = .ok (.aload_n 0, 1) := by decide +kernel
theorem dX5_keep_24 : decode cX5_keep 24 = .ok (.getfield 11, 3) := by decide +kernel
theorem dX5_keep_27 : decode cX5_keep 27 = .ok (.iload_n 2, 1) := by decide +kernel
theorem dX5_keep_28 : decode cX5_keep 28 = .ok (.iconst 1, 1) := by decide +kernel
theorem dX5_keep_29 : decode cX5_keep 29 = .ok (.isub, 1) := by decide +kernel
theorem dX5_keep_30 : decode cX5_keep 30 = .ok (.aload_n 0, 1) := by decide +kernel
theorem dX5_keep_31 : decode cX5_keep 31 = .ok (.getfield 11, 3) := by decide +kernel
theorem dX5_keep_34 : decode cX5_keep 34 = .ok (.iload_n 2, 1) := by decide +kernel
theorem dX5_keep_35 : decode cX5_keep 35 = .ok (.aaload, 1) := by decide +kernel
theorem dX5_keep_36 : decode cX5_keep 36 = .ok (.aastore, 1) := by decide +kernel
theorem dX5_keep_37 : decode cX5_keep 37 = .ok (.iinc 2 1, 3) := by decide +kernel
theorem dX5_keep_40 : decode cX5_keep 40 = .ok (.goto (-26), 3) := by decide +kernel
theorem dX5_keep_43 : decode cX5_keep 43 = .ok (.aload_n 0, 1) := by decide +kernel
theorem dX5_keep_44 : decode cX5_keep 44 = .ok (.aload_n 0, 1) := by decide +kernel
theorem dX5_keep_45 : decode cX5_keep 45 = .ok (.getfield 11, 3) := by decide +kernel
theorem dX5_keep_48 : decode cX5_keep 48 = .ok (.arraylength, 1) := by decide +kernel
theorem dX5_keep_49 : decode cX5_keep 49 = .ok (.iconst 1, 1) := by decide +kernel
theorem dX5_keep_50 : decode cX5_keep 50 = .ok (.isub, 1) := by decide +kernel
theorem dX5_keep_51 : decode cX5_keep 51 = .ok (.putfield 17, 3) := by decide +kernel
theorem dX5_keep_54 : decode cX5_keep 54 = .ok (.aload_n 0, 1) := by decide +kernel
theorem dX5_keep_55 : decode cX5_keep 55 = .ok (.getfield 11, 3) := by decide +kernel
theorem dX5_keep_58 : decode cX5_keep 58 = .ok (.aload_n 0, 1) := by decide +kernel
theorem dX5_keep_59 : decode cX5_keep 59 = .ok (.getfield 17, 3) := by decide +kernel
theorem dX5_keep_62 : decode cX5_keep 62 = .ok (.aload_n 1, 1) := by decide +kernel
theorem dX5_keep_63 : decode cX5_keep 63 = .ok (.aastore, 1) := by decide +kernel
theorem dX5_keep_64 : decode cX5_keep 64 = .ok (.aload_n 0, 1) := by decide +kernel
theorem dX5_keep_65 : decode cX5_keep 65 = .ok (.dup, 1) := by decide +kernel
theorem dX5_keep_66 : decode cX5_keep 66 = .ok (.getfield 17, 3) := by decide +kernel
theorem dX5_keep_69 : decode cX5_keep 69 = .ok (.iconst 1, 1) := by decide +kernel
theorem dX5_keep_70 : decode cX5_keep 70 = .ok (.iadd, 1) := by decide +kernel
theorem dX5_keep_71 : decode cX5_keep 71 = .ok (.putfield 17, 3) := by decide +kernel
theorem dX5_keep_74 : decode cX5_keep 74 = .ok (.return_, 1) := by decide +kernel
theorem dX5_takeLatest_0 : decode cX5_takeLatest 0 = .ok (.aload_n 0, 1) := by decide +kernel
theorem dX5_takeLatest_1 : decode cX5_takeLatest 1 = .ok (.getfield 17, 3) := by decide +kernel
theorem dX5_takeLatest_4 : decode cX5_takeLatest 4 = .ok (.ifCond .gt 5, 3) := by decide +kernel
theorem dX5_takeLatest_7 : decode cX5_takeLatest 7 = .ok (.aconst_null, 1) := by decide +kernel
theorem dX5_takeLatest_8 : decode cX5_takeLatest 8 = .ok (.areturn, 1) := by decide +kernel
theorem dX5_takeLatest_9 : decode cX5_takeLatest 9 = .ok (.aload_n 0, 1) := by decide +kernel
theorem dX5_takeLatest_10 : decode cX5_takeLatest 10 = .ok (.dup, 1) := by decide +kernel
theorem dX5_takeLatest_11 : decode cX5_takeLatest 11 = .ok (.getfield 17, 3) := by decide +kernel
theorem dX5_takeLatest_14 : decode cX5_takeLatest 14 = .ok (.iconst 1, 1) := by decide +kernel
theorem dX5_takeLatest_15 : decode cX5_takeLatest 15 = .ok (.isub, 1) := by decide +kernel
theorem dX5_takeLatest_16 : decode cX5_takeLatest 16 = .ok (.putfield 17, 3) := by decide +kernel
theorem dX5_takeLatest_19 : decode cX5_takeLatest 19 = .ok (.aload_n 0, 1) := by decide +kernel
theorem dX5_takeLatest_20 : decode cX5_takeLatest 20 = .ok (.getfield 11, 3) := by decide +kernel
theorem dX5_takeLatest_23 : decode cX5_takeLatest 23 = .ok (.aload_n 0, 1) := by decide +kernel
theorem dX5_takeLatest_24 : decode cX5_takeLatest 24 = .ok (.getfield 17, 3) := by decide +kernel
theorem dX5_takeLatest_27 : decode cX5_takeLatest 27 = .ok (.aaload, 1) := by decide +kernel
theorem dX5_takeLatest_28 : decode cX5_takeLatest 28 = .ok (.areturn, 1) := by decide +kernel
theorem dX5_forgetAll_0 : decode cX5_forgetAll 0 = .ok (.aload_n 0, 1) := by decide +kernel
theorem dX5_forgetAll_1 : decode cX5_forgetAll 1 = .ok (.iconst 0, 1) := by decide +kernel
theorem dX5_forgetAll_2 : decode cX5_forgetAll 2 = .ok (.putfield 17, 3) := by decide +kernel
theorem dX5_forgetAll_5 : decode cX5_forgetAll 5 = .ok (.return_, 1) := by decide +kernel
theorem dX6_init_0 : decode cX6_init 0 = .ok (.aload_n 0, 1) := by decide +kernel
theorem dX6_init_1 : decode cX6_init 1 = .ok (.invokespecial 3, 3) := by decide +kernel
theorem dX6_init_4 : decode cX6_init 4 = .ok (.aload_n 0, 1) := by decide +kernel
theorem dX6_init_5 : decode cX6_init 5 = .ok (.aload_n 1, 1) := by decide +kernel
theorem dX6_init_6 : decode cX6_init 6 = .ok (.putfield 9, 3) := by decide +kernel
theorem dX6_init_9 : decode cX6_init 9 = .ok (.aload_n 0, 1) := by decide +kernel
theorem dX6_init_10 : decode cX6_init 10 = .ok (.aload_n 1, 1) := by decide +kernel
theorem dX6_init_11 : decode cX6_init 11 = .ok (.invokestatic 15, 3) := by decide +kernel
theorem dX6_init_14 : decode cX6_init 14 = .ok (.putfield 19, 3) := by decide +kernel
theorem dX6_init_17 : decode cX6_init 17 = .ok (.aload_n 0, 1) := by decide +kernel
theorem dX6_init_18 : decode cX6_init 18 = .ok (.aload_n 1, 1) := by decide +kernel
theorem dX6_init_19 : decode cX6_init 19 = .ok (.invokestatic 23, 3) := by decide +kernel
theorem dX6_init_22 : decode cX6_init 22 = .ok (.putfield 27, 3) := by decide +kernel
theorem dX6_init_25 : decode cX6_init 25 = .ok (.aload_n 0, 1) := by decide +kernel
theorem dX6_init_26 : decode cX6_init 26 = .ok (.iconst 1, 1) := by decide +kernel
theorem dX6_init_27 : decode cX6_init 27 = .ok (.aload_n 0, 1) := by decide +kernel
theorem dX6_init_28 : decode cX6_init 28 = .ok (.getfield 19, 3) := by decide +kernel
theorem dX6_init_31 : decode cX6_init 31 = .ok (.arraylength, 1) := by decide +kernel
theorem dX6_init_32 : decode cX6_init 32 = .ok (.iconst 4, 1) := by decide +kernel
theorem dX6_init_33 : decode cX6_init 33 = .ok (.invokestatic 31, 3) := by decide +kernel
theorem dX6_init_36 : decode cX6_init 36 = .ok (.ishl, 1) := by decide +kernel
theorem dX6_init_37 : decode cX6_init 37 = .ok (.newarray .int, 2) := by decide +kernel
theorem dX6_init_39 : decode cX6_init 39 = .ok (.putfield 37, 3) := by decide +kernel
theorem dX6_init_42 : decode cX6_init 42 = .ok (.aload_n 0, 1) := by decide +kernel
theorem dX6_init_43 : decode cX6_init 43 = .ok (.aload_n 0, 1) := by decide +kernel
theorem dX6_init_44 : decode cX6_init 44 = .ok (.getfield 37, 3) := by decide +kernel
theorem dX6_init_47 : decode cX6_init 47 = .ok (.arraylength, 1) := by decide +kernel
theorem dX6_init_48 : decode cX6_init 48 = .ok (.newarray .int, 2) := by decide +kernel
theorem dX6_init_50 : decode cX6_init 50 = .ok (.putfield 40, 3) := by decide +kernel
theorem dX6_init_53 : decode cX6_init 53 = .ok (.iconst 0, 1) := by decide +kernel
theorem dX6_init_54 : decode cX6_init 54 = .ok (.istore_n 2, 1) := by decide +kernel
theorem dX6_init_55 : decode cX6_init 55 = .ok (.iload_n 2, 1) := by decide +kernel
theorem dX6_init_56 : decode cX6_init 56 = .ok (.aload_n 0, 1) := by decide +kernel
theorem dX6_init_57 : decode cX6_init 57 = .ok (.getfield 37, 3) := by decide +kernel
theorem dX6_init_60 : decode cX6_init 60 = .ok (.arraylength, 1) := by decide +kernel
theorem dX6_init_61 : decode cX6_init 61 = .ok (.if_icmp .ge 44, 3) := by decide +kernel
theorem dX6_init_64 : decode cX6_init 64 = .ok (.aload_n 0, 1) := by decide +kernel
theorem dX6_init_65 : decode cX6_init 65 = .ok (.getfield 37, 3) := by decide +kernel
theorem dX6_init_68 : decode cX6_init 68 = .ok (.iload_n 2, 1) := by decide +kernel
theorem dX6_init_69 : decode cX6_init 69 = .ok (.aload_n 1, 1) := by decide +kernel
theorem dX6_init_70 : decode cX6_init 70 = .ok (.aload_n 0, 1) := by decide +kernel
theorem dX6_init_71 : decode cX6_init 71 = .ok (.getfield 19, 3) := by decide +kernel
theorem dX6_init_74 : decode cX6_init 74 = .ok (.iload_n 2, 1) := by decide +kernel
theorem dX6_init_75 : decode cX6_init 75 = .ok (.invokestatic 43, 3) := by decide +kernel
theorem dX6_init_78 : decode cX6_init 78 = .ok (.iastore, 1) := by decide +kernel
theorem dX6_init_79 : decode cX6_init 79 = .ok (.aload_n 0, 1) := by decide +kernel
theorem dX6_init_80 : decode cX6_init 80 = .ok (.getfield 40, 3) := by decide +kernel
theorem dX6_init_83 : decode cX6_init 83 = .ok (.iload_n 2, 1) := by decide +kernel
theorem dX6_init_84 : decode cX6_init 84 = .ok (.aload_n 0, 1) := by decide +kernel
theorem dX6_init_85 : decode cX6_init 85 = .ok (.getfield 37, 3) := by decide +kernel
theorem dX6_init_88 : decode cX6_init 88 = .ok (.iload_n 2, 1) := by decide +kernel
theorem dX6_init_89 : decode cX6_init 89 = .ok (.iaload, 1) := by decide +kernel
theorem dX6_init_90 : decode cX6_init 90 = .ok (.aload_n 0, 1) := by decide +kernel
theorem dX6_init_91 : decode cX6_init 91 = .ok (.getfield 27, 3) := by decide +kernel
theorem dX6_init_94 : decode cX6_init 94 = .ok (.iand, 1) := by decide +kernel
theorem dX6_init_95 : decode cX6_init 95 = .ok (.invokestatic 47, 3) := by decide +kernel
theorem dX6_init_98 : decode cX6_init 98 = .ok (.iastore, 1) := by decide +kernel
theorem dX6_init_99 : decode cX6_init 99 = .ok (.iinc 2 1, 3) := by decide +kernel
theorem dX6_init_102 : decode cX6_init 102 = .ok (.goto (-47), 3) := by decide +kernel
theorem dX6_init_105 : decode cX6_init 105 = .ok (.return_, 1) := by decide +kernel
theorem dX6_reasonAgainst_0 : decode cX6_reasonAgainst 0 = .ok (.iconst 0, 1) := by decide +kernel
theorem dX6_reasonAgainst_1 : decode cX6_reasonAgainst 1 = .ok (.istore_n 1, 1) := by decide +kernel
theorem dX6_reasonAgainst_2 : decode cX6_reasonAgainst 2 = .ok (.iload_n 1, 1) := by decide +kernel
theorem dX6_reasonAgainst_3 : decode cX6_reasonAgainst 3 = .ok (.aload_n 0, 1) := by decide +kernel
theorem dX6_reasonAgainst_4 : decode cX6_reasonAgainst 4 = .ok (.arraylength, 1) := by decide +kernel
theorem dX6_reasonAgainst_5 : decode cX6_reasonAgainst 5 = .ok (.if_icmp .ge 20, 3) := by decide +kernel
theorem dX6_reasonAgainst_8 : decode cX6_reasonAgainst 8 = .ok (.aload_n 0, 1) := by decide +kernel
theorem dX6_reasonAgainst_9 : decode cX6_reasonAgainst 9 = .ok (.iload_n 1, 1) := by decide +kernel
theorem dX6_reasonAgainst_10 : decode cX6_reasonAgainst 10 = .ok (.aaload, 1) := by decide +kernel
theorem dX6_reasonAgainst_11 : decode cX6_reasonAgainst 11 = .ok (.invokevirtual 53, 3) := by decide +kernel
theorem dX6_reasonAgainst_14 : decode cX6_reasonAgainst 14 = .ok (.ifCond .ne 5, 3) := by decide +kernel
theorem dX6_reasonAgainst_17 : decode cX6_reasonAgainst 17 = .ok (.iconst 3, 1) := by decide +kernel
theorem dX6_reasonAgainst_18 : decode cX6_reasonAgainst 18 = .ok (.ireturn, 1) := by decide +kernel
theorem dX6_reasonAgainst_19 : decode cX6_reasonAgainst 19 = .ok (.iinc 1 1, 3) := by decide +kernel
theorem dX6_reasonAgainst_22 : decode cX6_reasonAgainst 22 = .ok (.goto (-20), 3) := by decide +kernel
theorem dX6_reasonAgainst_25 : decode cX6_reasonAgainst 25 = .ok (.aload_n 0, 1) := by decide +kernel
theorem dX6_reasonAgainst_26 : decode cX6_reasonAgainst 26 = .ok (.arraylength, 1) := by decide +kernel
theorem dX6_reasonAgainst_27 : decode cX6_reasonAgainst 27 = .ok (.bipush 8, 2) := by decide +kernel
theorem dX6_reasonAgainst_29 : decode cX6_reasonAgainst 29 = .ok (.if_icmp .gt 12, 3) := by decide +kernel
theorem dX6_reasonAgainst_32 : decode cX6_reasonAgainst 32 = .ok (.aload_n 0, 1) := by decide +kernel
theorem dX6_reasonAgainst_33 : decode cX6_reasonAgainst 33 = .ok (.invokestatic 15, 3) := by decide +kernel
theorem dX6_reasonAgainst_36 : decode cX6_reasonAgainst 36 = .ok (.arraylength, 1) := by decide +kernel
theorem dX6_reasonAgainst_37 : decode cX6_reasonAgainst 37 = .ok (.iconst 4, 1) := by decide +kernel
theorem dX6_reasonAgainst_38 : decode cX6_reasonAgainst 38 = .ok (.if_icmp .le 5, 3) := by decide +kernel
theorem dX6_reasonAgainst_41 : decode cX6_reasonAgainst 41 = .ok (.iconst 4, 1) := by decide +kernel
theorem dX6_reasonAgainst_42 : decode cX6_reasonAgainst 42 = .ok (.ireturn, 1) := by decide +kernel
theorem dX6_reasonAgainst_43 : decode cX6_reasonAgainst 43 = .ok (.iconst 0, 1) := by decide +kernel
theorem dX6_reasonAgainst_44 : decode cX6_reasonAgainst 44 = .ok (.istore_n 1, 1) := by decide +kernel
theorem dX6_reasonAgainst_45 : decode cX6_reasonAgainst 45 = .ok (.iload_n 1, 1) := by decide +kernel
theorem dX6_reasonAgainst_46 : decode cX6_reasonAgainst 46 = .ok (.aload_n 0, 1) := by decide +kernel
theorem dX6_reasonAgainst_47 : decode cX6_reasonAgainst 47 = .ok (.arraylength, 1) := by decide +kernel
theorem dX6_reasonAgainst_48 : decode cX6_reasonAgainst 48 = .ok (.if_icmp .ge 34, 3) := by decide +kernel
theorem dX6_reasonAgainst_51 : decode cX6_reasonAgainst 51 = .ok (.aload_n 0, 1) := by decide +kernel
theorem dX6_reasonAgainst_52 : decode cX6_reasonAgainst 52 = .ok (.iload_n 1, 1) := by decide +kernel
theorem dX6_reasonAgainst_53 : decode cX6_reasonAgainst 53 = .ok (.aaload, 1) := by decide +kernel
theorem dX6_reasonAgainst_54 : decode cX6_reasonAgainst 54 = .ok (.invokevirtual 59, 3) := by decide +kernel
theorem dX6_reasonAgainst_57 : decode cX6_reasonAgainst 57 = .ok (.ifCond .eq 19, 3) := by decide +kernel
theorem dX6_reasonAgainst_60 : decode cX6_reasonAgainst 60 = .ok (.aload_n 0, 1) := by decide +kernel
theorem dX6_reasonAgainst_61 : decode cX6_reasonAgainst 61 = .ok (.iload_n 1, 1) := by decide +kernel
theorem dX6_reasonAgainst_62 : decode cX6_reasonAgainst 62 = .ok (.aaload, 1) := by decide +kernel
theorem dX6_reasonAgainst_63 : decode cX6_reasonAgainst 63 = .ok (.getfield 62, 3) := by decide +kernel
theorem dX6_reasonAgainst_66 : decode cX6_reasonAgainst 66 = .ok (.aload_n 0, 1) := by decide +kernel
theorem dX6_reasonAgainst_67 : decode cX6_reasonAgainst 67 = .ok (.iload_n 1, 1) := by decide +kernel
theorem dX6_reasonAgainst_68 : decode cX6_reasonAgainst 68 = .ok (.invokestatic 65, 3) := by decide +kernel
theorem dX6_reasonAgainst_71 : decode cX6_reasonAgainst 71 = .ok (.if_icmp .le 5, 3) := by decide +kernel
theorem dX6_reasonAgainst_74 : decode cX6_reasonAgainst 74 = .ok (.iconst 5, 1) := by decide +kernel
theorem dX6_reasonAgainst_75 : decode cX6_reasonAgainst 75 = .ok (.ireturn, 1) := by decide +kernel
theorem dX6_reasonAgainst_76 : decode cX6_reasonAgainst 76 = .ok (.iinc 1 1, 3) := by decide +kernel
theorem dX6_reasonAgainst_79 : decode cX6_reasonAgainst 79 = .ok (.goto (-34), 3) := by decide +kernel
theorem dX6_reasonAgainst_82 : decode cX6_reasonAgainst 82 = .ok (.iconst 0, 1) := by decide +kernel
theorem dX6_reasonAgainst_83 : decode cX6_reasonAgainst 83 = .ok (.ireturn, 1) := by decide +kernel
theorem dX6_partCount_0 : decode cX6_partCount 0 = .ok (.aload_n 0, 1) := by decide +kernel
theorem dX6_partCount_1 : decode cX6_partCount 1 = .ok (.getfield 9, 3) := by decide +kernel
theorem dX6_partCount_4 : decode cX6_partCount 4 = .ok (.iload_n 1, 1) := by decide +kernel
theorem dX6_partCount_5 : decode cX6_partCount 5 = .ok (.invokestatic 65, 3) := by decide +kernel
theorem dX6_partCount_8 : decode cX6_partCount 8 = .ok (.ireturn, 1) := by decide +kernel
theorem dX6_partOf_0 : decode cX6_partOf 0 = .ok (.iconst 0, 1) := by decide +kernel
theorem dX6_partOf_1 : decode cX6_partOf 1 = .ok (.istore_n 3, 1) := by decide +kernel
theorem dX6_partOf_2 : decode cX6_partOf 2 = .ok (.iconst 0, 1) := by decide +kernel
theorem dX6_partOf_3 : decode cX6_partOf 3 = .ok (.istore 4, 2) := by decide +kernel
theorem dX6_partOf_5 : decode cX6_partOf 5 = .ok (.iload 4, 2) := by decide +kernel
