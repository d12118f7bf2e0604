theorem dX10_init_0 : decode cX10_init 0 = .ok (.aload_n 0, 1) := by decide +kernel
theorem dX10_init_1 : decode cX10_init 1 = .ok (.invokespecial 1, 3) := by decide +kernel
theorem dX10_init_4 : decode cX10_init 4 = .ok (.aload_n 0, 1) := by decide +kernel
theorem dX10_init_5 : decode cX10_init 5 = .ok (.sipush 156, 3) := by decide +kernel
theorem dX10_init_8 : decode cX10_init 8 = .ok (.newarray .int, 2) := by decide +kernel
theorem dX10_init_10 : decode cX10_init 10 = .ok (.putfield 7, 3) := by decide +kernel
theorem dX10_init_13 : decode cX10_init 13 = .ok (.aload_n 0, 1) := by decide +kernel
theorem dX10_init_14 : decode cX10_init 14 = .ok (.sipush 156, 3) := by decide +kernel
theorem dX10_init_17 : decode cX10_init 17 = .ok (.newarray .int, 2) := by decide +kernel
theorem dX10_init_19 : decode cX10_init 19 = .ok (.putfield 13, 3) := by decide +kernel
theorem dX10_init_22 : decode cX10_init 22 = .ok (.aload_n 0, 1) := by decide +kernel
theorem dX10_init_23 : decode cX10_init 23 = .ok (.sipush 156, 3) := by decide +kernel
theorem dX10_init_26 : decode cX10_init 26 = .ok (.newarray .int, 2) := by decide +kernel
theorem dX10_init_28 : decode cX10_init 28 = .ok (.putfield 16, 3) := by decide +kernel
theorem dX10_init_31 : decode cX10_init 31 = .ok (.aload_n 0, 1) := by decide +kernel
theorem dX10_init_32 : decode cX10_init 32 = .ok (.sipush 1248, 3) := by decide +kernel
theorem dX10_init_35 : decode cX10_init 35 = .ok (.newarray .int, 2) := by decide +kernel
theorem dX10_init_37 : decode cX10_init 37 = .ok (.putfield 19, 3) := by decide +kernel
theorem dX10_init_40 : decode cX10_init 40 = .ok (.aload_n 0, 1) := by decide +kernel
theorem dX10_init_41 : decode cX10_init 41 = .ok (.bipush 6, 2) := by decide +kernel
theorem dX10_init_43 : decode cX10_init 43 = .ok (.newarray .int, 2) := by decide +kernel
theorem dX10_init_45 : decode cX10_init 45 = .ok (.putfield 22, 3) := by decide +kernel
theorem dX10_init_48 : decode cX10_init 48 = .ok (.aload_n 0, 1) := by decide +kernel
theorem dX10_init_49 : decode cX10_init 49 = .ok (.bipush 6, 2) := by decide +kernel
theorem dX10_init_51 : decode cX10_init 51 = .ok (.newarray .int, 2) := by decide +kernel
theorem dX10_init_53 : decode cX10_init 53 = .ok (.putfield 25, 3) := by decide +kernel
theorem dX10_init_56 : decode cX10_init 56 = .ok (.aload_n 0, 1) := by decide +kernel
theorem dX10_init_57 : decode cX10_init 57 = .ok (.bipush 8, 2) := by decide +kernel
theorem dX10_init_59 : decode cX10_init 59 = .ok (.newarray .int, 2) := by decide +kernel
theorem dX10_init_61 : decode cX10_init 61 = .ok (.putfield 28, 3) := by decide +kernel
theorem dX10_init_64 : decode cX10_init 64 = .ok (.aload_n 0, 1) := by decide +kernel
theorem dX10_init_65 : decode cX10_init 65 = .ok (.bipush 8, 2) := by decide +kernel
theorem dX10_init_67 : decode cX10_init 67 = .ok (.newarray .boolean, 2) := by decide +kernel
theorem dX10_init_69 : decode cX10_init 69 = .ok (.putfield 31, 3) := by decide +kernel
theorem dX10_init_72 : decode cX10_init 72 = .ok (.aload_n 0, 1) := by decide +kernel
theorem dX10_init_73 : decode cX10_init 73 = .ok (.bipush 50, 2) := by decide +kernel
theorem dX10_init_75 : decode cX10_init 75 = .ok (.newarray .int, 2) := by decide +kernel
theorem dX10_init_77 : decode cX10_init 77 = .ok (.putfield 35, 3) := by decide +kernel
theorem dX10_init_80 : decode cX10_init 80 = .ok (.aload_n 0, 1) := by decide +kernel
theorem dX10_init_81 : decode cX10_init 81 = .ok (.iconst (-1), 1) := by decide +kernel
theorem dX10_init_82 : decode cX10_init 82 = .ok (.putfield 38, 3) := by decide +kernel
theorem dX10_init_85 : decode cX10_init 85 = .ok (.aload_n 0, 1) := by decide +kernel
theorem dX10_init_86 : decode cX10_init 86 = .ok (.sipush 312, 3) := by decide +kernel
theorem dX10_init_89 : decode cX10_init 89 = .ok (.newarray .int, 2) := by decide +kernel
theorem dX10_init_91 : decode cX10_init 91 = .ok (.putfield 42, 3) := by decide +kernel
theorem dX10_init_94 : decode cX10_init 94 = .ok (.aload_n 0, 1) := by decide +kernel
theorem dX10_init_95 : decode cX10_init 95 = .ok (.iconst 3, 1) := by decide +kernel
theorem dX10_init_96 : decode cX10_init 96 = .ok (.newarray .int, 2) := by decide +kernel
theorem dX10_init_98 : decode cX10_init 98 = .ok (.putfield 45, 3) := by decide +kernel
theorem dX10_init_101 : decode cX10_init 101 = .ok (.aload_n 0, 1) := by decide +kernel
theorem dX10_init_102 : decode cX10_init 102 = .ok (.bipush 12, 2) := by decide +kernel
theorem dX10_init_104 : decode cX10_init 104 = .ok (.newarray .int, 2) := by decide +kernel
theorem dX10_init_106 : decode cX10_init 106 = .ok (.putfield 48, 3) := by decide +kernel
theorem dX10_init_109 : decode cX10_init 109 = .ok (.return_, 1) := by decide +kernel
theorem dX10_thrown_0 : decode cX10_thrown 0 = .ok (.aload_n 0, 1) := by decide +kernel
theorem dX10_thrown_1 : decode cX10_thrown 1 = .ok (.getfield 51, 3) := by decide +kernel
theorem dX10_thrown_4 : decode cX10_thrown 4 = .ok (.ireturn, 1) := by decide +kernel
theorem dX10_fails_0 : decode cX10_fails 0 = .ok (.aload_n 0, 1) := by decide +kernel
theorem dX10_fails_1 : decode cX10_fails 1 = .ok (.iload_n 1, 1) := by decide +kernel
theorem dX10_fails_2 : decode cX10_fails 2 = .ok (.putfield 51, 3) := by decide +kernel
theorem dX10_fails_5 : decode cX10_fails 5 = .ok (.iconst 0, 1) := by decide +kernel
theorem dX10_fails_6 : decode cX10_fails 6 = .ok (.ireturn, 1) := by decide +kernel
theorem dX10_refuses_0 : decode cX10_refuses 0 = .ok (.aload_n 0, 1) := by decide +kernel
theorem dX10_refuses_1 : decode cX10_refuses 1 = .ok (.iload_n 2, 1) := by decide +kernel
theorem dX10_refuses_2 : decode cX10_refuses 2 = .ok (.putfield 54, 3) := by decide +kernel
theorem dX10_refuses_5 : decode cX10_refuses 5 = .ok (.aload_n 0, 1) := by decide +kernel
theorem dX10_refuses_6 : decode cX10_refuses 6 = .ok (.iload_n 1, 1) := by decide +kernel
theorem dX10_refuses_7 : decode cX10_refuses 7 = .ok (.invokevirtual 57, 3) := by decide +kernel
theorem dX10_refuses_10 : decode cX10_refuses 10 = .ok (.ireturn, 1) := by decide +kernel
theorem dX10_in_0 : decode cX10_in 0 = .ok (.iload_n 0, 1) := by decide +kernel
theorem dX10_in_1 : decode cX10_in 1 = .ok (.iload_n 1, 1) := by decide +kernel
theorem dX10_in_2 : decode cX10_in 2 = .ok (.if_icmp .lt 12, 3) := by decide +kernel
theorem dX10_in_5 : decode cX10_in 5 = .ok (.iload_n 0, 1) := by decide +kernel
theorem dX10_in_6 : decode cX10_in 6 = .ok (.iload_n 2, 1) := by decide +kernel
theorem dX10_in_7 : decode cX10_in 7 = .ok (.if_icmp .gt 7, 3) := by decide +kernel
theorem dX10_in_10 : decode cX10_in 10 = .ok (.iconst 1, 1) := by decide +kernel
theorem dX10_in_11 : decode cX10_in 11 = .ok (.goto 4, 3) := by decide +kernel
theorem dX10_in_14 : decode cX10_in 14 = .ok (.iconst 0, 1) := by decide +kernel
theorem dX10_in_15 : decode cX10_in 15 = .ok (.ireturn, 1) := by decide +kernel
theorem dX10_isCredit_0 : decode cX10_isCredit 0 = .ok (.iload_n 1, 1) := by decide +kernel
theorem dX10_isCredit_1 : decode cX10_isCredit 1 = .ok (.iconst 0, 1) := by decide +kernel
theorem dX10_isCredit_2 : decode cX10_isCredit 2 = .ok (.aload_n 0, 1) := by decide +kernel
theorem dX10_isCredit_3 : decode cX10_isCredit 3 = .ok (.getfield 7, 3) := by decide +kernel
theorem dX10_isCredit_6 : decode cX10_isCredit 6 = .ok (.iconst 1, 1) := by decide +kernel
theorem dX10_isCredit_7 : decode cX10_isCredit 7 = .ok (.iaload, 1) := by decide +kernel
theorem dX10_isCredit_8 : decode cX10_isCredit 8 = .ok (.iconst 1, 1) := by decide +kernel
theorem dX10_isCredit_9 : decode cX10_isCredit 9 = .ok (.isub, 1) := by decide +kernel
theorem dX10_isCredit_10 : decode cX10_isCredit 10 = .ok (.invokestatic 61, 3) := by decide +kernel
theorem dX10_isCredit_13 : decode cX10_isCredit 13 = .ok (.ireturn, 1) := by decide +kernel
theorem dX10_isEqual_0 : decode cX10_isEqual 0 = .ok (.iload_n 1, 1) := by decide +kernel
theorem dX10_isEqual_1 : decode cX10_isEqual 1 = .ok (.iconst 0, 1) := by decide +kernel
theorem dX10_isEqual_2 : decode cX10_isEqual 2 = .ok (.aload_n 0, 1) := by decide +kernel
theorem dX10_isEqual_3 : decode cX10_isEqual 3 = .ok (.getfield 7, 3) := by decide +kernel
theorem dX10_isEqual_6 : decode cX10_isEqual 6 = .ok (.iconst 2, 1) := by decide +kernel
theorem dX10_isEqual_7 : decode cX10_isEqual 7 = .ok (.iaload, 1) := by decide +kernel
theorem dX10_isEqual_8 : decode cX10_isEqual 8 = .ok (.iconst 1, 1) := by decide +kernel
theorem dX10_isEqual_9 : decode cX10_isEqual 9 = .ok (.isub, 1) := by decide +kernel
theorem dX10_isEqual_10 : decode cX10_isEqual 10 = .ok (.invokestatic 61, 3) := by decide +kernel
theorem dX10_isEqual_13 : decode cX10_isEqual 13 = .ok (.ireturn, 1) := by decide +kernel
theorem dX10_isBlock_0 : decode cX10_isBlock 0 = .ok (.iload_n 1, 1) := by decide +kernel
theorem dX10_isBlock_1 : decode cX10_isBlock 1 = .ok (.iconst 0, 1) := by decide +kernel
theorem dX10_isBlock_2 : decode cX10_isBlock 2 = .ok (.aload_n 0, 1) := by decide +kernel
theorem dX10_isBlock_3 : decode cX10_isBlock 3 = .ok (.getfield 7, 3) := by decide +kernel
theorem dX10_isBlock_6 : decode cX10_isBlock 6 = .ok (.iconst 3, 1) := by decide +kernel
theorem dX10_isBlock_7 : decode cX10_isBlock 7 = .ok (.iaload, 1) := by decide +kernel
theorem dX10_isBlock_8 : decode cX10_isBlock 8 = .ok (.iconst 1, 1) := by decide +kernel
theorem dX10_isBlock_9 : decode cX10_isBlock 9 = .ok (.isub, 1) := by decide +kernel
theorem dX10_isBlock_10 : decode cX10_isBlock 10 = .ok (.invokestatic 61, 3) := by decide +kernel
theorem dX10_isBlock_13 : decode cX10_isBlock 13 = .ok (.ireturn, 1) := by decide +kernel
theorem dX10_creditAt_0 : decode cX10_creditAt 0 = .ok (.iconst 4, 1) := by decide +kernel
theorem dX10_creditAt_1 : decode cX10_creditAt 1 = .ok (.iconst 4, 1) := by decide +kernel
theorem dX10_creditAt_2 : decode cX10_creditAt 2 = .ok (.iload_n 0, 1) := by decide +kernel
theorem dX10_creditAt_3 : decode cX10_creditAt 3 = .ok (.imul, 1) := by decide +kernel
theorem dX10_creditAt_4 : decode cX10_creditAt 4 = .ok (.iadd, 1) := by decide +kernel
theorem dX10_creditAt_5 : decode cX10_creditAt 5 = .ok (.iload_n 1, 1) := by decide +kernel
theorem dX10_creditAt_6 : decode cX10_creditAt 6 = .ok (.iadd, 1) := by decide +kernel
theorem dX10_creditAt_7 : decode cX10_creditAt 7 = .ok (.ireturn, 1) := by decide +kernel
theorem dX10_equalAt_0 : decode cX10_equalAt 0 = .ok (.bipush 28, 2) := by decide +kernel
theorem dX10_equalAt_2 : decode cX10_equalAt 2 = .ok (.iconst 4, 1) := by decide +kernel
theorem dX10_equalAt_3 : decode cX10_equalAt 3 = .ok (.iload_n 0, 1) := by decide +kernel
theorem dX10_equalAt_4 : decode cX10_equalAt 4 = .ok (.imul, 1) := by decide +kernel
theorem dX10_equalAt_5 : decode cX10_equalAt 5 = .ok (.iadd, 1) := by decide +kernel
theorem dX10_equalAt_6 : decode cX10_equalAt 6 = .ok (.iload_n 1, 1) := by decide +kernel
theorem dX10_equalAt_7 : decode cX10_equalAt 7 = .ok (.iadd, 1) := by decide +kernel
theorem dX10_equalAt_8 : decode cX10_equalAt 8 = .ok (.ireturn, 1) := by decide +kernel
theorem dX10_blockAt_0 : decode cX10_blockAt 0 = .ok (.bipush 60, 2) := by decide +kernel
theorem dX10_blockAt_2 : decode cX10_blockAt 2 = .ok (.bipush 12, 2) := by decide +kernel
theorem dX10_blockAt_4 : decode cX10_blockAt 4 = .ok (.iload_n 0, 1) := by decide +kernel
theorem dX10_blockAt_5 : decode cX10_blockAt 5 = .ok (.imul, 1) := by decide +kernel
theorem dX10_blockAt_6 : decode cX10_blockAt 6 = .ok (.iadd, 1) := by decide +kernel
theorem dX10_blockAt_7 : decode cX10_blockAt 7 = .ok (.iload_n 1, 1) := by decide +kernel
theorem dX10_blockAt_8 : decode cX10_blockAt 8 = .ok (.iadd, 1) := by decide +kernel
theorem dX10_blockAt_9 : decode cX10_blockAt 9 = .ok (.ireturn, 1) := by decide +kernel
theorem dX10_isGroup_0 : decode cX10_isGroup 0 = .ok (.aload_n 0, 1) := by decide +kernel
theorem dX10_isGroup_1 : decode cX10_isGroup 1 = .ok (.getfield 7, 3) := by decide +kernel
theorem dX10_isGroup_4 : decode cX10_isGroup 4 = .ok (.iload_n 1, 1) := by decide +kernel
theorem dX10_isGroup_5 : decode cX10_isGroup 5 = .ok (.iconst 0, 1) := by decide +kernel
theorem dX10_isGroup_6 : decode cX10_isGroup 6 = .ok (.invokestatic 65, 3) := by decide +kernel
theorem dX10_isGroup_9 : decode cX10_isGroup 9 = .ok (.iaload, 1) := by decide +kernel
theorem dX10_isGroup_10 : decode cX10_isGroup 10 = .ok (.iconst 1, 1) := by decide +kernel
theorem dX10_isGroup_11 : decode cX10_isGroup 11 = .ok (.if_icmp .ne 7, 3) := by decide +kernel
theorem dX10_isGroup_14 : decode cX10_isGroup 14 = .ok (.iconst 1, 1) := by decide +kernel
theorem dX10_isGroup_15 : decode cX10_isGroup 15 = .ok (.goto 4, 3) := by decide +kernel
theorem dX10_isGroup_18 : decode cX10_isGroup 18 = .ok (.iconst 0, 1) := by decide +kernel
theorem dX10_isGroup_19 : decode cX10_isGroup 19 = .ok (.ireturn, 1) := by decide +kernel
theorem dX10_copies_0 : decode cX10_copies 0 = .ok (.iconst 0, 1) := by decide +kernel
theorem dX10_copies_1 : decode cX10_copies 1 = .ok (.istore 4, 2) := by decide +kernel
theorem dX10_copies_3 : decode cX10_copies 3 = .ok (.iload 4, 2) := by decide +kernel
theorem dX10_copies_5 : decode cX10_copies 5 = .ok (.sipush 156, 3) := by decide +kernel
theorem dX10_copies_8 : decode cX10_copies 8 = .ok (.if_icmp .ge 21, 3) := by decide +kernel
theorem dX10_copies_11 : decode cX10_copies 11 = .ok (.aload_n 2, 1) := by decide +kernel
theorem dX10_copies_12 : decode cX10_copies 12 = .ok (.iload_n 3, 1) := by decide +kernel
theorem dX10_copies_13 : decode cX10_copies 13 = .ok (.iload 4, 2) := by decide +kernel
theorem dX10_copies_15 : decode cX10_copies 15 = .ok (.iadd, 1) := by decide +kernel
theorem dX10_copies_16 : decode cX10_copies 16 = .ok (.aload_n 0, 1) := by decide +kernel
theorem dX10_copies_17 : decode cX10_copies 17 = .ok (.iload_n 1, 1) := by decide +kernel
theorem dX10_copies_18 : decode cX10_copies 18 = .ok (.iload 4, 2) := by decide +kernel
theorem dX10_copies_20 : decode cX10_copies 20 = .ok (.iadd, 1) := by decide +kernel
theorem dX10_copies_21 : decode cX10_copies 21 = .ok (.iaload, 1) := by decide +kernel
theorem dX10_copies_22 : decode cX10_copies 22 = .ok (.iastore, 1) := by decide +kernel
theorem dX10_copies_23 : decode cX10_copies 23 = .ok (.iinc 4 1, 3) := by decide +kernel
theorem dX10_copies_26 : decode cX10_copies 26 = .ok (.goto (-23), 3) := by decide +kernel
theorem dX10_copies_29 : decode cX10_copies 29 = .ok (.return_, 1) := by decide +kernel
theorem dX10_changes_0 : decode cX10_changes 0 = .ok (.aload_n 0, 1) := by decide +kernel
theorem dX10_changes_1 : decode cX10_changes 1 = .ok (.iconst 0, 1) := by decide +kernel
theorem dX10_changes_2 : decode cX10_changes 2 = .ok (.putfield 69, 3) := by decide +kernel
theorem dX10_changes_5 : decode cX10_changes 5 = .ok (.aload_n 0, 1) := by decide +kernel
theorem dX10_changes_6 : decode cX10_changes 6 = .ok (.getfield 73, 3) := by decide +kernel
theorem dX10_changes_9 : decode cX10_changes 9 = .ok (.bipush 8, 2) := by decide +kernel
theorem dX10_changes_11 : decode cX10_changes 11 = .ok (.if_icmp .ne 44, 3) := by decide +kernel
theorem dX10_changes_14 : decode cX10_changes 14 = .ok (.iconst 0, 1) := by decide +kernel
theorem dX10_changes_15 : decode cX10_changes 15 = .ok (.istore_n 1, 1) := by decide +kernel
theorem dX10_changes_16 : decode cX10_changes 16 = .ok (.iload_n 1, 1) := by decide +kernel
theorem dX10_changes_17 : decode cX10_changes 17 = .ok (.sipush 1092, 3) := by decide +kernel
theorem dX10_changes_20 : decode cX10_changes 20 = .ok (.if_icmp .ge 25, 3) := by decide +kernel
theorem dX10_changes_23 : decode cX10_changes 23 = .ok (.aload_n 0, 1) := by decide +kernel
theorem dX10_changes_24 : decode cX10_changes 24 = .ok (.getfield 19, 3) := by decide +kernel
theorem dX10_changes_27 : decode cX10_changes 27 = .ok (.iload_n 1, 1) := by decide +kernel
theorem dX10_changes_28 : decode cX10_changes 28 = .ok (.aload_n 0, 1) := by decide +kernel
theorem dX10_changes_29 : decode cX10_changes 29 = .ok (.getfield 19, 3) := by decide +kernel
theorem dX10_changes_32 : decode cX10_changes 32 = .ok (.iload_n 1, 1) := by decide +kernel
theorem dX10_changes_33 : decode cX10_changes 33 = .ok (.sipush 156, 3) := by decide +kernel
theorem dX10_changes_36 : decode cX10_changes 36 = .ok (.iadd, 1) := by decide +kernel
theorem dX10_changes_37 : decode cX10_changes 37 = .ok (.iaload, 1) := by decide +kernel
theorem dX10_changes_38 : decode cX10_changes 38 = .ok (.iastore, 1) := by decide +kernel
theorem dX10_changes_39 : decode cX10_changes 39 = .ok (.iinc 1 1, 3) := by decide +kernel
theorem dX10_changes_42 : decode cX10_changes 42 = .ok (.goto (-26), 3) := by decide +kernel
theorem dX10_changes_45 : decode cX10_changes 45 = .ok (.aload_n 0, 1) := by decide +kernel
theorem dX10_changes_46 : decode cX10_changes 46 = .ok (.dup, 1) := by decide +kernel
theorem dX10_changes_47 : decode cX10_changes 47 = .ok (.getfield 73, 3) := by decide +kernel
theorem dX10_changes_50 : decode cX10_changes 50 = .ok (.iconst 1, 1) := by decide +kernel
theorem dX10_changes_51 : decode cX10_changes 51 = .ok (.isub, 1) := by decide +kernel
theorem dX10_changes_52 : decode cX10_changes 52 = .ok (.putfield 73, 3) := by decide +kernel
theorem dX10_changes_55 : decode cX10_changes 55 = .ok (.aload_n 0, 1) := by decide +kernel
theorem dX10_changes_56 : decode cX10_changes 56 = .ok (.getfield 7, 3) := by decide +kernel
theorem dX10_changes_59 : decode cX10_changes 59 = .ok (.iconst 0, 1) := by decide +kernel
theorem dX10_changes_60 : decode cX10_changes 60 = .ok (.aload_n 0, 1) := by decide +kernel
theorem dX10_changes_61 : decode cX10_changes 61 = .ok (.getfield 19, 3) := by decide +kernel
theorem dX10_changes_64 : decode cX10_changes 64 = .ok (.sipush 156, 3) := by decide +kernel
theorem dX10_changes_67 : decode cX10_changes 67 = .ok (.aload_n 0, 1) := by decide +kernel
theorem dX10_changes_68 : decode cX10_changes 68 = .ok (.getfield 73, 3) := by decide +kernel
theorem dX10_changes_71 : decode cX10_changes 71 = .ok (.imul, 1) := by decide +kernel
theorem dX10_changes_72 : decode cX10_changes 72 = .ok (.invokestatic 76, 3) := by decide +kernel
theorem dX10_changes_75 : decode cX10_changes 75 = .ok (.aload_n 0, 1) := by decide +kernel
theorem dX10_changes_76 : decode cX10_changes 76 = .ok (.dup, 1) := by decide +kernel
theorem dX10_changes_77 : decode cX10_changes 77 = .ok (.getfield 73, 3) := by decide +kernel
theorem dX10_changes_80 : decode cX10_changes 80 = .ok (.iconst 1, 1) := by decide +kernel
theorem dX10_changes_81 : decode cX10_changes 81 = .ok (.iadd, 1) := by decide +kernel
theorem dX10_changes_82 : decode cX10_changes 82 = .ok (.putfield 73, 3) := by decide +kernel
theorem dX10_changes_85 : decode cX10_changes 85 = .ok (.return_, 1) := by decide +kernel
theorem dX10_undo_0 : decode cX10_undo 0 = .ok (.aload_n 0, 1) := by decide +kernel
theorem dX10_undo_1 : decode cX10_undo 1 = .ok (.aload_n 0, 1) := by decide +kernel
theorem dX10_undo_2 : decode cX10_undo 2 = .ok (.getfield 73, 3) := by decide +kernel
theorem dX10_undo_5 : decode cX10_undo 5 = .ok (.ifCond .ne 7, 3) := by decide +kernel
theorem dX10_undo_8 : decode cX10_undo 8 = .ok (.iconst 1, 1) := by decide +kernel
theorem dX10_undo_9 : decode cX10_undo 9 = .ok (.goto 4, 3) := by decide +kernel
theorem dX10_undo_12 : decode cX10_undo 12 = .ok (.iconst 0, 1) := by decide +kernel
theorem dX10_undo_13 : decode cX10_undo 13 = .ok (.putfield 51, 3) := by decide +kernel
theorem dX10_undo_16 : decode cX10_undo 16 = .ok (.aload_n 0, 1) := by decide +kernel
theorem dX10_undo_17 : decode cX10_undo 17 = .ok (.getfield 51, 3) := by decide +kernel
theorem dX10_undo_20 : decode cX10_undo 20 = .ok (.ifCond .le 5, 3) := by decide +kernel
theorem dX10_undo_23 : decode cX10_undo 23 = .ok (.iconst 0, 1) := by decide +kernel
theorem dX10_undo_24 : decode cX10_undo 24 = .ok (.ireturn, 1) := by decide +kernel
theorem dX10_undo_25 : decode cX10_undo 25 = .ok (.aload_n 0, 1) := by decide +kernel
theorem dX10_undo_26 : decode cX10_undo 26 = .ok (.dup, 1) := by decide +kernel
theorem dX10_undo_27 : decode cX10_undo 27 = .ok (.getfield 73, 3) := by decide +kernel
theorem dX10_undo_30 : decode cX10_undo 30 = .ok (.iconst 1, 1) := by decide +kernel
theorem dX10_undo_31 : decode cX10_undo 31 = .ok (.isub, 1) := by decide +kernel
theorem dX10_undo_32 : decode cX10_undo 32 = .ok (.putfield 73, 3) := by decide +kernel
theorem dX10_undo_35 : decode cX10_undo 35 = .ok (.aload_n 0, 1) := by decide +kernel
theorem dX10_undo_36 : decode cX10_undo 36 = .ok (.getfield 19, 3) := by decide +kernel
theorem dX10_undo_39 : decode cX10_undo 39 = .ok (.sipush 156, 3) := by decide +kernel
theorem dX10_undo_42 : decode cX10_undo 42 = .ok (.aload_n 0, 1) := by decide +kernel
theorem dX10_undo_43 : decode cX10_undo 43 = .ok (.getfield 73, 3) := by decide +kernel
theorem dX10_undo_46 : decode cX10_undo 46 = .ok (.imul, 1) := by decide +kernel
theorem dX10_undo_47 : decode cX10_undo 47 = .ok (.aload_n 0, 1) := by decide +kernel
theorem dX10_undo_48 : decode cX10_undo 48 = .ok (.getfield 7, 3) := by decide +kernel
theorem dX10_undo_51 : decode cX10_undo 51 = .ok (.iconst 0, 1) := by decide +kernel
theorem dX10_undo_52 : decode cX10_undo 52 = .ok (.invokestatic 76, 3) := by decide +kernel
theorem dX10_undo_55 : decode cX10_undo 55 = .ok (.aload_n 0, 1) := by decide +kernel
theorem dX10_undo_56 : decode cX10_undo 56 = .ok (.iconst 0, 1) := by decide +kernel
theorem dX10_undo_57 : decode cX10_undo 57 = .ok (.putfield 69, 3) := by decide +kernel
theorem dX10_undo_60 : decode cX10_undo 60 = .ok (.aload_n 0, 1) := by decide +kernel
theorem dX10_undo_61 : decode cX10_undo 61 = .ok (.getfield 73, 3) := by decide +kernel
theorem dX10_undo_64 : decode cX10_undo 64 = .ok (.ireturn, 1) := by decide +kernel
theorem dX10_save_0 : decode cX10_save 0 = .ok (.aload_n 0, 1) := by decide +kernel
theorem dX10_save_1 : decode cX10_save 1 = .ok (.iconst 0, 1) := by decide +kernel
theorem dX10_save_2 : decode cX10_save 2 = .ok (.putfield 51, 3) := by decide +kernel
theorem dX10_save_5 : decode cX10_save 5 = .ok (.aload_n 0, 1) := by decide +kernel
theorem dX10_save_6 : decode cX10_save 6 = .ok (.iconst 1, 1) := by decide +kernel
theorem dX10_save_7 : decode cX10_save 7 = .ok (.putfield 80, 3) := by decide +kernel
theorem dX10_save_10 : decode cX10_save 10 = .ok (.aload_n 0, 1) := by decide +kernel
theorem dX10_save_11 : decode cX10_save 11 = .ok (.getfield 7, 3) := by decide +kernel
theorem dX10_save_14 : decode cX10_save 14 = .ok (.iconst 0, 1) := by decide +kernel
theorem dX10_save_15 : decode cX10_save 15 = .ok (.aload_n 0, 1) := by decide +kernel
theorem dX10_save_16 : decode cX10_save 16 = .ok (.getfield 13, 3) := by decide +kernel
theorem dX10_save_19 : decode cX10_save 19 = .ok (.iconst 0, 1) := by decide +kernel
theorem dX10_save_20 : decode cX10_save 20 = .ok (.invokestatic 76, 3) := by decide +kernel
theorem dX10_save_23 : decode cX10_save 23 = .ok (.return_, 1) := by decide +kernel
theorem dX10_restore_0 : decode cX10_restore 0 = .ok (.aload_n 0, 1) := by decide +kernel
theorem dX10_restore_1 : decode cX10_restore 1 = .ok (.aload_n 0, 1) := by decide +kernel
theorem dX10_restore_2 : decode cX10_restore 2 = .ok (.getfield 80, 3) := by decide +kernel
theorem dX10_restore_5 : decode cX10_restore 5 = .ok (.ifCond .eq 7, 3) := by decide +kernel
theorem dX10_restore_8 : decode cX10_restore 8 = .ok (.iconst 0, 1) := by decide +kernel
theorem dX10_restore_9 : decode cX10_restore 9 = .ok (.goto 4, 3) := by decide +kernel
theorem dX10_restore_12 : decode cX10_restore 12 = .ok (.iconst 1, 1) := by decide +kernel
theorem dX10_restore_13 : decode cX10_restore 13 = .ok (.putfield 51, 3) := by decide +kernel
theorem dX10_restore_16 : decode cX10_restore 16 = .ok (.aload_n 0, 1) := by decide +kernel
theorem dX10_restore_17 : decode cX10_restore 17 = .ok (.getfield 80, 3) := by decide +kernel
theorem dX10_restore_20 : decode cX10_restore 20 = .ok (.ifCond .eq 26, 3) := by decide +kernel
theorem dX10_restore_23 : decode cX10_restore 23 = .ok (.aload_n 0, 1) := by decide +kernel
theorem dX10_restore_24 : decode cX10_restore 24 = .ok (.getfield 13, 3) := by decide +kernel
theorem dX10_restore_27 : decode cX10_restore 27 = .ok (.iconst 0, 1) := by decide +kernel
theorem dX10_restore_28 : decode cX10_restore 28 = .ok (.aload_n 0, 1) := by decide +kernel
theorem dX10_restore_29 : decode cX10_restore 29 = .ok (.getfield 7, 3) := by decide +kernel
theorem dX10_restore_32 : decode cX10_restore 32 = .ok (.iconst 0, 1) := by decide +kernel
theorem dX10_restore_33 : decode cX10_restore 33 = .ok (.invokestatic 76, 3) := by decide +kernel
theorem dX10_restore_36 : decode cX10_restore 36 = .ok (.aload_n 0, 1) := by decide +kernel
theorem dX10_restore_37 : decode cX10_restore 37 = .ok (.iconst 0, 1) := by decide +kernel
theorem dX10_restore_38 : decode cX10_restore 38 = .ok (.putfield 73, 3) := by decide +kernel
theorem dX10_restore_41 : decode cX10_restore 41 = .ok (.aload_n 0, 1) := by decide +kernel
theorem dX10_restore_42 : decode cX10_restore 42 = .ok (.iconst 0, 1) := by decide +kernel
theorem dX10_restore_43 : decode cX10_restore 43 = .ok (.putfield 69, 3) := by decide +kernel
theorem dX10_restore_46 : decode cX10_restore 46 = .ok (.return_, 1) := by decide +kernel
theorem dX10_hasLetter_0 : decode cX10_hasLetter 0 = .ok (.iconst 0, 1) := by decide +kernel
theorem dX10_hasLetter_1 : decode cX10_hasLetter 1 = .ok (.istore_n 3, 1) := by decide +kernel
theorem dX10_hasLetter_2 : decode cX10_hasLetter 2 = .ok (.iload_n 3, 1) := by decide +kernel
theorem dX10_hasLetter_3 : decode cX10_hasLetter 3 = .ok (.aload_n 0, 1) := by decide +kernel
theorem dX10_hasLetter_4 : decode cX10_hasLetter 4 = .ok (.getfield 7, 3) := by decide +kernel
theorem dX10_hasLetter_7 : decode cX10_hasLetter 7 = .ok (.iload_n 1, 1) := by decide +kernel
theorem dX10_hasLetter_8 : decode cX10_hasLetter 8 = .ok (.iconst 5, 1) := by decide +kernel
theorem dX10_hasLetter_9 : decode cX10_hasLetter 9 = .ok (.invokestatic 65, 3) := by decide +kernel
theorem dX10_hasLetter_12 : decode cX10_hasLetter 12 = .ok (.iaload, 1) := by decide +kernel
theorem dX10_hasLetter_13 : decode cX10_hasLetter 13 = .ok (.if_icmp .ge 28, 3) := by decide +kernel
theorem dX10_hasLetter_16 : decode cX10_hasLetter 16 = .ok (.aload_n 0, 1) := by decide +kernel
theorem dX10_hasLetter_17 : decode cX10_hasLetter 17 = .ok (.getfield 7, 3) := by decide +kernel
theorem dX10_hasLetter_20 : decode cX10_hasLetter 20 = .ok (.iload_n 1, 1) := by decide +kernel
theorem dX10_hasLetter_21 : decode cX10_hasLetter 21 = .ok (.bipush 6, 2) := by decide +kernel
theorem dX10_hasLetter_23 : decode cX10_hasLetter 23 = .ok (.iload_n 3, 1) := by decide +kernel
theorem dX10_hasLetter_24 : decode cX10_hasLetter 24 = .ok (.iadd, 1) := by decide +kernel
theorem dX10_hasLetter_25 : decode cX10_hasLetter 25 = .ok (.invokestatic 65, 3) := by decide +kernel
theorem dX10_hasLetter_28 : decode cX10_hasLetter 28 = .ok (.iaload, 1) := by decide +kernel
theorem dX10_hasLetter_29 : decode cX10_hasLetter 29 = .ok (.iload_n 2, 1) := by decide +kernel
theorem dX10_hasLetter_30 : decode cX10_hasLetter 30 = .ok (.if_icmp .ne 5, 3) := by decide +kernel
theorem dX10_hasLetter_33 : decode cX10_hasLetter 33 = .ok (.iconst 1, 1) := by decide +kernel
theorem dX10_hasLetter_34 : decode cX10_hasLetter 34 = .ok (.ireturn, 1) := by decide +kernel
theorem dX10_hasLetter_35 : decode cX10_hasLetter 35 = .ok (.iinc 3 1, 3) := by decide +kernel
theorem dX10_hasLetter_38 : decode cX10_hasLetter 38 = .ok (.goto (-36), 3) := by decide +kernel
theorem dX10_hasLetter_41 : decode cX10_hasLetter 41 = .ok (.iconst 0, 1) := by decide +kernel
theorem dX10_hasLetter_42 : decode cX10_hasLetter 42 = .ok (.ireturn, 1) := by decide +kernel
theorem dX10_isOld_0 : decode cX10_isOld 0 = .ok (.aload_n 0, 1) := by decide +kernel
theorem dX10_isOld_1 : decode cX10_isOld 1 = .ok (.getfield 7, 3) := by decide +kernel
theorem dX10_isOld_4 : decode cX10_isOld 4 = .ok (.iconst 0, 1) := by decide +kernel
theorem dX10_isOld_5 : decode cX10_isOld 5 = .ok (.iaload, 1) := by decide +kernel
theorem dX10_isOld_6 : decode cX10_isOld 6 = .ok (.aload_n 0, 1) := by decide +kernel
theorem dX10_isOld_7 : decode cX10_isOld 7 = .ok (.getfield 7, 3) := by decide +kernel
theorem dX10_isOld_10 : decode cX10_isOld 10 = .ok (.iload_n 2, 1) := by decide +kernel
theorem dX10_isOld_11 : decode cX10_isOld 11 = .ok (.iconst 3, 1) := by decide +kernel
theorem dX10_isOld_12 : decode cX10_isOld 12 = .ok (.invokestatic 83, 3) := by decide +kernel
theorem dX10_isOld_15 : decode cX10_isOld 15 = .ok (.iaload, 1) := by decide +kernel
theorem dX10_isOld_16 : decode cX10_isOld 16 = .ok (.isub, 1) := by decide +kernel
theorem dX10_isOld_17 : decode cX10_isOld 17 = .ok (.aload_n 0, 1) := by decide +kernel
theorem dX10_isOld_18 : decode cX10_isOld 18 = .ok (.getfield 7, 3) := by decide +kernel
theorem dX10_isOld_21 : decode cX10_isOld 21 = .ok (.iload_n 1, 1) := by decide +kernel
theorem dX10_isOld_22 : decode cX10_isOld 22 = .ok (.iconst 3, 1) := by decide +kernel
theorem dX10_isOld_23 : decode cX10_isOld 23 = .ok (.invokestatic 65, 3) := by decide +kernel
theorem dX10_isOld_26 : decode cX10_isOld 26 = .ok (.iaload, 1) := by decide +kernel
theorem dX10_isOld_27 : decode cX10_isOld 27 = .ok (.if_icmp .le 7, 3) := by decide +kernel
theorem dX10_isOld_30 : decode cX10_isOld 30 = .ok (.iconst 1, 1) := by decide +kernel
theorem dX10_isOld_31 : decode cX10_isOld 31 = .ok (.goto 4, 3) := by decide +kernel
theorem dX10_isOld_34 : decode cX10_isOld 34 = .ok (.iconst 0, 1) := by decide +kernel
theorem dX10_isOld_35 : decode cX10_isOld 35 = .ok (.ireturn, 1) := by decide +kernel
theorem dX10_takes_0 : decode cX10_takes 0 = .ok (.aload_n 0, 1) := by decide +kernel
theorem dX10_takes_1 : decode cX10_takes 1 = .ok (.iload_n 1, 1) := by decide +kernel
theorem dX10_takes_2 : decode cX10_takes 2 = .ok (.invokevirtual 86, 3) := by decide +kernel
theorem dX10_takes_5 : decode cX10_takes 5 = .ok (.ifCond .ne 57, 3) := by decide +kernel
theorem dX10_takes_8 : decode cX10_takes 8 = .ok (.aload_n 0, 1) := by decide +kernel
theorem dX10_takes_9 : decode cX10_takes 9 = .ok (.iload_n 1, 1) := by decide +kernel
theorem dX10_takes_10 : decode cX10_takes 10 = .ok (.aload_n 0, 1) := by decide +kernel
theorem dX10_takes_11 : decode cX10_takes 11 = .ok (.getfield 7, 3) := by decide +kernel
theorem dX10_takes_14 : decode cX10_takes 14 = .ok (.iload_n 2, 1) := by decide +kernel
theorem dX10_takes_15 : decode cX10_takes 15 = .ok (.iconst 0, 1) := by decide +kernel
theorem dX10_takes_16 : decode cX10_takes 16 = .ok (.invokestatic 83, 3) := by decide +kernel
theorem dX10_takes_19 : decode cX10_takes 19 = .ok (.iaload, 1) := by decide +kernel
theorem dX10_takes_20 : decode cX10_takes 20 = .ok (.invokevirtual 90, 3) := by decide +kernel
theorem dX10_takes_23 : decode cX10_takes 23 = .ok (.ifCond .eq 39, 3) := by decide +kernel
theorem dX10_takes_26 : decode cX10_takes 26 = .ok (.aload_n 0, 1) := by decide +kernel
theorem dX10_takes_27 : decode cX10_takes 27 = .ok (.getfield 7, 3) := by decide +kernel
theorem dX10_takes_30 : decode cX10_takes 30 = .ok (.iload_n 2, 1) := by decide +kernel
theorem dX10_takes_31 : decode cX10_takes 31 = .ok (.iconst 2, 1) := by decide +kernel
theorem dX10_takes_32 : decode cX10_takes 32 = .ok (.invokestatic 83, 3) := by decide +kernel
theorem dX10_takes_35 : decode cX10_takes 35 = .ok (.iaload, 1) := by decide +kernel
theorem dX10_takes_36 : decode cX10_takes 36 = .ok (.aload_n 0, 1) := by decide +kernel
theorem dX10_takes_37 : decode cX10_takes 37 = .ok (.getfield 7, 3) := by decide +kernel
theorem dX10_takes_40 : decode cX10_takes 40 = .ok (.iload_n 1, 1) := by decide +kernel
theorem dX10_takes_41 : decode cX10_takes 41 = .ok (.iconst 4, 1) := by decide +kernel
theorem dX10_takes_42 : decode cX10_takes 42 = .ok (.invokestatic 65, 3) := by decide +kernel
theorem dX10_takes_45 : decode cX10_takes 45 = .ok (.iaload, 1) := by decide +kernel
theorem dX10_takes_46 : decode cX10_takes 46 = .ok (.if_icmp .lt 16, 3) := by decide +kernel
theorem dX10_takes_49 : decode cX10_takes 49 = .ok (.aload_n 0, 1) := by decide +kernel
theorem dX10_takes_50 : decode cX10_takes 50 = .ok (.iload_n 1, 1) := by decide +kernel
theorem dX10_takes_51 : decode cX10_takes 51 = .ok (.iload_n 2, 1) := by decide +kernel
theorem dX10_takes_52 : decode cX10_takes 52 = .ok (.invokevirtual 94, 3) := by decide +kernel
theorem dX10_takes_55 : decode cX10_takes 55 = .ok (.ifCond .ne 7, 3) := by decide +kernel
theorem dX10_takes_58 : decode cX10_takes 58 = .ok (.iconst 1, 1) := by decide +kernel
theorem dX10_takes_59 : decode cX10_takes 59 = .ok (.goto 4, 3) := by decide +kernel
theorem dX10_takes_62 : decode cX10_takes 62 = .ok (.iconst 0, 1) := by decide +kernel
theorem dX10_takes_63 : decode cX10_takes 63 = .ok (.ireturn, 1) := by decide +kernel
theorem dX10_weighs_0 : decode cX10_weighs 0 = .ok (.iconst 0, 1) := by decide +kernel
theorem dX10_weighs_1 : decode cX10_weighs 1 = .ok (.istore_n 2, 1) := by decide +kernel
theorem dX10_weighs_2 : decode cX10_weighs 2 = .ok (.iload_n 2, 1) := by decide +kernel
theorem dX10_weighs_3 : decode cX10_weighs 3 = .ok (.aload_n 0, 1) := by decide +kernel
theorem dX10_weighs_4 : decode cX10_weighs 4 = .ok (.getfield 7, 3) := by decide +kernel
theorem dX10_weighs_7 : decode cX10_weighs 7 = .ok (.iconst 3, 1) := by decide +kernel
theorem dX10_weighs_8 : decode cX10_weighs 8 = .ok (.iaload, 1) := by decide +kernel
theorem dX10_weighs_9 : decode cX10_weighs 9 = .ok (.if_icmp .ge 16, 3) := by decide +kernel
theorem dX10_weighs_12 : decode cX10_weighs 12 = .ok (.aload_n 0, 1) := by decide +kernel
theorem dX10_weighs_13 : decode cX10_weighs 13 = .ok (.getfield 28, 3) := by decide +kernel
theorem dX10_weighs_16 : decode cX10_weighs 16 = .ok (.iload_n 2, 1) := by decide +kernel
theorem dX10_weighs_17 : decode cX10_weighs 17 = .ok (.iconst 0, 1) := by decide +kernel
theorem dX10_weighs_18 : decode cX10_weighs 18 = .ok (.iastore, 1) := by decide +kernel
theorem dX10_weighs_19 : decode cX10_weighs 19 = .ok (.iinc 2 1, 3) := by decide +kernel
theorem dX10_weighs_22 : decode cX10_weighs 22 = .ok (.goto (-20), 3) := by decide +kernel
theorem dX10_weighs_25 : decode cX10_weighs 25 = .ok (.aload_n 0, 1) := by decide +kernel
theorem dX10_weighs_26 : decode cX10_weighs 26 = .ok (.iconst 0, 1) := by decide +kernel
theorem dX10_weighs_27 : decode cX10_weighs 27 = .ok (.putfield 97, 3) := by decide +kernel
theorem dX10_weighs_30 : decode cX10_weighs 30 = .ok (.iconst 0, 1) := by decide +kernel
theorem dX10_weighs_31 : decode cX10_weighs 31 = .ok (.istore_n 2, 1) := by decide +kernel
theorem dX10_weighs_32 : decode cX10_weighs 32 = .ok (.iload_n 2, 1) := by decide +kernel
theorem dX10_weighs_33 : decode cX10_weighs 33 = .ok (.aload_n 0, 1) := by decide +kernel
theorem dX10_weighs_34 : decode cX10_weighs 34 = .ok (.getfield 7, 3) := by decide +kernel
theorem dX10_weighs_37 : decode cX10_weighs 37 = .ok (.iconst 1, 1) := by decide +kernel
theorem dX10_weighs_38 : decode cX10_weighs 38 = .ok (.iaload, 1) := by decide +kernel
theorem dX10_weighs_39 : decode cX10_weighs 39 = .ok (.if_icmp .ge 55, 3) := by decide +kernel
theorem dX10_weighs_42 : decode cX10_weighs 42 = .ok (.aload_n 1, 1) := by decide +kernel
theorem dX10_weighs_43 : decode cX10_weighs 43 = .ok (.iload_n 2, 1) := by decide +kernel
theorem dX10_weighs_44 : decode cX10_weighs 44 = .ok (.iaload, 1) := by decide +kernel
theorem dX10_weighs_45 : decode cX10_weighs 45 = .ok (.ifCond .lt 43, 3) := by decide +kernel
theorem dX10_weighs_48 : decode cX10_weighs 48 = .ok (.aload_n 0, 1) := by decide +kernel
theorem dX10_weighs_49 : decode cX10_weighs 49 = .ok (.getfield 28, 3) := by decide +kernel
theorem dX10_weighs_52 : decode cX10_weighs 52 = .ok (.aload_n 1, 1) := by decide +kernel
theorem dX10_weighs_53 : decode cX10_weighs 53 = .ok (.iload_n 2, 1) := by decide +kernel
theorem dX10_weighs_54 : decode cX10_weighs 54 = .ok (.iaload, 1) := by decide +kernel
theorem dX10_weighs_55 : decode cX10_weighs 55 = .ok (.dup2, 1) := by decide +kernel
theorem dX10_weighs_56 : decode cX10_weighs 56 = .ok (.iaload, 1) := by decide +kernel
theorem dX10_weighs_57 : decode cX10_weighs 57 = .ok (.aload_n 0, 1) := by decide +kernel
theorem dX10_weighs_58 : decode cX10_weighs 58 = .ok (.getfield 7, 3) := by decide +kernel
theorem dX10_weighs_61 : decode cX10_weighs 61 = .ok (.iload_n 2, 1) := by decide +kernel
theorem dX10_weighs_62 : decode cX10_weighs 62 = .ok (.iconst 1, 1) := by decide +kernel
theorem dX10_weighs_63 : decode cX10_weighs 63 = .ok (.invokestatic 83, 3) := by decide +kernel
theorem dX10_weighs_66 : decode cX10_weighs 66 = .ok (.iaload, 1) := by decide +kernel
theorem dX10_weighs_67 : decode cX10_weighs 67 = .ok (.iadd, 1) := by decide +kernel
theorem dX10_weighs_68 : decode cX10_weighs 68 = .ok (.iastore, 1) := by decide +kernel
theorem dX10_weighs_69 : decode cX10_weighs 69 = .ok (.aload_n 0, 1) := by decide +kernel
theorem dX10_weighs_70 : decode cX10_weighs 70 = .ok (.dup, 1) := by decide +kernel
theorem dX10_weighs_71 : decode cX10_weighs 71 = .ok (.getfield 97, 3) := by decide +kernel
theorem dX10_weighs_74 : decode cX10_weighs 74 = .ok (.aload_n 0, 1) := by decide +kernel
theorem dX10_weighs_75 : decode cX10_weighs 75 = .ok (.getfield 7, 3) := by decide +kernel
theorem dX10_weighs_78 : decode cX10_weighs 78 = .ok (.iload_n 2, 1) := by decide +kernel
theorem dX10_weighs_79 : decode cX10_weighs 79 = .ok (.iconst 1, 1) := by decide +kernel
theorem dX10_weighs_80 : decode cX10_weighs 80 = .ok (.invokestatic 83, 3) := by decide +kernel
theorem dX10_weighs_83 : decode cX10_weighs 83 = .ok (.iaload, 1) := by decide +kernel
theorem dX10_weighs_84 : decode cX10_weighs 84 = .ok (.iadd, 1) := by decide +kernel
theorem dX10_weighs_85 : decode cX10_weighs 85 = .ok (.putfield 97, 3) := by decide +kernel
theorem dX10_weighs_88 : decode cX10_weighs 88 = .ok (.iinc 2 1, 3) := by decide +kernel
theorem dX10_weighs_91 : decode cX10_weighs 91 = .ok (.goto (-59), 3) := by decide +kernel
theorem dX10_weighs_94 : decode cX10_weighs 94 = .ok (.aload_n 0, 1) := by decide +kernel
theorem dX10_weighs_95 : decode cX10_weighs 95 = .ok (.iconst 0, 1) := by decide +kernel
theorem dX10_weighs_96 : decode cX10_weighs 96 = .ok (.putfield 100, 3) := by decide +kernel
theorem dX10_weighs_99 : decode cX10_weighs 99 = .ok (.aload_n 0, 1) := by decide +kernel
theorem dX10_weighs_100 : decode cX10_weighs 100 = .ok (.iconst 0, 1) := by decide +kernel
theorem dX10_weighs_101 : decode cX10_weighs 101 = .ok (.putfield 103, 3) := by decide +kernel
theorem dX10_weighs_104 : decode cX10_weighs 104 = .ok (.aload_n 0, 1) := by decide +kernel
theorem dX10_weighs_105 : decode cX10_weighs 105 = .ok (.getfield 7, 3) := by decide +kernel
theorem dX10_weighs_108 : decode cX10_weighs 108 = .ok (.iconst 3, 1) := by decide +kernel
theorem dX10_weighs_109 : decode cX10_weighs 109 = .ok (.iaload, 1) := by decide +kernel
theorem dX10_weighs_110 : decode cX10_weighs 110 = .ok (.iconst 1, 1) := by decide +kernel
theorem dX10_weighs_111 : decode cX10_weighs 111 = .ok (.isub, 1) := by decide +kernel
theorem dX10_weighs_112 : decode cX10_weighs 112 = .ok (.istore_n 2, 1) := by decide +kernel
theorem dX10_weighs_113 : decode cX10_weighs 113 = .ok (.iload_n 2, 1) := by decide +kernel
theorem dX10_weighs_114 : decode cX10_weighs 114 = .ok (.ifCond .lt 183, 3) := by decide +kernel
theorem dX10_weighs_117 : decode cX10_weighs 117 = .ok (.iconst 0, 1) := by decide +kernel
theorem dX10_weighs_118 : decode cX10_weighs 118 = .ok (.istore_n 3, 1) := by decide +kernel
theorem dX10_weighs_119 : decode cX10_weighs 119 = .ok (.iload_n 2, 1) := by decide +kernel
theorem dX10_weighs_120 : decode cX10_weighs 120 = .ok (.iconst 1, 1) := by decide +kernel
theorem dX10_weighs_121 : decode cX10_weighs 121 = .ok (.iadd, 1) := by decide +kernel
theorem dX10_weighs_122 : decode cX10_weighs 122 = .ok (.istore 4, 2) := by decide +kernel
theorem dX10_weighs_124 : decode cX10_weighs 124 = .ok (.aload_n 0, 1) := by decide +kernel
theorem dX10_weighs_125 : decode cX10_weighs 125 = .ok (.iload_n 2, 1) := by decide +kernel
theorem dX10_weighs_126 : decode cX10_weighs 126 = .ok (.invokevirtual 86, 3) := by decide +kernel
theorem dX10_weighs_129 : decode cX10_weighs 129 = .ok (.ifCond .eq 53, 3) := by decide +kernel
theorem dX10_weighs_132 : decode cX10_weighs 132 = .ok (.iload 4, 2) := by decide +kernel
theorem dX10_weighs_134 : decode cX10_weighs 134 = .ok (.aload_n 0, 1) := by decide +kernel
theorem dX10_weighs_135 : decode cX10_weighs 135 = .ok (.getfield 7, 3) := by decide +kernel
theorem dX10_weighs_138 : decode cX10_weighs 138 = .ok (.iconst 3, 1) := by decide +kernel
theorem dX10_weighs_139 : decode cX10_weighs 139 = .ok (.iaload, 1) := by decide +kernel
theorem dX10_weighs_140 : decode cX10_weighs 140 = .ok (.if_icmp .ge 42, 3) := by decide +kernel
theorem dX10_weighs_143 : decode cX10_weighs 143 = .ok (.iload_n 3, 1) := by decide +kernel
theorem dX10_weighs_144 : decode cX10_weighs 144 = .ok (.aload_n 0, 1) := by decide +kernel
theorem dX10_weighs_145 : decode cX10_weighs 145 = .ok (.getfield 7, 3) := by decide +kernel
theorem dX10_weighs_148 : decode cX10_weighs 148 = .ok (.iload 4, 2) := by decide +kernel
theorem dX10_weighs_150 : decode cX10_weighs 150 = .ok (.iconst 1, 1) := by decide +kernel
theorem dX10_weighs_151 : decode cX10_weighs 151 = .ok (.invokestatic 65, 3) := by decide +kernel
theorem dX10_weighs_154 : decode cX10_weighs 154 = .ok (.iaload, 1) := by decide +kernel
theorem dX10_weighs_155 : decode cX10_weighs 155 = .ok (.iload_n 2, 1) := by decide +kernel
theorem dX10_weighs_156 : decode cX10_weighs 156 = .ok (.if_icmp .ne 17, 3) := by decide +kernel
theorem dX10_weighs_159 : decode cX10_weighs 159 = .ok (.aload_n 0, 1) := by decide +kernel
theorem dX10_weighs_160 : decode cX10_weighs 160 = .ok (.getfield 31, 3) := by decide +kernel
theorem dX10_weighs_163 : decode cX10_weighs 163 = .ok (.iload 4, 2) := by decide +kernel
theorem dX10_weighs_165 : decode cX10_weighs 165 = .ok (.baload, 1) := by decide +kernel
theorem dX10_weighs_166 : decode cX10_weighs 166 = .ok (.ifCond .eq 7, 3) := by decide +kernel
theorem dX10_weighs_169 : decode cX10_weighs 169 = .ok (.iconst 1, 1) := by decide +kernel
theorem dX10_weighs_170 : decode cX10_weighs 170 = .ok (.goto 4, 3) := by decide +kernel
theorem dX10_weighs_173 : decode cX10_weighs 173 = .ok (.iconst 0, 1) := by decide +kernel
theorem dX10_weighs_174 : decode cX10_weighs 174 = .ok (.iadd, 1) := by decide +kernel
theorem dX10_weighs_175 : decode cX10_weighs 175 = .ok (.istore_n 3, 1) := by decide +kernel
theorem dX10_weighs_176 : decode cX10_weighs 176 = .ok (.iinc 4 1, 3) := by decide +kernel
theorem dX10_weighs_179 : decode cX10_weighs 179 = .ok (.goto (-55), 3) := by decide +kernel
theorem dX10_weighs_182 : decode cX10_weighs 182 = .ok (.aload_n 0, 1) := by decide +kernel
theorem dX10_weighs_183 : decode cX10_weighs 183 = .ok (.getfield 31, 3) := by decide +kernel
theorem dX10_weighs_186 : decode cX10_weighs 186 = .ok (.iload_n 2, 1) := by decide +kernel
theorem dX10_weighs_187 : decode cX10_weighs 187 = .ok (.aload_n 0, 1) := by decide +kernel
theorem dX10_weighs_188 : decode cX10_weighs 188 = .ok (.iload_n 2, 1) := by decide +kernel
theorem dX10_weighs_189 : decode cX10_weighs 189 = .ok (.invokevirtual 86, 3) := by decide +kernel
theorem dX10_weighs_192 : decode cX10_weighs 192 = .ok (.ifCond .eq 7, 3) := by decide +kernel
theorem dX10_weighs_195 : decode cX10_weighs 195 = .ok (.iload_n 3, 1) := by decide +kernel
theorem dX10_weighs_196 : decode cX10_weighs 196 = .ok (.goto 9, 3) := by decide +kernel
theorem dX10_weighs_199 : decode cX10_weighs 199 = .ok (.aload_n 0, 1) := by decide +kernel
theorem dX10_weighs_200 : decode cX10_weighs 200 = .ok (.getfield 28, 3) := by decide +kernel
theorem dX10_weighs_203 : decode cX10_weighs 203 = .ok (.iload_n 2, 1) := by decide +kernel
theorem dX10_weighs_204 : decode cX10_weighs 204 = .ok (.iaload, 1) := by decide +kernel
theorem dX10_weighs_205 : decode cX10_weighs 205 = .ok (.aload_n 0, 1) := by decide +kernel
theorem dX10_weighs_206 : decode cX10_weighs 206 = .ok (.getfield 7, 3) := by decide +kernel
theorem dX10_weighs_209 : decode cX10_weighs 209 = .ok (.iload_n 2, 1) := by decide +kernel
theorem dX10_weighs_210 : decode cX10_weighs 210 = .ok (.iconst 2, 1) := by decide +kernel
theorem dX10_weighs_211 : decode cX10_weighs 211 = .ok (.invokestatic 65, 3) := by decide +kernel
theorem dX10_weighs_214 : decode cX10_weighs 214 = .ok (.iaload, 1) := by decide +kernel
theorem dX10_weighs_215 : decode cX10_weighs 215 = .ok (.if_icmp .lt 7, 3) := by decide +kernel
theorem dX10_weighs_218 : decode cX10_weighs 218 = .ok (.iconst 1, 1) := by decide +kernel
theorem dX10_weighs_219 : decode cX10_weighs 219 = .ok (.goto 4, 3) := by decide +kernel
theorem dX10_weighs_222 : decode cX10_weighs 222 = .ok (.iconst 0, 1) := by decide +kernel
theorem dX10_weighs_223 : decode cX10_weighs 223 = .ok (.bastore, 1) := by decide +kernel
theorem dX10_weighs_224 : decode cX10_weighs 224 = .ok (.aload_n 0, 1) := by decide +kernel
theorem dX10_weighs_225 : decode cX10_weighs 225 = .ok (.dup, 1) := by decide +kernel
theorem dX10_weighs_226 : decode cX10_weighs 226 = .ok (.getfield 103, 3) := by decide +kernel
theorem dX10_weighs_229 : decode cX10_weighs 229 = .ok (.aload_n 0, 1) := by decide +kernel
theorem dX10_weighs_230 : decode cX10_weighs 230 = .ok (.getfield 31, 3) := by decide +kernel
theorem dX10_weighs_233 : decode cX10_weighs 233 = .ok (.iload_n 2, 1) := by decide +kernel
theorem dX10_weighs_234 : decode cX10_weighs 234 = .ok (.baload, 1) := by decide +kernel
theorem dX10_weighs_235 : decode cX10_weighs 235 = .ok (.ifCond .eq 15, 3) := by decide +kernel
theorem dX10_weighs_238 : decode cX10_weighs 238 = .ok (.aload_n 0, 1) := by decide +kernel
theorem dX10_weighs_239 : decode cX10_weighs 239 = .ok (.iload_n 2, 1) := by decide +kernel
theorem dX10_weighs_240 : decode cX10_weighs 240 = .ok (.invokevirtual 86, 3) := by decide +kernel
theorem dX10_weighs_243 : decode cX10_weighs 243 = .ok (.ifCond .ne 7, 3) := by decide +kernel
theorem dX10_weighs_246 : decode cX10_weighs 246 = .ok (.iconst 1, 1) := by decide +kernel
theorem dX10_weighs_247 : decode cX10_weighs 247 = .ok (.goto 4, 3) := by decide +kernel
theorem dX10_weighs_250 : decode cX10_weighs 250 = .ok (.iconst 0, 1) := by decide +kernel
theorem dX10_weighs_251 : decode cX10_weighs 251 = .ok (.iadd, 1) := by decide +kernel
theorem dX10_weighs_252 : decode cX10_weighs 252 = .ok (.putfield 103, 3) := by decide +kernel
theorem dX10_weighs_255 : decode cX10_weighs 255 = .ok (.aload_n 0, 1) := by decide +kernel
theorem dX10_weighs_256 : decode cX10_weighs 256 = .ok (.dup, 1) := by decide +kernel
theorem dX10_weighs_257 : decode cX10_weighs 257 = .ok (.getfield 100, 3) := by decide +kernel
theorem dX10_weighs_260 : decode cX10_weighs 260 = .ok (.aload_n 0, 1) := by decide +kernel
theorem dX10_weighs_261 : decode cX10_weighs 261 = .ok (.getfield 31, 3) := by decide +kernel
theorem dX10_weighs_264 : decode cX10_weighs 264 = .ok (.iload_n 2, 1) := by decide +kernel
theorem dX10_weighs_265 : decode cX10_weighs 265 = .ok (.baload, 1) := by decide +kernel
theorem dX10_weighs_266 : decode cX10_weighs 266 = .ok (.ifCond .eq 20, 3) := by decide +kernel
theorem dX10_weighs_269 : decode cX10_weighs 269 = .ok (.aload_n 0, 1) := by decide +kernel
theorem dX10_weighs_270 : decode cX10_weighs 270 = .ok (.getfield 7, 3) := by decide +kernel
theorem dX10_weighs_273 : decode cX10_weighs 273 = .ok (.iload_n 2, 1) := by decide +kernel
theorem dX10_weighs_274 : decode cX10_weighs 274 = .ok (.iconst 1, 1) := by decide +kernel
theorem dX10_weighs_275 : decode cX10_weighs 275 = .ok (.invokestatic 65, 3) := by decide +kernel
theorem dX10_weighs_278 : decode cX10_weighs 278 = .ok (.iaload, 1) := by decide +kernel
theorem dX10_weighs_279 : decode cX10_weighs 279 = .ok (.ifCond .ge 7, 3) := by decide +kernel
theorem dX10_weighs_282 : decode cX10_weighs 282 = .ok (.iconst 1, 1) := by decide +kernel
theorem dX10_weighs_283 : decode cX10_weighs 283 = .ok (.goto 4, 3) := by decide +kernel
theorem dX10_weighs_286 : decode cX10_weighs 286 = .ok (.iconst 0, 1) := by decide +kernel
theorem dX10_weighs_287 : decode cX10_weighs 287 = .ok (.iadd, 1) := by decide +kernel
theorem dX10_weighs_288 : decode cX10_weighs 288 = .ok (.putfield 100, 3) := by decide +kernel
theorem dX10_weighs_291 : decode cX10_weighs 291 = .ok (.iinc 2 (-1), 3) := by decide +kernel
theorem dX10_weighs_294 : decode cX10_weighs 294 = .ok (.goto (-181), 3) := by decide +kernel
theorem dX10_weighs_297 : decode cX10_weighs 297 = .ok (.return_, 1) := by decide +kernel
theorem dX10_placeAfter_0 : decode cX10_placeAfter 0 = .ok (.iload_n 2, 1) := by decide +kernel
theorem dX10_placeAfter_1 : decode cX10_placeAfter 1 = .ok (.iconst (-1), 1) := by decide +kernel
theorem dX10_placeAfter_2 : decode cX10_placeAfter 2 = .ok (.if_icmp .ne 6, 3) := by decide +kernel
theorem dX10_placeAfter_5 : decode cX10_placeAfter 5 = .ok (.bipush (-2), 2) := by decide +kernel
theorem dX10_placeAfter_7 : decode cX10_placeAfter 7 = .ok (.ireturn, 1) := by decide +kernel
theorem dX10_placeAfter_8 : decode cX10_placeAfter 8 = .ok (.iload_n 2, 1) := by decide +kernel
theorem dX10_placeAfter_9 : decode cX10_placeAfter 9 = .ok (.iconst 1, 1) := by decide +kernel
theorem dX10_placeAfter_10 : decode cX10_placeAfter 10 = .ok (.iadd, 1) := by decide +kernel
theorem dX10_placeAfter_11 : decode cX10_placeAfter 11 = .ok (.istore_n 3, 1) := by decide +kernel
theorem dX10_placeAfter_12 : decode cX10_placeAfter 12 = .ok (.iload_n 3, 1) := by decide +kernel
theorem dX10_placeAfter_13 : decode cX10_placeAfter 13 = .ok (.aload_n 0, 1) := by decide +kernel
theorem dX10_placeAfter_14 : decode cX10_placeAfter 14 = .ok (.getfield 7, 3) := by decide +kernel
theorem dX10_placeAfter_17 : decode cX10_placeAfter 17 = .ok (.iconst 3, 1) := by decide +kernel
theorem dX10_placeAfter_18 : decode cX10_placeAfter 18 = .ok (.iaload, 1) := by decide +kernel
theorem dX10_placeAfter_19 : decode cX10_placeAfter 19 = .ok (.if_icmp .ge 20, 3) := by decide +kernel
theorem dX10_placeAfter_22 : decode cX10_placeAfter 22 = .ok (.aload_n 0, 1) := by decide +kernel
theorem dX10_placeAfter_23 : decode cX10_placeAfter 23 = .ok (.iload_n 3, 1) := by decide +kernel
theorem dX10_placeAfter_24 : decode cX10_placeAfter 24 = .ok (.iload_n 1, 1) := by decide +kernel
theorem dX10_placeAfter_25 : decode cX10_placeAfter 25 = .ok (.invokevirtual 106, 3) := by decide +kernel
theorem dX10_placeAfter_28 : decode cX10_placeAfter 28 = .ok (.ifCond .eq 5, 3) := by decide +kernel
theorem dX10_placeAfter_31 : decode cX10_placeAfter 31 = .ok (.iload_n 3, 1) := by decide +kernel
theorem dX10_placeAfter_32 : decode cX10_placeAfter 32 = .ok (.ireturn, 1) := by decide +kernel
theorem dX10_placeAfter_33 : decode cX10_placeAfter 33 = .ok (.iinc 3 1, 3) := by decide +kernel
theorem dX10_placeAfter_36 : decode cX10_placeAfter 36 = .ok (.goto (-24), 3) := by decide +kernel
theorem dX10_placeAfter_39 : decode cX10_placeAfter 39 = .ok (.iconst (-1), 1) := by decide +kernel
theorem dX10_placeAfter_40 : decode cX10_placeAfter 40 = .ok (.ireturn, 1) := by decide +kernel
theorem dX10_firstPlace_0 : decode cX10_firstPlace 0 = .ok (.iconst 0, 1) := by decide +kernel
theorem dX10_firstPlace_1 : decode cX10_firstPlace 1 = .ok (.istore_n 2, 1) := by decide +kernel
theorem dX10_firstPlace_2 : decode cX10_firstPlace 2 = .ok (.iload_n 2, 1) := by decide +kernel
theorem dX10_firstPlace_3 : decode cX10_firstPlace 3 = .ok (.aload_n 0, 1) := by decide +kernel
theorem dX10_firstPlace_4 : decode cX10_firstPlace 4 = .ok (.getfield 7, 3) := by decide +kernel
theorem dX10_firstPlace_7 : decode cX10_firstPlace 7 = .ok (.iconst 3, 1) := by decide +kernel
theorem dX10_firstPlace_8 : decode cX10_firstPlace 8 = .ok (.iaload, 1) := by decide +kernel
theorem dX10_firstPlace_9 : decode cX10_firstPlace 9 = .ok (.if_icmp .ge 20, 3) := by decide +kernel
theorem dX10_firstPlace_12 : decode cX10_firstPlace 12 = .ok (.aload_n 0, 1) := by decide +kernel
theorem dX10_firstPlace_13 : decode cX10_firstPlace 13 = .ok (.iload_n 2, 1) := by decide +kernel
theorem dX10_firstPlace_14 : decode cX10_firstPlace 14 = .ok (.iload_n 1, 1) := by decide +kernel
theorem dX10_firstPlace_15 : decode cX10_firstPlace 15 = .ok (.invokevirtual 106, 3) := by decide +kernel
theorem dX10_firstPlace_18 : decode cX10_firstPlace 18 = .ok (.ifCond .eq 5, 3) := by decide +kernel
theorem dX10_firstPlace_21 : decode cX10_firstPlace 21 = .ok (.iload_n 2, 1) := by decide +kernel
theorem dX10_firstPlace_22 : decode cX10_firstPlace 22 = .ok (.ireturn, 1) := by decide +kernel
theorem dX10_firstPlace_23 : decode cX10_firstPlace 23 = .ok (.iinc 2 1, 3) := by decide +kernel
theorem dX10_firstPlace_26 : decode cX10_firstPlace 26 = .ok (.goto (-24), 3) := by decide +kernel
theorem dX10_firstPlace_29 : decode cX10_firstPlace 29 = .ok (.iconst (-1), 1) := by decide +kernel
theorem dX10_firstPlace_30 : decode cX10_firstPlace 30 = .ok (.ireturn, 1) := by decide +kernel
theorem dX10_nextUse_0 : decode cX10_nextUse 0 = .ok (.aload_n 0, 1) := by decide +kernel
theorem dX10_nextUse_1 : decode cX10_nextUse 1 = .ok (.getfield 7, 3) := by decide +kernel
theorem dX10_nextUse_4 : decode cX10_nextUse 4 = .ok (.iconst 1, 1) := by decide +kernel
theorem dX10_nextUse_5 : decode cX10_nextUse 5 = .ok (.iaload, 1) := by decide +kernel
theorem dX10_nextUse_6 : decode cX10_nextUse 6 = .ok (.iconst 1, 1) := by decide +kernel
theorem dX10_nextUse_7 : decode cX10_nextUse 7 = .ok (.isub, 1) := by decide +kernel
theorem dX10_nextUse_8 : decode cX10_nextUse 8 = .ok (.istore_n 1, 1) := by decide +kernel
theorem dX10_nextUse_9 : decode cX10_nextUse 9 = .ok (.iload_n 1, 1) := by decide +kernel
theorem dX10_nextUse_10 : decode cX10_nextUse 10 = .ok (.ifCond .lt 49, 3) := by decide +kernel
theorem dX10_nextUse_13 : decode cX10_nextUse 13 = .ok (.aload_n 0, 1) := by decide +kernel
theorem dX10_nextUse_14 : decode cX10_nextUse 14 = .ok (.getfield 22, 3) := by decide +kernel
theorem dX10_nextUse_17 : decode cX10_nextUse 17 = .ok (.iload_n 1, 1) := by decide +kernel
theorem dX10_nextUse_18 : decode cX10_nextUse 18 = .ok (.aload_n 0, 1) := by decide +kernel
theorem dX10_nextUse_19 : decode cX10_nextUse 19 = .ok (.iload_n 1, 1) := by decide +kernel
theorem dX10_nextUse_20 : decode cX10_nextUse 20 = .ok (.aload_n 0, 1) := by decide +kernel
theorem dX10_nextUse_21 : decode cX10_nextUse 21 = .ok (.getfield 22, 3) := by decide +kernel
theorem dX10_nextUse_24 : decode cX10_nextUse 24 = .ok (.iload_n 1, 1) := by decide +kernel
theorem dX10_nextUse_25 : decode cX10_nextUse 25 = .ok (.iaload, 1) := by decide +kernel
theorem dX10_nextUse_26 : decode cX10_nextUse 26 = .ok (.invokevirtual 109, 3) := by decide +kernel
theorem dX10_nextUse_29 : decode cX10_nextUse 29 = .ok (.iastore, 1) := by decide +kernel
theorem dX10_nextUse_30 : decode cX10_nextUse 30 = .ok (.aload_n 0, 1) := by decide +kernel
theorem dX10_nextUse_31 : decode cX10_nextUse 31 = .ok (.getfield 22, 3) := by decide +kernel
theorem dX10_nextUse_34 : decode cX10_nextUse 34 = .ok (.iload_n 1, 1) := by decide +kernel
theorem dX10_nextUse_35 : decode cX10_nextUse 35 = .ok (.iaload, 1) := by decide +kernel
theorem dX10_nextUse_36 : decode cX10_nextUse 36 = .ok (.iconst (-1), 1) := by decide +kernel
theorem dX10_nextUse_37 : decode cX10_nextUse 37 = .ok (.if_icmp .lt 5, 3) := by decide +kernel
theorem dX10_nextUse_40 : decode cX10_nextUse 40 = .ok (.iconst 1, 1) := by decide +kernel
theorem dX10_nextUse_41 : decode cX10_nextUse 41 = .ok (.ireturn, 1) := by decide +kernel
theorem dX10_nextUse_42 : decode cX10_nextUse 42 = .ok (.aload_n 0, 1) := by decide +kernel
theorem dX10_nextUse_43 : decode cX10_nextUse 43 = .ok (.getfield 22, 3) := by decide +kernel
theorem dX10_nextUse_46 : decode cX10_nextUse 46 = .ok (.iload_n 1, 1) := by decide +kernel
theorem dX10_nextUse_47 : decode cX10_nextUse 47 = .ok (.aload_n 0, 1) := by decide +kernel
theorem dX10_nextUse_48 : decode cX10_nextUse 48 = .ok (.iload_n 1, 1) := by decide +kernel
theorem dX10_nextUse_49 : decode cX10_nextUse 49 = .ok (.invokevirtual 112, 3) := by decide +kernel
theorem dX10_nextUse_52 : decode cX10_nextUse 52 = .ok (.iastore, 1) := by decide +kernel
theorem dX10_nextUse_53 : decode cX10_nextUse 53 = .ok (.iinc 1 (-1), 3) := by decide +kernel
theorem dX10_nextUse_56 : decode cX10_nextUse 56 = .ok (.goto (-47), 3) := by decide +kernel
theorem dX10_nextUse_59 : decode cX10_nextUse 59 = .ok (.iconst 0, 1) := by decide +kernel
theorem dX10_nextUse_60 : decode cX10_nextUse 60 = .ok (.ireturn, 1) := by decide +kernel
theorem dX10_finds_0 : decode cX10_finds 0 = .ok (.aload_n 0, 1) := by decide +kernel
theorem dX10_finds_1 : decode cX10_finds 1 = .ok (.getfield 69, 3) := by decide +kernel
theorem dX10_finds_4 : decode cX10_finds 4 = .ok (.ifCond .eq 4, 3) := by decide +kernel
theorem dX10_finds_7 : decode cX10_finds 7 = .ok (.return_, 1) := by decide +kernel
theorem dX10_finds_8 : decode cX10_finds 8 = .ok (.aload_n 0, 1) := by decide +kernel
theorem dX10_finds_9 : decode cX10_finds 9 = .ok (.iconst 1, 1) := by decide +kernel
theorem dX10_finds_10 : decode cX10_finds 10 = .ok (.putfield 69, 3) := by decide +kernel
theorem dX10_finds_13 : decode cX10_finds 13 = .ok (.iconst 0, 1) := by decide +kernel
theorem dX10_finds_14 : decode cX10_finds 14 = .ok (.istore_n 1, 1) := by decide +kernel
theorem dX10_finds_15 : decode cX10_finds 15 = .ok (.iload_n 1, 1) := by decide +kernel
theorem dX10_finds_16 : decode cX10_finds 16 = .ok (.aload_n 0, 1) := by decide +kernel
theorem dX10_finds_17 : decode cX10_finds 17 = .ok (.getfield 7, 3) := by decide +kernel
theorem dX10_finds_20 : decode cX10_finds 20 = .ok (.iconst 1, 1) := by decide +kernel
theorem dX10_finds_21 : decode cX10_finds 21 = .ok (.iaload, 1) := by decide +kernel
theorem dX10_finds_22 : decode cX10_finds 22 = .ok (.if_icmp .ge 20, 3) := by decide +kernel
theorem dX10_finds_25 : decode cX10_finds 25 = .ok (.aload_n 0, 1) := by decide +kernel
theorem dX10_finds_26 : decode cX10_finds 26 = .ok (.getfield 22, 3) := by decide +kernel
theorem dX10_finds_29 : decode cX10_finds 29 = .ok (.iload_n 1, 1) := by decide +kernel
theorem dX10_finds_30 : decode cX10_finds 30 = .ok (.aload_n 0, 1) := by decide +kernel
theorem dX10_finds_31 : decode cX10_finds 31 = .ok (.iload_n 1, 1) := by decide +kernel
theorem dX10_finds_32 : decode cX10_finds 32 = .ok (.invokevirtual 112, 3) := by decide +kernel
theorem dX10_finds_35 : decode cX10_finds 35 = .ok (.iastore, 1) := by decide +kernel
theorem dX10_finds_36 : decode cX10_finds 36 = .ok (.iinc 1 1, 3) := by decide +kernel
theorem dX10_finds_39 : decode cX10_finds 39 = .ok (.goto (-24), 3) := by decide +kernel
theorem dX10_finds_42 : decode cX10_finds 42 = .ok (.iconst (-1), 1) := by decide +kernel
theorem dX10_finds_43 : decode cX10_finds 43 = .ok (.istore_n 1, 1) := by decide +kernel
theorem dX10_finds_44 : decode cX10_finds 44 = .ok (.iconst 0, 1) := by decide +kernel
theorem dX10_finds_45 : decode cX10_finds 45 = .ok (.istore_n 2, 1) := by decide +kernel
theorem dX10_finds_46 : decode cX10_finds 46 = .ok (.iconst 0, 1) := by decide +kernel
theorem dX10_finds_47 : decode cX10_finds 47 = .ok (.istore_n 3, 1) := by decide +kernel
theorem dX10_finds_48 : decode cX10_finds 48 = .ok (.aload_n 0, 1) := by decide +kernel
theorem dX10_finds_49 : decode cX10_finds 49 = .ok (.aload_n 0, 1) := by decide +kernel
theorem dX10_finds_50 : decode cX10_finds 50 = .ok (.getfield 22, 3) := by decide +kernel
theorem dX10_finds_53 : decode cX10_finds 53 = .ok (.invokevirtual 115, 3) := by decide +kernel
theorem dX10_finds_56 : decode cX10_finds 56 = .ok (.aload_n 0, 1) := by decide +kernel
theorem dX10_finds_57 : decode cX10_finds 57 = .ok (.getfield 100, 3) := by decide +kernel
theorem dX10_finds_60 : decode cX10_finds 60 = .ok (.iload_n 1, 1) := by decide +kernel
theorem dX10_finds_61 : decode cX10_finds 61 = .ok (.if_icmp .gt 35, 3) := by decide +kernel
theorem dX10_finds_64 : decode cX10_finds 64 = .ok (.aload_n 0, 1) := by decide +kernel
theorem dX10_finds_65 : decode cX10_finds 65 = .ok (.getfield 100, 3) := by decide +kernel
theorem dX10_finds_68 : decode cX10_finds 68 = .ok (.iload_n 1, 1) := by decide +kernel
theorem dX10_finds_69 : decode cX10_finds 69 = .ok (.if_icmp .ne 76, 3) := by decide +kernel
theorem dX10_finds_72 : decode cX10_finds 72 = .ok (.aload_n 0, 1) := by decide +kernel
theorem dX10_finds_73 : decode cX10_finds 73 = .ok (.getfield 103, 3) := by decide +kernel
theorem dX10_finds_76 : decode cX10_finds 76 = .ok (.iload_n 2, 1) := by decide +kernel
theorem dX10_finds_77 : decode cX10_finds 77 = .ok (.if_icmp .gt 19, 3) := by decide +kernel
theorem dX10_finds_80 : decode cX10_finds 80 = .ok (.aload_n 0, 1) := by decide +kernel
theorem dX10_finds_81 : decode cX10_finds 81 = .ok (.getfield 103, 3) := by decide +kernel
theorem dX10_finds_84 : decode cX10_finds 84 = .ok (.iload_n 2, 1) := by decide +kernel
theorem dX10_finds_85 : decode cX10_finds 85 = .ok (.if_icmp .ne 60, 3) := by decide +kernel
theorem dX10_finds_88 : decode cX10_finds 88 = .ok (.aload_n 0, 1) := by decide +kernel
theorem dX10_finds_89 : decode cX10_finds 89 = .ok (.getfield 97, 3) := by decide +kernel
theorem dX10_finds_92 : decode cX10_finds 92 = .ok (.iload_n 3, 1) := by decide +kernel
theorem dX10_finds_93 : decode cX10_finds 93 = .ok (.if_icmp .ge 52, 3) := by decide +kernel
theorem dX10_finds_96 : decode cX10_finds 96 = .ok (.aload_n 0, 1) := by decide +kernel
theorem dX10_finds_97 : decode cX10_finds 97 = .ok (.getfield 100, 3) := by decide +kernel
theorem dX10_finds_100 : decode cX10_finds 100 = .ok (.istore_n 1, 1) := by decide +kernel
theorem dX10_finds_101 : decode cX10_finds 101 = .ok (.aload_n 0, 1) := by decide +kernel
theorem dX10_finds_102 : decode cX10_finds 102 = .ok (.getfield 103, 3) := by decide +kernel
theorem dX10_finds_105 : decode cX10_finds 105 = .ok (.istore_n 2, 1) := by decide +kernel
theorem dX10_finds_106 : decode cX10_finds 106 = .ok (.aload_n 0, 1) := by decide +kernel
theorem dX10_finds_107 : decode cX10_finds 107 = .ok (.getfield 97, 3) := by decide +kernel
theorem dX10_finds_110 : decode cX10_finds 110 = .ok (.istore_n 3, 1) := by decide +kernel
theorem dX10_finds_111 : decode cX10_finds 111 = .ok (.iconst 0, 1) := by decide +kernel
theorem dX10_finds_112 : decode cX10_finds 112 = .ok (.istore 4, 2) := by decide +kernel
theorem dX10_finds_114 : decode cX10_finds 114 = .ok (.iload 4, 2) := by decide +kernel
theorem dX10_finds_116 : decode cX10_finds 116 = .ok (.aload_n 0, 1) := by decide +kernel
theorem dX10_finds_117 : decode cX10_finds 117 = .ok (.getfield 7, 3) := by decide +kernel
theorem dX10_finds_120 : decode cX10_finds 120 = .ok (.iconst 1, 1) := by decide +kernel
theorem dX10_finds_121 : decode cX10_finds 121 = .ok (.iaload, 1) := by decide +kernel
theorem dX10_finds_122 : decode cX10_finds 122 = .ok (.if_icmp .ge 23, 3) := by decide +kernel
theorem dX10_finds_125 : decode cX10_finds 125 = .ok (.aload_n 0, 1) := by decide +kernel
theorem dX10_finds_126 : decode cX10_finds 126 = .ok (.getfield 25, 3) := by decide +kernel
theorem dX10_finds_129 : decode cX10_finds 129 = .ok (.iload 4, 2) := by decide +kernel
theorem dX10_finds_131 : decode cX10_finds 131 = .ok (.aload_n 0, 1) := by decide +kernel
theorem dX10_finds_132 : decode cX10_finds 132 = .ok (.getfield 22, 3) := by decide +kernel
theorem dX10_finds_135 : decode cX10_finds 135 = .ok (.iload 4, 2) := by decide +kernel
theorem dX10_finds_137 : decode cX10_finds 137 = .ok (.iaload, 1) := by decide +kernel
theorem dX10_finds_138 : decode cX10_finds 138 = .ok (.iastore, 1) := by decide +kernel
theorem dX10_finds_139 : decode cX10_finds 139 = .ok (.iinc 4 1, 3) := by decide +kernel
theorem dX10_finds_142 : decode cX10_finds 142 = .ok (.goto (-28), 3) := by decide +kernel
theorem dX10_finds_145 : decode cX10_finds 145 = .ok (.aload_n 0, 1) := by decide +kernel
theorem dX10_finds_146 : decode cX10_finds 146 = .ok (.invokevirtual 119, 3) := by decide +kernel
theorem dX10_finds_149 : decode cX10_finds 149 = .ok (.ifCond .ne (-101), 3) := by decide +kernel
theorem dX10_finds_152 : decode cX10_finds 152 = .ok (.aload_n 0, 1) := by decide +kernel
theorem dX10_finds_153 : decode cX10_finds 153 = .ok (.aload_n 0, 1) := by decide +kernel
theorem dX10_finds_154 : decode cX10_finds 154 = .ok (.getfield 25, 3) := by decide +kernel
theorem dX10_finds_157 : decode cX10_finds 157 = .ok (.invokevirtual 115, 3) := by decide +kernel
theorem dX10_finds_160 : decode cX10_finds 160 = .ok (.return_, 1) := by decide +kernel
theorem dX10_isLow_0 : decode cX10_isLow 0 = .ok (.iload_n 0, 1) := by decide +kernel
theorem dX10_isLow_1 : decode cX10_isLow 1 = .ok (.bipush 97, 2) := by decide +kernel
theorem dX10_isLow_3 : decode cX10_isLow 3 = .ok (.bipush 122, 2) := by decide +kernel
theorem dX10_isLow_5 : decode cX10_isLow 5 = .ok (.invokestatic 61, 3) := by decide +kernel
theorem dX10_isLow_8 : decode cX10_isLow 8 = .ok (.ireturn, 1) := by decide +kernel
theorem dX10_isCapital_0 : decode cX10_isCapital 0 = .ok (.iload_n 0, 1) := by decide +kernel
theorem dX10_isCapital_1 : decode cX10_isCapital 1 = .ok (.bipush 65, 2) := by decide +kernel
theorem dX10_isCapital_3 : decode cX10_isCapital 3 = .ok (.bipush 90, 2) := by decide +kernel
theorem dX10_isCapital_5 : decode cX10_isCapital 5 = .ok (.invokestatic 61, 3) := by decide +kernel
theorem dX10_isCapital_8 : decode cX10_isCapital 8 = .ok (.ireturn, 1) := by decide +kernel
theorem dX10_mayBe_0 : decode cX10_mayBe 0 = .ok (.iload_n 1, 1) := by decide +kernel
theorem dX10_mayBe_1 : decode cX10_mayBe 1 = .ok (.invokestatic 123, 3) := by decide +kernel
theorem dX10_mayBe_4 : decode cX10_mayBe 4 = .ok (.ifCond .ne 10, 3) := by decide +kernel
theorem dX10_mayBe_7 : decode cX10_mayBe 7 = .ok (.iload_n 1, 1) := by decide +kernel
theorem dX10_mayBe_8 : decode cX10_mayBe 8 = .ok (.invokestatic 126, 3) := by decide +kernel
theorem dX10_mayBe_11 : decode cX10_mayBe 11 = .ok (.ifCond .eq 42, 3) := by decide +kernel
theorem dX10_mayBe_14 : decode cX10_mayBe 14 = .ok (.iload_n 2, 1) := by decide +kernel
theorem dX10_mayBe_15 : decode cX10_mayBe 15 = .ok (.iconst 1, 1) := by decide +kernel
theorem dX10_mayBe_16 : decode cX10_mayBe 16 = .ok (.bipush 12, 2) := by decide +kernel
theorem dX10_mayBe_18 : decode cX10_mayBe 18 = .ok (.invokestatic 61, 3) := by decide +kernel
theorem dX10_mayBe_21 : decode cX10_mayBe 21 = .ok (.ifCond .eq 32, 3) := by decide +kernel
theorem dX10_mayBe_24 : decode cX10_mayBe 24 = .ok (.iload_n 3, 1) := by decide +kernel
theorem dX10_mayBe_25 : decode cX10_mayBe 25 = .ok (.iconst 0, 1) := by decide +kernel
theorem dX10_mayBe_26 : decode cX10_mayBe 26 = .ok (.bipush 20, 2) := by decide +kernel
theorem dX10_mayBe_28 : decode cX10_mayBe 28 = .ok (.invokestatic 61, 3) := by decide +kernel
theorem dX10_mayBe_31 : decode cX10_mayBe 31 = .ok (.ifCond .eq 22, 3) := by decide +kernel
theorem dX10_mayBe_34 : decode cX10_mayBe 34 = .ok (.iload 4, 2) := by decide +kernel
theorem dX10_mayBe_36 : decode cX10_mayBe 36 = .ok (.iconst 0, 1) := by decide +kernel
theorem dX10_mayBe_37 : decode cX10_mayBe 37 = .ok (.aload_n 0, 1) := by decide +kernel
theorem dX10_mayBe_38 : decode cX10_mayBe 38 = .ok (.getfield 7, 3) := by decide +kernel
theorem dX10_mayBe_41 : decode cX10_mayBe 41 = .ok (.iconst 0, 1) := by decide +kernel
theorem dX10_mayBe_42 : decode cX10_mayBe 42 = .ok (.iaload, 1) := by decide +kernel
theorem dX10_mayBe_43 : decode cX10_mayBe 43 = .ok (.invokestatic 61, 3) := by decide +kernel
theorem dX10_mayBe_46 : decode cX10_mayBe 46 = .ok (.ifCond .eq 7, 3) := by decide +kernel
theorem dX10_mayBe_49 : decode cX10_mayBe 49 = .ok (.iconst 1, 1) := by decide +kernel
theorem dX10_mayBe_50 : decode cX10_mayBe 50 = .ok (.goto 4, 3) := by decide +kernel
theorem dX10_mayBe_53 : decode cX10_mayBe 53 = .ok (.iconst 0, 1) := by decide +kernel
theorem dX10_mayBe_54 : decode cX10_mayBe 54 = .ok (.ireturn, 1) := by decide +kernel
theorem dX10_comes_0 : decode cX10_comes 0 = .ok (.aload_n 0, 1) := by decide +kernel
theorem dX10_comes_1 : decode cX10_comes 1 = .ok (.getfield 7, 3) := by decide +kernel
theorem dX10_comes_4 : decode cX10_comes 4 = .ok (.iconst 1, 1) := by decide +kernel
theorem dX10_comes_5 : decode cX10_comes 5 = .ok (.iaload, 1) := by decide +kernel
theorem dX10_comes_6 : decode cX10_comes 6 = .ok (.istore 5, 2) := by decide +kernel
theorem dX10_comes_8 : decode cX10_comes 8 = .ok (.aload_n 0, 1) := by decide +kernel
theorem dX10_comes_9 : decode cX10_comes 9 = .ok (.getfield 7, 3) := by decide +kernel
theorem dX10_comes_12 : decode cX10_comes 12 = .ok (.iconst 1, 1) := by decide +kernel
theorem dX10_comes_13 : decode cX10_comes 13 = .ok (.dup2, 1) := by decide +kernel
theorem dX10_comes_14 : decode cX10_comes 14 = .ok (.iaload, 1) := by decide +kernel
theorem dX10_comes_15 : decode cX10_comes 15 = .ok (.iconst 1, 1) := by decide +kernel
theorem dX10_comes_16 : decode cX10_comes 16 = .ok (.iadd, 1) := by decide +kernel
theorem dX10_comes_17 : decode cX10_comes 17 = .ok (.iastore, 1) := by decide +kernel
theorem dX10_comes_18 : decode cX10_comes 18 = .ok (.aload_n 0, 1) := by decide +kernel
theorem dX10_comes_19 : decode cX10_comes 19 = .ok (.getfield 7, 3) := by decide +kernel
theorem dX10_comes_22 : decode cX10_comes 22 = .ok (.iload 5, 2) := by decide +kernel
theorem dX10_comes_24 : decode cX10_comes 24 = .ok (.iconst 0, 1) := by decide +kernel
theorem dX10_comes_25 : decode cX10_comes 25 = .ok (.invokestatic 83, 3) := by decide +kernel
theorem dX10_comes_28 : decode cX10_comes 28 = .ok (.iload_n 1, 1) := by decide +kernel
theorem dX10_comes_29 : decode cX10_comes 29 = .ok (.iastore, 1) := by decide +kernel
theorem dX10_comes_30 : decode cX10_comes 30 = .ok (.aload_n 0, 1) := by decide +kernel
theorem dX10_comes_31 : decode cX10_comes 31 = .ok (.getfield 7, 3) := by decide +kernel
theorem dX10_comes_34 : decode cX10_comes 34 = .ok (.iload 5, 2) := by decide +kernel
theorem dX10_comes_36 : decode cX10_comes 36 = .ok (.iconst 1, 1) := by decide +kernel
theorem dX10_comes_37 : decode cX10_comes 37 = .ok (.invokestatic 83, 3) := by decide +kernel
theorem dX10_comes_40 : decode cX10_comes 40 = .ok (.iload_n 2, 1) := by decide +kernel
theorem dX10_comes_41 : decode cX10_comes 41 = .ok (.iastore, 1) := by decide +kernel
theorem dX10_comes_42 : decode cX10_comes 42 = .ok (.aload_n 0, 1) := by decide +kernel
theorem dX10_comes_43 : decode cX10_comes 43 = .ok (.getfield 7, 3) := by decide +kernel
theorem dX10_comes_46 : decode cX10_comes 46 = .ok (.iload 5, 2) := by decide +kernel
theorem dX10_comes_48 : decode cX10_comes 48 = .ok (.iconst 2, 1) := by decide +kernel
theorem dX10_comes_49 : decode cX10_comes 49 = .ok (.invokestatic 83, 3) := by decide +kernel
theorem dX10_comes_52 : decode cX10_comes 52 = .ok (.iload_n 3, 1) := by decide +kernel
theorem dX10_comes_53 : decode cX10_comes 53 = .ok (.iastore, 1) := by decide +kernel
theorem dX10_comes_54 : decode cX10_comes 54 = .ok (.aload_n 0, 1) := by decide +kernel
theorem dX10_comes_55 : decode cX10_comes 55 = .ok (.getfield 7, 3) := by decide +kernel
theorem dX10_comes_58 : decode cX10_comes 58 = .ok (.iload 5, 2) := by decide +kernel
theorem dX10_comes_60 : decode cX10_comes 60 = .ok (.iconst 3, 1) := by decide +kernel
theorem dX10_comes_61 : decode cX10_comes 61 = .ok (.invokestatic 83, 3) := by decide +kernel
theorem dX10_comes_64 : decode cX10_comes 64 = .ok (.iload 4, 2) := by decide +kernel
theorem dX10_comes_66 : decode cX10_comes 66 = .ok (.iastore, 1) := by decide +kernel
theorem dX10_comes_67 : decode cX10_comes 67 = .ok (.iload 5, 2) := by decide +kernel
theorem dX10_comes_69 : decode cX10_comes 69 = .ok (.ireturn, 1) := by decide +kernel
theorem dX10_goes_0 : decode cX10_goes 0 = .ok (.aload_n 0, 1) := by decide +kernel
theorem dX10_goes_1 : decode cX10_goes 1 = .ok (.getfield 7, 3) := by decide +kernel
theorem dX10_goes_4 : decode cX10_goes 4 = .ok (.iconst 1, 1) := by decide +kernel
theorem dX10_goes_5 : decode cX10_goes 5 = .ok (.dup2, 1) := by decide +kernel
theorem dX10_goes_6 : decode cX10_goes 6 = .ok (.iaload, 1) := by decide +kernel
theorem dX10_goes_7 : decode cX10_goes 7 = .ok (.iconst 1, 1) := by decide +kernel
theorem dX10_goes_8 : decode cX10_goes 8 = .ok (.isub, 1) := by decide +kernel
theorem dX10_goes_9 : decode cX10_goes 9 = .ok (.iastore, 1) := by decide +kernel
theorem dX10_goes_10 : decode cX10_goes 10 = .ok (.iload_n 1, 1) := by decide +kernel
theorem dX10_goes_11 : decode cX10_goes 11 = .ok (.iconst 0, 1) := by decide +kernel
theorem dX10_goes_12 : decode cX10_goes 12 = .ok (.invokestatic 83, 3) := by decide +kernel
theorem dX10_goes_15 : decode cX10_goes 15 = .ok (.istore_n 2, 1) := by decide +kernel
theorem dX10_goes_16 : decode cX10_goes 16 = .ok (.iload_n 2, 1) := by decide +kernel
theorem dX10_goes_17 : decode cX10_goes 17 = .ok (.aload_n 0, 1) := by decide +kernel
theorem dX10_goes_18 : decode cX10_goes 18 = .ok (.getfield 7, 3) := by decide +kernel
theorem dX10_goes_21 : decode cX10_goes 21 = .ok (.iconst 1, 1) := by decide +kernel
theorem dX10_goes_22 : decode cX10_goes 22 = .ok (.iaload, 1) := by decide +kernel
theorem dX10_goes_23 : decode cX10_goes 23 = .ok (.iconst 0, 1) := by decide +kernel
theorem dX10_goes_24 : decode cX10_goes 24 = .ok (.invokestatic 83, 3) := by decide +kernel
theorem dX10_goes_27 : decode cX10_goes 27 = .ok (.if_icmp .ge 23, 3) := by decide +kernel
theorem dX10_goes_30 : decode cX10_goes 30 = .ok (.aload_n 0, 1) := by decide +kernel
theorem dX10_goes_31 : decode cX10_goes 31 = .ok (.getfield 7, 3) := by decide +kernel
theorem dX10_goes_34 : decode cX10_goes 34 = .ok (.iload_n 2, 1) := by decide +kernel
theorem dX10_goes_35 : decode cX10_goes 35 = .ok (.aload_n 0, 1) := by decide +kernel
theorem dX10_goes_36 : decode cX10_goes 36 = .ok (.getfield 7, 3) := by decide +kernel
theorem dX10_goes_39 : decode cX10_goes 39 = .ok (.iload_n 2, 1) := by decide +kernel
theorem dX10_goes_40 : decode cX10_goes 40 = .ok (.iconst 4, 1) := by decide +kernel
theorem dX10_goes_41 : decode cX10_goes 41 = .ok (.iadd, 1) := by decide +kernel
theorem dX10_goes_42 : decode cX10_goes 42 = .ok (.iaload, 1) := by decide +kernel
theorem dX10_goes_43 : decode cX10_goes 43 = .ok (.iastore, 1) := by decide +kernel
theorem dX10_goes_44 : decode cX10_goes 44 = .ok (.iinc 2 1, 3) := by decide +kernel
theorem dX10_goes_47 : decode cX10_goes 47 = .ok (.goto (-31), 3) := by decide +kernel
theorem dX10_goes_50 : decode cX10_goes 50 = .ok (.return_, 1) := by decide +kernel
theorem dX10_addCredit_0 : decode cX10_addCredit 0 = .ok (.aload_n 0, 1) := by decide +kernel
theorem dX10_addCredit_1 : decode cX10_addCredit 1 = .ok (.aload_n 0, 1) := by decide +kernel
theorem dX10_addCredit_2 : decode cX10_addCredit 2 = .ok (.iload_n 1, 1) := by decide +kernel
theorem dX10_addCredit_3 : decode cX10_addCredit 3 = .ok (.iload_n 2, 1) := by decide +kernel
theorem dX10_addCredit_4 : decode cX10_addCredit 4 = .ok (.iload_n 3, 1) := by decide +kernel
theorem dX10_addCredit_5 : decode cX10_addCredit 5 = .ok (.iload 4, 2) := by decide +kernel
theorem dX10_addCredit_7 : decode cX10_addCredit 7 = .ok (.invokevirtual 129, 3) := by decide +kernel
theorem dX10_addCredit_10 : decode cX10_addCredit 10 = .ok (.ifCond .eq 7, 3) := by decide +kernel
theorem dX10_addCredit_13 : decode cX10_addCredit 13 = .ok (.iconst 0, 1) := by decide +kernel
theorem dX10_addCredit_14 : decode cX10_addCredit 14 = .ok (.goto 4, 3) := by decide +kernel
theorem dX10_addCredit_17 : decode cX10_addCredit 17 = .ok (.iconst 1, 1) := by decide +kernel
theorem dX10_addCredit_18 : decode cX10_addCredit 18 = .ok (.putfield 51, 3) := by decide +kernel
theorem dX10_addCredit_21 : decode cX10_addCredit 21 = .ok (.aload_n 0, 1) := by decide +kernel
theorem dX10_addCredit_22 : decode cX10_addCredit 22 = .ok (.getfield 51, 3) := by decide +kernel
theorem dX10_addCredit_25 : decode cX10_addCredit 25 = .ok (.ifCond .le 5, 3) := by decide +kernel
theorem dX10_addCredit_28 : decode cX10_addCredit 28 = .ok (.iconst 0, 1) := by decide +kernel
theorem dX10_addCredit_29 : decode cX10_addCredit 29 = .ok (.ireturn, 1) := by decide +kernel
theorem dX10_addCredit_30 : decode cX10_addCredit 30 = .ok (.aload_n 0, 1) := by decide +kernel
theorem dX10_addCredit_31 : decode cX10_addCredit 31 = .ok (.getfield 7, 3) := by decide +kernel
theorem dX10_addCredit_34 : decode cX10_addCredit 34 = .ok (.iconst 1, 1) := by decide +kernel
theorem dX10_addCredit_35 : decode cX10_addCredit 35 = .ok (.iaload, 1) := by decide +kernel
theorem dX10_addCredit_36 : decode cX10_addCredit 36 = .ok (.bipush 6, 2) := by decide +kernel
theorem dX10_addCredit_38 : decode cX10_addCredit 38 = .ok (.if_icmp .ne 10, 3) := by decide +kernel
theorem dX10_addCredit_41 : decode cX10_addCredit 41 = .ok (.aload_n 0, 1) := by decide +kernel
theorem dX10_addCredit_42 : decode cX10_addCredit 42 = .ok (.iconst 2, 1) := by decide +kernel
theorem dX10_addCredit_43 : decode cX10_addCredit 43 = .ok (.iconst 1, 1) := by decide +kernel
theorem dX10_addCredit_44 : decode cX10_addCredit 44 = .ok (.invokevirtual 133, 3) := by decide +kernel
theorem dX10_addCredit_47 : decode cX10_addCredit 47 = .ok (.ireturn, 1) := by decide +kernel
theorem dX10_addCredit_48 : decode cX10_addCredit 48 = .ok (.aload_n 0, 1) := by decide +kernel
theorem dX10_addCredit_49 : decode cX10_addCredit 49 = .ok (.invokevirtual 136, 3) := by decide +kernel
theorem dX10_addCredit_52 : decode cX10_addCredit 52 = .ok (.aload_n 0, 1) := by decide +kernel
theorem dX10_addCredit_53 : decode cX10_addCredit 53 = .ok (.iload_n 1, 1) := by decide +kernel
theorem dX10_addCredit_54 : decode cX10_addCredit 54 = .ok (.iload_n 2, 1) := by decide +kernel
theorem dX10_addCredit_55 : decode cX10_addCredit 55 = .ok (.iload_n 3, 1) := by decide +kernel
theorem dX10_addCredit_56 : decode cX10_addCredit 56 = .ok (.iload 4, 2) := by decide +kernel
theorem dX10_addCredit_58 : decode cX10_addCredit 58 = .ok (.invokevirtual 139, 3) := by decide +kernel
theorem dX10_addCredit_61 : decode cX10_addCredit 61 = .ok (.ireturn, 1) := by decide +kernel
theorem dX10_dropCredit_0 : decode cX10_dropCredit 0 = .ok (.aload_n 0, 1) := by decide +kernel
theorem dX10_dropCredit_1 : decode cX10_dropCredit 1 = .ok (.aload_n 0, 1) := by decide +kernel
theorem dX10_dropCredit_2 : decode cX10_dropCredit 2 = .ok (.iload_n 1, 1) := by decide +kernel
theorem dX10_dropCredit_3 : decode cX10_dropCredit 3 = .ok (.invokevirtual 143, 3) := by decide +kernel
theorem dX10_dropCredit_6 : decode cX10_dropCredit 6 = .ok (.ifCond .eq 7, 3) := by decide +kernel
theorem dX10_dropCredit_9 : decode cX10_dropCredit 9 = .ok (.iconst 0, 1) := by decide +kernel
theorem dX10_dropCredit_10 : decode cX10_dropCredit 10 = .ok (.goto 4, 3) := by decide +kernel
theorem dX10_dropCredit_13 : decode cX10_dropCredit 13 = .ok (.iconst 1, 1) := by decide +kernel
theorem dX10_dropCredit_14 : decode cX10_dropCredit 14 = .ok (.putfield 51, 3) := by decide +kernel
theorem dX10_dropCredit_17 : decode cX10_dropCredit 17 = .ok (.aload_n 0, 1) := by decide +kernel
theorem dX10_dropCredit_18 : decode cX10_dropCredit 18 = .ok (.getfield 51, 3) := by decide +kernel
theorem dX10_dropCredit_21 : decode cX10_dropCredit 21 = .ok (.ifCond .le 5, 3) := by decide +kernel
theorem dX10_dropCredit_24 : decode cX10_dropCredit 24 = .ok (.iconst 0, 1) := by decide +kernel
theorem dX10_dropCredit_25 : decode cX10_dropCredit 25 = .ok (.ireturn, 1) := by decide +kernel
theorem dX10_dropCredit_26 : decode cX10_dropCredit 26 = .ok (.aload_n 0, 1) := by decide +kernel
theorem dX10_dropCredit_27 : decode cX10_dropCredit 27 = .ok (.invokevirtual 136, 3) := by decide +kernel
theorem dX10_dropCredit_30 : decode cX10_dropCredit 30 = .ok (.aload_n 0, 1) := by decide +kernel
theorem dX10_dropCredit_31 : decode cX10_dropCredit 31 = .ok (.iload_n 1, 1) := by decide +kernel
theorem dX10_dropCredit_32 : decode cX10_dropCredit 32 = .ok (.invokevirtual 146, 3) := by decide +kernel
theorem dX10_dropCredit_35 : decode cX10_dropCredit 35 = .ok (.aload_n 0, 1) := by decide +kernel
theorem dX10_dropCredit_36 : decode cX10_dropCredit 36 = .ok (.getfield 7, 3) := by decide +kernel
theorem dX10_dropCredit_39 : decode cX10_dropCredit 39 = .ok (.iconst 1, 1) := by decide +kernel
theorem dX10_dropCredit_40 : decode cX10_dropCredit 40 = .ok (.iaload, 1) := by decide +kernel
theorem dX10_dropCredit_41 : decode cX10_dropCredit 41 = .ok (.ireturn, 1) := by decide +kernel
theorem dX10_credit_0 : decode cX10_credit 0 = .ok (.aload_n 0, 1) := by decide +kernel
theorem dX10_credit_1 : decode cX10_credit 1 = .ok (.aload_n 0, 1) := by decide +kernel
theorem dX10_credit_2 : decode cX10_credit 2 = .ok (.iload_n 1, 1) := by decide +kernel
theorem dX10_credit_3 : decode cX10_credit 3 = .ok (.invokevirtual 143, 3) := by decide +kernel
theorem dX10_credit_6 : decode cX10_credit 6 = .ok (.ifCond .eq 20, 3) := by decide +kernel
theorem dX10_credit_9 : decode cX10_credit 9 = .ok (.iload_n 2, 1) := by decide +kernel
theorem dX10_credit_10 : decode cX10_credit 10 = .ok (.iconst 0, 1) := by decide +kernel
theorem dX10_credit_11 : decode cX10_credit 11 = .ok (.iconst 4, 1) := by decide +kernel
theorem dX10_credit_12 : decode cX10_credit 12 = .ok (.invokestatic 61, 3) := by decide +kernel
theorem dX10_credit_15 : decode cX10_credit 15 = .ok (.ifCond .eq 7, 3) := by decide +kernel
theorem dX10_credit_18 : decode cX10_credit 18 = .ok (.iconst 0, 1) := by decide +kernel
theorem dX10_credit_19 : decode cX10_credit 19 = .ok (.goto 8, 3) := by decide +kernel
theorem dX10_credit_22 : decode cX10_credit 22 = .ok (.iconst 2, 1) := by decide +kernel
theorem dX10_credit_23 : decode cX10_credit 23 = .ok (.goto 4, 3) := by decide +kernel
theorem dX10_credit_26 : decode cX10_credit 26 = .ok (.iconst 1, 1) := by decide +kernel
theorem dX10_credit_27 : decode cX10_credit 27 = .ok (.putfield 51, 3) := by decide +kernel
theorem dX10_credit_30 : decode cX10_credit 30 = .ok (.aload_n 0, 1) := by decide +kernel
theorem dX10_credit_31 : decode cX10_credit 31 = .ok (.getfield 51, 3) := by decide +kernel
theorem dX10_credit_34 : decode cX10_credit 34 = .ok (.ifCond .le 5, 3) := by decide +kernel
theorem dX10_credit_37 : decode cX10_credit 37 = .ok (.iconst 0, 1) := by decide +kernel
theorem dX10_credit_38 : decode cX10_credit 38 = .ok (.ireturn, 1) := by decide +kernel
theorem dX10_credit_39 : decode cX10_credit 39 = .ok (.iload_n 2, 1) := by decide +kernel
theorem dX10_credit_40 : decode cX10_credit 40 = .ok (.iconst 3, 1) := by decide +kernel
theorem dX10_credit_41 : decode cX10_credit 41 = .ok (.if_icmp .ge 16, 3) := by decide +kernel
theorem dX10_credit_44 : decode cX10_credit 44 = .ok (.aload_n 0, 1) := by decide +kernel
theorem dX10_credit_45 : decode cX10_credit 45 = .ok (.getfield 7, 3) := by decide +kernel
theorem dX10_credit_48 : decode cX10_credit 48 = .ok (.iload_n 1, 1) := by decide +kernel
theorem dX10_credit_49 : decode cX10_credit 49 = .ok (.iload_n 2, 1) := by decide +kernel
theorem dX10_credit_50 : decode cX10_credit 50 = .ok (.iconst 1, 1) := by decide +kernel
theorem dX10_credit_51 : decode cX10_credit 51 = .ok (.iadd, 1) := by decide +kernel
theorem dX10_credit_52 : decode cX10_credit 52 = .ok (.invokestatic 83, 3) := by decide +kernel
theorem dX10_credit_55 : decode cX10_credit 55 = .ok (.iaload, 1) := by decide +kernel
theorem dX10_credit_56 : decode cX10_credit 56 = .ok (.ireturn, 1) := by decide +kernel
theorem dX10_credit_57 : decode cX10_credit 57 = .ok (.iload_n 2, 1) := by decide +kernel
theorem dX10_credit_58 : decode cX10_credit 58 = .ok (.iconst 3, 1) := by decide +kernel
theorem dX10_credit_59 : decode cX10_credit 59 = .ok (.if_icmp .ne 14, 3) := by decide +kernel
theorem dX10_credit_62 : decode cX10_credit 62 = .ok (.aload_n 0, 1) := by decide +kernel
theorem dX10_credit_63 : decode cX10_credit 63 = .ok (.invokevirtual 150, 3) := by decide +kernel
theorem dX10_credit_66 : decode cX10_credit 66 = .ok (.aload_n 0, 1) := by decide +kernel
theorem dX10_credit_67 : decode cX10_credit 67 = .ok (.getfield 25, 3) := by decide +kernel
theorem dX10_credit_70 : decode cX10_credit 70 = .ok (.iload_n 1, 1) := by decide +kernel
theorem dX10_credit_71 : decode cX10_credit 71 = .ok (.iaload, 1) := by decide +kernel
theorem dX10_credit_72 : decode cX10_credit 72 = .ok (.ireturn, 1) := by decide +kernel
theorem dX10_credit_73 : decode cX10_credit 73 = .ok (.iconst 0, 1) := by decide +kernel
theorem dX10_credit_74 : decode cX10_credit 74 = .ok (.istore_n 3, 1) := by decide +kernel
theorem dX10_credit_75 : decode cX10_credit 75 = .ok (.iconst 0, 1) := by decide +kernel
theorem dX10_credit_76 : decode cX10_credit 76 = .ok (.istore 4, 2) := by decide +kernel
theorem dX10_credit_78 : decode cX10_credit 78 = .ok (.iload 4, 2) := by decide +kernel
theorem dX10_credit_80 : decode cX10_credit 80 = .ok (.aload_n 0, 1) := by decide +kernel
theorem dX10_credit_81 : decode cX10_credit 81 = .ok (.getfield 7, 3) := by decide +kernel
theorem dX10_credit_84 : decode cX10_credit 84 = .ok (.iconst 3, 1) := by decide +kernel
theorem dX10_credit_85 : decode cX10_credit 85 = .ok (.iaload, 1) := by decide +kernel
theorem dX10_credit_86 : decode cX10_credit 86 = .ok (.if_icmp .ge 30, 3) := by decide +kernel
theorem dX10_credit_89 : decode cX10_credit 89 = .ok (.iload_n 3, 1) := by decide +kernel
theorem dX10_credit_90 : decode cX10_credit 90 = .ok (.aload_n 0, 1) := by decide +kernel
theorem dX10_credit_91 : decode cX10_credit 91 = .ok (.iload 4, 2) := by decide +kernel
theorem dX10_credit_93 : decode cX10_credit 93 = .ok (.iload_n 1, 1) := by decide +kernel
theorem dX10_credit_94 : decode cX10_credit 94 = .ok (.invokevirtual 106, 3) := by decide +kernel
theorem dX10_credit_97 : decode cX10_credit 97 = .ok (.ifCond .eq 10, 3) := by decide +kernel
theorem dX10_credit_100 : decode cX10_credit 100 = .ok (.iconst 1, 1) := by decide +kernel
theorem dX10_credit_101 : decode cX10_credit 101 = .ok (.iload 4, 2) := by decide +kernel
theorem dX10_credit_103 : decode cX10_credit 103 = .ok (.ishl, 1) := by decide +kernel
theorem dX10_credit_104 : decode cX10_credit 104 = .ok (.goto 4, 3) := by decide +kernel
theorem dX10_credit_107 : decode cX10_credit 107 = .ok (.iconst 0, 1) := by decide +kernel
theorem dX10_credit_108 : decode cX10_credit 108 = .ok (.ior, 1) := by decide +kernel
theorem dX10_credit_109 : decode cX10_credit 109 = .ok (.istore_n 3, 1) := by decide +kernel
theorem dX10_credit_110 : decode cX10_credit 110 = .ok (.iinc 4 1, 3) := by decide +kernel
theorem dX10_credit_113 : decode cX10_credit 113 = .ok (.goto (-35), 3) := by decide +kernel
theorem dX10_credit_116 : decode cX10_credit 116 = .ok (.iload_n 3, 1) := by decide +kernel
theorem dX10_credit_117 : decode cX10_credit 117 = .ok (.ireturn, 1) := by decide +kernel
theorem dX10_code_0 : decode cX10_code 0 = .ok (.aload_n 0, 1) := by decide +kernel
theorem dX10_code_1 : decode cX10_code 1 = .ok (.aload_n 0, 1) := by decide +kernel
theorem dX10_code_2 : decode cX10_code 2 = .ok (.iload_n 1, 1) := by decide +kernel
theorem dX10_code_3 : decode cX10_code 3 = .ok (.invokevirtual 143, 3) := by decide +kernel
theorem dX10_code_6 : decode cX10_code 6 = .ok (.ifCond .eq 7, 3) := by decide +kernel
theorem dX10_code_9 : decode cX10_code 9 = .ok (.iconst 0, 1) := by decide +kernel
theorem dX10_code_10 : decode cX10_code 10 = .ok (.goto 4, 3) := by decide +kernel
theorem dX10_code_13 : decode cX10_code 13 = .ok (.iconst 1, 1) := by decide +kernel
theorem dX10_code_14 : decode cX10_code 14 = .ok (.putfield 51, 3) := by decide +kernel
theorem dX10_code_17 : decode cX10_code 17 = .ok (.aload_n 0, 1) := by decide +kernel
theorem dX10_code_18 : decode cX10_code 18 = .ok (.getfield 51, 3) := by decide +kernel
theorem dX10_code_21 : decode cX10_code 21 = .ok (.ifCond .le 8, 3) := by decide +kernel
theorem dX10_code_24 : decode cX10_code 24 = .ok (.bipush 97, 2) := by decide +kernel
theorem dX10_code_26 : decode cX10_code 26 = .ok (.goto 13, 3) := by decide +kernel
theorem dX10_code_29 : decode cX10_code 29 = .ok (.aload_n 0, 1) := by decide +kernel
theorem dX10_code_30 : decode cX10_code 30 = .ok (.getfield 7, 3) := by decide +kernel
theorem dX10_code_33 : decode cX10_code 33 = .ok (.iload_n 1, 1) := by decide +kernel
theorem dX10_code_34 : decode cX10_code 34 = .ok (.iconst 0, 1) := by decide +kernel
theorem dX10_code_35 : decode cX10_code 35 = .ok (.invokestatic 83, 3) := by decide +kernel
theorem dX10_code_38 : decode cX10_code 38 = .ok (.iaload, 1) := by decide +kernel
theorem dX10_code_39 : decode cX10_code 39 = .ok (.i2c, 1) := by decide +kernel
theorem dX10_code_40 : decode cX10_code 40 = .ok (.ireturn, 1) := by decide +kernel
theorem dX10_expires_0 : decode cX10_expires 0 = .ok (.aload_n 0, 1) := by decide +kernel
theorem dX10_expires_1 : decode cX10_expires 1 = .ok (.aload_n 0, 1) := by decide +kernel
theorem dX10_expires_2 : decode cX10_expires 2 = .ok (.iload_n 1, 1) := by decide +kernel
theorem dX10_expires_3 : decode cX10_expires 3 = .ok (.invokevirtual 143, 3) := by decide +kernel
theorem dX10_expires_6 : decode cX10_expires 6 = .ok (.ifCond .eq 27, 3) := by decide +kernel
theorem dX10_expires_9 : decode cX10_expires 9 = .ok (.aload_n 0, 1) := by decide +kernel
theorem dX10_expires_10 : decode cX10_expires 10 = .ok (.iload_n 2, 1) := by decide +kernel
theorem dX10_expires_11 : decode cX10_expires 11 = .ok (.invokevirtual 153, 3) := by decide +kernel
theorem dX10_expires_14 : decode cX10_expires 14 = .ok (.ifCond .eq 19, 3) := by decide +kernel
theorem dX10_expires_17 : decode cX10_expires 17 = .ok (.aload_n 0, 1) := by decide +kernel
theorem dX10_expires_18 : decode cX10_expires 18 = .ok (.iload_n 2, 1) := by decide +kernel
theorem dX10_expires_19 : decode cX10_expires 19 = .ok (.invokevirtual 86, 3) := by decide +kernel
theorem dX10_expires_22 : decode cX10_expires 22 = .ok (.ifCond .eq 7, 3) := by decide +kernel
theorem dX10_expires_25 : decode cX10_expires 25 = .ok (.iconst 2, 1) := by decide +kernel
theorem dX10_expires_26 : decode cX10_expires 26 = .ok (.goto 8, 3) := by decide +kernel
theorem dX10_expires_29 : decode cX10_expires 29 = .ok (.iconst 0, 1) := by decide +kernel
theorem dX10_expires_30 : decode cX10_expires 30 = .ok (.goto 4, 3) := by decide +kernel
theorem dX10_expires_33 : decode cX10_expires 33 = .ok (.iconst 1, 1) := by decide +kernel
theorem dX10_expires_34 : decode cX10_expires 34 = .ok (.putfield 51, 3) := by decide +kernel
theorem dX10_expires_37 : decode cX10_expires 37 = .ok (.aload_n 0, 1) := by decide +kernel
theorem dX10_expires_38 : decode cX10_expires 38 = .ok (.getfield 51, 3) := by decide +kernel
theorem dX10_expires_41 : decode cX10_expires 41 = .ok (.ifCond .le 5, 3) := by decide +kernel
theorem dX10_expires_44 : decode cX10_expires 44 = .ok (.iconst 0, 1) := by decide +kernel
theorem dX10_expires_45 : decode cX10_expires 45 = .ok (.ireturn, 1) := by decide +kernel
theorem dX10_expires_46 : decode cX10_expires 46 = .ok (.aload_n 0, 1) := by decide +kernel
theorem dX10_expires_47 : decode cX10_expires 47 = .ok (.getfield 7, 3) := by decide +kernel
theorem dX10_expires_50 : decode cX10_expires 50 = .ok (.iload_n 1, 1) := by decide +kernel
theorem dX10_expires_51 : decode cX10_expires 51 = .ok (.iconst 3, 1) := by decide +kernel
theorem dX10_expires_52 : decode cX10_expires 52 = .ok (.invokestatic 83, 3) := by decide +kernel
theorem dX10_expires_55 : decode cX10_expires 55 = .ok (.iaload, 1) := by decide +kernel
theorem dX10_expires_56 : decode cX10_expires 56 = .ok (.aload_n 0, 1) := by decide +kernel
theorem dX10_expires_57 : decode cX10_expires 57 = .ok (.getfield 7, 3) := by decide +kernel
theorem dX10_expires_60 : decode cX10_expires 60 = .ok (.iload_n 2, 1) := by decide +kernel
theorem dX10_expires_61 : decode cX10_expires 61 = .ok (.iconst 3, 1) := by decide +kernel
theorem dX10_expires_62 : decode cX10_expires 62 = .ok (.invokestatic 65, 3) := by decide +kernel
theorem dX10_expires_65 : decode cX10_expires 65 = .ok (.iaload, 1) := by decide +kernel
theorem dX10_expires_66 : decode cX10_expires 66 = .ok (.iadd, 1) := by decide +kernel
theorem dX10_expires_67 : decode cX10_expires 67 = .ok (.istore_n 3, 1) := by decide +kernel
theorem dX10_expires_68 : decode cX10_expires 68 = .ok (.iload_n 3, 1) := by decide +kernel
theorem dX10_expires_69 : decode cX10_expires 69 = .ok (.bipush 60, 2) := by decide +kernel
theorem dX10_expires_71 : decode cX10_expires 71 = .ok (.if_icmp .le 8, 3) := by decide +kernel
theorem dX10_expires_74 : decode cX10_expires 74 = .ok (.bipush 60, 2) := by decide +kernel
theorem dX10_expires_76 : decode cX10_expires 76 = .ok (.goto 4, 3) := by decide +kernel
theorem dX10_expires_79 : decode cX10_expires 79 = .ok (.iload_n 3, 1) := by decide +kernel
theorem dX10_expires_80 : decode cX10_expires 80 = .ok (.ireturn, 1) := by decide +kernel
theorem dX10_addEquivalence_0 : decode cX10_addEquivalence 0 = .ok (.iload_n 1, 1) := by decide +kernel
theorem dX10_addEquivalence_1 : decode cX10_addEquivalence 1 = .ok (.invokestatic 126, 3) := by decide +kernel
theorem dX10_addEquivalence_4 : decode cX10_addEquivalence 4 = .ok (.ifCond .eq 53, 3) := by decide +kernel
theorem dX10_addEquivalence_7 : decode cX10_addEquivalence 7 = .ok (.iload_n 2, 1) := by decide +kernel
theorem dX10_addEquivalence_8 : decode cX10_addEquivalence 8 = .ok (.bipush 32, 2) := by decide +kernel
theorem dX10_addEquivalence_10 : decode cX10_addEquivalence 10 = .ok (.if_icmp .eq 15, 3) := by decide +kernel
theorem dX10_addEquivalence_13 : decode cX10_addEquivalence 13 = .ok (.iload_n 2, 1) := by decide +kernel
theorem dX10_addEquivalence_14 : decode cX10_addEquivalence 14 = .ok (.invokestatic 126, 3) := by decide +kernel
theorem dX10_addEquivalence_17 : decode cX10_addEquivalence 17 = .ok (.ifCond .eq 40, 3) := by decide +kernel
theorem dX10_addEquivalence_20 : decode cX10_addEquivalence 20 = .ok (.iload_n 2, 1) := by decide +kernel
theorem dX10_addEquivalence_21 : decode cX10_addEquivalence 21 = .ok (.iload_n 1, 1) := by decide +kernel
theorem dX10_addEquivalence_22 : decode cX10_addEquivalence 22 = .ok (.if_icmp .eq 35, 3) := by decide +kernel
theorem dX10_addEquivalence_25 : decode cX10_addEquivalence 25 = .ok (.iload_n 3, 1) := by decide +kernel
theorem dX10_addEquivalence_26 : decode cX10_addEquivalence 26 = .ok (.invokestatic 123, 3) := by decide +kernel
theorem dX10_addEquivalence_29 : decode cX10_addEquivalence 29 = .ok (.ifCond .eq 28, 3) := by decide +kernel
theorem dX10_addEquivalence_32 : decode cX10_addEquivalence 32 = .ok (.iload 4, 2) := by decide +kernel
theorem dX10_addEquivalence_34 : decode cX10_addEquivalence 34 = .ok (.bipush 32, 2) := by decide +kernel
theorem dX10_addEquivalence_36 : decode cX10_addEquivalence 36 = .ok (.if_icmp .eq 17, 3) := by decide +kernel
theorem dX10_addEquivalence_39 : decode cX10_addEquivalence 39 = .ok (.iload 4, 2) := by decide +kernel
theorem dX10_addEquivalence_41 : decode cX10_addEquivalence 41 = .ok (.invokestatic 123, 3) := by decide +kernel
theorem dX10_addEquivalence_44 : decode cX10_addEquivalence 44 = .ok (.ifCond .eq 13, 3) := by decide +kernel
theorem dX10_addEquivalence_47 : decode cX10_addEquivalence 47 = .ok (.iload 4, 2) := by decide +kernel
theorem dX10_addEquivalence_49 : decode cX10_addEquivalence 49 = .ok (.iload_n 3, 1) := by decide +kernel
theorem dX10_addEquivalence_50 : decode cX10_addEquivalence 50 = .ok (.if_icmp .eq 7, 3) := by decide +kernel
theorem dX10_addEquivalence_53 : decode cX10_addEquivalence 53 = .ok (.iconst 1, 1) := by decide +kernel
theorem dX10_addEquivalence_54 : decode cX10_addEquivalence 54 = .ok (.goto 4, 3) := by decide +kernel
theorem dX10_addEquivalence_57 : decode cX10_addEquivalence 57 = .ok (.iconst 0, 1) := by decide +kernel
theorem dX10_addEquivalence_58 : decode cX10_addEquivalence 58 = .ok (.istore 5, 2) := by decide +kernel
theorem dX10_addEquivalence_60 : decode cX10_addEquivalence 60 = .ok (.aload_n 0, 1) := by decide +kernel
theorem dX10_addEquivalence_61 : decode cX10_addEquivalence 61 = .ok (.iload 5, 2) := by decide +kernel
theorem dX10_addEquivalence_63 : decode cX10_addEquivalence 63 = .ok (.ifCond .ne 7, 3) := by decide +kernel
theorem dX10_addEquivalence_66 : decode cX10_addEquivalence 66 = .ok (.iconst 1, 1) := by decide +kernel
theorem dX10_addEquivalence_67 : decode cX10_addEquivalence 67 = .ok (.goto 19, 3) := by decide +kernel
theorem dX10_addEquivalence_70 : decode cX10_addEquivalence 70 = .ok (.aload_n 0, 1) := by decide +kernel
theorem dX10_addEquivalence_71 : decode cX10_addEquivalence 71 = .ok (.getfield 7, 3) := by decide +kernel
theorem dX10_addEquivalence_74 : decode cX10_addEquivalence 74 = .ok (.iconst 2, 1) := by decide +kernel
theorem dX10_addEquivalence_75 : decode cX10_addEquivalence 75 = .ok (.iaload, 1) := by decide +kernel
theorem dX10_addEquivalence_76 : decode cX10_addEquivalence 76 = .ok (.bipush 8, 2) := by decide +kernel
theorem dX10_addEquivalence_78 : decode cX10_addEquivalence 78 = .ok (.if_icmp .ne 7, 3) := by decide +kernel
theorem dX10_addEquivalence_81 : decode cX10_addEquivalence 81 = .ok (.iconst 2, 1) := by decide +kernel
theorem dX10_addEquivalence_82 : decode cX10_addEquivalence 82 = .ok (.goto 4, 3) := by decide +kernel
theorem dX10_addEquivalence_85 : decode cX10_addEquivalence 85 = .ok (.iconst 0, 1) := by decide +kernel
theorem dX10_addEquivalence_86 : decode cX10_addEquivalence 86 = .ok (.putfield 51, 3) := by decide +kernel
theorem dX10_addEquivalence_89 : decode cX10_addEquivalence 89 = .ok (.aload_n 0, 1) := by decide +kernel
theorem dX10_addEquivalence_90 : decode cX10_addEquivalence 90 = .ok (.getfield 51, 3) := by decide +kernel
theorem dX10_addEquivalence_93 : decode cX10_addEquivalence 93 = .ok (.ifCond .le 5, 3) := by decide +kernel
theorem dX10_addEquivalence_96 : decode cX10_addEquivalence 96 = .ok (.iconst 0, 1) := by decide +kernel
theorem dX10_addEquivalence_97 : decode cX10_addEquivalence 97 = .ok (.ireturn, 1) := by decide +kernel
theorem dX10_addEquivalence_98 : decode cX10_addEquivalence 98 = .ok (.aload_n 0, 1) := by decide +kernel
theorem dX10_addEquivalence_99 : decode cX10_addEquivalence 99 = .ok (.invokevirtual 136, 3) := by decide +kernel
theorem dX10_addEquivalence_102 : decode cX10_addEquivalence 102 = .ok (.aload_n 0, 1) := by decide +kernel
theorem dX10_addEquivalence_103 : decode cX10_addEquivalence 103 = .ok (.getfield 7, 3) := by decide +kernel
theorem dX10_addEquivalence_106 : decode cX10_addEquivalence 106 = .ok (.iconst 2, 1) := by decide +kernel
theorem dX10_addEquivalence_107 : decode cX10_addEquivalence 107 = .ok (.iaload, 1) := by decide +kernel
theorem dX10_addEquivalence_108 : decode cX10_addEquivalence 108 = .ok (.istore 6, 2) := by decide +kernel
theorem dX10_addEquivalence_110 : decode cX10_addEquivalence 110 = .ok (.aload_n 0, 1) := by decide +kernel
theorem dX10_addEquivalence_111 : decode cX10_addEquivalence 111 = .ok (.getfield 7, 3) := by decide +kernel
theorem dX10_addEquivalence_114 : decode cX10_addEquivalence 114 = .ok (.iconst 2, 1) := by decide +kernel
theorem dX10_addEquivalence_115 : decode cX10_addEquivalence 115 = .ok (.dup2, 1) := by decide +kernel
theorem dX10_addEquivalence_116 : decode cX10_addEquivalence 116 = .ok (.iaload, 1) := by decide +kernel
theorem dX10_addEquivalence_117 : decode cX10_addEquivalence 117 = .ok (.iconst 1, 1) := by decide +kernel
theorem dX10_addEquivalence_118 : decode cX10_addEquivalence 118 = .ok (.iadd, 1) := by decide +kernel
theorem dX10_addEquivalence_119 : decode cX10_addEquivalence 119 = .ok (.iastore, 1) := by decide +kernel
theorem dX10_addEquivalence_120 : decode cX10_addEquivalence 120 = .ok (.aload_n 0, 1) := by decide +kernel
theorem dX10_addEquivalence_121 : decode cX10_addEquivalence 121 = .ok (.getfield 7, 3) := by decide +kernel
theorem dX10_addEquivalence_124 : decode cX10_addEquivalence 124 = .ok (.iload 6, 2) := by decide +kernel
theorem dX10_addEquivalence_126 : decode cX10_addEquivalence 126 = .ok (.iconst 0, 1) := by decide +kernel
theorem dX10_addEquivalence_127 : decode cX10_addEquivalence 127 = .ok (.invokestatic 156, 3) := by decide +kernel
theorem dX10_addEquivalence_130 : decode cX10_addEquivalence 130 = .ok (.iload_n 1, 1) := by decide +kernel
theorem dX10_addEquivalence_131 : decode cX10_addEquivalence 131 = .ok (.iastore, 1) := by decide +kernel
theorem dX10_addEquivalence_132 : decode cX10_addEquivalence 132 = .ok (.aload_n 0, 1) := by decide +kernel
theorem dX10_addEquivalence_133 : decode cX10_addEquivalence 133 = .ok (.getfield 7, 3) := by decide +kernel
theorem dX10_addEquivalence_136 : decode cX10_addEquivalence 136 = .ok (.iload 6, 2) := by decide +kernel
theorem dX10_addEquivalence_138 : decode cX10_addEquivalence 138 = .ok (.iconst 1, 1) := by decide +kernel
theorem dX10_addEquivalence_139 : decode cX10_addEquivalence 139 = .ok (.invokestatic 156, 3) := by decide +kernel
theorem dX10_addEquivalence_142 : decode cX10_addEquivalence 142 = .ok (.iload_n 2, 1) := by decide +kernel
theorem dX10_addEquivalence_143 : decode cX10_addEquivalence 143 = .ok (.iastore, 1) := by decide +kernel
theorem dX10_addEquivalence_144 : decode cX10_addEquivalence 144 = .ok (.aload_n 0, 1) := by decide +kernel
theorem dX10_addEquivalence_145 : decode cX10_addEquivalence 145 = .ok (.getfield 7, 3) := by decide +kernel
theorem dX10_addEquivalence_148 : decode cX10_addEquivalence 148 = .ok (.iload 6, 2) := by decide +kernel
theorem dX10_addEquivalence_150 : decode cX10_addEquivalence 150 = .ok (.iconst 2, 1) := by decide +kernel
theorem dX10_addEquivalence_151 : decode cX10_addEquivalence 151 = .ok (.invokestatic 156, 3) := by decide +kernel
theorem dX10_addEquivalence_154 : decode cX10_addEquivalence 154 = .ok (.iload_n 3, 1) := by decide +kernel
theorem dX10_addEquivalence_155 : decode cX10_addEquivalence 155 = .ok (.iastore, 1) := by decide +kernel
theorem dX10_addEquivalence_156 : decode cX10_addEquivalence 156 = .ok (.aload_n 0, 1) := by decide +kernel
theorem dX10_addEquivalence_157 : decode cX10_addEquivalence 157 = .ok (.getfield 7, 3) := by decide +kernel
theorem dX10_addEquivalence_160 : decode cX10_addEquivalence 160 = .ok (.iload 6, 2) := by decide +kernel
theorem dX10_addEquivalence_162 : decode cX10_addEquivalence 162 = .ok (.iconst 3, 1) := by decide +kernel
theorem dX10_addEquivalence_163 : decode cX10_addEquivalence 163 = .ok (.invokestatic 156, 3) := by decide +kernel
theorem dX10_addEquivalence_166 : decode cX10_addEquivalence 166 = .ok (.iload 4, 2) := by decide +kernel
theorem dX10_addEquivalence_168 : decode cX10_addEquivalence 168 = .ok (.iastore, 1) := by decide +kernel
theorem dX10_addEquivalence_169 : decode cX10_addEquivalence 169 = .ok (.iload 6, 2) := by decide +kernel
theorem dX10_addEquivalence_171 : decode cX10_addEquivalence 171 = .ok (.ireturn, 1) := by decide +kernel
theorem dX10_equivalent_0 : decode cX10_equivalent 0 = .ok (.aload_n 0, 1) := by decide +kernel
theorem dX10_equivalent_1 : decode cX10_equivalent 1 = .ok (.aload_n 0, 1) := by decide +kernel
theorem dX10_equivalent_2 : decode cX10_equivalent 2 = .ok (.iload_n 1, 1) := by decide +kernel
theorem dX10_equivalent_3 : decode cX10_equivalent 3 = .ok (.invokevirtual 159, 3) := by decide +kernel
theorem dX10_equivalent_6 : decode cX10_equivalent 6 = .ok (.ifCond .eq 20, 3) := by decide +kernel
theorem dX10_equivalent_9 : decode cX10_equivalent 9 = .ok (.iload_n 2, 1) := by decide +kernel
theorem dX10_equivalent_10 : decode cX10_equivalent 10 = .ok (.iconst 0, 1) := by decide +kernel
theorem dX10_equivalent_11 : decode cX10_equivalent 11 = .ok (.iconst 3, 1) := by decide +kernel
theorem dX10_equivalent_12 : decode cX10_equivalent 12 = .ok (.invokestatic 61, 3) := by decide +kernel
theorem dX10_equivalent_15 : decode cX10_equivalent 15 = .ok (.ifCond .eq 7, 3) := by decide +kernel
theorem dX10_equivalent_18 : decode cX10_equivalent 18 = .ok (.iconst 0, 1) := by decide +kernel
theorem dX10_equivalent_19 : decode cX10_equivalent 19 = .ok (.goto 8, 3) := by decide +kernel
theorem dX10_equivalent_22 : decode cX10_equivalent 22 = .ok (.iconst 2, 1) := by decide +kernel
theorem dX10_equivalent_23 : decode cX10_equivalent 23 = .ok (.goto 4, 3) := by decide +kernel
theorem dX10_equivalent_26 : decode cX10_equivalent 26 = .ok (.iconst 1, 1) := by decide +kernel
theorem dX10_equivalent_27 : decode cX10_equivalent 27 = .ok (.putfield 51, 3) := by decide +kernel
theorem dX10_equivalent_30 : decode cX10_equivalent 30 = .ok (.aload_n 0, 1) := by decide +kernel
theorem dX10_equivalent_31 : decode cX10_equivalent 31 = .ok (.getfield 51, 3) := by decide +kernel
theorem dX10_equivalent_34 : decode cX10_equivalent 34 = .ok (.ifCond .le 8, 3) := by decide +kernel
theorem dX10_equivalent_37 : decode cX10_equivalent 37 = .ok (.bipush 97, 2) := by decide +kernel
theorem dX10_equivalent_39 : decode cX10_equivalent 39 = .ok (.goto 13, 3) := by decide +kernel
theorem dX10_equivalent_42 : decode cX10_equivalent 42 = .ok (.aload_n 0, 1) := by decide +kernel
theorem dX10_equivalent_43 : decode cX10_equivalent 43 = .ok (.getfield 7, 3) := by decide +kernel
theorem dX10_equivalent_46 : decode cX10_equivalent 46 = .ok (.iload_n 1, 1) := by decide +kernel
theorem dX10_equivalent_47 : decode cX10_equivalent 47 = .ok (.iload_n 2, 1) := by decide +kernel
theorem dX10_equivalent_48 : decode cX10_equivalent 48 = .ok (.invokestatic 156, 3) := by decide +kernel
theorem dX10_equivalent_51 : decode cX10_equivalent 51 = .ok (.iaload, 1) := by decide +kernel
theorem dX10_equivalent_52 : decode cX10_equivalent 52 = .ok (.i2c, 1) := by decide +kernel
theorem dX10_equivalent_53 : decode cX10_equivalent 53 = .ok (.ireturn, 1) := by decide +kernel
theorem dX10_richest_0 : decode cX10_richest 0 = .ok (.iconst (-1), 1) := by decide +kernel
theorem dX10_richest_1 : decode cX10_richest 1 = .ok (.istore_n 2, 1) := by decide +kernel
theorem dX10_richest_2 : decode cX10_richest 2 = .ok (.iconst 0, 1) := by decide +kernel
theorem dX10_richest_3 : decode cX10_richest 3 = .ok (.istore_n 3, 1) := by decide +kernel
theorem dX10_richest_4 : decode cX10_richest 4 = .ok (.iload_n 3, 1) := by decide +kernel
theorem dX10_richest_5 : decode cX10_richest 5 = .ok (.aload_n 0, 1) := by decide +kernel
theorem dX10_richest_6 : decode cX10_richest 6 = .ok (.getfield 7, 3) := by decide +kernel
theorem dX10_richest_9 : decode cX10_richest 9 = .ok (.iconst 1, 1) := by decide +kernel
theorem dX10_richest_10 : decode cX10_richest 10 = .ok (.iaload, 1) := by decide +kernel
theorem dX10_richest_11 : decode cX10_richest 11 = .ok (.if_icmp .ge 67, 3) := by decide +kernel
theorem dX10_richest_14 : decode cX10_richest 14 = .ok (.aload_n 0, 1) := by decide +kernel
theorem dX10_richest_15 : decode cX10_richest 15 = .ok (.getfield 7, 3) := by decide +kernel
theorem dX10_richest_18 : decode cX10_richest 18 = .ok (.iload_n 3, 1) := by decide +kernel
theorem dX10_richest_19 : decode cX10_richest 19 = .ok (.iconst 0, 1) := by decide +kernel
theorem dX10_richest_20 : decode cX10_richest 20 = .ok (.invokestatic 83, 3) := by decide +kernel
theorem dX10_richest_23 : decode cX10_richest 23 = .ok (.iaload, 1) := by decide +kernel
theorem dX10_richest_24 : decode cX10_richest 24 = .ok (.iload_n 1, 1) := by decide +kernel
theorem dX10_richest_25 : decode cX10_richest 25 = .ok (.if_icmp .ne 47, 3) := by decide +kernel
theorem dX10_richest_28 : decode cX10_richest 28 = .ok (.aload_n 0, 1) := by decide +kernel
theorem dX10_richest_29 : decode cX10_richest 29 = .ok (.getfield 7, 3) := by decide +kernel
theorem dX10_richest_32 : decode cX10_richest 32 = .ok (.iload_n 3, 1) := by decide +kernel
theorem dX10_richest_33 : decode cX10_richest 33 = .ok (.iconst 2, 1) := by decide +kernel
theorem dX10_richest_34 : decode cX10_richest 34 = .ok (.invokestatic 83, 3) := by decide +kernel
theorem dX10_richest_37 : decode cX10_richest 37 = .ok (.iaload, 1) := by decide +kernel
theorem dX10_richest_38 : decode cX10_richest 38 = .ok (.bipush 10, 2) := by decide +kernel
theorem dX10_richest_40 : decode cX10_richest 40 = .ok (.if_icmp .lt 32, 3) := by decide +kernel
theorem dX10_richest_43 : decode cX10_richest 43 = .ok (.iload_n 2, 1) := by decide +kernel
theorem dX10_richest_44 : decode cX10_richest 44 = .ok (.ifCond .lt 26, 3) := by decide +kernel
theorem dX10_richest_47 : decode cX10_richest 47 = .ok (.aload_n 0, 1) := by decide +kernel
theorem dX10_richest_48 : decode cX10_richest 48 = .ok (.getfield 7, 3) := by decide +kernel
theorem dX10_richest_51 : decode cX10_richest 51 = .ok (.iload_n 3, 1) := by decide +kernel
theorem dX10_richest_52 : decode cX10_richest 52 = .ok (.iconst 1, 1) := by decide +kernel
theorem dX10_richest_53 : decode cX10_richest 53 = .ok (.invokestatic 83, 3) := by decide +kernel
theorem dX10_richest_56 : decode cX10_richest 56 = .ok (.iaload, 1) := by decide +kernel
theorem dX10_richest_57 : decode cX10_richest 57 = .ok (.aload_n 0, 1) := by decide +kernel
theorem dX10_richest_58 : decode cX10_richest 58 = .ok (.getfield 7, 3) := by decide +kernel
theorem dX10_richest_61 : decode cX10_richest 61 = .ok (.iload_n 2, 1) := by decide +kernel
theorem dX10_richest_62 : decode cX10_richest 62 = .ok (.iconst 1, 1) := by decide +kernel
theorem dX10_richest_63 : decode cX10_richest 63 = .ok (.invokestatic 83, 3) := by decide +kernel
theorem dX10_richest_66 : decode cX10_richest 66 = .ok (.iaload, 1) := by decide +kernel
theorem dX10_richest_67 : decode cX10_richest 67 = .ok (.if_icmp .le 5, 3) := by decide +kernel
theorem dX10_richest_70 : decode cX10_richest 70 = .ok (.iload_n 3, 1) := by decide +kernel
theorem dX10_richest_71 : decode cX10_richest 71 = .ok (.istore_n 2, 1) := by decide +kernel
theorem dX10_richest_72 : decode cX10_richest 72 = .ok (.iinc 3 1, 3) := by decide +kernel
theorem dX10_richest_75 : decode cX10_richest 75 = .ok (.goto (-71), 3) := by decide +kernel
theorem dX10_richest_78 : decode cX10_richest 78 = .ok (.iload_n 2, 1) := by decide +kernel
theorem dX10_richest_79 : decode cX10_richest 79 = .ok (.ireturn, 1) := by decide +kernel
theorem dX10_against_0 : decode cX10_against 0 = .ok (.iconst 1, 1) := by decide +kernel
theorem dX10_against_1 : decode cX10_against 1 = .ok (.aload_n 0, 1) := by decide +kernel
theorem dX10_against_2 : decode cX10_against 2 = .ok (.getfield 7, 3) := by decide +kernel
theorem dX10_against_5 : decode cX10_against 5 = .ok (.iload_n 1, 1) := by decide +kernel
