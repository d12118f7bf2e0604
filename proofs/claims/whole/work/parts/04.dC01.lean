theorem dX6_partOf_7 : decode cX6_partOf 7 = .ok (.aload_n 0, 1) := by decide +kernel
theorem dX6_partOf_8 : decode cX6_partOf 8 = .ok (.getfield 9, 3) := by decide +kernel
theorem dX6_partOf_11 : decode cX6_partOf 11 = .ok (.arraylength, 1) := by decide +kernel
theorem dX6_partOf_12 : decode cX6_partOf 12 = .ok (.if_icmp .ge 34, 3) := by decide +kernel
theorem dX6_partOf_15 : decode cX6_partOf 15 = .ok (.aload_n 0, 1) := by decide +kernel
theorem dX6_partOf_16 : decode cX6_partOf 16 = .ok (.getfield 9, 3) := by decide +kernel
theorem dX6_partOf_19 : decode cX6_partOf 19 = .ok (.iload 4, 2) := by decide +kernel
theorem dX6_partOf_21 : decode cX6_partOf 21 = .ok (.aaload, 1) := by decide +kernel
theorem dX6_partOf_22 : decode cX6_partOf 22 = .ok (.getfield 69, 3) := by decide +kernel
theorem dX6_partOf_25 : decode cX6_partOf 25 = .ok (.iload_n 1, 1) := by decide +kernel
theorem dX6_partOf_26 : decode cX6_partOf 26 = .ok (.if_icmp .ne 14, 3) := by decide +kernel
theorem dX6_partOf_29 : decode cX6_partOf 29 = .ok (.iload_n 3, 1) := by decide +kernel
theorem dX6_partOf_30 : decode cX6_partOf 30 = .ok (.iload_n 2, 1) := by decide +kernel
theorem dX6_partOf_31 : decode cX6_partOf 31 = .ok (.if_icmp .ne 6, 3) := by decide +kernel
theorem dX6_partOf_34 : decode cX6_partOf 34 = .ok (.iload 4, 2) := by decide +kernel
theorem dX6_partOf_36 : decode cX6_partOf 36 = .ok (.ireturn, 1) := by decide +kernel
theorem dX6_partOf_37 : decode cX6_partOf 37 = .ok (.iinc 3 1, 3) := by decide +kernel
theorem dX6_partOf_40 : decode cX6_partOf 40 = .ok (.iinc 4 1, 3) := by decide +kernel
theorem dX6_partOf_43 : decode cX6_partOf 43 = .ok (.goto (-38), 3) := by decide +kernel
theorem dX6_partOf_46 : decode cX6_partOf 46 = .ok (.iconst (-1), 1) := by decide +kernel
theorem dX6_partOf_47 : decode cX6_partOf 47 = .ok (.ireturn, 1) := by decide +kernel
theorem dX6_isWithin_0 : decode cX6_isWithin 0 = .ok (.iload_n 1, 1) := by decide +kernel
theorem dX6_isWithin_1 : decode cX6_isWithin 1 = .ok (.istore_n 3, 1) := by decide +kernel
theorem dX6_isWithin_2 : decode cX6_isWithin 2 = .ok (.iconst 0, 1) := by decide +kernel
theorem dX6_isWithin_3 : decode cX6_isWithin 3 = .ok (.istore 4, 2) := by decide +kernel
theorem dX6_isWithin_5 : decode cX6_isWithin 5 = .ok (.iload 4, 2) := by decide +kernel
theorem dX6_isWithin_7 : decode cX6_isWithin 7 = .ok (.iconst 3, 1) := by decide +kernel
theorem dX6_isWithin_8 : decode cX6_isWithin 8 = .ok (.if_icmp .gt 39, 3) := by decide +kernel
theorem dX6_isWithin_11 : decode cX6_isWithin 11 = .ok (.iload_n 3, 1) := by decide +kernel
theorem dX6_isWithin_12 : decode cX6_isWithin 12 = .ok (.ifCond .lt 35, 3) := by decide +kernel
theorem dX6_isWithin_15 : decode cX6_isWithin 15 = .ok (.iload_n 3, 1) := by decide +kernel
theorem dX6_isWithin_16 : decode cX6_isWithin 16 = .ok (.aload_n 0, 1) := by decide +kernel
theorem dX6_isWithin_17 : decode cX6_isWithin 17 = .ok (.getfield 9, 3) := by decide +kernel
theorem dX6_isWithin_20 : decode cX6_isWithin 20 = .ok (.arraylength, 1) := by decide +kernel
theorem dX6_isWithin_21 : decode cX6_isWithin 21 = .ok (.if_icmp .ge 26, 3) := by decide +kernel
theorem dX6_isWithin_24 : decode cX6_isWithin 24 = .ok (.iload_n 3, 1) := by decide +kernel
theorem dX6_isWithin_25 : decode cX6_isWithin 25 = .ok (.iload_n 2, 1) := by decide +kernel
theorem dX6_isWithin_26 : decode cX6_isWithin 26 = .ok (.if_icmp .ne 5, 3) := by decide +kernel
theorem dX6_isWithin_29 : decode cX6_isWithin 29 = .ok (.iconst 1, 1) := by decide +kernel
theorem dX6_isWithin_30 : decode cX6_isWithin 30 = .ok (.ireturn, 1) := by decide +kernel
theorem dX6_isWithin_31 : decode cX6_isWithin 31 = .ok (.aload_n 0, 1) := by decide +kernel
theorem dX6_isWithin_32 : decode cX6_isWithin 32 = .ok (.getfield 9, 3) := by decide +kernel
theorem dX6_isWithin_35 : decode cX6_isWithin 35 = .ok (.iload_n 3, 1) := by decide +kernel
theorem dX6_isWithin_36 : decode cX6_isWithin 36 = .ok (.aaload, 1) := by decide +kernel
theorem dX6_isWithin_37 : decode cX6_isWithin 37 = .ok (.getfield 69, 3) := by decide +kernel
theorem dX6_isWithin_40 : decode cX6_isWithin 40 = .ok (.istore_n 3, 1) := by decide +kernel
theorem dX6_isWithin_41 : decode cX6_isWithin 41 = .ok (.iinc 4 1, 3) := by decide +kernel
theorem dX6_isWithin_44 : decode cX6_isWithin 44 = .ok (.goto (-39), 3) := by decide +kernel
theorem dX6_isWithin_47 : decode cX6_isWithin 47 = .ok (.iconst 0, 1) := by decide +kernel
theorem dX6_isWithin_48 : decode cX6_isWithin 48 = .ok (.ireturn, 1) := by decide +kernel
theorem dX6_rootCount_0 : decode cX6_rootCount 0 = .ok (.aload_n 0, 1) := by decide +kernel
theorem dX6_rootCount_1 : decode cX6_rootCount 1 = .ok (.getfield 27, 3) := by decide +kernel
theorem dX6_rootCount_4 : decode cX6_rootCount 4 = .ok (.invokestatic 47, 3) := by decide +kernel
theorem dX6_rootCount_7 : decode cX6_rootCount 7 = .ok (.ireturn, 1) := by decide +kernel
theorem dX6_metSetFor_0 : decode cX6_metSetFor 0 = .ok (.iload_n 1, 1) := by decide +kernel
theorem dX6_metSetFor_1 : decode cX6_metSetFor 1 = .ok (.ifCond .lt 21, 3) := by decide +kernel
theorem dX6_metSetFor_4 : decode cX6_metSetFor 4 = .ok (.iload_n 1, 1) := by decide +kernel
theorem dX6_metSetFor_5 : decode cX6_metSetFor 5 = .ok (.aload_n 0, 1) := by decide +kernel
theorem dX6_metSetFor_6 : decode cX6_metSetFor 6 = .ok (.getfield 37, 3) := by decide +kernel
theorem dX6_metSetFor_9 : decode cX6_metSetFor 9 = .ok (.arraylength, 1) := by decide +kernel
theorem dX6_metSetFor_10 : decode cX6_metSetFor 10 = .ok (.if_icmp .ge 12, 3) := by decide +kernel
theorem dX6_metSetFor_13 : decode cX6_metSetFor 13 = .ok (.aload_n 0, 1) := by decide +kernel
theorem dX6_metSetFor_14 : decode cX6_metSetFor 14 = .ok (.getfield 37, 3) := by decide +kernel
theorem dX6_metSetFor_17 : decode cX6_metSetFor 17 = .ok (.iload_n 1, 1) := by decide +kernel
theorem dX6_metSetFor_18 : decode cX6_metSetFor 18 = .ok (.iaload, 1) := by decide +kernel
theorem dX6_metSetFor_19 : decode cX6_metSetFor 19 = .ok (.goto 4, 3) := by decide +kernel
theorem dX6_metSetFor_22 : decode cX6_metSetFor 22 = .ok (.iconst 0, 1) := by decide +kernel
theorem dX6_metSetFor_23 : decode cX6_metSetFor 23 = .ok (.ireturn, 1) := by decide +kernel
theorem dX6_metRootsFor_0 : decode cX6_metRootsFor 0 = .ok (.iload_n 1, 1) := by decide +kernel
theorem dX6_metRootsFor_1 : decode cX6_metRootsFor 1 = .ok (.ifCond .lt 21, 3) := by decide +kernel
theorem dX6_metRootsFor_4 : decode cX6_metRootsFor 4 = .ok (.iload_n 1, 1) := by decide +kernel
theorem dX6_metRootsFor_5 : decode cX6_metRootsFor 5 = .ok (.aload_n 0, 1) := by decide +kernel
theorem dX6_metRootsFor_6 : decode cX6_metRootsFor 6 = .ok (.getfield 40, 3) := by decide +kernel
theorem dX6_metRootsFor_9 : decode cX6_metRootsFor 9 = .ok (.arraylength, 1) := by decide +kernel
theorem dX6_metRootsFor_10 : decode cX6_metRootsFor 10 = .ok (.if_icmp .ge 12, 3) := by decide +kernel
theorem dX6_metRootsFor_13 : decode cX6_metRootsFor 13 = .ok (.aload_n 0, 1) := by decide +kernel
theorem dX6_metRootsFor_14 : decode cX6_metRootsFor 14 = .ok (.getfield 40, 3) := by decide +kernel
theorem dX6_metRootsFor_17 : decode cX6_metRootsFor 17 = .ok (.iload_n 1, 1) := by decide +kernel
theorem dX6_metRootsFor_18 : decode cX6_metRootsFor 18 = .ok (.iaload, 1) := by decide +kernel
theorem dX6_metRootsFor_19 : decode cX6_metRootsFor 19 = .ok (.goto 4, 3) := by decide +kernel
theorem dX6_metRootsFor_22 : decode cX6_metRootsFor 22 = .ok (.iconst 0, 1) := by decide +kernel
theorem dX6_metRootsFor_23 : decode cX6_metRootsFor 23 = .ok (.ireturn, 1) := by decide +kernel
theorem dX6_partsIn_0 : decode cX6_partsIn 0 = .ok (.iconst 0, 1) := by decide +kernel
theorem dX6_partsIn_1 : decode cX6_partsIn 1 = .ok (.istore_n 2, 1) := by decide +kernel
theorem dX6_partsIn_2 : decode cX6_partsIn 2 = .ok (.iconst 0, 1) := by decide +kernel
theorem dX6_partsIn_3 : decode cX6_partsIn 3 = .ok (.istore_n 3, 1) := by decide +kernel
theorem dX6_partsIn_4 : decode cX6_partsIn 4 = .ok (.iload_n 3, 1) := by decide +kernel
theorem dX6_partsIn_5 : decode cX6_partsIn 5 = .ok (.aload_n 0, 1) := by decide +kernel
theorem dX6_partsIn_6 : decode cX6_partsIn 6 = .ok (.arraylength, 1) := by decide +kernel
theorem dX6_partsIn_7 : decode cX6_partsIn 7 = .ok (.if_icmp .ge 22, 3) := by decide +kernel
theorem dX6_partsIn_10 : decode cX6_partsIn 10 = .ok (.aload_n 0, 1) := by decide +kernel
theorem dX6_partsIn_11 : decode cX6_partsIn 11 = .ok (.iload_n 3, 1) := by decide +kernel
theorem dX6_partsIn_12 : decode cX6_partsIn 12 = .ok (.aaload, 1) := by decide +kernel
theorem dX6_partsIn_13 : decode cX6_partsIn 13 = .ok (.getfield 69, 3) := by decide +kernel
theorem dX6_partsIn_16 : decode cX6_partsIn 16 = .ok (.iload_n 1, 1) := by decide +kernel
theorem dX6_partsIn_17 : decode cX6_partsIn 17 = .ok (.if_icmp .ne 6, 3) := by decide +kernel
theorem dX6_partsIn_20 : decode cX6_partsIn 20 = .ok (.iinc 2 1, 3) := by decide +kernel
theorem dX6_partsIn_23 : decode cX6_partsIn 23 = .ok (.iinc 3 1, 3) := by decide +kernel
theorem dX6_partsIn_26 : decode cX6_partsIn 26 = .ok (.goto (-22), 3) := by decide +kernel
theorem dX6_partsIn_29 : decode cX6_partsIn 29 = .ok (.iload_n 2, 1) := by decide +kernel
theorem dX6_partsIn_30 : decode cX6_partsIn 30 = .ok (.ireturn, 1) := by decide +kernel
theorem dX6_leavesOf_0 : decode cX6_leavesOf 0 = .ok (.iconst 0, 1) := by decide +kernel
theorem dX6_leavesOf_1 : decode cX6_leavesOf 1 = .ok (.istore_n 1, 1) := by decide +kernel
theorem dX6_leavesOf_2 : decode cX6_leavesOf 2 = .ok (.iconst 0, 1) := by decide +kernel
theorem dX6_leavesOf_3 : decode cX6_leavesOf 3 = .ok (.istore_n 2, 1) := by decide +kernel
theorem dX6_leavesOf_4 : decode cX6_leavesOf 4 = .ok (.iload_n 2, 1) := by decide +kernel
theorem dX6_leavesOf_5 : decode cX6_leavesOf 5 = .ok (.aload_n 0, 1) := by decide +kernel
theorem dX6_leavesOf_6 : decode cX6_leavesOf 6 = .ok (.arraylength, 1) := by decide +kernel
theorem dX6_leavesOf_7 : decode cX6_leavesOf 7 = .ok (.if_icmp .ge 21, 3) := by decide +kernel
theorem dX6_leavesOf_10 : decode cX6_leavesOf 10 = .ok (.aload_n 0, 1) := by decide +kernel
theorem dX6_leavesOf_11 : decode cX6_leavesOf 11 = .ok (.iload_n 2, 1) := by decide +kernel
theorem dX6_leavesOf_12 : decode cX6_leavesOf 12 = .ok (.aaload, 1) := by decide +kernel
theorem dX6_leavesOf_13 : decode cX6_leavesOf 13 = .ok (.invokevirtual 59, 3) := by decide +kernel
theorem dX6_leavesOf_16 : decode cX6_leavesOf 16 = .ok (.ifCond .ne 6, 3) := by decide +kernel
theorem dX6_leavesOf_19 : decode cX6_leavesOf 19 = .ok (.iinc 1 1, 3) := by decide +kernel
theorem dX6_leavesOf_22 : decode cX6_leavesOf 22 = .ok (.iinc 2 1, 3) := by decide +kernel
theorem dX6_leavesOf_25 : decode cX6_leavesOf 25 = .ok (.goto (-21), 3) := by decide +kernel
theorem dX6_leavesOf_28 : decode cX6_leavesOf 28 = .ok (.iload_n 1, 1) := by decide +kernel
theorem dX6_leavesOf_29 : decode cX6_leavesOf 29 = .ok (.newarray .int, 2) := by decide +kernel
theorem dX6_leavesOf_31 : decode cX6_leavesOf 31 = .ok (.astore_n 2, 1) := by decide +kernel
theorem dX6_leavesOf_32 : decode cX6_leavesOf 32 = .ok (.iconst 0, 1) := by decide +kernel
theorem dX6_leavesOf_33 : decode cX6_leavesOf 33 = .ok (.istore_n 3, 1) := by decide +kernel
theorem dX6_leavesOf_34 : decode cX6_leavesOf 34 = .ok (.iconst 0, 1) := by decide +kernel
theorem dX6_leavesOf_35 : decode cX6_leavesOf 35 = .ok (.istore 4, 2) := by decide +kernel
theorem dX6_leavesOf_37 : decode cX6_leavesOf 37 = .ok (.iload 4, 2) := by decide +kernel
theorem dX6_leavesOf_39 : decode cX6_leavesOf 39 = .ok (.aload_n 0, 1) := by decide +kernel
theorem dX6_leavesOf_40 : decode cX6_leavesOf 40 = .ok (.arraylength, 1) := by decide +kernel
theorem dX6_leavesOf_41 : decode cX6_leavesOf 41 = .ok (.if_icmp .ge 33, 3) := by decide +kernel
theorem dX6_leavesOf_44 : decode cX6_leavesOf 44 = .ok (.iload_n 3, 1) := by decide +kernel
theorem dX6_leavesOf_45 : decode cX6_leavesOf 45 = .ok (.aload_n 2, 1) := by decide +kernel
theorem dX6_leavesOf_46 : decode cX6_leavesOf 46 = .ok (.arraylength, 1) := by decide +kernel
theorem dX6_leavesOf_47 : decode cX6_leavesOf 47 = .ok (.if_icmp .ge 27, 3) := by decide +kernel
theorem dX6_leavesOf_50 : decode cX6_leavesOf 50 = .ok (.aload_n 0, 1) := by decide +kernel
theorem dX6_leavesOf_51 : decode cX6_leavesOf 51 = .ok (.iload 4, 2) := by decide +kernel
theorem dX6_leavesOf_53 : decode cX6_leavesOf 53 = .ok (.aaload, 1) := by decide +kernel
theorem dX6_leavesOf_54 : decode cX6_leavesOf 54 = .ok (.invokevirtual 59, 3) := by decide +kernel
theorem dX6_leavesOf_57 : decode cX6_leavesOf 57 = .ok (.ifCond .ne 11, 3) := by decide +kernel
theorem dX6_leavesOf_60 : decode cX6_leavesOf 60 = .ok (.aload_n 2, 1) := by decide +kernel
theorem dX6_leavesOf_61 : decode cX6_leavesOf 61 = .ok (.iload_n 3, 1) := by decide +kernel
theorem dX6_leavesOf_62 : decode cX6_leavesOf 62 = .ok (.iload 4, 2) := by decide +kernel
theorem dX6_leavesOf_64 : decode cX6_leavesOf 64 = .ok (.iastore, 1) := by decide +kernel
theorem dX6_leavesOf_65 : decode cX6_leavesOf 65 = .ok (.iinc 3 1, 3) := by decide +kernel
theorem dX6_leavesOf_68 : decode cX6_leavesOf 68 = .ok (.iinc 4 1, 3) := by decide +kernel
theorem dX6_leavesOf_71 : decode cX6_leavesOf 71 = .ok (.goto (-34), 3) := by decide +kernel
theorem dX6_leavesOf_74 : decode cX6_leavesOf 74 = .ok (.aload_n 2, 1) := by decide +kernel
theorem dX6_leavesOf_75 : decode cX6_leavesOf 75 = .ok (.areturn, 1) := by decide +kernel
theorem dX6_rootSetOf_0 : decode cX6_rootSetOf 0 = .ok (.iconst 0, 1) := by decide +kernel
theorem dX6_rootSetOf_1 : decode cX6_rootSetOf 1 = .ok (.istore_n 1, 1) := by decide +kernel
theorem dX6_rootSetOf_2 : decode cX6_rootSetOf 2 = .ok (.iconst 0, 1) := by decide +kernel
theorem dX6_rootSetOf_3 : decode cX6_rootSetOf 3 = .ok (.istore_n 2, 1) := by decide +kernel
theorem dX6_rootSetOf_4 : decode cX6_rootSetOf 4 = .ok (.iload_n 2, 1) := by decide +kernel
theorem dX6_rootSetOf_5 : decode cX6_rootSetOf 5 = .ok (.aload_n 0, 1) := by decide +kernel
theorem dX6_rootSetOf_6 : decode cX6_rootSetOf 6 = .ok (.arraylength, 1) := by decide +kernel
theorem dX6_rootSetOf_7 : decode cX6_rootSetOf 7 = .ok (.if_icmp .ge 25, 3) := by decide +kernel
theorem dX6_rootSetOf_10 : decode cX6_rootSetOf 10 = .ok (.aload_n 0, 1) := by decide +kernel
theorem dX6_rootSetOf_11 : decode cX6_rootSetOf 11 = .ok (.iload_n 2, 1) := by decide +kernel
theorem dX6_rootSetOf_12 : decode cX6_rootSetOf 12 = .ok (.aaload, 1) := by decide +kernel
theorem dX6_rootSetOf_13 : decode cX6_rootSetOf 13 = .ok (.getfield 69, 3) := by decide +kernel
theorem dX6_rootSetOf_16 : decode cX6_rootSetOf 16 = .ok (.iconst (-1), 1) := by decide +kernel
theorem dX6_rootSetOf_17 : decode cX6_rootSetOf 17 = .ok (.if_icmp .ne 9, 3) := by decide +kernel
theorem dX6_rootSetOf_20 : decode cX6_rootSetOf 20 = .ok (.iload_n 1, 1) := by decide +kernel
theorem dX6_rootSetOf_21 : decode cX6_rootSetOf 21 = .ok (.iconst 1, 1) := by decide +kernel
theorem dX6_rootSetOf_22 : decode cX6_rootSetOf 22 = .ok (.iload_n 2, 1) := by decide +kernel
theorem dX6_rootSetOf_23 : decode cX6_rootSetOf 23 = .ok (.ishl, 1) := by decide +kernel
theorem dX6_rootSetOf_24 : decode cX6_rootSetOf 24 = .ok (.ior, 1) := by decide +kernel
theorem dX6_rootSetOf_25 : decode cX6_rootSetOf 25 = .ok (.istore_n 1, 1) := by decide +kernel
theorem dX6_rootSetOf_26 : decode cX6_rootSetOf 26 = .ok (.iinc 2 1, 3) := by decide +kernel
theorem dX6_rootSetOf_29 : decode cX6_rootSetOf 29 = .ok (.goto (-25), 3) := by decide +kernel
theorem dX6_rootSetOf_32 : decode cX6_rootSetOf 32 = .ok (.iload_n 1, 1) := by decide +kernel
theorem dX6_rootSetOf_33 : decode cX6_rootSetOf 33 = .ok (.ireturn, 1) := by decide +kernel
theorem dX6_metBlocks_0 : decode cX6_metBlocks 0 = .ok (.iconst 0, 1) := by decide +kernel
theorem dX6_metBlocks_1 : decode cX6_metBlocks 1 = .ok (.istore_n 3, 1) := by decide +kernel
theorem dX6_metBlocks_2 : decode cX6_metBlocks 2 = .ok (.iconst 0, 1) := by decide +kernel
theorem dX6_metBlocks_3 : decode cX6_metBlocks 3 = .ok (.istore 4, 2) := by decide +kernel
theorem dX6_metBlocks_5 : decode cX6_metBlocks 5 = .ok (.iload 4, 2) := by decide +kernel
theorem dX6_metBlocks_7 : decode cX6_metBlocks 7 = .ok (.aload_n 1, 1) := by decide +kernel
theorem dX6_metBlocks_8 : decode cX6_metBlocks 8 = .ok (.arraylength, 1) := by decide +kernel
theorem dX6_metBlocks_9 : decode cX6_metBlocks 9 = .ok (.if_icmp .ge 27, 3) := by decide +kernel
theorem dX6_metBlocks_12 : decode cX6_metBlocks 12 = .ok (.iload_n 2, 1) := by decide +kernel
theorem dX6_metBlocks_13 : decode cX6_metBlocks 13 = .ok (.iload 4, 2) := by decide +kernel
theorem dX6_metBlocks_15 : decode cX6_metBlocks 15 = .ok (.invokestatic 72, 3) := by decide +kernel
theorem dX6_metBlocks_18 : decode cX6_metBlocks 18 = .ok (.ifCond .eq 12, 3) := by decide +kernel
theorem dX6_metBlocks_21 : decode cX6_metBlocks 21 = .ok (.iload_n 3, 1) := by decide +kernel
theorem dX6_metBlocks_22 : decode cX6_metBlocks 22 = .ok (.iconst 1, 1) := by decide +kernel
theorem dX6_metBlocks_23 : decode cX6_metBlocks 23 = .ok (.aload_n 1, 1) := by decide +kernel
theorem dX6_metBlocks_24 : decode cX6_metBlocks 24 = .ok (.iload 4, 2) := by decide +kernel
theorem dX6_metBlocks_26 : decode cX6_metBlocks 26 = .ok (.iaload, 1) := by decide +kernel
theorem dX6_metBlocks_27 : decode cX6_metBlocks 27 = .ok (.ishl, 1) := by decide +kernel
theorem dX6_metBlocks_28 : decode cX6_metBlocks 28 = .ok (.ior, 1) := by decide +kernel
theorem dX6_metBlocks_29 : decode cX6_metBlocks 29 = .ok (.istore_n 3, 1) := by decide +kernel
theorem dX6_metBlocks_30 : decode cX6_metBlocks 30 = .ok (.iinc 4 1, 3) := by decide +kernel
theorem dX6_metBlocks_33 : decode cX6_metBlocks 33 = .ok (.goto (-28), 3) := by decide +kernel
theorem dX6_metBlocks_36 : decode cX6_metBlocks 36 = .ok (.aload_n 0, 1) := by decide +kernel
theorem dX6_metBlocks_37 : decode cX6_metBlocks 37 = .ok (.arraylength, 1) := by decide +kernel
theorem dX6_metBlocks_38 : decode cX6_metBlocks 38 = .ok (.iconst 1, 1) := by decide +kernel
theorem dX6_metBlocks_39 : decode cX6_metBlocks 39 = .ok (.isub, 1) := by decide +kernel
theorem dX6_metBlocks_40 : decode cX6_metBlocks 40 = .ok (.istore 4, 2) := by decide +kernel
theorem dX6_metBlocks_42 : decode cX6_metBlocks 42 = .ok (.iload 4, 2) := by decide +kernel
theorem dX6_metBlocks_44 : decode cX6_metBlocks 44 = .ok (.ifCond .lt 43, 3) := by decide +kernel
theorem dX6_metBlocks_47 : decode cX6_metBlocks 47 = .ok (.aload_n 0, 1) := by decide +kernel
theorem dX6_metBlocks_48 : decode cX6_metBlocks 48 = .ok (.iload 4, 2) := by decide +kernel
theorem dX6_metBlocks_50 : decode cX6_metBlocks 50 = .ok (.aaload, 1) := by decide +kernel
theorem dX6_metBlocks_51 : decode cX6_metBlocks 51 = .ok (.invokevirtual 59, 3) := by decide +kernel
theorem dX6_metBlocks_54 : decode cX6_metBlocks 54 = .ok (.ifCond .eq 27, 3) := by decide +kernel
theorem dX6_metBlocks_57 : decode cX6_metBlocks 57 = .ok (.aload_n 0, 1) := by decide +kernel
theorem dX6_metBlocks_58 : decode cX6_metBlocks 58 = .ok (.iload 4, 2) := by decide +kernel
theorem dX6_metBlocks_60 : decode cX6_metBlocks 60 = .ok (.iload_n 3, 1) := by decide +kernel
theorem dX6_metBlocks_61 : decode cX6_metBlocks 61 = .ok (.invokestatic 76, 3) := by decide +kernel
theorem dX6_metBlocks_64 : decode cX6_metBlocks 64 = .ok (.aload_n 0, 1) := by decide +kernel
theorem dX6_metBlocks_65 : decode cX6_metBlocks 65 = .ok (.iload 4, 2) := by decide +kernel
theorem dX6_metBlocks_67 : decode cX6_metBlocks 67 = .ok (.aaload, 1) := by decide +kernel
theorem dX6_metBlocks_68 : decode cX6_metBlocks 68 = .ok (.getfield 62, 3) := by decide +kernel
theorem dX6_metBlocks_71 : decode cX6_metBlocks 71 = .ok (.if_icmp .lt 10, 3) := by decide +kernel
theorem dX6_metBlocks_74 : decode cX6_metBlocks 74 = .ok (.iload_n 3, 1) := by decide +kernel
theorem dX6_metBlocks_75 : decode cX6_metBlocks 75 = .ok (.iconst 1, 1) := by decide +kernel
theorem dX6_metBlocks_76 : decode cX6_metBlocks 76 = .ok (.iload 4, 2) := by decide +kernel
theorem dX6_metBlocks_78 : decode cX6_metBlocks 78 = .ok (.ishl, 1) := by decide +kernel
theorem dX6_metBlocks_79 : decode cX6_metBlocks 79 = .ok (.ior, 1) := by decide +kernel
theorem dX6_metBlocks_80 : decode cX6_metBlocks 80 = .ok (.istore_n 3, 1) := by decide +kernel
theorem dX6_metBlocks_81 : decode cX6_metBlocks 81 = .ok (.iinc 4 (-1), 3) := by decide +kernel
theorem dX6_metBlocks_84 : decode cX6_metBlocks 84 = .ok (.goto (-42), 3) := by decide +kernel
theorem dX6_metBlocks_87 : decode cX6_metBlocks 87 = .ok (.iload_n 3, 1) := by decide +kernel
theorem dX6_metBlocks_88 : decode cX6_metBlocks 88 = .ok (.ireturn, 1) := by decide +kernel
theorem dX6_metParts_0 : decode cX6_metParts 0 = .ok (.iconst 0, 1) := by decide +kernel
theorem dX6_metParts_1 : decode cX6_metParts 1 = .ok (.istore_n 3, 1) := by decide +kernel
theorem dX6_metParts_2 : decode cX6_metParts 2 = .ok (.iconst 0, 1) := by decide +kernel
theorem dX6_metParts_3 : decode cX6_metParts 3 = .ok (.istore 4, 2) := by decide +kernel
theorem dX6_metParts_5 : decode cX6_metParts 5 = .ok (.iload 4, 2) := by decide +kernel
theorem dX6_metParts_7 : decode cX6_metParts 7 = .ok (.aload_n 0, 1) := by decide +kernel
theorem dX6_metParts_8 : decode cX6_metParts 8 = .ok (.arraylength, 1) := by decide +kernel
theorem dX6_metParts_9 : decode cX6_metParts 9 = .ok (.if_icmp .ge 32, 3) := by decide +kernel
theorem dX6_metParts_12 : decode cX6_metParts 12 = .ok (.aload_n 0, 1) := by decide +kernel
theorem dX6_metParts_13 : decode cX6_metParts 13 = .ok (.iload 4, 2) := by decide +kernel
theorem dX6_metParts_15 : decode cX6_metParts 15 = .ok (.aaload, 1) := by decide +kernel
theorem dX6_metParts_16 : decode cX6_metParts 16 = .ok (.getfield 69, 3) := by decide +kernel
theorem dX6_metParts_19 : decode cX6_metParts 19 = .ok (.iload_n 1, 1) := by decide +kernel
theorem dX6_metParts_20 : decode cX6_metParts 20 = .ok (.if_icmp .ne 15, 3) := by decide +kernel
theorem dX6_metParts_23 : decode cX6_metParts 23 = .ok (.iload_n 2, 1) := by decide +kernel
theorem dX6_metParts_24 : decode cX6_metParts 24 = .ok (.iload 4, 2) := by decide +kernel
theorem dX6_metParts_26 : decode cX6_metParts 26 = .ok (.invokestatic 72, 3) := by decide +kernel
theorem dX6_metParts_29 : decode cX6_metParts 29 = .ok (.ifCond .eq 6, 3) := by decide +kernel
theorem dX6_metParts_32 : decode cX6_metParts 32 = .ok (.iinc 3 1, 3) := by decide +kernel
theorem dX6_metParts_35 : decode cX6_metParts 35 = .ok (.iinc 4 1, 3) := by decide +kernel
theorem dX6_metParts_38 : decode cX6_metParts 38 = .ok (.goto (-33), 3) := by decide +kernel
theorem dX6_metParts_41 : decode cX6_metParts 41 = .ok (.iload_n 3, 1) := by decide +kernel
theorem dX6_metParts_42 : decode cX6_metParts 42 = .ok (.ireturn, 1) := by decide +kernel
theorem dX7_init_0 : decode cX7_init 0 = .ok (.aload_n 0, 1) := by decide +kernel
theorem dX7_init_1 : decode cX7_init 1 = .ok (.invokespecial 3, 3) := by decide +kernel
theorem dX7_init_4 : decode cX7_init 4 = .ok (.aload_n 0, 1) := by decide +kernel
theorem dX7_init_5 : decode cX7_init 5 = .ok (.bipush 50, 2) := by decide +kernel
theorem dX7_init_7 : decode cX7_init 7 = .ok (.newarray .char, 2) := by decide +kernel
theorem dX7_init_9 : decode cX7_init 9 = .ok (.putfield 9, 3) := by decide +kernel
theorem dX7_init_12 : decode cX7_init 12 = .ok (.aload_n 0, 1) := by decide +kernel
theorem dX7_init_13 : decode cX7_init 13 = .ok (.iconst 0, 1) := by decide +kernel
theorem dX7_init_14 : decode cX7_init 14 = .ok (.putfield 15, 3) := by decide +kernel
theorem dX7_init_17 : decode cX7_init 17 = .ok (.aload_n 0, 1) := by decide +kernel
theorem dX7_init_18 : decode cX7_init 18 = .ok (.iconst 0, 1) := by decide +kernel
theorem dX7_init_19 : decode cX7_init 19 = .ok (.putfield 19, 3) := by decide +kernel
theorem dX7_init_22 : decode cX7_init 22 = .ok (.aload_n 0, 1) := by decide +kernel
theorem dX7_init_23 : decode cX7_init 23 = .ok (.new 22, 3) := by decide +kernel
theorem dX7_init_26 : decode cX7_init 26 = .ok (.dup, 1) := by decide +kernel
theorem dX7_init_27 : decode cX7_init 27 = .ok (.invokespecial 24, 3) := by decide +kernel
theorem dX7_init_30 : decode cX7_init 30 = .ok (.putfield 25, 3) := by decide +kernel
theorem dX7_init_33 : decode cX7_init 33 = .ok (.aload_n 0, 1) := by decide +kernel
theorem dX7_init_34 : decode cX7_init 34 = .ok (.bipush 50, 2) := by decide +kernel
theorem dX7_init_36 : decode cX7_init 36 = .ok (.anewarray 29, 3) := by decide +kernel
theorem dX7_init_39 : decode cX7_init 39 = .ok (.putfield 31, 3) := by decide +kernel
theorem dX7_init_42 : decode cX7_init 42 = .ok (.aload_n 0, 1) := by decide +kernel
theorem dX7_init_43 : decode cX7_init 43 = .ok (.iconst 0, 1) := by decide +kernel
theorem dX7_init_44 : decode cX7_init 44 = .ok (.putfield 35, 3) := by decide +kernel
theorem dX7_init_47 : decode cX7_init 47 = .ok (.aload_n 0, 1) := by decide +kernel
theorem dX7_init_48 : decode cX7_init 48 = .ok (.iconst 3, 1) := by decide +kernel
theorem dX7_init_49 : decode cX7_init 49 = .ok (.newarray .int, 2) := by decide +kernel
theorem dX7_init_51 : decode cX7_init 51 = .ok (.putfield 38, 3) := by decide +kernel
theorem dX7_init_54 : decode cX7_init 54 = .ok (.aload_n 0, 1) := by decide +kernel
theorem dX7_init_55 : decode cX7_init 55 = .ok (.iconst 0, 1) := by decide +kernel
theorem dX7_init_56 : decode cX7_init 56 = .ok (.putfield 42, 3) := by decide +kernel
theorem dX7_init_59 : decode cX7_init 59 = .ok (.return_, 1) := by decide +kernel
theorem dX7_isFull_0 : decode cX7_isFull 0 = .ok (.aload_n 0, 1) := by decide +kernel
theorem dX7_isFull_1 : decode cX7_isFull 1 = .ok (.getfield 15, 3) := by decide +kernel
theorem dX7_isFull_4 : decode cX7_isFull 4 = .ok (.aload_n 0, 1) := by decide +kernel
theorem dX7_isFull_5 : decode cX7_isFull 5 = .ok (.getfield 9, 3) := by decide +kernel
theorem dX7_isFull_8 : decode cX7_isFull 8 = .ok (.arraylength, 1) := by decide +kernel
theorem dX7_isFull_9 : decode cX7_isFull 9 = .ok (.if_icmp .lt 7, 3) := by decide +kernel
theorem dX7_isFull_12 : decode cX7_isFull 12 = .ok (.iconst 1, 1) := by decide +kernel
theorem dX7_isFull_13 : decode cX7_isFull 13 = .ok (.goto 4, 3) := by decide +kernel
theorem dX7_isFull_16 : decode cX7_isFull 16 = .ok (.iconst 0, 1) := by decide +kernel
theorem dX7_isFull_17 : decode cX7_isFull 17 = .ok (.ireturn, 1) := by decide +kernel
theorem dX7_put_0 : decode cX7_put 0 = .ok (.aload_n 0, 1) := by decide +kernel
theorem dX7_put_1 : decode cX7_put 1 = .ok (.getfield 15, 3) := by decide +kernel
theorem dX7_put_4 : decode cX7_put 4 = .ok (.aload_n 0, 1) := by decide +kernel
theorem dX7_put_5 : decode cX7_put 5 = .ok (.getfield 9, 3) := by decide +kernel
theorem dX7_put_8 : decode cX7_put 8 = .ok (.arraylength, 1) := by decide +kernel
theorem dX7_put_9 : decode cX7_put 9 = .ok (.if_icmp .ge 23, 3) := by decide +kernel
theorem dX7_put_12 : decode cX7_put 12 = .ok (.aload_n 0, 1) := by decide +kernel
theorem dX7_put_13 : decode cX7_put 13 = .ok (.getfield 9, 3) := by decide +kernel
theorem dX7_put_16 : decode cX7_put 16 = .ok (.aload_n 0, 1) := by decide +kernel
theorem dX7_put_17 : decode cX7_put 17 = .ok (.getfield 15, 3) := by decide +kernel
theorem dX7_put_20 : decode cX7_put 20 = .ok (.iload_n 1, 1) := by decide +kernel
theorem dX7_put_21 : decode cX7_put 21 = .ok (.castore, 1) := by decide +kernel
theorem dX7_put_22 : decode cX7_put 22 = .ok (.aload_n 0, 1) := by decide +kernel
theorem dX7_put_23 : decode cX7_put 23 = .ok (.dup, 1) := by decide +kernel
theorem dX7_put_24 : decode cX7_put 24 = .ok (.getfield 15, 3) := by decide +kernel
theorem dX7_put_27 : decode cX7_put 27 = .ok (.iconst 1, 1) := by decide +kernel
theorem dX7_put_28 : decode cX7_put 28 = .ok (.iadd, 1) := by decide +kernel
theorem dX7_put_29 : decode cX7_put 29 = .ok (.putfield 15, 3) := by decide +kernel
theorem dX7_put_32 : decode cX7_put 32 = .ok (.return_, 1) := by decide +kernel
theorem dX7_readText_0 : decode cX7_readText 0 = .ok (.aload_n 0, 1) := by decide +kernel
theorem dX7_readText_1 : decode cX7_readText 1 = .ok (.iconst 0, 1) := by decide +kernel
theorem dX7_readText_2 : decode cX7_readText 2 = .ok (.putfield 19, 3) := by decide +kernel
theorem dX7_readText_5 : decode cX7_readText 5 = .ok (.aload_n 0, 1) := by decide +kernel
theorem dX7_readText_6 : decode cX7_readText 6 = .ok (.iconst 0, 1) := by decide +kernel
theorem dX7_readText_7 : decode cX7_readText 7 = .ok (.putfield 35, 3) := by decide +kernel
theorem dX7_readText_10 : decode cX7_readText 10 = .ok (.aload_n 0, 1) := by decide +kernel
theorem dX7_readText_11 : decode cX7_readText 11 = .ok (.iconst 0, 1) := by decide +kernel
theorem dX7_readText_12 : decode cX7_readText 12 = .ok (.putfield 42, 3) := by decide +kernel
theorem dX7_readText_15 : decode cX7_readText 15 = .ok (.aload_n 0, 1) := by decide +kernel
theorem dX7_readText_16 : decode cX7_readText 16 = .ok (.invokevirtual 45, 3) := by decide +kernel
theorem dX7_readText_19 : decode cX7_readText 19 = .ok (.istore_n 1, 1) := by decide +kernel
theorem dX7_readText_20 : decode cX7_readText 20 = .ok (.aload_n 0, 1) := by decide +kernel
theorem dX7_readText_21 : decode cX7_readText 21 = .ok (.iconst 0, 1) := by decide +kernel
theorem dX7_readText_22 : decode cX7_readText 22 = .ok (.putfield 15, 3) := by decide +kernel
theorem dX7_readText_25 : decode cX7_readText 25 = .ok (.iload_n 1, 1) := by decide +kernel
theorem dX7_readText_26 : decode cX7_readText 26 = .ok (.ifCond .eq 7, 3) := by decide +kernel
theorem dX7_readText_29 : decode cX7_readText 29 = .ok (.iconst (-1), 1) := by decide +kernel
theorem dX7_readText_30 : decode cX7_readText 30 = .ok (.goto 7, 3) := by decide +kernel
theorem dX7_readText_33 : decode cX7_readText 33 = .ok (.aload_n 0, 1) := by decide +kernel
theorem dX7_readText_34 : decode cX7_readText 34 = .ok (.getfield 19, 3) := by decide +kernel
theorem dX7_readText_37 : decode cX7_readText 37 = .ok (.ireturn, 1) := by decide +kernel
theorem dX7_blocksRead_0 : decode cX7_blocksRead 0 = .ok (.aload_n 0, 1) := by decide +kernel
theorem dX7_blocksRead_1 : decode cX7_blocksRead 1 = .ok (.getfield 35, 3) := by decide +kernel
theorem dX7_blocksRead_4 : decode cX7_blocksRead 4 = .ok (.anewarray 29, 3) := by decide +kernel
theorem dX7_blocksRead_7 : decode cX7_blocksRead 7 = .ok (.astore_n 1, 1) := by decide +kernel
theorem dX7_blocksRead_8 : decode cX7_blocksRead 8 = .ok (.iconst 0, 1) := by decide +kernel
theorem dX7_blocksRead_9 : decode cX7_blocksRead 9 = .ok (.istore_n 2, 1) := by decide +kernel
theorem dX7_blocksRead_10 : decode cX7_blocksRead 10 = .ok (.iload_n 2, 1) := by decide +kernel
theorem dX7_blocksRead_11 : decode cX7_blocksRead 11 = .ok (.aload_n 1, 1) := by decide +kernel
theorem dX7_blocksRead_12 : decode cX7_blocksRead 12 = .ok (.arraylength, 1) := by decide +kernel
theorem dX7_blocksRead_13 : decode cX7_blocksRead 13 = .ok (.if_icmp .ge 27, 3) := by decide +kernel
theorem dX7_blocksRead_16 : decode cX7_blocksRead 16 = .ok (.iload_n 2, 1) := by decide +kernel
theorem dX7_blocksRead_17 : decode cX7_blocksRead 17 = .ok (.aload_n 0, 1) := by decide +kernel
theorem dX7_blocksRead_18 : decode cX7_blocksRead 18 = .ok (.getfield 31, 3) := by decide +kernel
theorem dX7_blocksRead_21 : decode cX7_blocksRead 21 = .ok (.arraylength, 1) := by decide +kernel
theorem dX7_blocksRead_22 : decode cX7_blocksRead 22 = .ok (.if_icmp .ge 18, 3) := by decide +kernel
theorem dX7_blocksRead_25 : decode cX7_blocksRead 25 = .ok (.aload_n 1, 1) := by decide +kernel
theorem dX7_blocksRead_26 : decode cX7_blocksRead 26 = .ok (.iload_n 2, 1) := by decide +kernel
theorem dX7_blocksRead_27 : decode cX7_blocksRead 27 = .ok (.aload_n 0, 1) := by decide +kernel
theorem dX7_blocksRead_28 : decode cX7_blocksRead 28 = .ok (.getfield 31, 3) := by decide +kernel
theorem dX7_blocksRead_31 : decode cX7_blocksRead 31 = .ok (.iload_n 2, 1) := by decide +kernel
theorem dX7_blocksRead_32 : decode cX7_blocksRead 32 = .ok (.aaload, 1) := by decide +kernel
theorem dX7_blocksRead_33 : decode cX7_blocksRead 33 = .ok (.aastore, 1) := by decide +kernel
theorem dX7_blocksRead_34 : decode cX7_blocksRead 34 = .ok (.iinc 2 1, 3) := by decide +kernel
theorem dX7_blocksRead_37 : decode cX7_blocksRead 37 = .ok (.goto (-27), 3) := by decide +kernel
theorem dX7_blocksRead_40 : decode cX7_blocksRead 40 = .ok (.aload_n 1, 1) := by decide +kernel
theorem dX7_blocksRead_41 : decode cX7_blocksRead 41 = .ok (.areturn, 1) := by decide +kernel
theorem dX7_readBlocks_0 : decode cX7_readBlocks 0 = .ok (.iconst 0, 1) := by decide +kernel
theorem dX7_readBlocks_1 : decode cX7_readBlocks 1 = .ok (.istore_n 1, 1) := by decide +kernel
theorem dX7_readBlocks_2 : decode cX7_readBlocks 2 = .ok (.iload_n 1, 1) := by decide +kernel
theorem dX7_readBlocks_3 : decode cX7_readBlocks 3 = .ok (.bipush 50, 2) := by decide +kernel
theorem dX7_readBlocks_5 : decode cX7_readBlocks 5 = .ok (.if_icmp .ge 67, 3) := by decide +kernel
theorem dX7_readBlocks_8 : decode cX7_readBlocks 8 = .ok (.aload_n 0, 1) := by decide +kernel
theorem dX7_readBlocks_9 : decode cX7_readBlocks 9 = .ok (.invokevirtual 49, 3) := by decide +kernel
theorem dX7_readBlocks_12 : decode cX7_readBlocks 12 = .ok (.ifCond .eq 10, 3) := by decide +kernel
theorem dX7_readBlocks_15 : decode cX7_readBlocks 15 = .ok (.aload_n 0, 1) := by decide +kernel
theorem dX7_readBlocks_16 : decode cX7_readBlocks 16 = .ok (.invokevirtual 52, 3) := by decide +kernel
theorem dX7_readBlocks_19 : decode cX7_readBlocks 19 = .ok (.ifCond .ne 5, 3) := by decide +kernel
theorem dX7_readBlocks_22 : decode cX7_readBlocks 22 = .ok (.iconst 0, 1) := by decide +kernel
theorem dX7_readBlocks_23 : decode cX7_readBlocks 23 = .ok (.ireturn, 1) := by decide +kernel
theorem dX7_readBlocks_24 : decode cX7_readBlocks 24 = .ok (.aload_n 0, 1) := by decide +kernel
theorem dX7_readBlocks_25 : decode cX7_readBlocks 25 = .ok (.invokevirtual 55, 3) := by decide +kernel
theorem dX7_readBlocks_28 : decode cX7_readBlocks 28 = .ok (.aload_n 0, 1) := by decide +kernel
theorem dX7_readBlocks_29 : decode cX7_readBlocks 29 = .ok (.getfield 42, 3) := by decide +kernel
theorem dX7_readBlocks_32 : decode cX7_readBlocks 32 = .ok (.ifCond .ne 16, 3) := by decide +kernel
theorem dX7_readBlocks_35 : decode cX7_readBlocks 35 = .ok (.aload_n 0, 1) := by decide +kernel
theorem dX7_readBlocks_36 : decode cX7_readBlocks 36 = .ok (.getfield 19, 3) := by decide +kernel
theorem dX7_readBlocks_39 : decode cX7_readBlocks 39 = .ok (.aload_n 0, 1) := by decide +kernel
theorem dX7_readBlocks_40 : decode cX7_readBlocks 40 = .ok (.getfield 15, 3) := by decide +kernel
theorem dX7_readBlocks_43 : decode cX7_readBlocks 43 = .ok (.if_icmp .lt 5, 3) := by decide +kernel
theorem dX7_readBlocks_46 : decode cX7_readBlocks 46 = .ok (.iconst 1, 1) := by decide +kernel
theorem dX7_readBlocks_47 : decode cX7_readBlocks 47 = .ok (.ireturn, 1) := by decide +kernel
theorem dX7_readBlocks_48 : decode cX7_readBlocks 48 = .ok (.aload_n 0, 1) := by decide +kernel
theorem dX7_readBlocks_49 : decode cX7_readBlocks 49 = .ok (.getfield 42, 3) := by decide +kernel
theorem dX7_readBlocks_52 : decode cX7_readBlocks 52 = .ok (.ifCond .le 14, 3) := by decide +kernel
theorem dX7_readBlocks_55 : decode cX7_readBlocks 55 = .ok (.aload_n 0, 1) := by decide +kernel
theorem dX7_readBlocks_56 : decode cX7_readBlocks 56 = .ok (.bipush 44, 2) := by decide +kernel
theorem dX7_readBlocks_58 : decode cX7_readBlocks 58 = .ok (.invokevirtual 58, 3) := by decide +kernel
theorem dX7_readBlocks_61 : decode cX7_readBlocks 61 = .ok (.ifCond .ne 5, 3) := by decide +kernel
theorem dX7_readBlocks_64 : decode cX7_readBlocks 64 = .ok (.iconst 0, 1) := by decide +kernel
theorem dX7_readBlocks_65 : decode cX7_readBlocks 65 = .ok (.ireturn, 1) := by decide +kernel
theorem dX7_readBlocks_66 : decode cX7_readBlocks 66 = .ok (.iinc 1 1, 3) := by decide +kernel
theorem dX7_readBlocks_69 : decode cX7_readBlocks 69 = .ok (.goto (-67), 3) := by decide +kernel
theorem dX7_readBlocks_72 : decode cX7_readBlocks 72 = .ok (.iconst 0, 1) := by decide +kernel
theorem dX7_readBlocks_73 : decode cX7_readBlocks 73 = .ok (.ireturn, 1) := by decide +kernel
theorem dX7_readOpenings_0 : decode cX7_readOpenings 0 = .ok (.iconst 0, 1) := by decide +kernel
theorem dX7_readOpenings_1 : decode cX7_readOpenings 1 = .ok (.istore_n 1, 1) := by decide +kernel
theorem dX7_readOpenings_2 : decode cX7_readOpenings 2 = .ok (.iload_n 1, 1) := by decide +kernel
theorem dX7_readOpenings_3 : decode cX7_readOpenings 3 = .ok (.iconst 3, 1) := by decide +kernel
theorem dX7_readOpenings_4 : decode cX7_readOpenings 4 = .ok (.if_icmp .gt 119, 3) := by decide +kernel
theorem dX7_readOpenings_7 : decode cX7_readOpenings 7 = .ok (.aload_n 0, 1) := by decide +kernel
theorem dX7_readOpenings_8 : decode cX7_readOpenings 8 = .ok (.invokevirtual 62, 3) := by decide +kernel
theorem dX7_readOpenings_11 : decode cX7_readOpenings 11 = .ok (.bipush 91, 2) := by decide +kernel
theorem dX7_readOpenings_13 : decode cX7_readOpenings 13 = .ok (.if_icmp .ne 110, 3) := by decide +kernel
theorem dX7_readOpenings_16 : decode cX7_readOpenings 16 = .ok (.aload_n 0, 1) := by decide +kernel
theorem dX7_readOpenings_17 : decode cX7_readOpenings 17 = .ok (.getfield 42, 3) := by decide +kernel
theorem dX7_readOpenings_20 : decode cX7_readOpenings 20 = .ok (.aload_n 0, 1) := by decide +kernel
theorem dX7_readOpenings_21 : decode cX7_readOpenings 21 = .ok (.getfield 38, 3) := by decide +kernel
theorem dX7_readOpenings_24 : decode cX7_readOpenings 24 = .ok (.arraylength, 1) := by decide +kernel
theorem dX7_readOpenings_25 : decode cX7_readOpenings 25 = .ok (.if_icmp .lt 5, 3) := by decide +kernel
theorem dX7_readOpenings_28 : decode cX7_readOpenings 28 = .ok (.iconst 0, 1) := by decide +kernel
theorem dX7_readOpenings_29 : decode cX7_readOpenings 29 = .ok (.ireturn, 1) := by decide +kernel
theorem dX7_readOpenings_30 : decode cX7_readOpenings 30 = .ok (.aload_n 0, 1) := by decide +kernel
theorem dX7_readOpenings_31 : decode cX7_readOpenings 31 = .ok (.dup, 1) := by decide +kernel
theorem dX7_readOpenings_32 : decode cX7_readOpenings 32 = .ok (.getfield 19, 3) := by decide +kernel
theorem dX7_readOpenings_35 : decode cX7_readOpenings 35 = .ok (.iconst 1, 1) := by decide +kernel
theorem dX7_readOpenings_36 : decode cX7_readOpenings 36 = .ok (.iadd, 1) := by decide +kernel
theorem dX7_readOpenings_37 : decode cX7_readOpenings 37 = .ok (.putfield 19, 3) := by decide +kernel
theorem dX7_readOpenings_40 : decode cX7_readOpenings 40 = .ok (.aload_n 0, 1) := by decide +kernel
theorem dX7_readOpenings_41 : decode cX7_readOpenings 41 = .ok (.invokevirtual 62, 3) := by decide +kernel
theorem dX7_readOpenings_44 : decode cX7_readOpenings 44 = .ok (.istore_n 2, 1) := by decide +kernel
theorem dX7_readOpenings_45 : decode cX7_readOpenings 45 = .ok (.iload_n 2, 1) := by decide +kernel
theorem dX7_readOpenings_46 : decode cX7_readOpenings 46 = .ok (.bipush 49, 2) := by decide +kernel
theorem dX7_readOpenings_48 : decode cX7_readOpenings 48 = .ok (.if_icmp .lt 9, 3) := by decide +kernel
theorem dX7_readOpenings_51 : decode cX7_readOpenings 51 = .ok (.iload_n 2, 1) := by decide +kernel
theorem dX7_readOpenings_52 : decode cX7_readOpenings 52 = .ok (.bipush 57, 2) := by decide +kernel
theorem dX7_readOpenings_54 : decode cX7_readOpenings 54 = .ok (.if_icmp .le 5, 3) := by decide +kernel
theorem dX7_readOpenings_57 : decode cX7_readOpenings 57 = .ok (.iconst 0, 1) := by decide +kernel
theorem dX7_readOpenings_58 : decode cX7_readOpenings 58 = .ok (.ireturn, 1) := by decide +kernel
theorem dX7_readOpenings_59 : decode cX7_readOpenings 59 = .ok (.aload_n 0, 1) := by decide +kernel
theorem dX7_readOpenings_60 : decode cX7_readOpenings 60 = .ok (.dup, 1) := by decide +kernel
theorem dX7_readOpenings_61 : decode cX7_readOpenings 61 = .ok (.getfield 19, 3) := by decide +kernel
theorem dX7_readOpenings_64 : decode cX7_readOpenings 64 = .ok (.iconst 1, 1) := by decide +kernel
theorem dX7_readOpenings_65 : decode cX7_readOpenings 65 = .ok (.iadd, 1) := by decide +kernel
theorem dX7_readOpenings_66 : decode cX7_readOpenings 66 = .ok (.putfield 19, 3) := by decide +kernel
theorem dX7_readOpenings_69 : decode cX7_readOpenings 69 = .ok (.aload_n 0, 1) := by decide +kernel
theorem dX7_readOpenings_70 : decode cX7_readOpenings 70 = .ok (.bipush 58, 2) := by decide +kernel
theorem dX7_readOpenings_72 : decode cX7_readOpenings 72 = .ok (.invokevirtual 58, 3) := by decide +kernel
theorem dX7_readOpenings_75 : decode cX7_readOpenings 75 = .ok (.ifCond .ne 5, 3) := by decide +kernel
theorem dX7_readOpenings_78 : decode cX7_readOpenings 78 = .ok (.iconst 0, 1) := by decide +kernel
theorem dX7_readOpenings_79 : decode cX7_readOpenings 79 = .ok (.ireturn, 1) := by decide +kernel
theorem dX7_readOpenings_80 : decode cX7_readOpenings 80 = .ok (.aload_n 0, 1) := by decide +kernel
theorem dX7_readOpenings_81 : decode cX7_readOpenings 81 = .ok (.getfield 35, 3) := by decide +kernel
theorem dX7_readOpenings_84 : decode cX7_readOpenings 84 = .ok (.istore_n 3, 1) := by decide +kernel
theorem dX7_readOpenings_85 : decode cX7_readOpenings 85 = .ok (.aload_n 0, 1) := by decide +kernel
theorem dX7_readOpenings_86 : decode cX7_readOpenings 86 = .ok (.ldc 66, 2) := by decide +kernel
theorem dX7_readOpenings_88 : decode cX7_readOpenings 88 = .ok (.iload_n 2, 1) := by decide +kernel
theorem dX7_readOpenings_89 : decode cX7_readOpenings 89 = .ok (.bipush 48, 2) := by decide +kernel
theorem dX7_readOpenings_91 : decode cX7_readOpenings 91 = .ok (.isub, 1) := by decide +kernel
theorem dX7_readOpenings_92 : decode cX7_readOpenings 92 = .ok (.iconst (-1), 1) := by decide +kernel
theorem dX7_readOpenings_93 : decode cX7_readOpenings 93 = .ok (.iconst (-1), 1) := by decide +kernel
theorem dX7_readOpenings_94 : decode cX7_readOpenings 94 = .ok (.invokevirtual 68, 3) := by decide +kernel
theorem dX7_readOpenings_97 : decode cX7_readOpenings 97 = .ok (.aload_n 0, 1) := by decide +kernel
theorem dX7_readOpenings_98 : decode cX7_readOpenings 98 = .ok (.getfield 38, 3) := by decide +kernel
theorem dX7_readOpenings_101 : decode cX7_readOpenings 101 = .ok (.aload_n 0, 1) := by decide +kernel
theorem dX7_readOpenings_102 : decode cX7_readOpenings 102 = .ok (.getfield 42, 3) := by decide +kernel
theorem dX7_readOpenings_105 : decode cX7_readOpenings 105 = .ok (.iload_n 3, 1) := by decide +kernel
theorem dX7_readOpenings_106 : decode cX7_readOpenings 106 = .ok (.iastore, 1) := by decide +kernel
theorem dX7_readOpenings_107 : decode cX7_readOpenings 107 = .ok (.aload_n 0, 1) := by decide +kernel
theorem dX7_readOpenings_108 : decode cX7_readOpenings 108 = .ok (.dup, 1) := by decide +kernel
theorem dX7_readOpenings_109 : decode cX7_readOpenings 109 = .ok (.getfield 42, 3) := by decide +kernel
theorem dX7_readOpenings_112 : decode cX7_readOpenings 112 = .ok (.iconst 1, 1) := by decide +kernel
theorem dX7_readOpenings_113 : decode cX7_readOpenings 113 = .ok (.iadd, 1) := by decide +kernel
theorem dX7_readOpenings_114 : decode cX7_readOpenings 114 = .ok (.putfield 42, 3) := by decide +kernel
theorem dX7_readOpenings_117 : decode cX7_readOpenings 117 = .ok (.iinc 1 1, 3) := by decide +kernel
theorem dX7_readOpenings_120 : decode cX7_readOpenings 120 = .ok (.goto (-118), 3) := by decide +kernel
theorem dX7_readOpenings_123 : decode cX7_readOpenings 123 = .ok (.iconst 1, 1) := by decide +kernel
theorem dX7_readOpenings_124 : decode cX7_readOpenings 124 = .ok (.ireturn, 1) := by decide +kernel
theorem dX7_readClosings_0 : decode cX7_readClosings 0 = .ok (.iconst 0, 1) := by decide +kernel
theorem dX7_readClosings_1 : decode cX7_readClosings 1 = .ok (.istore_n 1, 1) := by decide +kernel
theorem dX7_readClosings_2 : decode cX7_readClosings 2 = .ok (.iload_n 1, 1) := by decide +kernel
theorem dX7_readClosings_3 : decode cX7_readClosings 3 = .ok (.iconst 3, 1) := by decide +kernel
theorem dX7_readClosings_4 : decode cX7_readClosings 4 = .ok (.if_icmp .ge 45, 3) := by decide +kernel
theorem dX7_readClosings_7 : decode cX7_readClosings 7 = .ok (.aload_n 0, 1) := by decide +kernel
theorem dX7_readClosings_8 : decode cX7_readClosings 8 = .ok (.getfield 42, 3) := by decide +kernel
theorem dX7_readClosings_11 : decode cX7_readClosings 11 = .ok (.ifCond .le 38, 3) := by decide +kernel
theorem dX7_readClosings_14 : decode cX7_readClosings 14 = .ok (.aload_n 0, 1) := by decide +kernel
theorem dX7_readClosings_15 : decode cX7_readClosings 15 = .ok (.invokevirtual 62, 3) := by decide +kernel
theorem dX7_readClosings_18 : decode cX7_readClosings 18 = .ok (.bipush 93, 2) := by decide +kernel
theorem dX7_readClosings_20 : decode cX7_readClosings 20 = .ok (.if_icmp .ne 29, 3) := by decide +kernel
theorem dX7_readClosings_23 : decode cX7_readClosings 23 = .ok (.aload_n 0, 1) := by decide +kernel
theorem dX7_readClosings_24 : decode cX7_readClosings 24 = .ok (.dup, 1) := by decide +kernel
theorem dX7_readClosings_25 : decode cX7_readClosings 25 = .ok (.getfield 19, 3) := by decide +kernel
theorem dX7_readClosings_28 : decode cX7_readClosings 28 = .ok (.iconst 1, 1) := by decide +kernel
theorem dX7_readClosings_29 : decode cX7_readClosings 29 = .ok (.iadd, 1) := by decide +kernel
theorem dX7_readClosings_30 : decode cX7_readClosings 30 = .ok (.putfield 19, 3) := by decide +kernel
theorem dX7_readClosings_33 : decode cX7_readClosings 33 = .ok (.aload_n 0, 1) := by decide +kernel
theorem dX7_readClosings_34 : decode cX7_readClosings 34 = .ok (.dup, 1) := by decide +kernel
theorem dX7_readClosings_35 : decode cX7_readClosings 35 = .ok (.getfield 42, 3) := by decide +kernel
theorem dX7_readClosings_38 : decode cX7_readClosings 38 = .ok (.iconst 1, 1) := by decide +kernel
theorem dX7_readClosings_39 : decode cX7_readClosings 39 = .ok (.isub, 1) := by decide +kernel
theorem dX7_readClosings_40 : decode cX7_readClosings 40 = .ok (.putfield 42, 3) := by decide +kernel
theorem dX7_readClosings_43 : decode cX7_readClosings 43 = .ok (.iinc 1 1, 3) := by decide +kernel
theorem dX7_readClosings_46 : decode cX7_readClosings 46 = .ok (.goto (-44), 3) := by decide +kernel
theorem dX7_readClosings_49 : decode cX7_readClosings 49 = .ok (.return_, 1) := by decide +kernel
theorem dX7_readLeaf_0 : decode cX7_readLeaf 0 = .ok (.aload_n 0, 1) := by decide +kernel
theorem dX7_readLeaf_1 : decode cX7_readLeaf 1 = .ok (.invokevirtual 72, 3) := by decide +kernel
theorem dX7_readLeaf_4 : decode cX7_readLeaf 4 = .ok (.astore_n 1, 1) := by decide +kernel
theorem dX7_readLeaf_5 : decode cX7_readLeaf 5 = .ok (.aload_n 1, 1) := by decide +kernel
theorem dX7_readLeaf_6 : decode cX7_readLeaf 6 = .ok (.invokevirtual 76, 3) := by decide +kernel
theorem dX7_readLeaf_9 : decode cX7_readLeaf 9 = .ok (.ifCond .eq 5, 3) := by decide +kernel
theorem dX7_readLeaf_12 : decode cX7_readLeaf 12 = .ok (.iconst 0, 1) := by decide +kernel
theorem dX7_readLeaf_13 : decode cX7_readLeaf 13 = .ok (.ireturn, 1) := by decide +kernel
theorem dX7_readLeaf_14 : decode cX7_readLeaf 14 = .ok (.aload_n 0, 1) := by decide +kernel
theorem dX7_readLeaf_15 : decode cX7_readLeaf 15 = .ok (.invokevirtual 81, 3) := by decide +kernel
theorem dX7_readLeaf_18 : decode cX7_readLeaf 18 = .ok (.istore_n 2, 1) := by decide +kernel
theorem dX7_readLeaf_19 : decode cX7_readLeaf 19 = .ok (.iload_n 2, 1) := by decide +kernel
theorem dX7_readLeaf_20 : decode cX7_readLeaf 20 = .ok (.iconst (-1), 1) := by decide +kernel
theorem dX7_readLeaf_21 : decode cX7_readLeaf 21 = .ok (.if_icmp .ne 5, 3) := by decide +kernel
theorem dX7_readLeaf_24 : decode cX7_readLeaf 24 = .ok (.iconst 0, 1) := by decide +kernel
theorem dX7_readLeaf_25 : decode cX7_readLeaf 25 = .ok (.ireturn, 1) := by decide +kernel
theorem dX7_readLeaf_26 : decode cX7_readLeaf 26 = .ok (.aload_n 0, 1) := by decide +kernel
theorem dX7_readLeaf_27 : decode cX7_readLeaf 27 = .ok (.bipush 60, 2) := by decide +kernel
theorem dX7_readLeaf_29 : decode cX7_readLeaf 29 = .ok (.invokevirtual 58, 3) := by decide +kernel
theorem dX7_readLeaf_32 : decode cX7_readLeaf 32 = .ok (.ifCond .eq 10, 3) := by decide +kernel
theorem dX7_readLeaf_35 : decode cX7_readLeaf 35 = .ok (.aload_n 0, 1) := by decide +kernel
theorem dX7_readLeaf_36 : decode cX7_readLeaf 36 = .ok (.invokevirtual 81, 3) := by decide +kernel
theorem dX7_readLeaf_39 : decode cX7_readLeaf 39 = .ok (.goto 5, 3) := by decide +kernel
theorem dX7_readLeaf_42 : decode cX7_readLeaf 42 = .ok (.bipush 60, 2) := by decide +kernel
theorem dX7_readLeaf_44 : decode cX7_readLeaf 44 = .ok (.istore_n 3, 1) := by decide +kernel
theorem dX7_readLeaf_45 : decode cX7_readLeaf 45 = .ok (.iload_n 3, 1) := by decide +kernel
theorem dX7_readLeaf_46 : decode cX7_readLeaf 46 = .ok (.iconst (-1), 1) := by decide +kernel
theorem dX7_readLeaf_47 : decode cX7_readLeaf 47 = .ok (.if_icmp .ne 5, 3) := by decide +kernel
theorem dX7_readLeaf_50 : decode cX7_readLeaf 50 = .ok (.iconst 0, 1) := by decide +kernel
theorem dX7_readLeaf_51 : decode cX7_readLeaf 51 = .ok (.ireturn, 1) := by decide +kernel
theorem dX7_readLeaf_52 : decode cX7_readLeaf 52 = .ok (.aload_n 0, 1) := by decide +kernel
theorem dX7_readLeaf_53 : decode cX7_readLeaf 53 = .ok (.bipush 62, 2) := by decide +kernel
theorem dX7_readLeaf_55 : decode cX7_readLeaf 55 = .ok (.invokevirtual 58, 3) := by decide +kernel
theorem dX7_readLeaf_58 : decode cX7_readLeaf 58 = .ok (.ifCond .eq 10, 3) := by decide +kernel
theorem dX7_readLeaf_61 : decode cX7_readLeaf 61 = .ok (.aload_n 0, 1) := by decide +kernel
theorem dX7_readLeaf_62 : decode cX7_readLeaf 62 = .ok (.invokevirtual 81, 3) := by decide +kernel
theorem dX7_readLeaf_65 : decode cX7_readLeaf 65 = .ok (.goto 5, 3) := by decide +kernel
theorem dX7_readLeaf_68 : decode cX7_readLeaf 68 = .ok (.bipush 10, 2) := by decide +kernel
theorem dX7_readLeaf_70 : decode cX7_readLeaf 70 = .ok (.istore 4, 2) := by decide +kernel
theorem dX7_readLeaf_72 : decode cX7_readLeaf 72 = .ok (.iload 4, 2) := by decide +kernel
theorem dX7_readLeaf_74 : decode cX7_readLeaf 74 = .ok (.iconst (-1), 1) := by decide +kernel
theorem dX7_readLeaf_75 : decode cX7_readLeaf 75 = .ok (.if_icmp .ne 5, 3) := by decide +kernel
theorem dX7_readLeaf_78 : decode cX7_readLeaf 78 = .ok (.iconst 0, 1) := by decide +kernel
theorem dX7_readLeaf_79 : decode cX7_readLeaf 79 = .ok (.ireturn, 1) := by decide +kernel
theorem dX7_readLeaf_80 : decode cX7_readLeaf 80 = .ok (.aload_n 0, 1) := by decide +kernel
theorem dX7_readLeaf_81 : decode cX7_readLeaf 81 = .ok (.aload_n 1, 1) := by decide +kernel
theorem dX7_readLeaf_82 : decode cX7_readLeaf 82 = .ok (.iload_n 2, 1) := by decide +kernel
theorem dX7_readLeaf_83 : decode cX7_readLeaf 83 = .ok (.iload_n 3, 1) := by decide +kernel
theorem dX7_readLeaf_84 : decode cX7_readLeaf 84 = .ok (.iload 4, 2) := by decide +kernel
theorem dX7_readLeaf_86 : decode cX7_readLeaf 86 = .ok (.invokevirtual 68, 3) := by decide +kernel
theorem dX7_readLeaf_89 : decode cX7_readLeaf 89 = .ok (.iconst 1, 1) := by decide +kernel
theorem dX7_readLeaf_90 : decode cX7_readLeaf 90 = .ok (.ireturn, 1) := by decide +kernel
theorem dX7_readLetters_0 : decode cX7_readLetters 0 = .ok (.aload_n 0, 1) := by decide +kernel
theorem dX7_readLetters_1 : decode cX7_readLetters 1 = .ok (.getfield 25, 3) := by decide +kernel
theorem dX7_readLetters_4 : decode cX7_readLetters 4 = .ok (.iconst 0, 1) := by decide +kernel
theorem dX7_readLetters_5 : decode cX7_readLetters 5 = .ok (.invokevirtual 85, 3) := by decide +kernel
theorem dX7_readLetters_8 : decode cX7_readLetters 8 = .ok (.iconst 0, 1) := by decide +kernel
theorem dX7_readLetters_9 : decode cX7_readLetters 9 = .ok (.istore_n 1, 1) := by decide +kernel
theorem dX7_readLetters_10 : decode cX7_readLetters 10 = .ok (.iload_n 1, 1) := by decide +kernel
theorem dX7_readLetters_11 : decode cX7_readLetters 11 = .ok (.iconst 5, 1) := by decide +kernel
theorem dX7_readLetters_12 : decode cX7_readLetters 12 = .ok (.if_icmp .ge 52, 3) := by decide +kernel
theorem dX7_readLetters_15 : decode cX7_readLetters 15 = .ok (.aload_n 0, 1) := by decide +kernel
theorem dX7_readLetters_16 : decode cX7_readLetters 16 = .ok (.invokevirtual 62, 3) := by decide +kernel
theorem dX7_readLetters_19 : decode cX7_readLetters 19 = .ok (.invokestatic 89, 3) := by decide +kernel
theorem dX7_readLetters_22 : decode cX7_readLetters 22 = .ok (.ifCond .eq 42, 3) := by decide +kernel
theorem dX7_readLetters_25 : decode cX7_readLetters 25 = .ok (.aload_n 0, 1) := by decide +kernel
theorem dX7_readLetters_26 : decode cX7_readLetters 26 = .ok (.aload_n 0, 1) := by decide +kernel
theorem dX7_readLetters_27 : decode cX7_readLetters 27 = .ok (.invokevirtual 62, 3) := by decide +kernel
theorem dX7_readLetters_30 : decode cX7_readLetters 30 = .ok (.invokevirtual 92, 3) := by decide +kernel
theorem dX7_readLetters_33 : decode cX7_readLetters 33 = .ok (.ifCond .ne 31, 3) := by decide +kernel
theorem dX7_readLetters_36 : decode cX7_readLetters 36 = .ok (.aload_n 0, 1) := by decide +kernel
theorem dX7_readLetters_37 : decode cX7_readLetters 37 = .ok (.getfield 25, 3) := by decide +kernel
theorem dX7_readLetters_40 : decode cX7_readLetters 40 = .ok (.aload_n 0, 1) := by decide +kernel
theorem dX7_readLetters_41 : decode cX7_readLetters 41 = .ok (.invokevirtual 62, 3) := by decide +kernel
theorem dX7_readLetters_44 : decode cX7_readLetters 44 = .ok (.invokevirtual 95, 3) := by decide +kernel
theorem dX7_readLetters_47 : decode cX7_readLetters 47 = .ok (.pop, 1) := by decide +kernel
theorem dX7_readLetters_48 : decode cX7_readLetters 48 = .ok (.aload_n 0, 1) := by decide +kernel
theorem dX7_readLetters_49 : decode cX7_readLetters 49 = .ok (.dup, 1) := by decide +kernel
theorem dX7_readLetters_50 : decode cX7_readLetters 50 = .ok (.getfield 19, 3) := by decide +kernel
theorem dX7_readLetters_53 : decode cX7_readLetters 53 = .ok (.iconst 1, 1) := by decide +kernel
theorem dX7_readLetters_54 : decode cX7_readLetters 54 = .ok (.iadd, 1) := by decide +kernel
theorem dX7_readLetters_55 : decode cX7_readLetters 55 = .ok (.putfield 19, 3) := by decide +kernel
theorem dX7_readLetters_58 : decode cX7_readLetters 58 = .ok (.iinc 1 1, 3) := by decide +kernel
theorem dX7_readLetters_61 : decode cX7_readLetters 61 = .ok (.goto (-51), 3) := by decide +kernel
theorem dX7_readLetters_64 : decode cX7_readLetters 64 = .ok (.aload_n 0, 1) := by decide +kernel
theorem dX7_readLetters_65 : decode cX7_readLetters 65 = .ok (.getfield 25, 3) := by decide +kernel
theorem dX7_readLetters_68 : decode cX7_readLetters 68 = .ok (.invokevirtual 99, 3) := by decide +kernel
theorem dX7_readLetters_71 : decode cX7_readLetters 71 = .ok (.areturn, 1) := by decide +kernel
theorem dX7_isTaken_0 : decode cX7_isTaken 0 = .ok (.iconst 0, 1) := by decide +kernel
theorem dX7_isTaken_1 : decode cX7_isTaken 1 = .ok (.istore_n 2, 1) := by decide +kernel
theorem dX7_isTaken_2 : decode cX7_isTaken 2 = .ok (.iload_n 2, 1) := by decide +kernel
theorem dX7_isTaken_3 : decode cX7_isTaken 3 = .ok (.aload_n 0, 1) := by decide +kernel
theorem dX7_isTaken_4 : decode cX7_isTaken 4 = .ok (.getfield 25, 3) := by decide +kernel
theorem dX7_isTaken_7 : decode cX7_isTaken 7 = .ok (.invokevirtual 102, 3) := by decide +kernel
theorem dX7_isTaken_10 : decode cX7_isTaken 10 = .ok (.if_icmp .ge 23, 3) := by decide +kernel
theorem dX7_isTaken_13 : decode cX7_isTaken 13 = .ok (.aload_n 0, 1) := by decide +kernel
theorem dX7_isTaken_14 : decode cX7_isTaken 14 = .ok (.getfield 25, 3) := by decide +kernel
theorem dX7_isTaken_17 : decode cX7_isTaken 17 = .ok (.iload_n 2, 1) := by decide +kernel
theorem dX7_isTaken_18 : decode cX7_isTaken 18 = .ok (.invokevirtual 104, 3) := by decide +kernel
theorem dX7_isTaken_21 : decode cX7_isTaken 21 = .ok (.iload_n 1, 1) := by decide +kernel
theorem dX7_isTaken_22 : decode cX7_isTaken 22 = .ok (.if_icmp .ne 5, 3) := by decide +kernel
theorem dX7_isTaken_25 : decode cX7_isTaken 25 = .ok (.iconst 1, 1) := by decide +kernel
theorem dX7_isTaken_26 : decode cX7_isTaken 26 = .ok (.ireturn, 1) := by decide +kernel
theorem dX7_isTaken_27 : decode cX7_isTaken 27 = .ok (.iinc 2 1, 3) := by decide +kernel
theorem dX7_isTaken_30 : decode cX7_isTaken 30 = .ok (.goto (-28), 3) := by decide +kernel
theorem dX7_isTaken_33 : decode cX7_isTaken 33 = .ok (.iconst 0, 1) := by decide +kernel
theorem dX7_isTaken_34 : decode cX7_isTaken 34 = .ok (.ireturn, 1) := by decide +kernel
theorem dX7_readNumber_0 : decode cX7_readNumber 0 = .ok (.aload_n 0, 1) := by decide +kernel
theorem dX7_readNumber_1 : decode cX7_readNumber 1 = .ok (.invokevirtual 62, 3) := by decide +kernel
theorem dX7_readNumber_4 : decode cX7_readNumber 4 = .ok (.istore_n 1, 1) := by decide +kernel
theorem dX7_readNumber_5 : decode cX7_readNumber 5 = .ok (.iload_n 1, 1) := by decide +kernel
theorem dX7_readNumber_6 : decode cX7_readNumber 6 = .ok (.invokestatic 108, 3) := by decide +kernel
theorem dX7_readNumber_9 : decode cX7_readNumber 9 = .ok (.ifCond .ne 5, 3) := by decide +kernel
theorem dX7_readNumber_12 : decode cX7_readNumber 12 = .ok (.iconst (-1), 1) := by decide +kernel
theorem dX7_readNumber_13 : decode cX7_readNumber 13 = .ok (.ireturn, 1) := by decide +kernel
theorem dX7_readNumber_14 : decode cX7_readNumber 14 = .ok (.aload_n 0, 1) := by decide +kernel
theorem dX7_readNumber_15 : decode cX7_readNumber 15 = .ok (.dup, 1) := by decide +kernel
theorem dX7_readNumber_16 : decode cX7_readNumber 16 = .ok (.getfield 19, 3) := by decide +kernel
theorem dX7_readNumber_19 : decode cX7_readNumber 19 = .ok (.iconst 1, 1) := by decide +kernel
theorem dX7_readNumber_20 : decode cX7_readNumber 20 = .ok (.iadd, 1) := by decide +kernel
theorem dX7_readNumber_21 : decode cX7_readNumber 21 = .ok (.putfield 19, 3) := by decide +kernel
theorem dX7_readNumber_24 : decode cX7_readNumber 24 = .ok (.aload_n 0, 1) := by decide +kernel
theorem dX7_readNumber_25 : decode cX7_readNumber 25 = .ok (.invokevirtual 62, 3) := by decide +kernel
theorem dX7_readNumber_28 : decode cX7_readNumber 28 = .ok (.istore_n 2, 1) := by decide +kernel
theorem dX7_readNumber_29 : decode cX7_readNumber 29 = .ok (.iload_n 1, 1) := by decide +kernel
theorem dX7_readNumber_30 : decode cX7_readNumber 30 = .ok (.bipush 48, 2) := by decide +kernel
theorem dX7_readNumber_32 : decode cX7_readNumber 32 = .ok (.if_icmp .eq 10, 3) := by decide +kernel
theorem dX7_readNumber_35 : decode cX7_readNumber 35 = .ok (.iload_n 2, 1) := by decide +kernel
theorem dX7_readNumber_36 : decode cX7_readNumber 36 = .ok (.invokestatic 108, 3) := by decide +kernel
theorem dX7_readNumber_39 : decode cX7_readNumber 39 = .ok (.ifCond .ne 8, 3) := by decide +kernel
theorem dX7_readNumber_42 : decode cX7_readNumber 42 = .ok (.iload_n 1, 1) := by decide +kernel
theorem dX7_readNumber_43 : decode cX7_readNumber 43 = .ok (.bipush 48, 2) := by decide +kernel
theorem dX7_readNumber_45 : decode cX7_readNumber 45 = .ok (.isub, 1) := by decide +kernel
theorem dX7_readNumber_46 : decode cX7_readNumber 46 = .ok (.ireturn, 1) := by decide +kernel
theorem dX7_readNumber_47 : decode cX7_readNumber 47 = .ok (.aload_n 0, 1) := by decide +kernel
theorem dX7_readNumber_48 : decode cX7_readNumber 48 = .ok (.dup, 1) := by decide +kernel
theorem dX7_readNumber_49 : decode cX7_readNumber 49 = .ok (.getfield 19, 3) := by decide +kernel
theorem dX7_readNumber_52 : decode cX7_readNumber 52 = .ok (.iconst 1, 1) := by decide +kernel
theorem dX7_readNumber_53 : decode cX7_readNumber 53 = .ok (.iadd, 1) := by decide +kernel
theorem dX7_readNumber_54 : decode cX7_readNumber 54 = .ok (.putfield 19, 3) := by decide +kernel
theorem dX7_readNumber_57 : decode cX7_readNumber 57 = .ok (.iload_n 1, 1) := by decide +kernel
theorem dX7_readNumber_58 : decode cX7_readNumber 58 = .ok (.bipush 48, 2) := by decide +kernel
theorem dX7_readNumber_60 : decode cX7_readNumber 60 = .ok (.isub, 1) := by decide +kernel
theorem dX7_readNumber_61 : decode cX7_readNumber 61 = .ok (.bipush 10, 2) := by decide +kernel
theorem dX7_readNumber_63 : decode cX7_readNumber 63 = .ok (.imul, 1) := by decide +kernel
theorem dX7_readNumber_64 : decode cX7_readNumber 64 = .ok (.iload_n 2, 1) := by decide +kernel
theorem dX7_readNumber_65 : decode cX7_readNumber 65 = .ok (.bipush 48, 2) := by decide +kernel
theorem dX7_readNumber_67 : decode cX7_readNumber 67 = .ok (.isub, 1) := by decide +kernel
theorem dX7_readNumber_68 : decode cX7_readNumber 68 = .ok (.iadd, 1) := by decide +kernel
theorem dX7_readNumber_69 : decode cX7_readNumber 69 = .ok (.ireturn, 1) := by decide +kernel
theorem dX7_take_0 : decode cX7_take 0 = .ok (.aload_n 0, 1) := by decide +kernel
theorem dX7_take_1 : decode cX7_take 1 = .ok (.invokevirtual 62, 3) := by decide +kernel
theorem dX7_take_4 : decode cX7_take 4 = .ok (.iload_n 1, 1) := by decide +kernel
theorem dX7_take_5 : decode cX7_take 5 = .ok (.if_icmp .eq 5, 3) := by decide +kernel
theorem dX7_take_8 : decode cX7_take 8 = .ok (.iconst 0, 1) := by decide +kernel
theorem dX7_take_9 : decode cX7_take 9 = .ok (.ireturn, 1) := by decide +kernel
theorem dX7_take_10 : decode cX7_take 10 = .ok (.aload_n 0, 1) := by decide +kernel
theorem dX7_take_11 : decode cX7_take 11 = .ok (.dup, 1) := by decide +kernel
theorem dX7_take_12 : decode cX7_take 12 = .ok (.getfield 19, 3) := by decide +kernel
theorem dX7_take_15 : decode cX7_take 15 = .ok (.iconst 1, 1) := by decide +kernel
theorem dX7_take_16 : decode cX7_take 16 = .ok (.iadd, 1) := by decide +kernel
theorem dX7_take_17 : decode cX7_take 17 = .ok (.putfield 19, 3) := by decide +kernel
theorem dX7_take_20 : decode cX7_take 20 = .ok (.iconst 1, 1) := by decide +kernel
theorem dX7_take_21 : decode cX7_take 21 = .ok (.ireturn, 1) := by decide +kernel
theorem dX7_sign_0 : decode cX7_sign 0 = .ok (.aload_n 0, 1) := by decide +kernel
theorem dX7_sign_1 : decode cX7_sign 1 = .ok (.getfield 19, 3) := by decide +kernel
theorem dX7_sign_4 : decode cX7_sign 4 = .ok (.ifCond .lt 38, 3) := by decide +kernel
theorem dX7_sign_7 : decode cX7_sign 7 = .ok (.aload_n 0, 1) := by decide +kernel
theorem dX7_sign_8 : decode cX7_sign 8 = .ok (.getfield 19, 3) := by decide +kernel
theorem dX7_sign_11 : decode cX7_sign 11 = .ok (.aload_n 0, 1) := by decide +kernel
theorem dX7_sign_12 : decode cX7_sign 12 = .ok (.getfield 15, 3) := by decide +kernel
theorem dX7_sign_15 : decode cX7_sign 15 = .ok (.if_icmp .ge 27, 3) := by decide +kernel
theorem dX7_sign_18 : decode cX7_sign 18 = .ok (.aload_n 0, 1) := by decide +kernel
theorem dX7_sign_19 : decode cX7_sign 19 = .ok (.getfield 19, 3) := by decide +kernel
theorem dX7_sign_22 : decode cX7_sign 22 = .ok (.aload_n 0, 1) := by decide +kernel
theorem dX7_sign_23 : decode cX7_sign 23 = .ok (.getfield 9, 3) := by decide +kernel
theorem dX7_sign_26 : decode cX7_sign 26 = .ok (.arraylength, 1) := by decide +kernel
theorem dX7_sign_27 : decode cX7_sign 27 = .ok (.if_icmp .ge 15, 3) := by decide +kernel
theorem dX7_sign_30 : decode cX7_sign 30 = .ok (.aload_n 0, 1) := by decide +kernel
theorem dX7_sign_31 : decode cX7_sign 31 = .ok (.getfield 9, 3) := by decide +kernel
theorem dX7_sign_34 : decode cX7_sign 34 = .ok (.aload_n 0, 1) := by decide +kernel
theorem dX7_sign_35 : decode cX7_sign 35 = .ok (.getfield 19, 3) := by decide +kernel
theorem dX7_sign_38 : decode cX7_sign 38 = .ok (.caload, 1) := by decide +kernel
theorem dX7_sign_39 : decode cX7_sign 39 = .ok (.goto 4, 3) := by decide +kernel
theorem dX7_sign_42 : decode cX7_sign 42 = .ok (.iconst 0, 1) := by decide +kernel
theorem dX7_sign_43 : decode cX7_sign 43 = .ok (.ireturn, 1) := by decide +kernel
theorem dX7_addBlock_0 : decode cX7_addBlock 0 = .ok (.aload_n 0, 1) := by decide +kernel
theorem dX7_addBlock_1 : decode cX7_addBlock 1 = .ok (.getfield 35, 3) := by decide +kernel
theorem dX7_addBlock_4 : decode cX7_addBlock 4 = .ok (.aload_n 0, 1) := by decide +kernel
theorem dX7_addBlock_5 : decode cX7_addBlock 5 = .ok (.getfield 31, 3) := by decide +kernel
theorem dX7_addBlock_8 : decode cX7_addBlock 8 = .ok (.arraylength, 1) := by decide +kernel
theorem dX7_addBlock_9 : decode cX7_addBlock 9 = .ok (.if_icmp .ge 42, 3) := by decide +kernel
theorem dX7_addBlock_12 : decode cX7_addBlock 12 = .ok (.aload_n 0, 1) := by decide +kernel
theorem dX7_addBlock_13 : decode cX7_addBlock 13 = .ok (.getfield 31, 3) := by decide +kernel
theorem dX7_addBlock_16 : decode cX7_addBlock 16 = .ok (.aload_n 0, 1) := by decide +kernel
theorem dX7_addBlock_17 : decode cX7_addBlock 17 = .ok (.getfield 35, 3) := by decide +kernel
theorem dX7_addBlock_20 : decode cX7_addBlock 20 = .ok (.new 29, 3) := by decide +kernel
theorem dX7_addBlock_23 : decode cX7_addBlock 23 = .ok (.dup, 1) := by decide +kernel
theorem dX7_addBlock_24 : decode cX7_addBlock 24 = .ok (.aload_n 1, 1) := by decide +kernel
theorem dX7_addBlock_25 : decode cX7_addBlock 25 = .ok (.aload_n 0, 1) := by decide +kernel
theorem dX7_addBlock_26 : decode cX7_addBlock 26 = .ok (.invokevirtual 111, 3) := by decide +kernel
theorem dX7_addBlock_29 : decode cX7_addBlock 29 = .ok (.aload_n 0, 1) := by decide +kernel
theorem dX7_addBlock_30 : decode cX7_addBlock 30 = .ok (.getfield 42, 3) := by decide +kernel
theorem dX7_addBlock_33 : decode cX7_addBlock 33 = .ok (.iload_n 2, 1) := by decide +kernel
theorem dX7_addBlock_34 : decode cX7_addBlock 34 = .ok (.iload_n 3, 1) := by decide +kernel
theorem dX7_addBlock_35 : decode cX7_addBlock 35 = .ok (.iload 4, 2) := by decide +kernel
theorem dX7_addBlock_37 : decode cX7_addBlock 37 = .ok (.invokespecial 114, 3) := by decide +kernel
theorem dX7_addBlock_40 : decode cX7_addBlock 40 = .ok (.aastore, 1) := by decide +kernel
theorem dX7_addBlock_41 : decode cX7_addBlock 41 = .ok (.aload_n 0, 1) := by decide +kernel
theorem dX7_addBlock_42 : decode cX7_addBlock 42 = .ok (.dup, 1) := by decide +kernel
theorem dX7_addBlock_43 : decode cX7_addBlock 43 = .ok (.getfield 35, 3) := by decide +kernel
theorem dX7_addBlock_46 : decode cX7_addBlock 46 = .ok (.iconst 1, 1) := by decide +kernel
theorem dX7_addBlock_47 : decode cX7_addBlock 47 = .ok (.iadd, 1) := by decide +kernel
theorem dX7_addBlock_48 : decode cX7_addBlock 48 = .ok (.putfield 35, 3) := by decide +kernel
theorem dX7_addBlock_51 : decode cX7_addBlock 51 = .ok (.return_, 1) := by decide +kernel
theorem dX7_innermostGroup_0 : decode cX7_innermostGroup 0 = .ok (.aload_n 0, 1) := by decide +kernel
theorem dX7_innermostGroup_1 : decode cX7_innermostGroup 1 = .ok (.getfield 42, 3) := by decide +kernel
theorem dX7_innermostGroup_4 : decode cX7_innermostGroup 4 = .ok (.ifCond .le 29, 3) := by decide +kernel
theorem dX7_innermostGroup_7 : decode cX7_innermostGroup 7 = .ok (.aload_n 0, 1) := by decide +kernel
theorem dX7_innermostGroup_8 : decode cX7_innermostGroup 8 = .ok (.getfield 42, 3) := by decide +kernel
theorem dX7_innermostGroup_11 : decode cX7_innermostGroup 11 = .ok (.aload_n 0, 1) := by decide +kernel
theorem dX7_innermostGroup_12 : decode cX7_innermostGroup 12 = .ok (.getfield 38, 3) := by decide +kernel
theorem dX7_innermostGroup_15 : decode cX7_innermostGroup 15 = .ok (.arraylength, 1) := by decide +kernel
theorem dX7_innermostGroup_16 : decode cX7_innermostGroup 16 = .ok (.if_icmp .gt 17, 3) := by decide +kernel
theorem dX7_innermostGroup_19 : decode cX7_innermostGroup 19 = .ok (.aload_n 0, 1) := by decide +kernel
theorem dX7_innermostGroup_20 : decode cX7_innermostGroup 20 = .ok (.getfield 38, 3) := by decide +kernel
theorem dX7_innermostGroup_23 : decode cX7_innermostGroup 23 = .ok (.aload_n 0, 1) := by decide +kernel
theorem dX7_innermostGroup_24 : decode cX7_innermostGroup 24 = .ok (.getfield 42, 3) := by decide +kernel
theorem dX7_innermostGroup_27 : decode cX7_innermostGroup 27 = .ok (.iconst 1, 1) := by decide +kernel
theorem dX7_innermostGroup_28 : decode cX7_innermostGroup 28 = .ok (.isub, 1) := by decide +kernel
theorem dX7_innermostGroup_29 : decode cX7_innermostGroup 29 = .ok (.iaload, 1) := by decide +kernel
theorem dX7_innermostGroup_30 : decode cX7_innermostGroup 30 = .ok (.goto 4, 3) := by decide +kernel
theorem dX7_innermostGroup_33 : decode cX7_innermostGroup 33 = .ok (.iconst (-1), 1) := by decide +kernel
theorem dX7_innermostGroup_34 : decode cX7_innermostGroup 34 = .ok (.ireturn, 1) := by decide +kernel
theorem dX7_isDigit_0 : decode cX7_isDigit 0 = .ok (.iload_n 0, 1) := by decide +kernel
theorem dX7_isDigit_1 : decode cX7_isDigit 1 = .ok (.bipush 48, 2) := by decide +kernel
theorem dX7_isDigit_3 : decode cX7_isDigit 3 = .ok (.if_icmp .lt 13, 3) := by decide +kernel
theorem dX7_isDigit_6 : decode cX7_isDigit 6 = .ok (.iload_n 0, 1) := by decide +kernel
theorem dX7_isDigit_7 : decode cX7_isDigit 7 = .ok (.bipush 57, 2) := by decide +kernel
theorem dX7_isDigit_9 : decode cX7_isDigit 9 = .ok (.if_icmp .gt 7, 3) := by decide +kernel
theorem dX7_isDigit_12 : decode cX7_isDigit 12 = .ok (.iconst 1, 1) := by decide +kernel
theorem dX7_isDigit_13 : decode cX7_isDigit 13 = .ok (.goto 4, 3) := by decide +kernel
theorem dX7_isDigit_16 : decode cX7_isDigit 16 = .ok (.iconst 0, 1) := by decide +kernel
theorem dX7_isDigit_17 : decode cX7_isDigit 17 = .ok (.ireturn, 1) := by decide +kernel
theorem dX8_init_0 : decode cX8_init 0 = .ok (.aload_n 0, 1) := by decide +kernel
theorem dX8_init_1 : decode cX8_init 1 = .ok (.invokespecial 3, 3) := by decide +kernel
theorem dX8_init_4 : decode cX8_init 4 = .ok (.aload_n 0, 1) := by decide +kernel
theorem dX8_init_5 : decode cX8_init 5 = .ok (.iconst 5, 1) := by decide +kernel
theorem dX8_init_6 : decode cX8_init 6 = .ok (.newarray .int, 2) := by decide +kernel
theorem dX8_init_8 : decode cX8_init 8 = .ok (.putfield 11, 3) := by decide +kernel
theorem dX8_init_11 : decode cX8_init 11 = .ok (.aload_n 0, 1) := by decide +kernel
theorem dX8_init_12 : decode cX8_init 12 = .ok (.iconst 5, 1) := by decide +kernel
theorem dX8_init_13 : decode cX8_init 13 = .ok (.newarray .int, 2) := by decide +kernel
theorem dX8_init_15 : decode cX8_init 15 = .ok (.putfield 15, 3) := by decide +kernel
theorem dX8_init_18 : decode cX8_init 18 = .ok (.aload_n 0, 1) := by decide +kernel
theorem dX8_init_19 : decode cX8_init 19 = .ok (.iconst 0, 1) := by decide +kernel
theorem dX8_init_20 : decode cX8_init 20 = .ok (.putfield 18, 3) := by decide +kernel
theorem dX8_init_23 : decode cX8_init 23 = .ok (.return_, 1) := by decide +kernel
theorem dX8_follow_0 : decode cX8_follow 0 = .ok (.aload_n 1, 1) := by decide +kernel
theorem dX8_follow_1 : decode cX8_follow 1 = .ok (.getfield 22, 3) := by decide +kernel
theorem dX8_follow_4 : decode cX8_follow 4 = .ok (.getfield 28, 3) := by decide +kernel
theorem dX8_follow_7 : decode cX8_follow 7 = .ok (.astore 4, 2) := by decide +kernel
theorem dX8_follow_9 : decode cX8_follow 9 = .ok (.aload_n 0, 1) := by decide +kernel
theorem dX8_follow_10 : decode cX8_follow 10 = .ok (.iconst 0, 1) := by decide +kernel
theorem dX8_follow_11 : decode cX8_follow 11 = .ok (.putfield 18, 3) := by decide +kernel
theorem dX8_follow_14 : decode cX8_follow 14 = .ok (.iload_n 3, 1) := by decide +kernel
theorem dX8_follow_15 : decode cX8_follow 15 = .ok (.istore 5, 2) := by decide +kernel
theorem dX8_follow_17 : decode cX8_follow 17 = .ok (.iconst 0, 1) := by decide +kernel
theorem dX8_follow_18 : decode cX8_follow 18 = .ok (.istore 6, 2) := by decide +kernel
theorem dX8_follow_20 : decode cX8_follow 20 = .ok (.iload 6, 2) := by decide +kernel
theorem dX8_follow_22 : decode cX8_follow 22 = .ok (.iconst 5, 1) := by decide +kernel
theorem dX8_follow_23 : decode cX8_follow 23 = .ok (.if_icmp .ge 78, 3) := by decide +kernel
theorem dX8_follow_26 : decode cX8_follow 26 = .ok (.iload 5, 2) := by decide +kernel
theorem dX8_follow_28 : decode cX8_follow 28 = .ok (.ifCond .lt 73, 3) := by decide +kernel
theorem dX8_follow_31 : decode cX8_follow 31 = .ok (.iload 5, 2) := by decide +kernel
theorem dX8_follow_33 : decode cX8_follow 33 = .ok (.aload 4, 2) := by decide +kernel
theorem dX8_follow_35 : decode cX8_follow 35 = .ok (.arraylength, 1) := by decide +kernel
theorem dX8_follow_36 : decode cX8_follow 36 = .ok (.if_icmp .ge 65, 3) := by decide +kernel
theorem dX8_follow_39 : decode cX8_follow 39 = .ok (.aload_n 2, 1) := by decide +kernel
theorem dX8_follow_40 : decode cX8_follow 40 = .ok (.iload 5, 2) := by decide +kernel
theorem dX8_follow_42 : decode cX8_follow 42 = .ok (.invokevirtual 34, 3) := by decide +kernel
theorem dX8_follow_45 : decode cX8_follow 45 = .ok (.ifCond .eq 4, 3) := by decide +kernel
theorem dX8_follow_48 : decode cX8_follow 48 = .ok (.return_, 1) := by decide +kernel
theorem dX8_follow_49 : decode cX8_follow 49 = .ok (.aload 4, 2) := by decide +kernel
theorem dX8_follow_51 : decode cX8_follow 51 = .ok (.iload 5, 2) := by decide +kernel
theorem dX8_follow_53 : decode cX8_follow 53 = .ok (.aaload, 1) := by decide +kernel
theorem dX8_follow_54 : decode cX8_follow 54 = .ok (.invokevirtual 40, 3) := by decide +kernel
theorem dX8_follow_57 : decode cX8_follow 57 = .ok (.ifCond .ne 12, 3) := by decide +kernel
theorem dX8_follow_60 : decode cX8_follow 60 = .ok (.aload_n 0, 1) := by decide +kernel
theorem dX8_follow_61 : decode cX8_follow 61 = .ok (.aload_n 1, 1) := by decide +kernel
theorem dX8_follow_62 : decode cX8_follow 62 = .ok (.aload_n 2, 1) := by decide +kernel
theorem dX8_follow_63 : decode cX8_follow 63 = .ok (.iload 5, 2) := by decide +kernel
theorem dX8_follow_65 : decode cX8_follow 65 = .ok (.invokevirtual 46, 3) := by decide +kernel
theorem dX8_follow_68 : decode cX8_follow 68 = .ok (.return_, 1) := by decide +kernel
theorem dX8_follow_69 : decode cX8_follow 69 = .ok (.aload_n 0, 1) := by decide +kernel
theorem dX8_follow_70 : decode cX8_follow 70 = .ok (.iconst 1, 1) := by decide +kernel
theorem dX8_follow_71 : decode cX8_follow 71 = .ok (.aload 4, 2) := by decide +kernel
theorem dX8_follow_73 : decode cX8_follow 73 = .ok (.iload 5, 2) := by decide +kernel
theorem dX8_follow_75 : decode cX8_follow 75 = .ok (.aload_n 2, 1) := by decide +kernel
theorem dX8_follow_76 : decode cX8_follow 76 = .ok (.invokevirtual 50, 3) := by decide +kernel
theorem dX8_follow_79 : decode cX8_follow 79 = .ok (.invokestatic 54, 3) := by decide +kernel
theorem dX8_follow_82 : decode cX8_follow 82 = .ok (.invokevirtual 58, 3) := by decide +kernel
theorem dX8_follow_85 : decode cX8_follow 85 = .ok (.aload 4, 2) := by decide +kernel
theorem dX8_follow_87 : decode cX8_follow 87 = .ok (.aload_n 2, 1) := by decide +kernel
theorem dX8_follow_88 : decode cX8_follow 88 = .ok (.iload 5, 2) := by decide +kernel
theorem dX8_follow_90 : decode cX8_follow 90 = .ok (.invokestatic 62, 3) := by decide +kernel
theorem dX8_follow_93 : decode cX8_follow 93 = .ok (.istore 5, 2) := by decide +kernel
theorem dX8_follow_95 : decode cX8_follow 95 = .ok (.iinc 6 1, 3) := by decide +kernel
theorem dX8_follow_98 : decode cX8_follow 98 = .ok (.goto (-78), 3) := by decide +kernel
theorem dX8_follow_101 : decode cX8_follow 101 = .ok (.return_, 1) := by decide +kernel
theorem dX8_addLeaf_0 : decode cX8_addLeaf 0 = .ok (.iload_n 3, 1) := by decide +kernel
theorem dX8_addLeaf_1 : decode cX8_addLeaf 1 = .ok (.ifCond .lt 15, 3) := by decide +kernel
theorem dX8_addLeaf_4 : decode cX8_addLeaf 4 = .ok (.iload_n 3, 1) := by decide +kernel
theorem dX8_addLeaf_5 : decode cX8_addLeaf 5 = .ok (.aload_n 1, 1) := by decide +kernel
theorem dX8_addLeaf_6 : decode cX8_addLeaf 6 = .ok (.getfield 22, 3) := by decide +kernel
theorem dX8_addLeaf_9 : decode cX8_addLeaf 9 = .ok (.getfield 28, 3) := by decide +kernel
theorem dX8_addLeaf_12 : decode cX8_addLeaf 12 = .ok (.arraylength, 1) := by decide +kernel
theorem dX8_addLeaf_13 : decode cX8_addLeaf 13 = .ok (.if_icmp .lt 4, 3) := by decide +kernel
theorem dX8_addLeaf_16 : decode cX8_addLeaf 16 = .ok (.return_, 1) := by decide +kernel
theorem dX8_addLeaf_17 : decode cX8_addLeaf 17 = .ok (.aload_n 1, 1) := by decide +kernel
theorem dX8_addLeaf_18 : decode cX8_addLeaf 18 = .ok (.getfield 22, 3) := by decide +kernel
theorem dX8_addLeaf_21 : decode cX8_addLeaf 21 = .ok (.getfield 28, 3) := by decide +kernel
theorem dX8_addLeaf_24 : decode cX8_addLeaf 24 = .ok (.iload_n 3, 1) := by decide +kernel
theorem dX8_addLeaf_25 : decode cX8_addLeaf 25 = .ok (.aaload, 1) := by decide +kernel
theorem dX8_addLeaf_26 : decode cX8_addLeaf 26 = .ok (.astore 4, 2) := by decide +kernel
theorem dX8_addLeaf_28 : decode cX8_addLeaf 28 = .ok (.aload_n 0, 1) := by decide +kernel
theorem dX8_addLeaf_29 : decode cX8_addLeaf 29 = .ok (.iconst 2, 1) := by decide +kernel
theorem dX8_addLeaf_30 : decode cX8_addLeaf 30 = .ok (.aload 4, 2) := by decide +kernel
theorem dX8_addLeaf_32 : decode cX8_addLeaf 32 = .ok (.getfield 66, 3) := by decide +kernel
theorem dX8_addLeaf_35 : decode cX8_addLeaf 35 = .ok (.aload_n 2, 1) := by decide +kernel
theorem dX8_addLeaf_36 : decode cX8_addLeaf 36 = .ok (.iload_n 3, 1) := by decide +kernel
theorem dX8_addLeaf_37 : decode cX8_addLeaf 37 = .ok (.invokevirtual 69, 3) := by decide +kernel
theorem dX8_addLeaf_40 : decode cX8_addLeaf 40 = .ok (.isub, 1) := by decide +kernel
theorem dX8_addLeaf_41 : decode cX8_addLeaf 41 = .ok (.invokevirtual 58, 3) := by decide +kernel
theorem dX8_addLeaf_44 : decode cX8_addLeaf 44 = .ok (.iconst 0, 1) := by decide +kernel
theorem dX8_addLeaf_45 : decode cX8_addLeaf 45 = .ok (.istore 5, 2) := by decide +kernel
theorem dX8_addLeaf_47 : decode cX8_addLeaf 47 = .ok (.iload 5, 2) := by decide +kernel
theorem dX8_addLeaf_49 : decode cX8_addLeaf 49 = .ok (.aload_n 1, 1) := by decide +kernel
theorem dX8_addLeaf_50 : decode cX8_addLeaf 50 = .ok (.getfield 73, 3) := by decide +kernel
theorem dX8_addLeaf_53 : decode cX8_addLeaf 53 = .ok (.arraylength, 1) := by decide +kernel
theorem dX8_addLeaf_54 : decode cX8_addLeaf 54 = .ok (.if_icmp .ge 63, 3) := by decide +kernel
theorem dX8_addLeaf_57 : decode cX8_addLeaf 57 = .ok (.aload 4, 2) := by decide +kernel
theorem dX8_addLeaf_59 : decode cX8_addLeaf 59 = .ok (.aload_n 1, 1) := by decide +kernel
theorem dX8_addLeaf_60 : decode cX8_addLeaf 60 = .ok (.getfield 73, 3) := by decide +kernel
theorem dX8_addLeaf_63 : decode cX8_addLeaf 63 = .ok (.iload 5, 2) := by decide +kernel
theorem dX8_addLeaf_65 : decode cX8_addLeaf 65 = .ok (.aaload, 1) := by decide +kernel
theorem dX8_addLeaf_66 : decode cX8_addLeaf 66 = .ok (.invokevirtual 77, 3) := by decide +kernel
theorem dX8_addLeaf_69 : decode cX8_addLeaf 69 = .ok (.ifCond .eq 42, 3) := by decide +kernel
theorem dX8_addLeaf_72 : decode cX8_addLeaf 72 = .ok (.aload_n 2, 1) := by decide +kernel
theorem dX8_addLeaf_73 : decode cX8_addLeaf 73 = .ok (.iload 5, 2) := by decide +kernel
theorem dX8_addLeaf_75 : decode cX8_addLeaf 75 = .ok (.invokevirtual 81, 3) := by decide +kernel
theorem dX8_addLeaf_78 : decode cX8_addLeaf 78 = .ok (.iload_n 3, 1) := by decide +kernel
theorem dX8_addLeaf_79 : decode cX8_addLeaf 79 = .ok (.if_icmp .eq 32, 3) := by decide +kernel
theorem dX8_addLeaf_82 : decode cX8_addLeaf 82 = .ok (.aload_n 0, 1) := by decide +kernel
theorem dX8_addLeaf_83 : decode cX8_addLeaf 83 = .ok (.aload 4, 2) := by decide +kernel
theorem dX8_addLeaf_85 : decode cX8_addLeaf 85 = .ok (.aload_n 1, 1) := by decide +kernel
theorem dX8_addLeaf_86 : decode cX8_addLeaf 86 = .ok (.getfield 73, 3) := by decide +kernel
theorem dX8_addLeaf_89 : decode cX8_addLeaf 89 = .ok (.iload 5, 2) := by decide +kernel
theorem dX8_addLeaf_91 : decode cX8_addLeaf 91 = .ok (.aaload, 1) := by decide +kernel
theorem dX8_addLeaf_92 : decode cX8_addLeaf 92 = .ok (.aload_n 1, 1) := by decide +kernel
theorem dX8_addLeaf_93 : decode cX8_addLeaf 93 = .ok (.getfield 84, 3) := by decide +kernel
theorem dX8_addLeaf_96 : decode cX8_addLeaf 96 = .ok (.aload_n 2, 1) := by decide +kernel
theorem dX8_addLeaf_97 : decode cX8_addLeaf 97 = .ok (.iload 5, 2) := by decide +kernel
theorem dX8_addLeaf_99 : decode cX8_addLeaf 99 = .ok (.invokevirtual 81, 3) := by decide +kernel
theorem dX8_addLeaf_102 : decode cX8_addLeaf 102 = .ok (.invokestatic 87, 3) := by decide +kernel
theorem dX8_addLeaf_105 : decode cX8_addLeaf 105 = .ok (.iload 5, 2) := by decide +kernel
theorem dX8_addLeaf_107 : decode cX8_addLeaf 107 = .ok (.invokevirtual 58, 3) := by decide +kernel
theorem dX8_addLeaf_110 : decode cX8_addLeaf 110 = .ok (.return_, 1) := by decide +kernel
theorem dX8_addLeaf_111 : decode cX8_addLeaf 111 = .ok (.iinc 5 1, 3) := by decide +kernel
theorem dX8_addLeaf_114 : decode cX8_addLeaf 114 = .ok (.goto (-67), 3) := by decide +kernel
theorem dX8_addLeaf_117 : decode cX8_addLeaf 117 = .ok (.return_, 1) := by decide +kernel
theorem dX8_add_0 : decode cX8_add 0 = .ok (.aload_n 0, 1) := by decide +kernel
theorem dX8_add_1 : decode cX8_add 1 = .ok (.getfield 18, 3) := by decide +kernel
theorem dX8_add_4 : decode cX8_add 4 = .ok (.iconst 5, 1) := by decide +kernel
theorem dX8_add_5 : decode cX8_add 5 = .ok (.if_icmp .ge 33, 3) := by decide +kernel
theorem dX8_add_8 : decode cX8_add 8 = .ok (.aload_n 0, 1) := by decide +kernel
theorem dX8_add_9 : decode cX8_add 9 = .ok (.getfield 11, 3) := by decide +kernel
theorem dX8_add_12 : decode cX8_add 12 = .ok (.aload_n 0, 1) := by decide +kernel
theorem dX8_add_13 : decode cX8_add 13 = .ok (.getfield 18, 3) := by decide +kernel
theorem dX8_add_16 : decode cX8_add 16 = .ok (.iload_n 1, 1) := by decide +kernel
theorem dX8_add_17 : decode cX8_add 17 = .ok (.iastore, 1) := by decide +kernel
theorem dX8_add_18 : decode cX8_add 18 = .ok (.aload_n 0, 1) := by decide +kernel
theorem dX8_add_19 : decode cX8_add 19 = .ok (.getfield 15, 3) := by decide +kernel
theorem dX8_add_22 : decode cX8_add 22 = .ok (.aload_n 0, 1) := by decide +kernel
theorem dX8_add_23 : decode cX8_add 23 = .ok (.getfield 18, 3) := by decide +kernel
theorem dX8_add_26 : decode cX8_add 26 = .ok (.iload_n 2, 1) := by decide +kernel
theorem dX8_add_27 : decode cX8_add 27 = .ok (.iastore, 1) := by decide +kernel
theorem dX8_add_28 : decode cX8_add 28 = .ok (.aload_n 0, 1) := by decide +kernel
theorem dX8_add_29 : decode cX8_add 29 = .ok (.dup, 1) := by decide +kernel
theorem dX8_add_30 : decode cX8_add 30 = .ok (.getfield 18, 3) := by decide +kernel
theorem dX8_add_33 : decode cX8_add 33 = .ok (.iconst 1, 1) := by decide +kernel
theorem dX8_add_34 : decode cX8_add 34 = .ok (.iadd, 1) := by decide +kernel
theorem dX8_add_35 : decode cX8_add 35 = .ok (.putfield 18, 3) := by decide +kernel
theorem dX8_add_38 : decode cX8_add 38 = .ok (.return_, 1) := by decide +kernel
theorem dX8_kindOf_0 : decode cX8_kindOf 0 = .ok (.aload_n 1, 1) := by decide +kernel
theorem dX8_kindOf_1 : decode cX8_kindOf 1 = .ok (.getfield 91, 3) := by decide +kernel
theorem dX8_kindOf_4 : decode cX8_kindOf 4 = .ok (.aload_n 0, 1) := by decide +kernel
theorem dX8_kindOf_5 : decode cX8_kindOf 5 = .ok (.getfield 96, 3) := by decide +kernel
theorem dX8_kindOf_8 : decode cX8_kindOf 8 = .ok (.if_icmp .ge 5, 3) := by decide +kernel
theorem dX8_kindOf_11 : decode cX8_kindOf 11 = .ok (.iconst 3, 1) := by decide +kernel
theorem dX8_kindOf_12 : decode cX8_kindOf 12 = .ok (.ireturn, 1) := by decide +kernel
theorem dX8_kindOf_13 : decode cX8_kindOf 13 = .ok (.iload_n 2, 1) := by decide +kernel
theorem dX8_kindOf_14 : decode cX8_kindOf 14 = .ok (.aload_n 0, 1) := by decide +kernel
theorem dX8_kindOf_15 : decode cX8_kindOf 15 = .ok (.aload_n 1, 1) := by decide +kernel
theorem dX8_kindOf_16 : decode cX8_kindOf 16 = .ok (.invokevirtual 99, 3) := by decide +kernel
theorem dX8_kindOf_19 : decode cX8_kindOf 19 = .ok (.if_icmp .le 5, 3) := by decide +kernel
theorem dX8_kindOf_22 : decode cX8_kindOf 22 = .ok (.iconst 4, 1) := by decide +kernel
theorem dX8_kindOf_23 : decode cX8_kindOf 23 = .ok (.ireturn, 1) := by decide +kernel
theorem dX8_kindOf_24 : decode cX8_kindOf 24 = .ok (.iload_n 3, 1) := by decide +kernel
theorem dX8_kindOf_25 : decode cX8_kindOf 25 = .ok (.iconst (-1), 1) := by decide +kernel
theorem dX8_kindOf_26 : decode cX8_kindOf 26 = .ok (.if_icmp .ne 8, 3) := by decide +kernel
theorem dX8_kindOf_29 : decode cX8_kindOf 29 = .ok (.bipush 6, 2) := by decide +kernel
theorem dX8_kindOf_31 : decode cX8_kindOf 31 = .ok (.goto 4, 3) := by decide +kernel
theorem dX8_kindOf_34 : decode cX8_kindOf 34 = .ok (.iconst 5, 1) := by decide +kernel
theorem dX8_kindOf_35 : decode cX8_kindOf 35 = .ok (.ireturn, 1) := by decide +kernel
theorem dX8_firstUnmetPart_0 : decode cX8_firstUnmetPart 0 = .ok (.iconst 0, 1) := by decide +kernel
theorem dX8_firstUnmetPart_1 : decode cX8_firstUnmetPart 1 = .ok (.istore_n 3, 1) := by decide +kernel
theorem dX8_firstUnmetPart_2 : decode cX8_firstUnmetPart 2 = .ok (.iload_n 3, 1) := by decide +kernel
theorem dX8_firstUnmetPart_3 : decode cX8_firstUnmetPart 3 = .ok (.aload_n 0, 1) := by decide +kernel
theorem dX8_firstUnmetPart_4 : decode cX8_firstUnmetPart 4 = .ok (.arraylength, 1) := by decide +kernel
theorem dX8_firstUnmetPart_5 : decode cX8_firstUnmetPart 5 = .ok (.if_icmp .ge 29, 3) := by decide +kernel
theorem dX8_firstUnmetPart_8 : decode cX8_firstUnmetPart 8 = .ok (.aload_n 0, 1) := by decide +kernel
theorem dX8_firstUnmetPart_9 : decode cX8_firstUnmetPart 9 = .ok (.iload_n 3, 1) := by decide +kernel
theorem dX8_firstUnmetPart_10 : decode cX8_firstUnmetPart 10 = .ok (.aaload, 1) := by decide +kernel
theorem dX8_firstUnmetPart_11 : decode cX8_firstUnmetPart 11 = .ok (.getfield 103, 3) := by decide +kernel
theorem dX8_firstUnmetPart_14 : decode cX8_firstUnmetPart 14 = .ok (.iload_n 2, 1) := by decide +kernel
theorem dX8_firstUnmetPart_15 : decode cX8_firstUnmetPart 15 = .ok (.if_icmp .ne 13, 3) := by decide +kernel
theorem dX8_firstUnmetPart_18 : decode cX8_firstUnmetPart 18 = .ok (.aload_n 1, 1) := by decide +kernel
theorem dX8_firstUnmetPart_19 : decode cX8_firstUnmetPart 19 = .ok (.iload_n 3, 1) := by decide +kernel
theorem dX8_firstUnmetPart_20 : decode cX8_firstUnmetPart 20 = .ok (.invokevirtual 34, 3) := by decide +kernel
theorem dX8_firstUnmetPart_23 : decode cX8_firstUnmetPart 23 = .ok (.ifCond .ne 5, 3) := by decide +kernel
theorem dX8_firstUnmetPart_26 : decode cX8_firstUnmetPart 26 = .ok (.iload_n 3, 1) := by decide +kernel
theorem dX8_firstUnmetPart_27 : decode cX8_firstUnmetPart 27 = .ok (.ireturn, 1) := by decide +kernel
theorem dX8_firstUnmetPart_28 : decode cX8_firstUnmetPart 28 = .ok (.iinc 3 1, 3) := by decide +kernel
theorem dX8_firstUnmetPart_31 : decode cX8_firstUnmetPart 31 = .ok (.goto (-29), 3) := by decide +kernel
theorem dX8_firstUnmetPart_34 : decode cX8_firstUnmetPart 34 = .ok (.iconst (-1), 1) := by decide +kernel
theorem dX8_firstUnmetPart_35 : decode cX8_firstUnmetPart 35 = .ok (.ireturn, 1) := by decide +kernel
theorem dX9_init_0 : decode cX9_init 0 = .ok (.aload_n 0, 1) := by decide +kernel
theorem dX9_init_1 : decode cX9_init 1 = .ok (.invokespecial 1, 3) := by decide +kernel
theorem dX9_init_4 : decode cX9_init 4 = .ok (.aload_n 0, 1) := by decide +kernel
theorem dX9_init_5 : decode cX9_init 5 = .ok (.new 7, 3) := by decide +kernel
theorem dX9_init_8 : decode cX9_init 8 = .ok (.dup, 1) := by decide +kernel
theorem dX9_init_9 : decode cX9_init 9 = .ok (.invokespecial 9, 3) := by decide +kernel
theorem dX9_init_12 : decode cX9_init 12 = .ok (.putfield 10, 3) := by decide +kernel
theorem dX9_init_15 : decode cX9_init 15 = .ok (.aload_n 0, 1) := by decide +kernel
theorem dX9_init_16 : decode cX9_init 16 = .ok (.new 16, 3) := by decide +kernel
theorem dX9_init_19 : decode cX9_init 19 = .ok (.dup, 1) := by decide +kernel
theorem dX9_init_20 : decode cX9_init 20 = .ok (.invokespecial 18, 3) := by decide +kernel
theorem dX9_init_23 : decode cX9_init 23 = .ok (.putfield 19, 3) := by decide +kernel
theorem dX9_init_26 : decode cX9_init 26 = .ok (.aload_n 0, 1) := by decide +kernel
theorem dX9_init_27 : decode cX9_init 27 = .ok (.new 23, 3) := by decide +kernel
theorem dX9_init_30 : decode cX9_init 30 = .ok (.dup, 1) := by decide +kernel
theorem dX9_init_31 : decode cX9_init 31 = .ok (.iconst 0, 1) := by decide +kernel
theorem dX9_init_32 : decode cX9_init 32 = .ok (.iconst 0, 1) := by decide +kernel
theorem dX9_init_33 : decode cX9_init 33 = .ok (.anewarray 25, 3) := by decide +kernel
theorem dX9_init_36 : decode cX9_init 36 = .ok (.iconst 0, 1) := by decide +kernel
theorem dX9_init_37 : decode cX9_init 37 = .ok (.anewarray 27, 3) := by decide +kernel
theorem dX9_init_40 : decode cX9_init 40 = .ok (.new 29, 3) := by decide +kernel
theorem dX9_init_43 : decode cX9_init 43 = .ok (.dup, 1) := by decide +kernel
theorem dX9_init_44 : decode cX9_init 44 = .ok (.iconst 0, 1) := by decide +kernel
theorem dX9_init_45 : decode cX9_init 45 = .ok (.anewarray 31, 3) := by decide +kernel
theorem dX9_init_48 : decode cX9_init 48 = .ok (.invokespecial 33, 3) := by decide +kernel
theorem dX9_init_51 : decode cX9_init 51 = .ok (.invokespecial 36, 3) := by decide +kernel
theorem dX9_init_54 : decode cX9_init 54 = .ok (.putfield 39, 3) := by decide +kernel
theorem dX9_init_57 : decode cX9_init 57 = .ok (.aload_n 0, 1) := by decide +kernel
theorem dX9_init_58 : decode cX9_init 58 = .ok (.new 43, 3) := by decide +kernel
theorem dX9_init_61 : decode cX9_init 61 = .ok (.dup, 1) := by decide +kernel
theorem dX9_init_62 : decode cX9_init 62 = .ok (.aload_n 0, 1) := by decide +kernel
theorem dX9_init_63 : decode cX9_init 63 = .ok (.getfield 39, 3) := by decide +kernel
theorem dX9_init_66 : decode cX9_init 66 = .ok (.invokespecial 45, 3) := by decide +kernel
theorem dX9_init_69 : decode cX9_init 69 = .ok (.putfield 48, 3) := by decide +kernel
theorem dX9_init_72 : decode cX9_init 72 = .ok (.aload_n 0, 1) := by decide +kernel
theorem dX9_init_73 : decode cX9_init 73 = .ok (.new 43, 3) := by decide +kernel
theorem dX9_init_76 : decode cX9_init 76 = .ok (.dup, 1) := by decide +kernel
theorem dX9_init_77 : decode cX9_init 77 = .ok (.aload_n 0, 1) := by decide +kernel
theorem dX9_init_78 : decode cX9_init 78 = .ok (.getfield 39, 3) := by decide +kernel
theorem dX9_init_81 : decode cX9_init 81 = .ok (.invokespecial 45, 3) := by decide +kernel
theorem dX9_init_84 : decode cX9_init 84 = .ok (.putfield 52, 3) := by decide +kernel
theorem dX9_init_87 : decode cX9_init 87 = .ok (.aload_n 0, 1) := by decide +kernel
theorem dX9_init_88 : decode cX9_init 88 = .ok (.new 55, 3) := by decide +kernel
theorem dX9_init_91 : decode cX9_init 91 = .ok (.dup, 1) := by decide +kernel
theorem dX9_init_92 : decode cX9_init 92 = .ok (.invokespecial 57, 3) := by decide +kernel
theorem dX9_init_95 : decode cX9_init 95 = .ok (.putfield 58, 3) := by decide +kernel
theorem dX9_init_98 : decode cX9_init 98 = .ok (.aload_n 0, 1) := by decide +kernel
theorem dX9_init_99 : decode cX9_init 99 = .ok (.aconst_null, 1) := by decide +kernel
theorem dX9_init_100 : decode cX9_init 100 = .ok (.putfield 62, 3) := by decide +kernel
theorem dX9_init_103 : decode cX9_init 103 = .ok (.aload_n 0, 1) := by decide +kernel
theorem dX9_init_104 : decode cX9_init 104 = .ok (.iconst (-1), 1) := by decide +kernel
theorem dX9_init_105 : decode cX9_init 105 = .ok (.putfield 65, 3) := by decide +kernel
theorem dX9_init_108 : decode cX9_init 108 = .ok (.aload_n 0, 1) := by decide +kernel
theorem dX9_init_109 : decode cX9_init 109 = .ok (.iconst 0, 1) := by decide +kernel
theorem dX9_init_110 : decode cX9_init 110 = .ok (.putfield 69, 3) := by decide +kernel
theorem dX9_init_113 : decode cX9_init 113 = .ok (.return_, 1) := by decide +kernel
theorem dX9_addCredit_0 : decode cX9_addCredit 0 = .ok (.aload_n 0, 1) := by decide +kernel
theorem dX9_addCredit_1 : decode cX9_addCredit 1 = .ok (.iload_n 1, 1) := by decide +kernel
theorem dX9_addCredit_2 : decode cX9_addCredit 2 = .ok (.iload_n 2, 1) := by decide +kernel
theorem dX9_addCredit_3 : decode cX9_addCredit 3 = .ok (.iload_n 3, 1) := by decide +kernel
theorem dX9_addCredit_4 : decode cX9_addCredit 4 = .ok (.iload 4, 2) := by decide +kernel
theorem dX9_addCredit_6 : decode cX9_addCredit 6 = .ok (.invokevirtual 72, 3) := by decide +kernel
theorem dX9_addCredit_9 : decode cX9_addCredit 9 = .ok (.ifCond .ne 11, 3) := by decide +kernel
theorem dX9_addCredit_12 : decode cX9_addCredit 12 = .ok (.new 76, 3) := by decide +kernel
theorem dX9_addCredit_15 : decode cX9_addCredit 15 = .ok (.dup, 1) := by decide +kernel
theorem dX9_addCredit_16 : decode cX9_addCredit 16 = .ok (.invokespecial 78, 3) := by decide +kernel
theorem dX9_addCredit_19 : decode cX9_addCredit 19 = .ok (.athrow, 1) := by decide +kernel
theorem dX9_addCredit_20 : decode cX9_addCredit 20 = .ok (.aload_n 0, 1) := by decide +kernel
theorem dX9_addCredit_21 : decode cX9_addCredit 21 = .ok (.getfield 39, 3) := by decide +kernel
theorem dX9_addCredit_24 : decode cX9_addCredit 24 = .ok (.getfield 79, 3) := by decide +kernel
theorem dX9_addCredit_27 : decode cX9_addCredit 27 = .ok (.arraylength, 1) := by decide +kernel
theorem dX9_addCredit_28 : decode cX9_addCredit 28 = .ok (.bipush 6, 2) := by decide +kernel
theorem dX9_addCredit_30 : decode cX9_addCredit 30 = .ok (.if_icmp .lt 16, 3) := by decide +kernel
theorem dX9_addCredit_33 : decode cX9_addCredit 33 = .ok (.aload_n 0, 1) := by decide +kernel
theorem dX9_addCredit_34 : decode cX9_addCredit 34 = .ok (.iconst 1, 1) := by decide +kernel
theorem dX9_addCredit_35 : decode cX9_addCredit 35 = .ok (.putfield 69, 3) := by decide +kernel
theorem dX9_addCredit_38 : decode cX9_addCredit 38 = .ok (.new 83, 3) := by decide +kernel
theorem dX9_addCredit_41 : decode cX9_addCredit 41 = .ok (.dup, 1) := by decide +kernel
theorem dX9_addCredit_42 : decode cX9_addCredit 42 = .ok (.invokespecial 85, 3) := by decide +kernel
theorem dX9_addCredit_45 : decode cX9_addCredit 45 = .ok (.athrow, 1) := by decide +kernel
theorem dX9_addCredit_46 : decode cX9_addCredit 46 = .ok (.aload_n 0, 1) := by decide +kernel
theorem dX9_addCredit_47 : decode cX9_addCredit 47 = .ok (.aload_n 0, 1) := by decide +kernel
theorem dX9_addCredit_48 : decode cX9_addCredit 48 = .ok (.getfield 39, 3) := by decide +kernel
theorem dX9_addCredit_51 : decode cX9_addCredit 51 = .ok (.new 25, 3) := by decide +kernel
theorem dX9_addCredit_54 : decode cX9_addCredit 54 = .ok (.dup, 1) := by decide +kernel
theorem dX9_addCredit_55 : decode cX9_addCredit 55 = .ok (.iload_n 1, 1) := by decide +kernel
theorem dX9_addCredit_56 : decode cX9_addCredit 56 = .ok (.iload_n 2, 1) := by decide +kernel
theorem dX9_addCredit_57 : decode cX9_addCredit 57 = .ok (.iload_n 3, 1) := by decide +kernel
theorem dX9_addCredit_58 : decode cX9_addCredit 58 = .ok (.iload 4, 2) := by decide +kernel
theorem dX9_addCredit_60 : decode cX9_addCredit 60 = .ok (.invokespecial 86, 3) := by decide +kernel
theorem dX9_addCredit_63 : decode cX9_addCredit 63 = .ok (.invokevirtual 89, 3) := by decide +kernel
theorem dX9_addCredit_66 : decode cX9_addCredit 66 = .ok (.invokevirtual 93, 3) := by decide +kernel
theorem dX9_addCredit_69 : decode cX9_addCredit 69 = .ok (.aload_n 0, 1) := by decide +kernel
theorem dX9_addCredit_70 : decode cX9_addCredit 70 = .ok (.getfield 39, 3) := by decide +kernel
theorem dX9_addCredit_73 : decode cX9_addCredit 73 = .ok (.getfield 79, 3) := by decide +kernel
theorem dX9_addCredit_76 : decode cX9_addCredit 76 = .ok (.arraylength, 1) := by decide +kernel
theorem dX9_addCredit_77 : decode cX9_addCredit 77 = .ok (.iconst 1, 1) := by decide +kernel
theorem dX9_addCredit_78 : decode cX9_addCredit 78 = .ok (.isub, 1) := by decide +kernel
theorem dX9_addCredit_79 : decode cX9_addCredit 79 = .ok (.ireturn, 1) := by decide +kernel
theorem dX9_dropCredit_0 : decode cX9_dropCredit 0 = .ok (.aload_n 0, 1) := by decide +kernel
theorem dX9_dropCredit_1 : decode cX9_dropCredit 1 = .ok (.iload_n 1, 1) := by decide +kernel
theorem dX9_dropCredit_2 : decode cX9_dropCredit 2 = .ok (.invokevirtual 96, 3) := by decide +kernel
theorem dX9_dropCredit_5 : decode cX9_dropCredit 5 = .ok (.ifCond .ne 11, 3) := by decide +kernel
theorem dX9_dropCredit_8 : decode cX9_dropCredit 8 = .ok (.new 100, 3) := by decide +kernel
theorem dX9_dropCredit_11 : decode cX9_dropCredit 11 = .ok (.dup, 1) := by decide +kernel
theorem dX9_dropCredit_12 : decode cX9_dropCredit 12 = .ok (.invokespecial 102, 3) := by decide +kernel
theorem dX9_dropCredit_15 : decode cX9_dropCredit 15 = .ok (.athrow, 1) := by decide +kernel
theorem dX9_dropCredit_16 : decode cX9_dropCredit 16 = .ok (.aload_n 0, 1) := by decide +kernel
theorem dX9_dropCredit_17 : decode cX9_dropCredit 17 = .ok (.aload_n 0, 1) := by decide +kernel
theorem dX9_dropCredit_18 : decode cX9_dropCredit 18 = .ok (.getfield 39, 3) := by decide +kernel
theorem dX9_dropCredit_21 : decode cX9_dropCredit 21 = .ok (.iload_n 1, 1) := by decide +kernel
theorem dX9_dropCredit_22 : decode cX9_dropCredit 22 = .ok (.invokevirtual 103, 3) := by decide +kernel
theorem dX9_dropCredit_25 : decode cX9_dropCredit 25 = .ok (.invokevirtual 93, 3) := by decide +kernel
theorem dX9_dropCredit_28 : decode cX9_dropCredit 28 = .ok (.aload_n 0, 1) := by decide +kernel
theorem dX9_dropCredit_29 : decode cX9_dropCredit 29 = .ok (.getfield 39, 3) := by decide +kernel
theorem dX9_dropCredit_32 : decode cX9_dropCredit 32 = .ok (.getfield 79, 3) := by decide +kernel
theorem dX9_dropCredit_35 : decode cX9_dropCredit 35 = .ok (.arraylength, 1) := by decide +kernel
theorem dX9_dropCredit_36 : decode cX9_dropCredit 36 = .ok (.ireturn, 1) := by decide +kernel
theorem dX9_credit_0 : decode cX9_credit 0 = .ok (.aload_n 0, 1) := by decide +kernel
theorem dX9_credit_1 : decode cX9_credit 1 = .ok (.iload_n 1, 1) := by decide +kernel
theorem dX9_credit_2 : decode cX9_credit 2 = .ok (.invokevirtual 96, 3) := by decide +kernel
theorem dX9_credit_5 : decode cX9_credit 5 = .ok (.ifCond .ne 11, 3) := by decide +kernel
theorem dX9_credit_8 : decode cX9_credit 8 = .ok (.new 100, 3) := by decide +kernel
theorem dX9_credit_11 : decode cX9_credit 11 = .ok (.dup, 1) := by decide +kernel
theorem dX9_credit_12 : decode cX9_credit 12 = .ok (.invokespecial 102, 3) := by decide +kernel
theorem dX9_credit_15 : decode cX9_credit 15 = .ok (.athrow, 1) := by decide +kernel
theorem dX9_credit_16 : decode cX9_credit 16 = .ok (.aload_n 0, 1) := by decide +kernel
theorem dX9_credit_17 : decode cX9_credit 17 = .ok (.getfield 39, 3) := by decide +kernel
theorem dX9_credit_20 : decode cX9_credit 20 = .ok (.getfield 79, 3) := by decide +kernel
theorem dX9_credit_23 : decode cX9_credit 23 = .ok (.iload_n 1, 1) := by decide +kernel
theorem dX9_credit_24 : decode cX9_credit 24 = .ok (.aaload, 1) := by decide +kernel
theorem dX9_credit_25 : decode cX9_credit 25 = .ok (.astore_n 3, 1) := by decide +kernel
theorem dX9_credit_26 : decode cX9_credit 26 = .ok (.iload_n 2, 1) := by decide +kernel
theorem dX9_credit_27 : decode cX9_credit 27 = .ok (.tableswitch 66 0 4 #[33, 38, 43, 48, 57], 33) := by decide +kernel
theorem dX9_credit_60 : decode cX9_credit 60 = .ok (.aload_n 3, 1) := by decide +kernel
theorem dX9_credit_61 : decode cX9_credit 61 = .ok (.getfield 107, 3) := by decide +kernel
theorem dX9_credit_64 : decode cX9_credit 64 = .ok (.ireturn, 1) := by decide +kernel
theorem dX9_credit_65 : decode cX9_credit 65 = .ok (.aload_n 3, 1) := by decide +kernel
theorem dX9_credit_66 : decode cX9_credit 66 = .ok (.getfield 110, 3) := by decide +kernel
theorem dX9_credit_69 : decode cX9_credit 69 = .ok (.ireturn, 1) := by decide +kernel
theorem dX9_credit_70 : decode cX9_credit 70 = .ok (.aload_n 3, 1) := by decide +kernel
theorem dX9_credit_71 : decode cX9_credit 71 = .ok (.getfield 113, 3) := by decide +kernel
theorem dX9_credit_74 : decode cX9_credit 74 = .ok (.ireturn, 1) := by decide +kernel
theorem dX9_credit_75 : decode cX9_credit 75 = .ok (.aload_n 0, 1) := by decide +kernel
theorem dX9_credit_76 : decode cX9_credit 76 = .ok (.invokevirtual 116, 3) := by decide +kernel
theorem dX9_credit_79 : decode cX9_credit 79 = .ok (.iload_n 1, 1) := by decide +kernel
theorem dX9_credit_80 : decode cX9_credit 80 = .ok (.invokevirtual 120, 3) := by decide +kernel
theorem dX9_credit_83 : decode cX9_credit 83 = .ok (.ireturn, 1) := by decide +kernel
theorem dX9_credit_84 : decode cX9_credit 84 = .ok (.aload_n 0, 1) := by decide +kernel
theorem dX9_credit_85 : decode cX9_credit 85 = .ok (.getfield 39, 3) := by decide +kernel
theorem dX9_credit_88 : decode cX9_credit 88 = .ok (.aload_n 3, 1) := by decide +kernel
theorem dX9_credit_89 : decode cX9_credit 89 = .ok (.invokevirtual 124, 3) := by decide +kernel
theorem dX9_credit_92 : decode cX9_credit 92 = .ok (.ireturn, 1) := by decide +kernel
theorem dX9_credit_93 : decode cX9_credit 93 = .ok (.new 76, 3) := by decide +kernel
theorem dX9_credit_96 : decode cX9_credit 96 = .ok (.dup, 1) := by decide +kernel
theorem dX9_credit_97 : decode cX9_credit 97 = .ok (.invokespecial 78, 3) := by decide +kernel
theorem dX9_credit_100 : decode cX9_credit 100 = .ok (.athrow, 1) := by decide +kernel
theorem dX9_code_0 : decode cX9_code 0 = .ok (.aload_n 0, 1) := by decide +kernel
theorem dX9_code_1 : decode cX9_code 1 = .ok (.iload_n 1, 1) := by decide +kernel
theorem dX9_code_2 : decode cX9_code 2 = .ok (.invokevirtual 96, 3) := by decide +kernel
theorem dX9_code_5 : decode cX9_code 5 = .ok (.ifCond .ne 11, 3) := by decide +kernel
theorem dX9_code_8 : decode cX9_code 8 = .ok (.new 100, 3) := by decide +kernel
theorem dX9_code_11 : decode cX9_code 11 = .ok (.dup, 1) := by decide +kernel
theorem dX9_code_12 : decode cX9_code 12 = .ok (.invokespecial 102, 3) := by decide +kernel
theorem dX9_code_15 : decode cX9_code 15 = .ok (.athrow, 1) := by decide +kernel
theorem dX9_code_16 : decode cX9_code 16 = .ok (.aload_n 0, 1) := by decide +kernel
theorem dX9_code_17 : decode cX9_code 17 = .ok (.getfield 39, 3) := by decide +kernel
theorem dX9_code_20 : decode cX9_code 20 = .ok (.getfield 79, 3) := by decide +kernel
theorem dX9_code_23 : decode cX9_code 23 = .ok (.iload_n 1, 1) := by decide +kernel
theorem dX9_code_24 : decode cX9_code 24 = .ok (.aaload, 1) := by decide +kernel
theorem dX9_code_25 : decode cX9_code 25 = .ok (.getfield 128, 3) := by decide +kernel
theorem dX9_code_28 : decode cX9_code 28 = .ok (.ireturn, 1) := by decide +kernel
theorem dX9_expires_0 : decode cX9_expires 0 = .ok (.aload_n 0, 1) := by decide +kernel
theorem dX9_expires_1 : decode cX9_expires 1 = .ok (.iload_n 1, 1) := by decide +kernel
theorem dX9_expires_2 : decode cX9_expires 2 = .ok (.invokevirtual 96, 3) := by decide +kernel
theorem dX9_expires_5 : decode cX9_expires 5 = .ok (.ifCond .eq 11, 3) := by decide +kernel
theorem dX9_expires_8 : decode cX9_expires 8 = .ok (.aload_n 0, 1) := by decide +kernel
theorem dX9_expires_9 : decode cX9_expires 9 = .ok (.iload_n 2, 1) := by decide +kernel
theorem dX9_expires_10 : decode cX9_expires 10 = .ok (.invokevirtual 132, 3) := by decide +kernel
theorem dX9_expires_13 : decode cX9_expires 13 = .ok (.ifCond .ne 11, 3) := by decide +kernel
theorem dX9_expires_16 : decode cX9_expires 16 = .ok (.new 100, 3) := by decide +kernel
theorem dX9_expires_19 : decode cX9_expires 19 = .ok (.dup, 1) := by decide +kernel
theorem dX9_expires_20 : decode cX9_expires 20 = .ok (.invokespecial 102, 3) := by decide +kernel
theorem dX9_expires_23 : decode cX9_expires 23 = .ok (.athrow, 1) := by decide +kernel
theorem dX9_expires_24 : decode cX9_expires 24 = .ok (.aload_n 0, 1) := by decide +kernel
theorem dX9_expires_25 : decode cX9_expires 25 = .ok (.getfield 39, 3) := by decide +kernel
theorem dX9_expires_28 : decode cX9_expires 28 = .ok (.getfield 135, 3) := by decide +kernel
theorem dX9_expires_31 : decode cX9_expires 31 = .ok (.getfield 139, 3) := by decide +kernel
theorem dX9_expires_34 : decode cX9_expires 34 = .ok (.iload_n 2, 1) := by decide +kernel
theorem dX9_expires_35 : decode cX9_expires 35 = .ok (.aaload, 1) := by decide +kernel
theorem dX9_expires_36 : decode cX9_expires 36 = .ok (.astore_n 3, 1) := by decide +kernel
theorem dX9_expires_37 : decode cX9_expires 37 = .ok (.aload_n 3, 1) := by decide +kernel
theorem dX9_expires_38 : decode cX9_expires 38 = .ok (.invokevirtual 143, 3) := by decide +kernel
theorem dX9_expires_41 : decode cX9_expires 41 = .ok (.ifCond .eq 11, 3) := by decide +kernel
theorem dX9_expires_44 : decode cX9_expires 44 = .ok (.new 147, 3) := by decide +kernel
theorem dX9_expires_47 : decode cX9_expires 47 = .ok (.dup, 1) := by decide +kernel
theorem dX9_expires_48 : decode cX9_expires 48 = .ok (.invokespecial 149, 3) := by decide +kernel
theorem dX9_expires_51 : decode cX9_expires 51 = .ok (.athrow, 1) := by decide +kernel
theorem dX9_expires_52 : decode cX9_expires 52 = .ok (.bipush 60, 2) := by decide +kernel
theorem dX9_expires_54 : decode cX9_expires 54 = .ok (.aload_n 3, 1) := by decide +kernel
theorem dX9_expires_55 : decode cX9_expires 55 = .ok (.aload_n 0, 1) := by decide +kernel
theorem dX9_expires_56 : decode cX9_expires 56 = .ok (.getfield 39, 3) := by decide +kernel
theorem dX9_expires_59 : decode cX9_expires 59 = .ok (.getfield 79, 3) := by decide +kernel
theorem dX9_expires_62 : decode cX9_expires 62 = .ok (.iload_n 1, 1) := by decide +kernel
theorem dX9_expires_63 : decode cX9_expires 63 = .ok (.aaload, 1) := by decide +kernel
theorem dX9_expires_64 : decode cX9_expires 64 = .ok (.invokevirtual 150, 3) := by decide +kernel
theorem dX9_expires_67 : decode cX9_expires 67 = .ok (.invokestatic 153, 3) := by decide +kernel
theorem dX9_expires_70 : decode cX9_expires 70 = .ok (.ireturn, 1) := by decide +kernel
theorem dX9_addEquivalence_0 : decode cX9_addEquivalence 0 = .ok (.iload_n 1, 1) := by decide +kernel
theorem dX9_addEquivalence_1 : decode cX9_addEquivalence 1 = .ok (.iload_n 2, 1) := by decide +kernel
theorem dX9_addEquivalence_2 : decode cX9_addEquivalence 2 = .ok (.invokestatic 159, 3) := by decide +kernel
theorem dX9_addEquivalence_5 : decode cX9_addEquivalence 5 = .ok (.ifCond .eq 12, 3) := by decide +kernel
theorem dX9_addEquivalence_8 : decode cX9_addEquivalence 8 = .ok (.iload_n 3, 1) := by decide +kernel
theorem dX9_addEquivalence_9 : decode cX9_addEquivalence 9 = .ok (.iload 4, 2) := by decide +kernel
theorem dX9_addEquivalence_11 : decode cX9_addEquivalence 11 = .ok (.invokestatic 163, 3) := by decide +kernel
theorem dX9_addEquivalence_14 : decode cX9_addEquivalence 14 = .ok (.ifCond .ne 11, 3) := by decide +kernel
theorem dX9_addEquivalence_17 : decode cX9_addEquivalence 17 = .ok (.new 76, 3) := by decide +kernel
theorem dX9_addEquivalence_20 : decode cX9_addEquivalence 20 = .ok (.dup, 1) := by decide +kernel
theorem dX9_addEquivalence_21 : decode cX9_addEquivalence 21 = .ok (.invokespecial 78, 3) := by decide +kernel
theorem dX9_addEquivalence_24 : decode cX9_addEquivalence 24 = .ok (.athrow, 1) := by decide +kernel
theorem dX9_addEquivalence_25 : decode cX9_addEquivalence 25 = .ok (.aload_n 0, 1) := by decide +kernel
theorem dX9_addEquivalence_26 : decode cX9_addEquivalence 26 = .ok (.getfield 39, 3) := by decide +kernel
theorem dX9_addEquivalence_29 : decode cX9_addEquivalence 29 = .ok (.getfield 166, 3) := by decide +kernel
theorem dX9_addEquivalence_32 : decode cX9_addEquivalence 32 = .ok (.arraylength, 1) := by decide +kernel
theorem dX9_addEquivalence_33 : decode cX9_addEquivalence 33 = .ok (.bipush 8, 2) := by decide +kernel
theorem dX9_addEquivalence_35 : decode cX9_addEquivalence 35 = .ok (.if_icmp .lt 11, 3) := by decide +kernel
theorem dX9_addEquivalence_38 : decode cX9_addEquivalence 38 = .ok (.new 147, 3) := by decide +kernel
theorem dX9_addEquivalence_41 : decode cX9_addEquivalence 41 = .ok (.dup, 1) := by decide +kernel
theorem dX9_addEquivalence_42 : decode cX9_addEquivalence 42 = .ok (.invokespecial 149, 3) := by decide +kernel
theorem dX9_addEquivalence_45 : decode cX9_addEquivalence 45 = .ok (.athrow, 1) := by decide +kernel
theorem dX9_addEquivalence_46 : decode cX9_addEquivalence 46 = .ok (.aload_n 0, 1) := by decide +kernel
theorem dX9_addEquivalence_47 : decode cX9_addEquivalence 47 = .ok (.aload_n 0, 1) := by decide +kernel
theorem dX9_addEquivalence_48 : decode cX9_addEquivalence 48 = .ok (.getfield 39, 3) := by decide +kernel
theorem dX9_addEquivalence_51 : decode cX9_addEquivalence 51 = .ok (.new 27, 3) := by decide +kernel
theorem dX9_addEquivalence_54 : decode cX9_addEquivalence 54 = .ok (.dup, 1) := by decide +kernel
theorem dX9_addEquivalence_55 : decode cX9_addEquivalence 55 = .ok (.iload_n 1, 1) := by decide +kernel
theorem dX9_addEquivalence_56 : decode cX9_addEquivalence 56 = .ok (.iload_n 2, 1) := by decide +kernel
theorem dX9_addEquivalence_57 : decode cX9_addEquivalence 57 = .ok (.iload_n 3, 1) := by decide +kernel
theorem dX9_addEquivalence_58 : decode cX9_addEquivalence 58 = .ok (.iload 4, 2) := by decide +kernel
theorem dX9_addEquivalence_60 : decode cX9_addEquivalence 60 = .ok (.invokespecial 170, 3) := by decide +kernel
theorem dX9_addEquivalence_63 : decode cX9_addEquivalence 63 = .ok (.invokevirtual 173, 3) := by decide +kernel
theorem dX9_addEquivalence_66 : decode cX9_addEquivalence 66 = .ok (.invokevirtual 93, 3) := by decide +kernel
theorem dX9_addEquivalence_69 : decode cX9_addEquivalence 69 = .ok (.aload_n 0, 1) := by decide +kernel
theorem dX9_addEquivalence_70 : decode cX9_addEquivalence 70 = .ok (.getfield 39, 3) := by decide +kernel
theorem dX9_addEquivalence_73 : decode cX9_addEquivalence 73 = .ok (.getfield 166, 3) := by decide +kernel
theorem dX9_addEquivalence_76 : decode cX9_addEquivalence 76 = .ok (.arraylength, 1) := by decide +kernel
theorem dX9_addEquivalence_77 : decode cX9_addEquivalence 77 = .ok (.iconst 1, 1) := by decide +kernel
theorem dX9_addEquivalence_78 : decode cX9_addEquivalence 78 = .ok (.isub, 1) := by decide +kernel
theorem dX9_addEquivalence_79 : decode cX9_addEquivalence 79 = .ok (.ireturn, 1) := by decide +kernel
theorem dX9_equivalent_0 : decode cX9_equivalent 0 = .ok (.aload_n 0, 1) := by decide +kernel
theorem dX9_equivalent_1 : decode cX9_equivalent 1 = .ok (.iload_n 1, 1) := by decide +kernel
theorem dX9_equivalent_2 : decode cX9_equivalent 2 = .ok (.invokevirtual 177, 3) := by decide +kernel
theorem dX9_equivalent_5 : decode cX9_equivalent 5 = .ok (.ifCond .ne 11, 3) := by decide +kernel
theorem dX9_equivalent_8 : decode cX9_equivalent 8 = .ok (.new 100, 3) := by decide +kernel
theorem dX9_equivalent_11 : decode cX9_equivalent 11 = .ok (.dup, 1) := by decide +kernel
theorem dX9_equivalent_12 : decode cX9_equivalent 12 = .ok (.invokespecial 102, 3) := by decide +kernel
theorem dX9_equivalent_15 : decode cX9_equivalent 15 = .ok (.athrow, 1) := by decide +kernel
theorem dX9_equivalent_16 : decode cX9_equivalent 16 = .ok (.aload_n 0, 1) := by decide +kernel
theorem dX9_equivalent_17 : decode cX9_equivalent 17 = .ok (.getfield 39, 3) := by decide +kernel
theorem dX9_equivalent_20 : decode cX9_equivalent 20 = .ok (.getfield 166, 3) := by decide +kernel
theorem dX9_equivalent_23 : decode cX9_equivalent 23 = .ok (.iload_n 1, 1) := by decide +kernel
theorem dX9_equivalent_24 : decode cX9_equivalent 24 = .ok (.aaload, 1) := by decide +kernel
theorem dX9_equivalent_25 : decode cX9_equivalent 25 = .ok (.astore_n 3, 1) := by decide +kernel
theorem dX9_equivalent_26 : decode cX9_equivalent 26 = .ok (.iload_n 2, 1) := by decide +kernel
theorem dX9_equivalent_27 : decode cX9_equivalent 27 = .ok (.tableswitch 49 0 3 #[29, 34, 39, 44], 29) := by decide +kernel
theorem dX9_equivalent_56 : decode cX9_equivalent 56 = .ok (.aload_n 3, 1) := by decide +kernel
theorem dX9_equivalent_57 : decode cX9_equivalent 57 = .ok (.getfield 180, 3) := by decide +kernel
theorem dX9_equivalent_60 : decode cX9_equivalent 60 = .ok (.ireturn, 1) := by decide +kernel
theorem dX9_equivalent_61 : decode cX9_equivalent 61 = .ok (.aload_n 3, 1) := by decide +kernel
theorem dX9_equivalent_62 : decode cX9_equivalent 62 = .ok (.getfield 183, 3) := by decide +kernel
