theorem dX9_equivalent_65 : decode cX9_equivalent 65 = .ok (.ireturn, 1) := by decide +kernel
theorem dX9_equivalent_66 : decode cX9_equivalent 66 = .ok (.aload_n 3, 1) := by decide +kernel
theorem dX9_equivalent_67 : decode cX9_equivalent 67 = .ok (.getfield 186, 3) := by decide +kernel
theorem dX9_equivalent_70 : decode cX9_equivalent 70 = .ok (.ireturn, 1) := by decide +kernel
theorem dX9_equivalent_71 : decode cX9_equivalent 71 = .ok (.aload_n 3, 1) := by decide +kernel
theorem dX9_equivalent_72 : decode cX9_equivalent 72 = .ok (.getfield 189, 3) := by decide +kernel
theorem dX9_equivalent_75 : decode cX9_equivalent 75 = .ok (.ireturn, 1) := by decide +kernel
theorem dX9_equivalent_76 : decode cX9_equivalent 76 = .ok (.new 76, 3) := by decide +kernel
theorem dX9_equivalent_79 : decode cX9_equivalent 79 = .ok (.dup, 1) := by decide +kernel
theorem dX9_equivalent_80 : decode cX9_equivalent 80 = .ok (.invokespecial 78, 3) := by decide +kernel
theorem dX9_equivalent_83 : decode cX9_equivalent 83 = .ok (.athrow, 1) := by decide +kernel
theorem dX9_apply_0 : decode cX9_apply 0 = .ok (.aload_n 0, 1) := by decide +kernel
theorem dX9_apply_1 : decode cX9_apply 1 = .ok (.iload_n 1, 1) := by decide +kernel
theorem dX9_apply_2 : decode cX9_apply 2 = .ok (.invokevirtual 177, 3) := by decide +kernel
theorem dX9_apply_5 : decode cX9_apply 5 = .ok (.ifCond .ne 11, 3) := by decide +kernel
theorem dX9_apply_8 : decode cX9_apply 8 = .ok (.new 100, 3) := by decide +kernel
theorem dX9_apply_11 : decode cX9_apply 11 = .ok (.dup, 1) := by decide +kernel
theorem dX9_apply_12 : decode cX9_apply 12 = .ok (.invokespecial 102, 3) := by decide +kernel
theorem dX9_apply_15 : decode cX9_apply 15 = .ok (.athrow, 1) := by decide +kernel
theorem dX9_apply_16 : decode cX9_apply 16 = .ok (.aload_n 0, 1) := by decide +kernel
theorem dX9_apply_17 : decode cX9_apply 17 = .ok (.getfield 39, 3) := by decide +kernel
theorem dX9_apply_20 : decode cX9_apply 20 = .ok (.getfield 166, 3) := by decide +kernel
theorem dX9_apply_23 : decode cX9_apply 23 = .ok (.iload_n 1, 1) := by decide +kernel
theorem dX9_apply_24 : decode cX9_apply 24 = .ok (.aaload, 1) := by decide +kernel
theorem dX9_apply_25 : decode cX9_apply 25 = .ok (.astore_n 2, 1) := by decide +kernel
theorem dX9_apply_26 : decode cX9_apply 26 = .ok (.aload_n 0, 1) := by decide +kernel
theorem dX9_apply_27 : decode cX9_apply 27 = .ok (.getfield 39, 3) := by decide +kernel
theorem dX9_apply_30 : decode cX9_apply 30 = .ok (.aload_n 2, 1) := by decide +kernel
theorem dX9_apply_31 : decode cX9_apply 31 = .ok (.invokevirtual 192, 3) := by decide +kernel
theorem dX9_apply_34 : decode cX9_apply 34 = .ok (.istore_n 3, 1) := by decide +kernel
theorem dX9_apply_35 : decode cX9_apply 35 = .ok (.iload_n 3, 1) := by decide +kernel
theorem dX9_apply_36 : decode cX9_apply 36 = .ok (.ifCond .eq 16, 3) := by decide +kernel
theorem dX9_apply_39 : decode cX9_apply 39 = .ok (.aload_n 0, 1) := by decide +kernel
theorem dX9_apply_40 : decode cX9_apply 40 = .ok (.iload_n 3, 1) := by decide +kernel
theorem dX9_apply_41 : decode cX9_apply 41 = .ok (.putfield 69, 3) := by decide +kernel
theorem dX9_apply_44 : decode cX9_apply 44 = .ok (.new 83, 3) := by decide +kernel
theorem dX9_apply_47 : decode cX9_apply 47 = .ok (.dup, 1) := by decide +kernel
theorem dX9_apply_48 : decode cX9_apply 48 = .ok (.invokespecial 85, 3) := by decide +kernel
theorem dX9_apply_51 : decode cX9_apply 51 = .ok (.athrow, 1) := by decide +kernel
theorem dX9_apply_52 : decode cX9_apply 52 = .ok (.aload_n 0, 1) := by decide +kernel
theorem dX9_apply_53 : decode cX9_apply 53 = .ok (.aload_n 0, 1) := by decide +kernel
theorem dX9_apply_54 : decode cX9_apply 54 = .ok (.getfield 39, 3) := by decide +kernel
theorem dX9_apply_57 : decode cX9_apply 57 = .ok (.aload_n 2, 1) := by decide +kernel
theorem dX9_apply_58 : decode cX9_apply 58 = .ok (.invokevirtual 196, 3) := by decide +kernel
theorem dX9_apply_61 : decode cX9_apply 61 = .ok (.invokevirtual 93, 3) := by decide +kernel
theorem dX9_apply_64 : decode cX9_apply 64 = .ok (.aload_n 2, 1) := by decide +kernel
theorem dX9_apply_65 : decode cX9_apply 65 = .ok (.invokevirtual 199, 3) := by decide +kernel
theorem dX9_apply_68 : decode cX9_apply 68 = .ok (.ireturn, 1) := by decide +kernel
theorem dX9_rootsBy_0 : decode cX9_rootsBy 0 = .ok (.aload_n 0, 1) := by decide +kernel
theorem dX9_rootsBy_1 : decode cX9_rootsBy 1 = .ok (.iload_n 1, 1) := by decide +kernel
theorem dX9_rootsBy_2 : decode cX9_rootsBy 2 = .ok (.invokevirtual 177, 3) := by decide +kernel
theorem dX9_rootsBy_5 : decode cX9_rootsBy 5 = .ok (.ifCond .ne 11, 3) := by decide +kernel
theorem dX9_rootsBy_8 : decode cX9_rootsBy 8 = .ok (.new 100, 3) := by decide +kernel
theorem dX9_rootsBy_11 : decode cX9_rootsBy 11 = .ok (.dup, 1) := by decide +kernel
theorem dX9_rootsBy_12 : decode cX9_rootsBy 12 = .ok (.invokespecial 102, 3) := by decide +kernel
theorem dX9_rootsBy_15 : decode cX9_rootsBy 15 = .ok (.athrow, 1) := by decide +kernel
theorem dX9_rootsBy_16 : decode cX9_rootsBy 16 = .ok (.aload_n 0, 1) := by decide +kernel
theorem dX9_rootsBy_17 : decode cX9_rootsBy 17 = .ok (.aload_n 0, 1) := by decide +kernel
theorem dX9_rootsBy_18 : decode cX9_rootsBy 18 = .ok (.getfield 39, 3) := by decide +kernel
theorem dX9_rootsBy_21 : decode cX9_rootsBy 21 = .ok (.getfield 166, 3) := by decide +kernel
theorem dX9_rootsBy_24 : decode cX9_rootsBy 24 = .ok (.iload_n 1, 1) := by decide +kernel
theorem dX9_rootsBy_25 : decode cX9_rootsBy 25 = .ok (.aaload, 1) := by decide +kernel
theorem dX9_rootsBy_26 : decode cX9_rootsBy 26 = .ok (.invokevirtual 203, 3) := by decide +kernel
theorem dX9_rootsBy_29 : decode cX9_rootsBy 29 = .ok (.istore_n 2, 1) := by decide +kernel
theorem dX9_rootsBy_30 : decode cX9_rootsBy 30 = .ok (.iload_n 2, 1) := by decide +kernel
theorem dX9_rootsBy_31 : decode cX9_rootsBy 31 = .ok (.iconst (-1), 1) := by decide +kernel
theorem dX9_rootsBy_32 : decode cX9_rootsBy 32 = .ok (.if_icmp .ne 11, 3) := by decide +kernel
theorem dX9_rootsBy_35 : decode cX9_rootsBy 35 = .ok (.new 206, 3) := by decide +kernel
theorem dX9_rootsBy_38 : decode cX9_rootsBy 38 = .ok (.dup, 1) := by decide +kernel
theorem dX9_rootsBy_39 : decode cX9_rootsBy 39 = .ok (.invokespecial 208, 3) := by decide +kernel
theorem dX9_rootsBy_42 : decode cX9_rootsBy 42 = .ok (.athrow, 1) := by decide +kernel
theorem dX9_rootsBy_43 : decode cX9_rootsBy 43 = .ok (.iload_n 2, 1) := by decide +kernel
theorem dX9_rootsBy_44 : decode cX9_rootsBy 44 = .ok (.ireturn, 1) := by decide +kernel
theorem dX9_bestEquivalence_0 : decode cX9_bestEquivalence 0 = .ok (.iconst (-1), 1) := by decide +kernel
theorem dX9_bestEquivalence_1 : decode cX9_bestEquivalence 1 = .ok (.istore_n 1, 1) := by decide +kernel
theorem dX9_bestEquivalence_2 : decode cX9_bestEquivalence 2 = .ok (.iconst (-1), 1) := by decide +kernel
theorem dX9_bestEquivalence_3 : decode cX9_bestEquivalence 3 = .ok (.istore_n 2, 1) := by decide +kernel
theorem dX9_bestEquivalence_4 : decode cX9_bestEquivalence 4 = .ok (.iconst 0, 1) := by decide +kernel
theorem dX9_bestEquivalence_5 : decode cX9_bestEquivalence 5 = .ok (.istore_n 3, 1) := by decide +kernel
theorem dX9_bestEquivalence_6 : decode cX9_bestEquivalence 6 = .ok (.iload_n 3, 1) := by decide +kernel
theorem dX9_bestEquivalence_7 : decode cX9_bestEquivalence 7 = .ok (.aload_n 0, 1) := by decide +kernel
theorem dX9_bestEquivalence_8 : decode cX9_bestEquivalence 8 = .ok (.getfield 39, 3) := by decide +kernel
theorem dX9_bestEquivalence_11 : decode cX9_bestEquivalence 11 = .ok (.getfield 166, 3) := by decide +kernel
theorem dX9_bestEquivalence_14 : decode cX9_bestEquivalence 14 = .ok (.arraylength, 1) := by decide +kernel
theorem dX9_bestEquivalence_15 : decode cX9_bestEquivalence 15 = .ok (.if_icmp .ge 35, 3) := by decide +kernel
theorem dX9_bestEquivalence_18 : decode cX9_bestEquivalence 18 = .ok (.aload_n 0, 1) := by decide +kernel
theorem dX9_bestEquivalence_19 : decode cX9_bestEquivalence 19 = .ok (.aload_n 0, 1) := by decide +kernel
theorem dX9_bestEquivalence_20 : decode cX9_bestEquivalence 20 = .ok (.getfield 39, 3) := by decide +kernel
theorem dX9_bestEquivalence_23 : decode cX9_bestEquivalence 23 = .ok (.getfield 166, 3) := by decide +kernel
theorem dX9_bestEquivalence_26 : decode cX9_bestEquivalence 26 = .ok (.iload_n 3, 1) := by decide +kernel
theorem dX9_bestEquivalence_27 : decode cX9_bestEquivalence 27 = .ok (.aaload, 1) := by decide +kernel
theorem dX9_bestEquivalence_28 : decode cX9_bestEquivalence 28 = .ok (.invokevirtual 203, 3) := by decide +kernel
theorem dX9_bestEquivalence_31 : decode cX9_bestEquivalence 31 = .ok (.istore 4, 2) := by decide +kernel
theorem dX9_bestEquivalence_33 : decode cX9_bestEquivalence 33 = .ok (.iload 4, 2) := by decide +kernel
theorem dX9_bestEquivalence_35 : decode cX9_bestEquivalence 35 = .ok (.iload_n 2, 1) := by decide +kernel
theorem dX9_bestEquivalence_36 : decode cX9_bestEquivalence 36 = .ok (.if_icmp .le 8, 3) := by decide +kernel
theorem dX9_bestEquivalence_39 : decode cX9_bestEquivalence 39 = .ok (.iload 4, 2) := by decide +kernel
theorem dX9_bestEquivalence_41 : decode cX9_bestEquivalence 41 = .ok (.istore_n 2, 1) := by decide +kernel
theorem dX9_bestEquivalence_42 : decode cX9_bestEquivalence 42 = .ok (.iload_n 3, 1) := by decide +kernel
theorem dX9_bestEquivalence_43 : decode cX9_bestEquivalence 43 = .ok (.istore_n 1, 1) := by decide +kernel
theorem dX9_bestEquivalence_44 : decode cX9_bestEquivalence 44 = .ok (.iinc 3 1, 3) := by decide +kernel
theorem dX9_bestEquivalence_47 : decode cX9_bestEquivalence 47 = .ok (.goto (-41), 3) := by decide +kernel
theorem dX9_bestEquivalence_50 : decode cX9_bestEquivalence 50 = .ok (.iload_n 1, 1) := by decide +kernel
theorem dX9_bestEquivalence_51 : decode cX9_bestEquivalence 51 = .ok (.iconst (-1), 1) := by decide +kernel
theorem dX9_bestEquivalence_52 : decode cX9_bestEquivalence 52 = .ok (.if_icmp .ne 11, 3) := by decide +kernel
theorem dX9_bestEquivalence_55 : decode cX9_bestEquivalence 55 = .ok (.new 206, 3) := by decide +kernel
theorem dX9_bestEquivalence_58 : decode cX9_bestEquivalence 58 = .ok (.dup, 1) := by decide +kernel
theorem dX9_bestEquivalence_59 : decode cX9_bestEquivalence 59 = .ok (.invokespecial 208, 3) := by decide +kernel
theorem dX9_bestEquivalence_62 : decode cX9_bestEquivalence 62 = .ok (.athrow, 1) := by decide +kernel
theorem dX9_bestEquivalence_63 : decode cX9_bestEquivalence 63 = .ok (.iload_n 1, 1) := by decide +kernel
theorem dX9_bestEquivalence_64 : decode cX9_bestEquivalence 64 = .ok (.ireturn, 1) := by decide +kernel
theorem dX9_append_0 : decode cX9_append 0 = .ok (.aload_n 0, 1) := by decide +kernel
theorem dX9_append_1 : decode cX9_append 1 = .ok (.getfield 10, 3) := by decide +kernel
theorem dX9_append_4 : decode cX9_append 4 = .ok (.invokevirtual 209, 3) := by decide +kernel
theorem dX9_append_7 : decode cX9_append 7 = .ok (.ifCond .eq 11, 3) := by decide +kernel
theorem dX9_append_10 : decode cX9_append 10 = .ok (.new 147, 3) := by decide +kernel
theorem dX9_append_13 : decode cX9_append 13 = .ok (.dup, 1) := by decide +kernel
theorem dX9_append_14 : decode cX9_append 14 = .ok (.invokespecial 149, 3) := by decide +kernel
theorem dX9_append_17 : decode cX9_append 17 = .ok (.athrow, 1) := by decide +kernel
theorem dX9_append_18 : decode cX9_append 18 = .ok (.aload_n 0, 1) := by decide +kernel
theorem dX9_append_19 : decode cX9_append 19 = .ok (.getfield 10, 3) := by decide +kernel
theorem dX9_append_22 : decode cX9_append 22 = .ok (.iload_n 1, 1) := by decide +kernel
theorem dX9_append_23 : decode cX9_append 23 = .ok (.invokevirtual 212, 3) := by decide +kernel
theorem dX9_append_26 : decode cX9_append 26 = .ok (.return_, 1) := by decide +kernel
theorem dX9_readProgram_0 : decode cX9_readProgram 0 = .ok (.aload_n 0, 1) := by decide +kernel
theorem dX9_readProgram_1 : decode cX9_readProgram 1 = .ok (.aload_n 0, 1) := by decide +kernel
theorem dX9_readProgram_2 : decode cX9_readProgram 2 = .ok (.getfield 10, 3) := by decide +kernel
theorem dX9_readProgram_5 : decode cX9_readProgram 5 = .ok (.invokevirtual 216, 3) := by decide +kernel
theorem dX9_readProgram_8 : decode cX9_readProgram 8 = .ok (.putfield 65, 3) := by decide +kernel
theorem dX9_readProgram_11 : decode cX9_readProgram 11 = .ok (.aload_n 0, 1) := by decide +kernel
theorem dX9_readProgram_12 : decode cX9_readProgram 12 = .ok (.getfield 65, 3) := by decide +kernel
theorem dX9_readProgram_15 : decode cX9_readProgram 15 = .ok (.iconst (-1), 1) := by decide +kernel
theorem dX9_readProgram_16 : decode cX9_readProgram 16 = .ok (.if_icmp .eq 11, 3) := by decide +kernel
theorem dX9_readProgram_19 : decode cX9_readProgram 19 = .ok (.new 76, 3) := by decide +kernel
theorem dX9_readProgram_22 : decode cX9_readProgram 22 = .ok (.dup, 1) := by decide +kernel
theorem dX9_readProgram_23 : decode cX9_readProgram 23 = .ok (.invokespecial 78, 3) := by decide +kernel
theorem dX9_readProgram_26 : decode cX9_readProgram 26 = .ok (.athrow, 1) := by decide +kernel
theorem dX9_readProgram_27 : decode cX9_readProgram 27 = .ok (.aload_n 0, 1) := by decide +kernel
theorem dX9_readProgram_28 : decode cX9_readProgram 28 = .ok (.getfield 10, 3) := by decide +kernel
theorem dX9_readProgram_31 : decode cX9_readProgram 31 = .ok (.invokevirtual 219, 3) := by decide +kernel
theorem dX9_readProgram_34 : decode cX9_readProgram 34 = .ok (.astore_n 1, 1) := by decide +kernel
theorem dX9_readProgram_35 : decode cX9_readProgram 35 = .ok (.aload_n 1, 1) := by decide +kernel
theorem dX9_readProgram_36 : decode cX9_readProgram 36 = .ok (.invokestatic 223, 3) := by decide +kernel
theorem dX9_readProgram_39 : decode cX9_readProgram 39 = .ok (.istore_n 2, 1) := by decide +kernel
theorem dX9_readProgram_40 : decode cX9_readProgram 40 = .ok (.iload_n 2, 1) := by decide +kernel
theorem dX9_readProgram_41 : decode cX9_readProgram 41 = .ok (.ifCond .eq 16, 3) := by decide +kernel
theorem dX9_readProgram_44 : decode cX9_readProgram 44 = .ok (.aload_n 0, 1) := by decide +kernel
theorem dX9_readProgram_45 : decode cX9_readProgram 45 = .ok (.iload_n 2, 1) := by decide +kernel
theorem dX9_readProgram_46 : decode cX9_readProgram 46 = .ok (.putfield 69, 3) := by decide +kernel
theorem dX9_readProgram_49 : decode cX9_readProgram 49 = .ok (.new 83, 3) := by decide +kernel
theorem dX9_readProgram_52 : decode cX9_readProgram 52 = .ok (.dup, 1) := by decide +kernel
theorem dX9_readProgram_53 : decode cX9_readProgram 53 = .ok (.invokespecial 85, 3) := by decide +kernel
theorem dX9_readProgram_56 : decode cX9_readProgram 56 = .ok (.athrow, 1) := by decide +kernel
theorem dX9_readProgram_57 : decode cX9_readProgram 57 = .ok (.aload_n 0, 1) := by decide +kernel
theorem dX9_readProgram_58 : decode cX9_readProgram 58 = .ok (.aload_n 0, 1) := by decide +kernel
theorem dX9_readProgram_59 : decode cX9_readProgram 59 = .ok (.getfield 39, 3) := by decide +kernel
theorem dX9_readProgram_62 : decode cX9_readProgram 62 = .ok (.new 29, 3) := by decide +kernel
theorem dX9_readProgram_65 : decode cX9_readProgram 65 = .ok (.dup, 1) := by decide +kernel
theorem dX9_readProgram_66 : decode cX9_readProgram 66 = .ok (.aload_n 1, 1) := by decide +kernel
theorem dX9_readProgram_67 : decode cX9_readProgram 67 = .ok (.invokespecial 33, 3) := by decide +kernel
theorem dX9_readProgram_70 : decode cX9_readProgram 70 = .ok (.invokevirtual 226, 3) := by decide +kernel
theorem dX9_readProgram_73 : decode cX9_readProgram 73 = .ok (.invokevirtual 93, 3) := by decide +kernel
theorem dX9_readProgram_76 : decode cX9_readProgram 76 = .ok (.aload_n 1, 1) := by decide +kernel
theorem dX9_readProgram_77 : decode cX9_readProgram 77 = .ok (.arraylength, 1) := by decide +kernel
theorem dX9_readProgram_78 : decode cX9_readProgram 78 = .ok (.ireturn, 1) := by decide +kernel
theorem dX9_faultPosition_0 : decode cX9_faultPosition 0 = .ok (.aload_n 0, 1) := by decide +kernel
theorem dX9_faultPosition_1 : decode cX9_faultPosition 1 = .ok (.getfield 65, 3) := by decide +kernel
theorem dX9_faultPosition_4 : decode cX9_faultPosition 4 = .ok (.ireturn, 1) := by decide +kernel
theorem dX9_refusal_0 : decode cX9_refusal 0 = .ok (.aload_n 0, 1) := by decide +kernel
theorem dX9_refusal_1 : decode cX9_refusal 1 = .ok (.getfield 69, 3) := by decide +kernel
theorem dX9_refusal_4 : decode cX9_refusal 4 = .ok (.ifCond .ne 11, 3) := by decide +kernel
theorem dX9_refusal_7 : decode cX9_refusal 7 = .ok (.new 206, 3) := by decide +kernel
theorem dX9_refusal_10 : decode cX9_refusal 10 = .ok (.dup, 1) := by decide +kernel
theorem dX9_refusal_11 : decode cX9_refusal 11 = .ok (.invokespecial 208, 3) := by decide +kernel
theorem dX9_refusal_14 : decode cX9_refusal 14 = .ok (.athrow, 1) := by decide +kernel
theorem dX9_refusal_15 : decode cX9_refusal 15 = .ok (.aload_n 0, 1) := by decide +kernel
theorem dX9_refusal_16 : decode cX9_refusal 16 = .ok (.getfield 69, 3) := by decide +kernel
theorem dX9_refusal_19 : decode cX9_refusal 19 = .ok (.ireturn, 1) := by decide +kernel
theorem dX9_block_0 : decode cX9_block 0 = .ok (.aload_n 0, 1) := by decide +kernel
theorem dX9_block_1 : decode cX9_block 1 = .ok (.iload_n 1, 1) := by decide +kernel
theorem dX9_block_2 : decode cX9_block 2 = .ok (.invokevirtual 132, 3) := by decide +kernel
theorem dX9_block_5 : decode cX9_block 5 = .ok (.ifCond .ne 11, 3) := by decide +kernel
theorem dX9_block_8 : decode cX9_block 8 = .ok (.new 100, 3) := by decide +kernel
theorem dX9_block_11 : decode cX9_block 11 = .ok (.dup, 1) := by decide +kernel
theorem dX9_block_12 : decode cX9_block 12 = .ok (.invokespecial 102, 3) := by decide +kernel
theorem dX9_block_15 : decode cX9_block 15 = .ok (.athrow, 1) := by decide +kernel
theorem dX9_block_16 : decode cX9_block 16 = .ok (.aload_n 0, 1) := by decide +kernel
theorem dX9_block_17 : decode cX9_block 17 = .ok (.getfield 39, 3) := by decide +kernel
theorem dX9_block_20 : decode cX9_block 20 = .ok (.getfield 135, 3) := by decide +kernel
theorem dX9_block_23 : decode cX9_block 23 = .ok (.getfield 139, 3) := by decide +kernel
theorem dX9_block_26 : decode cX9_block 26 = .ok (.iload_n 1, 1) := by decide +kernel
theorem dX9_block_27 : decode cX9_block 27 = .ok (.aaload, 1) := by decide +kernel
theorem dX9_block_28 : decode cX9_block 28 = .ok (.astore_n 3, 1) := by decide +kernel
theorem dX9_block_29 : decode cX9_block 29 = .ok (.iload_n 2, 1) := by decide +kernel
theorem dX9_block_30 : decode cX9_block 30 = .ok (.tableswitch 104 0 7 #[46, 59, 64, 76, 81, 86, 91, 99], 46) := by decide +kernel
theorem dX9_block_76 : decode cX9_block 76 = .ok (.aload_n 3, 1) := by decide +kernel
theorem dX9_block_77 : decode cX9_block 77 = .ok (.invokevirtual 143, 3) := by decide +kernel
theorem dX9_block_80 : decode cX9_block 80 = .ok (.ifCond .eq 7, 3) := by decide +kernel
theorem dX9_block_83 : decode cX9_block 83 = .ok (.iconst 1, 1) := by decide +kernel
theorem dX9_block_84 : decode cX9_block 84 = .ok (.goto 4, 3) := by decide +kernel
theorem dX9_block_87 : decode cX9_block 87 = .ok (.iconst 0, 1) := by decide +kernel
theorem dX9_block_88 : decode cX9_block 88 = .ok (.ireturn, 1) := by decide +kernel
theorem dX9_block_89 : decode cX9_block 89 = .ok (.aload_n 3, 1) := by decide +kernel
theorem dX9_block_90 : decode cX9_block 90 = .ok (.getfield 230, 3) := by decide +kernel
theorem dX9_block_93 : decode cX9_block 93 = .ok (.ireturn, 1) := by decide +kernel
theorem dX9_block_94 : decode cX9_block 94 = .ok (.aload_n 0, 1) := by decide +kernel
theorem dX9_block_95 : decode cX9_block 95 = .ok (.getfield 39, 3) := by decide +kernel
theorem dX9_block_98 : decode cX9_block 98 = .ok (.getfield 135, 3) := by decide +kernel
theorem dX9_block_101 : decode cX9_block 101 = .ok (.iload_n 1, 1) := by decide +kernel
theorem dX9_block_102 : decode cX9_block 102 = .ok (.invokevirtual 233, 3) := by decide +kernel
theorem dX9_block_105 : decode cX9_block 105 = .ok (.ireturn, 1) := by decide +kernel
theorem dX9_block_106 : decode cX9_block 106 = .ok (.aload_n 3, 1) := by decide +kernel
theorem dX9_block_107 : decode cX9_block 107 = .ok (.getfield 236, 3) := by decide +kernel
theorem dX9_block_110 : decode cX9_block 110 = .ok (.ireturn, 1) := by decide +kernel
theorem dX9_block_111 : decode cX9_block 111 = .ok (.aload_n 3, 1) := by decide +kernel
theorem dX9_block_112 : decode cX9_block 112 = .ok (.getfield 239, 3) := by decide +kernel
theorem dX9_block_115 : decode cX9_block 115 = .ok (.ireturn, 1) := by decide +kernel
theorem dX9_block_116 : decode cX9_block 116 = .ok (.aload_n 3, 1) := by decide +kernel
theorem dX9_block_117 : decode cX9_block 117 = .ok (.getfield 242, 3) := by decide +kernel
theorem dX9_block_120 : decode cX9_block 120 = .ok (.ireturn, 1) := by decide +kernel
theorem dX9_block_121 : decode cX9_block 121 = .ok (.aload_n 3, 1) := by decide +kernel
theorem dX9_block_122 : decode cX9_block 122 = .ok (.getfield 245, 3) := by decide +kernel
theorem dX9_block_125 : decode cX9_block 125 = .ok (.invokevirtual 249, 3) := by decide +kernel
theorem dX9_block_128 : decode cX9_block 128 = .ok (.ireturn, 1) := by decide +kernel
theorem dX9_block_129 : decode cX9_block 129 = .ok (.aload_n 3, 1) := by decide +kernel
theorem dX9_block_130 : decode cX9_block 130 = .ok (.getfield 254, 3) := by decide +kernel
theorem dX9_block_133 : decode cX9_block 133 = .ok (.ireturn, 1) := by decide +kernel
theorem dX9_block_134 : decode cX9_block 134 = .ok (.new 76, 3) := by decide +kernel
theorem dX9_block_137 : decode cX9_block 137 = .ok (.dup, 1) := by decide +kernel
theorem dX9_block_138 : decode cX9_block 138 = .ok (.invokespecial 78, 3) := by decide +kernel
theorem dX9_block_141 : decode cX9_block 141 = .ok (.athrow, 1) := by decide +kernel
theorem dX9_part_0 : decode cX9_part 0 = .ok (.aload_n 0, 1) := by decide +kernel
theorem dX9_part_1 : decode cX9_part 1 = .ok (.iload_n 1, 1) := by decide +kernel
theorem dX9_part_2 : decode cX9_part 2 = .ok (.invokevirtual 132, 3) := by decide +kernel
theorem dX9_part_5 : decode cX9_part 5 = .ok (.ifCond .ne 11, 3) := by decide +kernel
theorem dX9_part_8 : decode cX9_part 8 = .ok (.new 100, 3) := by decide +kernel
theorem dX9_part_11 : decode cX9_part 11 = .ok (.dup, 1) := by decide +kernel
theorem dX9_part_12 : decode cX9_part 12 = .ok (.invokespecial 102, 3) := by decide +kernel
theorem dX9_part_15 : decode cX9_part 15 = .ok (.athrow, 1) := by decide +kernel
theorem dX9_part_16 : decode cX9_part 16 = .ok (.aload_n 0, 1) := by decide +kernel
theorem dX9_part_17 : decode cX9_part 17 = .ok (.getfield 39, 3) := by decide +kernel
theorem dX9_part_20 : decode cX9_part 20 = .ok (.getfield 135, 3) := by decide +kernel
theorem dX9_part_23 : decode cX9_part 23 = .ok (.iload_n 1, 1) := by decide +kernel
theorem dX9_part_24 : decode cX9_part 24 = .ok (.iload_n 2, 1) := by decide +kernel
theorem dX9_part_25 : decode cX9_part 25 = .ok (.invokevirtual 257, 3) := by decide +kernel
theorem dX9_part_28 : decode cX9_part 28 = .ok (.istore_n 3, 1) := by decide +kernel
theorem dX9_part_29 : decode cX9_part 29 = .ok (.iload_n 3, 1) := by decide +kernel
theorem dX9_part_30 : decode cX9_part 30 = .ok (.iconst (-1), 1) := by decide +kernel
theorem dX9_part_31 : decode cX9_part 31 = .ok (.if_icmp .ne 11, 3) := by decide +kernel
theorem dX9_part_34 : decode cX9_part 34 = .ok (.new 206, 3) := by decide +kernel
theorem dX9_part_37 : decode cX9_part 37 = .ok (.dup, 1) := by decide +kernel
theorem dX9_part_38 : decode cX9_part 38 = .ok (.invokespecial 208, 3) := by decide +kernel
theorem dX9_part_41 : decode cX9_part 41 = .ok (.athrow, 1) := by decide +kernel
theorem dX9_part_42 : decode cX9_part 42 = .ok (.iload_n 3, 1) := by decide +kernel
theorem dX9_part_43 : decode cX9_part 43 = .ok (.ireturn, 1) := by decide +kernel
theorem dX9_letter_0 : decode cX9_letter 0 = .ok (.aload_n 0, 1) := by decide +kernel
theorem dX9_letter_1 : decode cX9_letter 1 = .ok (.iload_n 1, 1) := by decide +kernel
theorem dX9_letter_2 : decode cX9_letter 2 = .ok (.invokevirtual 132, 3) := by decide +kernel
theorem dX9_letter_5 : decode cX9_letter 5 = .ok (.ifCond .ne 11, 3) := by decide +kernel
theorem dX9_letter_8 : decode cX9_letter 8 = .ok (.new 100, 3) := by decide +kernel
theorem dX9_letter_11 : decode cX9_letter 11 = .ok (.dup, 1) := by decide +kernel
theorem dX9_letter_12 : decode cX9_letter 12 = .ok (.invokespecial 102, 3) := by decide +kernel
theorem dX9_letter_15 : decode cX9_letter 15 = .ok (.athrow, 1) := by decide +kernel
theorem dX9_letter_16 : decode cX9_letter 16 = .ok (.aload_n 0, 1) := by decide +kernel
theorem dX9_letter_17 : decode cX9_letter 17 = .ok (.getfield 39, 3) := by decide +kernel
theorem dX9_letter_20 : decode cX9_letter 20 = .ok (.getfield 135, 3) := by decide +kernel
theorem dX9_letter_23 : decode cX9_letter 23 = .ok (.getfield 139, 3) := by decide +kernel
theorem dX9_letter_26 : decode cX9_letter 26 = .ok (.iload_n 1, 1) := by decide +kernel
theorem dX9_letter_27 : decode cX9_letter 27 = .ok (.aaload, 1) := by decide +kernel
theorem dX9_letter_28 : decode cX9_letter 28 = .ok (.getfield 245, 3) := by decide +kernel
theorem dX9_letter_31 : decode cX9_letter 31 = .ok (.astore_n 3, 1) := by decide +kernel
theorem dX9_letter_32 : decode cX9_letter 32 = .ok (.iload_n 2, 1) := by decide +kernel
theorem dX9_letter_33 : decode cX9_letter 33 = .ok (.ifCond .lt 11, 3) := by decide +kernel
theorem dX9_letter_36 : decode cX9_letter 36 = .ok (.iload_n 2, 1) := by decide +kernel
theorem dX9_letter_37 : decode cX9_letter 37 = .ok (.aload_n 3, 1) := by decide +kernel
theorem dX9_letter_38 : decode cX9_letter 38 = .ok (.invokevirtual 249, 3) := by decide +kernel
theorem dX9_letter_41 : decode cX9_letter 41 = .ok (.if_icmp .lt 11, 3) := by decide +kernel
theorem dX9_letter_44 : decode cX9_letter 44 = .ok (.new 206, 3) := by decide +kernel
theorem dX9_letter_47 : decode cX9_letter 47 = .ok (.dup, 1) := by decide +kernel
theorem dX9_letter_48 : decode cX9_letter 48 = .ok (.invokespecial 208, 3) := by decide +kernel
theorem dX9_letter_51 : decode cX9_letter 51 = .ok (.athrow, 1) := by decide +kernel
theorem dX9_letter_52 : decode cX9_letter 52 = .ok (.aload_n 3, 1) := by decide +kernel
theorem dX9_letter_53 : decode cX9_letter 53 = .ok (.iload_n 2, 1) := by decide +kernel
theorem dX9_letter_54 : decode cX9_letter 54 = .ok (.invokevirtual 260, 3) := by decide +kernel
theorem dX9_letter_57 : decode cX9_letter 57 = .ok (.ireturn, 1) := by decide +kernel
theorem dX9_accepts_0 : decode cX9_accepts 0 = .ok (.aload_n 0, 1) := by decide +kernel
theorem dX9_accepts_1 : decode cX9_accepts 1 = .ok (.iload_n 1, 1) := by decide +kernel
theorem dX9_accepts_2 : decode cX9_accepts 2 = .ok (.invokevirtual 132, 3) := by decide +kernel
theorem dX9_accepts_5 : decode cX9_accepts 5 = .ok (.ifCond .eq 11, 3) := by decide +kernel
theorem dX9_accepts_8 : decode cX9_accepts 8 = .ok (.aload_n 0, 1) := by decide +kernel
theorem dX9_accepts_9 : decode cX9_accepts 9 = .ok (.iload_n 2, 1) := by decide +kernel
theorem dX9_accepts_10 : decode cX9_accepts 10 = .ok (.invokevirtual 96, 3) := by decide +kernel
theorem dX9_accepts_13 : decode cX9_accepts 13 = .ok (.ifCond .ne 11, 3) := by decide +kernel
theorem dX9_accepts_16 : decode cX9_accepts 16 = .ok (.new 100, 3) := by decide +kernel
theorem dX9_accepts_19 : decode cX9_accepts 19 = .ok (.dup, 1) := by decide +kernel
theorem dX9_accepts_20 : decode cX9_accepts 20 = .ok (.invokespecial 102, 3) := by decide +kernel
theorem dX9_accepts_23 : decode cX9_accepts 23 = .ok (.athrow, 1) := by decide +kernel
theorem dX9_accepts_24 : decode cX9_accepts 24 = .ok (.aload_n 0, 1) := by decide +kernel
theorem dX9_accepts_25 : decode cX9_accepts 25 = .ok (.getfield 39, 3) := by decide +kernel
theorem dX9_accepts_28 : decode cX9_accepts 28 = .ok (.getfield 135, 3) := by decide +kernel
theorem dX9_accepts_31 : decode cX9_accepts 31 = .ok (.getfield 139, 3) := by decide +kernel
theorem dX9_accepts_34 : decode cX9_accepts 34 = .ok (.iload_n 1, 1) := by decide +kernel
theorem dX9_accepts_35 : decode cX9_accepts 35 = .ok (.aaload, 1) := by decide +kernel
theorem dX9_accepts_36 : decode cX9_accepts 36 = .ok (.aload_n 0, 1) := by decide +kernel
theorem dX9_accepts_37 : decode cX9_accepts 37 = .ok (.getfield 39, 3) := by decide +kernel
theorem dX9_accepts_40 : decode cX9_accepts 40 = .ok (.getfield 79, 3) := by decide +kernel
theorem dX9_accepts_43 : decode cX9_accepts 43 = .ok (.iload_n 2, 1) := by decide +kernel
theorem dX9_accepts_44 : decode cX9_accepts 44 = .ok (.aaload, 1) := by decide +kernel
theorem dX9_accepts_45 : decode cX9_accepts 45 = .ok (.aload_n 0, 1) := by decide +kernel
theorem dX9_accepts_46 : decode cX9_accepts 46 = .ok (.getfield 39, 3) := by decide +kernel
theorem dX9_accepts_49 : decode cX9_accepts 49 = .ok (.getfield 264, 3) := by decide +kernel
theorem dX9_accepts_52 : decode cX9_accepts 52 = .ok (.invokevirtual 265, 3) := by decide +kernel
theorem dX9_accepts_55 : decode cX9_accepts 55 = .ok (.ireturn, 1) := by decide +kernel
theorem dX9_isMet_0 : decode cX9_isMet 0 = .ok (.aload_n 0, 1) := by decide +kernel
theorem dX9_isMet_1 : decode cX9_isMet 1 = .ok (.iload_n 1, 1) := by decide +kernel
theorem dX9_isMet_2 : decode cX9_isMet 2 = .ok (.invokevirtual 132, 3) := by decide +kernel
theorem dX9_isMet_5 : decode cX9_isMet 5 = .ok (.ifCond .ne 11, 3) := by decide +kernel
theorem dX9_isMet_8 : decode cX9_isMet 8 = .ok (.new 100, 3) := by decide +kernel
theorem dX9_isMet_11 : decode cX9_isMet 11 = .ok (.dup, 1) := by decide +kernel
theorem dX9_isMet_12 : decode cX9_isMet 12 = .ok (.invokespecial 102, 3) := by decide +kernel
theorem dX9_isMet_15 : decode cX9_isMet 15 = .ok (.athrow, 1) := by decide +kernel
theorem dX9_isMet_16 : decode cX9_isMet 16 = .ok (.aload_n 0, 1) := by decide +kernel
theorem dX9_isMet_17 : decode cX9_isMet 17 = .ok (.invokevirtual 116, 3) := by decide +kernel
theorem dX9_isMet_20 : decode cX9_isMet 20 = .ok (.iload_n 1, 1) := by decide +kernel
theorem dX9_isMet_21 : decode cX9_isMet 21 = .ok (.invokevirtual 269, 3) := by decide +kernel
theorem dX9_isMet_24 : decode cX9_isMet 24 = .ok (.ireturn, 1) := by decide +kernel
theorem dX9_points_0 : decode cX9_points 0 = .ok (.aload_n 0, 1) := by decide +kernel
theorem dX9_points_1 : decode cX9_points 1 = .ok (.iload_n 1, 1) := by decide +kernel
theorem dX9_points_2 : decode cX9_points 2 = .ok (.invokevirtual 132, 3) := by decide +kernel
theorem dX9_points_5 : decode cX9_points 5 = .ok (.ifCond .ne 11, 3) := by decide +kernel
theorem dX9_points_8 : decode cX9_points 8 = .ok (.new 100, 3) := by decide +kernel
theorem dX9_points_11 : decode cX9_points 11 = .ok (.dup, 1) := by decide +kernel
theorem dX9_points_12 : decode cX9_points 12 = .ok (.invokespecial 102, 3) := by decide +kernel
theorem dX9_points_15 : decode cX9_points 15 = .ok (.athrow, 1) := by decide +kernel
theorem dX9_points_16 : decode cX9_points 16 = .ok (.aload_n 0, 1) := by decide +kernel
theorem dX9_points_17 : decode cX9_points 17 = .ok (.invokevirtual 116, 3) := by decide +kernel
theorem dX9_points_20 : decode cX9_points 20 = .ok (.iload_n 1, 1) := by decide +kernel
theorem dX9_points_21 : decode cX9_points 21 = .ok (.invokevirtual 272, 3) := by decide +kernel
theorem dX9_points_24 : decode cX9_points 24 = .ok (.ireturn, 1) := by decide +kernel
theorem dX9_lacks_0 : decode cX9_lacks 0 = .ok (.aload_n 0, 1) := by decide +kernel
theorem dX9_lacks_1 : decode cX9_lacks 1 = .ok (.iload_n 1, 1) := by decide +kernel
theorem dX9_lacks_2 : decode cX9_lacks 2 = .ok (.invokevirtual 132, 3) := by decide +kernel
theorem dX9_lacks_5 : decode cX9_lacks 5 = .ok (.ifCond .ne 11, 3) := by decide +kernel
theorem dX9_lacks_8 : decode cX9_lacks 8 = .ok (.new 100, 3) := by decide +kernel
theorem dX9_lacks_11 : decode cX9_lacks 11 = .ok (.dup, 1) := by decide +kernel
theorem dX9_lacks_12 : decode cX9_lacks 12 = .ok (.invokespecial 102, 3) := by decide +kernel
theorem dX9_lacks_15 : decode cX9_lacks 15 = .ok (.athrow, 1) := by decide +kernel
theorem dX9_lacks_16 : decode cX9_lacks 16 = .ok (.aload_n 0, 1) := by decide +kernel
theorem dX9_lacks_17 : decode cX9_lacks 17 = .ok (.getfield 39, 3) := by decide +kernel
theorem dX9_lacks_20 : decode cX9_lacks 20 = .ok (.getfield 135, 3) := by decide +kernel
theorem dX9_lacks_23 : decode cX9_lacks 23 = .ok (.getfield 139, 3) := by decide +kernel
theorem dX9_lacks_26 : decode cX9_lacks 26 = .ok (.iload_n 1, 1) := by decide +kernel
theorem dX9_lacks_27 : decode cX9_lacks 27 = .ok (.aaload, 1) := by decide +kernel
theorem dX9_lacks_28 : decode cX9_lacks 28 = .ok (.astore_n 2, 1) := by decide +kernel
theorem dX9_lacks_29 : decode cX9_lacks 29 = .ok (.aload_n 2, 1) := by decide +kernel
theorem dX9_lacks_30 : decode cX9_lacks 30 = .ok (.invokevirtual 143, 3) := by decide +kernel
theorem dX9_lacks_33 : decode cX9_lacks 33 = .ok (.ifCond .eq 11, 3) := by decide +kernel
theorem dX9_lacks_36 : decode cX9_lacks 36 = .ok (.new 147, 3) := by decide +kernel
theorem dX9_lacks_39 : decode cX9_lacks 39 = .ok (.dup, 1) := by decide +kernel
theorem dX9_lacks_40 : decode cX9_lacks 40 = .ok (.invokespecial 149, 3) := by decide +kernel
theorem dX9_lacks_43 : decode cX9_lacks 43 = .ok (.athrow, 1) := by decide +kernel
theorem dX9_lacks_44 : decode cX9_lacks 44 = .ok (.iconst 0, 1) := by decide +kernel
theorem dX9_lacks_45 : decode cX9_lacks 45 = .ok (.aload_n 2, 1) := by decide +kernel
theorem dX9_lacks_46 : decode cX9_lacks 46 = .ok (.getfield 236, 3) := by decide +kernel
theorem dX9_lacks_49 : decode cX9_lacks 49 = .ok (.aload_n 0, 1) := by decide +kernel
theorem dX9_lacks_50 : decode cX9_lacks 50 = .ok (.invokevirtual 116, 3) := by decide +kernel
theorem dX9_lacks_53 : decode cX9_lacks 53 = .ok (.iload_n 1, 1) := by decide +kernel
theorem dX9_lacks_54 : decode cX9_lacks 54 = .ok (.invokevirtual 272, 3) := by decide +kernel
theorem dX9_lacks_57 : decode cX9_lacks 57 = .ok (.isub, 1) := by decide +kernel
theorem dX9_lacks_58 : decode cX9_lacks 58 = .ok (.invokestatic 275, 3) := by decide +kernel
theorem dX9_lacks_61 : decode cX9_lacks 61 = .ok (.ireturn, 1) := by decide +kernel
theorem dX9_isComplete_0 : decode cX9_isComplete 0 = .ok (.aload_n 0, 1) := by decide +kernel
theorem dX9_isComplete_1 : decode cX9_isComplete 1 = .ok (.getfield 39, 3) := by decide +kernel
theorem dX9_isComplete_4 : decode cX9_isComplete 4 = .ok (.getfield 135, 3) := by decide +kernel
theorem dX9_isComplete_7 : decode cX9_isComplete 7 = .ok (.invokevirtual 278, 3) := by decide +kernel
theorem dX9_isComplete_10 : decode cX9_isComplete 10 = .ok (.istore_n 1, 1) := by decide +kernel
theorem dX9_isComplete_11 : decode cX9_isComplete 11 = .ok (.iload_n 1, 1) := by decide +kernel
theorem dX9_isComplete_12 : decode cX9_isComplete 12 = .ok (.ifCond .le 18, 3) := by decide +kernel
theorem dX9_isComplete_15 : decode cX9_isComplete 15 = .ok (.aload_n 0, 1) := by decide +kernel
theorem dX9_isComplete_16 : decode cX9_isComplete 16 = .ok (.invokevirtual 116, 3) := by decide +kernel
theorem dX9_isComplete_19 : decode cX9_isComplete 19 = .ok (.invokevirtual 281, 3) := by decide +kernel
theorem dX9_isComplete_22 : decode cX9_isComplete 22 = .ok (.iload_n 1, 1) := by decide +kernel
theorem dX9_isComplete_23 : decode cX9_isComplete 23 = .ok (.if_icmp .ne 7, 3) := by decide +kernel
theorem dX9_isComplete_26 : decode cX9_isComplete 26 = .ok (.iconst 1, 1) := by decide +kernel
theorem dX9_isComplete_27 : decode cX9_isComplete 27 = .ok (.goto 4, 3) := by decide +kernel
theorem dX9_isComplete_30 : decode cX9_isComplete 30 = .ok (.iconst 0, 1) := by decide +kernel
theorem dX9_isComplete_31 : decode cX9_isComplete 31 = .ok (.ireturn, 1) := by decide +kernel
theorem dX9_rootsWith_0 : decode cX9_rootsWith 0 = .ok (.aload_n 0, 1) := by decide +kernel
theorem dX9_rootsWith_1 : decode cX9_rootsWith 1 = .ok (.iload_n 1, 1) := by decide +kernel
theorem dX9_rootsWith_2 : decode cX9_rootsWith 2 = .ok (.iload_n 2, 1) := by decide +kernel
theorem dX9_rootsWith_3 : decode cX9_rootsWith 3 = .ok (.iload_n 3, 1) := by decide +kernel
theorem dX9_rootsWith_4 : decode cX9_rootsWith 4 = .ok (.iload 4, 2) := by decide +kernel
theorem dX9_rootsWith_6 : decode cX9_rootsWith 6 = .ok (.invokevirtual 72, 3) := by decide +kernel
theorem dX9_rootsWith_9 : decode cX9_rootsWith 9 = .ok (.ifCond .ne 11, 3) := by decide +kernel
theorem dX9_rootsWith_12 : decode cX9_rootsWith 12 = .ok (.new 76, 3) := by decide +kernel
theorem dX9_rootsWith_15 : decode cX9_rootsWith 15 = .ok (.dup, 1) := by decide +kernel
theorem dX9_rootsWith_16 : decode cX9_rootsWith 16 = .ok (.invokespecial 78, 3) := by decide +kernel
theorem dX9_rootsWith_19 : decode cX9_rootsWith 19 = .ok (.athrow, 1) := by decide +kernel
theorem dX9_rootsWith_20 : decode cX9_rootsWith 20 = .ok (.aload_n 0, 1) := by decide +kernel
theorem dX9_rootsWith_21 : decode cX9_rootsWith 21 = .ok (.getfield 39, 3) := by decide +kernel
theorem dX9_rootsWith_24 : decode cX9_rootsWith 24 = .ok (.getfield 79, 3) := by decide +kernel
theorem dX9_rootsWith_27 : decode cX9_rootsWith 27 = .ok (.arraylength, 1) := by decide +kernel
theorem dX9_rootsWith_28 : decode cX9_rootsWith 28 = .ok (.bipush 6, 2) := by decide +kernel
theorem dX9_rootsWith_30 : decode cX9_rootsWith 30 = .ok (.if_icmp .lt 11, 3) := by decide +kernel
theorem dX9_rootsWith_33 : decode cX9_rootsWith 33 = .ok (.new 147, 3) := by decide +kernel
theorem dX9_rootsWith_36 : decode cX9_rootsWith 36 = .ok (.dup, 1) := by decide +kernel
theorem dX9_rootsWith_37 : decode cX9_rootsWith 37 = .ok (.invokespecial 149, 3) := by decide +kernel
theorem dX9_rootsWith_40 : decode cX9_rootsWith 40 = .ok (.athrow, 1) := by decide +kernel
theorem dX9_rootsWith_41 : decode cX9_rootsWith 41 = .ok (.aload_n 0, 1) := by decide +kernel
theorem dX9_rootsWith_42 : decode cX9_rootsWith 42 = .ok (.aload_n 0, 1) := by decide +kernel
theorem dX9_rootsWith_43 : decode cX9_rootsWith 43 = .ok (.getfield 39, 3) := by decide +kernel
theorem dX9_rootsWith_46 : decode cX9_rootsWith 46 = .ok (.new 25, 3) := by decide +kernel
theorem dX9_rootsWith_49 : decode cX9_rootsWith 49 = .ok (.dup, 1) := by decide +kernel
theorem dX9_rootsWith_50 : decode cX9_rootsWith 50 = .ok (.iload_n 1, 1) := by decide +kernel
theorem dX9_rootsWith_51 : decode cX9_rootsWith 51 = .ok (.iload_n 2, 1) := by decide +kernel
theorem dX9_rootsWith_52 : decode cX9_rootsWith 52 = .ok (.iload_n 3, 1) := by decide +kernel
theorem dX9_rootsWith_53 : decode cX9_rootsWith 53 = .ok (.iload 4, 2) := by decide +kernel
theorem dX9_rootsWith_55 : decode cX9_rootsWith 55 = .ok (.invokespecial 86, 3) := by decide +kernel
theorem dX9_rootsWith_58 : decode cX9_rootsWith 58 = .ok (.invokevirtual 89, 3) := by decide +kernel
theorem dX9_rootsWith_61 : decode cX9_rootsWith 61 = .ok (.invokevirtual 284, 3) := by decide +kernel
theorem dX9_rootsWith_64 : decode cX9_rootsWith 64 = .ok (.ireturn, 1) := by decide +kernel
theorem dX9_lapses_0 : decode cX9_lapses 0 = .ok (.aload_n 0, 1) := by decide +kernel
theorem dX9_lapses_1 : decode cX9_lapses 1 = .ok (.invokevirtual 116, 3) := by decide +kernel
theorem dX9_lapses_4 : decode cX9_lapses 4 = .ok (.invokevirtual 281, 3) := by decide +kernel
theorem dX9_lapses_7 : decode cX9_lapses 7 = .ok (.istore_n 1, 1) := by decide +kernel
theorem dX9_lapses_8 : decode cX9_lapses 8 = .ok (.aload_n 0, 1) := by decide +kernel
theorem dX9_lapses_9 : decode cX9_lapses 9 = .ok (.getfield 39, 3) := by decide +kernel
theorem dX9_lapses_12 : decode cX9_lapses 12 = .ok (.getfield 264, 3) := by decide +kernel
theorem dX9_lapses_15 : decode cX9_lapses 15 = .ok (.iconst 1, 1) := by decide +kernel
theorem dX9_lapses_16 : decode cX9_lapses 16 = .ok (.iadd, 1) := by decide +kernel
theorem dX9_lapses_17 : decode cX9_lapses 17 = .ok (.istore_n 2, 1) := by decide +kernel
theorem dX9_lapses_18 : decode cX9_lapses 18 = .ok (.iload_n 2, 1) := by decide +kernel
theorem dX9_lapses_19 : decode cX9_lapses 19 = .ok (.bipush 60, 2) := by decide +kernel
theorem dX9_lapses_21 : decode cX9_lapses 21 = .ok (.if_icmp .gt 40, 3) := by decide +kernel
theorem dX9_lapses_24 : decode cX9_lapses 24 = .ok (.aload_n 0, 1) := by decide +kernel
theorem dX9_lapses_25 : decode cX9_lapses 25 = .ok (.getfield 39, 3) := by decide +kernel
theorem dX9_lapses_28 : decode cX9_lapses 28 = .ok (.iload_n 2, 1) := by decide +kernel
theorem dX9_lapses_29 : decode cX9_lapses 29 = .ok (.iconst 1, 1) := by decide +kernel
theorem dX9_lapses_30 : decode cX9_lapses 30 = .ok (.isub, 1) := by decide +kernel
theorem dX9_lapses_31 : decode cX9_lapses 31 = .ok (.invokevirtual 288, 3) := by decide +kernel
theorem dX9_lapses_34 : decode cX9_lapses 34 = .ok (.ifCond .eq 21, 3) := by decide +kernel
theorem dX9_lapses_37 : decode cX9_lapses 37 = .ok (.aload_n 0, 1) := by decide +kernel
theorem dX9_lapses_38 : decode cX9_lapses 38 = .ok (.aload_n 0, 1) := by decide +kernel
theorem dX9_lapses_39 : decode cX9_lapses 39 = .ok (.getfield 39, 3) := by decide +kernel
theorem dX9_lapses_42 : decode cX9_lapses 42 = .ok (.iload_n 2, 1) := by decide +kernel
theorem dX9_lapses_43 : decode cX9_lapses 43 = .ok (.invokevirtual 291, 3) := by decide +kernel
theorem dX9_lapses_46 : decode cX9_lapses 46 = .ok (.invokevirtual 284, 3) := by decide +kernel
theorem dX9_lapses_49 : decode cX9_lapses 49 = .ok (.iload_n 1, 1) := by decide +kernel
theorem dX9_lapses_50 : decode cX9_lapses 50 = .ok (.if_icmp .ge 5, 3) := by decide +kernel
theorem dX9_lapses_53 : decode cX9_lapses 53 = .ok (.iload_n 2, 1) := by decide +kernel
theorem dX9_lapses_54 : decode cX9_lapses 54 = .ok (.ireturn, 1) := by decide +kernel
theorem dX9_lapses_55 : decode cX9_lapses 55 = .ok (.iinc 2 1, 3) := by decide +kernel
theorem dX9_lapses_58 : decode cX9_lapses 58 = .ok (.goto (-40), 3) := by decide +kernel
theorem dX9_lapses_61 : decode cX9_lapses 61 = .ok (.new 206, 3) := by decide +kernel
theorem dX9_lapses_64 : decode cX9_lapses 64 = .ok (.dup, 1) := by decide +kernel
theorem dX9_lapses_65 : decode cX9_lapses 65 = .ok (.invokespecial 208, 3) := by decide +kernel
theorem dX9_lapses_68 : decode cX9_lapses 68 = .ok (.athrow, 1) := by decide +kernel
theorem dX9_layers_0 : decode cX9_layers 0 = .ok (.aload_n 0, 1) := by decide +kernel
theorem dX9_layers_1 : decode cX9_layers 1 = .ok (.iload_n 1, 1) := by decide +kernel
theorem dX9_layers_2 : decode cX9_layers 2 = .ok (.invokevirtual 132, 3) := by decide +kernel
theorem dX9_layers_5 : decode cX9_layers 5 = .ok (.ifCond .ne 11, 3) := by decide +kernel
theorem dX9_layers_8 : decode cX9_layers 8 = .ok (.new 100, 3) := by decide +kernel
theorem dX9_layers_11 : decode cX9_layers 11 = .ok (.dup, 1) := by decide +kernel
theorem dX9_layers_12 : decode cX9_layers 12 = .ok (.invokespecial 102, 3) := by decide +kernel
theorem dX9_layers_15 : decode cX9_layers 15 = .ok (.athrow, 1) := by decide +kernel
theorem dX9_layers_16 : decode cX9_layers 16 = .ok (.aload_n 0, 1) := by decide +kernel
theorem dX9_layers_17 : decode cX9_layers 17 = .ok (.getfield 58, 3) := by decide +kernel
theorem dX9_layers_20 : decode cX9_layers 20 = .ok (.aload_n 0, 1) := by decide +kernel
theorem dX9_layers_21 : decode cX9_layers 21 = .ok (.getfield 39, 3) := by decide +kernel
theorem dX9_layers_24 : decode cX9_layers 24 = .ok (.aload_n 0, 1) := by decide +kernel
theorem dX9_layers_25 : decode cX9_layers 25 = .ok (.invokevirtual 116, 3) := by decide +kernel
theorem dX9_layers_28 : decode cX9_layers 28 = .ok (.iload_n 1, 1) := by decide +kernel
theorem dX9_layers_29 : decode cX9_layers 29 = .ok (.invokevirtual 294, 3) := by decide +kernel
theorem dX9_layers_32 : decode cX9_layers 32 = .ok (.aload_n 0, 1) := by decide +kernel
theorem dX9_layers_33 : decode cX9_layers 33 = .ok (.getfield 58, 3) := by decide +kernel
theorem dX9_layers_36 : decode cX9_layers 36 = .ok (.getfield 298, 3) := by decide +kernel
theorem dX9_layers_39 : decode cX9_layers 39 = .ok (.ireturn, 1) := by decide +kernel
theorem dX9_why_0 : decode cX9_why 0 = .ok (.aload_n 0, 1) := by decide +kernel
theorem dX9_why_1 : decode cX9_why 1 = .ok (.iload_n 1, 1) := by decide +kernel
theorem dX9_why_2 : decode cX9_why 2 = .ok (.invokevirtual 132, 3) := by decide +kernel
theorem dX9_why_5 : decode cX9_why 5 = .ok (.ifCond .ne 11, 3) := by decide +kernel
theorem dX9_why_8 : decode cX9_why 8 = .ok (.new 100, 3) := by decide +kernel
theorem dX9_why_11 : decode cX9_why 11 = .ok (.dup, 1) := by decide +kernel
theorem dX9_why_12 : decode cX9_why 12 = .ok (.invokespecial 102, 3) := by decide +kernel
theorem dX9_why_15 : decode cX9_why 15 = .ok (.athrow, 1) := by decide +kernel
theorem dX9_why_16 : decode cX9_why 16 = .ok (.aload_n 0, 1) := by decide +kernel
theorem dX9_why_17 : decode cX9_why 17 = .ok (.getfield 58, 3) := by decide +kernel
theorem dX9_why_20 : decode cX9_why 20 = .ok (.aload_n 0, 1) := by decide +kernel
theorem dX9_why_21 : decode cX9_why 21 = .ok (.getfield 39, 3) := by decide +kernel
theorem dX9_why_24 : decode cX9_why 24 = .ok (.aload_n 0, 1) := by decide +kernel
theorem dX9_why_25 : decode cX9_why 25 = .ok (.invokevirtual 116, 3) := by decide +kernel
theorem dX9_why_28 : decode cX9_why 28 = .ok (.iload_n 1, 1) := by decide +kernel
theorem dX9_why_29 : decode cX9_why 29 = .ok (.invokevirtual 294, 3) := by decide +kernel
theorem dX9_why_32 : decode cX9_why 32 = .ok (.iload_n 2, 1) := by decide +kernel
theorem dX9_why_33 : decode cX9_why 33 = .ok (.ifCond .lt 14, 3) := by decide +kernel
theorem dX9_why_36 : decode cX9_why 36 = .ok (.iload_n 2, 1) := by decide +kernel
theorem dX9_why_37 : decode cX9_why 37 = .ok (.aload_n 0, 1) := by decide +kernel
theorem dX9_why_38 : decode cX9_why 38 = .ok (.getfield 58, 3) := by decide +kernel
theorem dX9_why_41 : decode cX9_why 41 = .ok (.getfield 298, 3) := by decide +kernel
theorem dX9_why_44 : decode cX9_why 44 = .ok (.if_icmp .lt 11, 3) := by decide +kernel
theorem dX9_why_47 : decode cX9_why 47 = .ok (.new 206, 3) := by decide +kernel
theorem dX9_why_50 : decode cX9_why 50 = .ok (.dup, 1) := by decide +kernel
theorem dX9_why_51 : decode cX9_why 51 = .ok (.invokespecial 208, 3) := by decide +kernel
theorem dX9_why_54 : decode cX9_why 54 = .ok (.athrow, 1) := by decide +kernel
theorem dX9_why_55 : decode cX9_why 55 = .ok (.iload_n 3, 1) := by decide +kernel
theorem dX9_why_56 : decode cX9_why 56 = .ok (.ifCond .eq 16, 3) := by decide +kernel
theorem dX9_why_59 : decode cX9_why 59 = .ok (.iload_n 3, 1) := by decide +kernel
theorem dX9_why_60 : decode cX9_why 60 = .ok (.iconst 1, 1) := by decide +kernel
theorem dX9_why_61 : decode cX9_why 61 = .ok (.if_icmp .eq 11, 3) := by decide +kernel
theorem dX9_why_64 : decode cX9_why 64 = .ok (.new 76, 3) := by decide +kernel
theorem dX9_why_67 : decode cX9_why 67 = .ok (.dup, 1) := by decide +kernel
theorem dX9_why_68 : decode cX9_why 68 = .ok (.invokespecial 78, 3) := by decide +kernel
theorem dX9_why_71 : decode cX9_why 71 = .ok (.athrow, 1) := by decide +kernel
theorem dX9_why_72 : decode cX9_why 72 = .ok (.iload_n 3, 1) := by decide +kernel
theorem dX9_why_73 : decode cX9_why 73 = .ok (.ifCond .ne 15, 3) := by decide +kernel
theorem dX9_why_76 : decode cX9_why 76 = .ok (.aload_n 0, 1) := by decide +kernel
theorem dX9_why_77 : decode cX9_why 77 = .ok (.getfield 58, 3) := by decide +kernel
theorem dX9_why_80 : decode cX9_why 80 = .ok (.getfield 301, 3) := by decide +kernel
theorem dX9_why_83 : decode cX9_why 83 = .ok (.iload_n 2, 1) := by decide +kernel
theorem dX9_why_84 : decode cX9_why 84 = .ok (.iaload, 1) := by decide +kernel
theorem dX9_why_85 : decode cX9_why 85 = .ok (.goto 12, 3) := by decide +kernel
theorem dX9_why_88 : decode cX9_why 88 = .ok (.aload_n 0, 1) := by decide +kernel
theorem dX9_why_89 : decode cX9_why 89 = .ok (.getfield 58, 3) := by decide +kernel
theorem dX9_why_92 : decode cX9_why 92 = .ok (.getfield 305, 3) := by decide +kernel
theorem dX9_why_95 : decode cX9_why 95 = .ok (.iload_n 2, 1) := by decide +kernel
theorem dX9_why_96 : decode cX9_why 96 = .ok (.iaload, 1) := by decide +kernel
theorem dX9_why_97 : decode cX9_why 97 = .ok (.ireturn, 1) := by decide +kernel
theorem dX9_pass_0 : decode cX9_pass 0 = .ok (.iload_n 1, 1) := by decide +kernel
theorem dX9_pass_1 : decode cX9_pass 1 = .ok (.ifCond .lt 17, 3) := by decide +kernel
theorem dX9_pass_4 : decode cX9_pass 4 = .ok (.iload_n 1, 1) := by decide +kernel
theorem dX9_pass_5 : decode cX9_pass 5 = .ok (.bipush 60, 2) := by decide +kernel
theorem dX9_pass_7 : decode cX9_pass 7 = .ok (.aload_n 0, 1) := by decide +kernel
theorem dX9_pass_8 : decode cX9_pass 8 = .ok (.getfield 39, 3) := by decide +kernel
theorem dX9_pass_11 : decode cX9_pass 11 = .ok (.getfield 264, 3) := by decide +kernel
theorem dX9_pass_14 : decode cX9_pass 14 = .ok (.isub, 1) := by decide +kernel
theorem dX9_pass_15 : decode cX9_pass 15 = .ok (.if_icmp .le 11, 3) := by decide +kernel
theorem dX9_pass_18 : decode cX9_pass 18 = .ok (.new 76, 3) := by decide +kernel
theorem dX9_pass_21 : decode cX9_pass 21 = .ok (.dup, 1) := by decide +kernel
theorem dX9_pass_22 : decode cX9_pass 22 = .ok (.invokespecial 78, 3) := by decide +kernel
theorem dX9_pass_25 : decode cX9_pass 25 = .ok (.athrow, 1) := by decide +kernel
theorem dX9_pass_26 : decode cX9_pass 26 = .ok (.aload_n 0, 1) := by decide +kernel
theorem dX9_pass_27 : decode cX9_pass 27 = .ok (.aload_n 0, 1) := by decide +kernel
theorem dX9_pass_28 : decode cX9_pass 28 = .ok (.getfield 39, 3) := by decide +kernel
theorem dX9_pass_31 : decode cX9_pass 31 = .ok (.aload_n 0, 1) := by decide +kernel
theorem dX9_pass_32 : decode cX9_pass 32 = .ok (.getfield 39, 3) := by decide +kernel
theorem dX9_pass_35 : decode cX9_pass 35 = .ok (.getfield 264, 3) := by decide +kernel
theorem dX9_pass_38 : decode cX9_pass 38 = .ok (.iload_n 1, 1) := by decide +kernel
theorem dX9_pass_39 : decode cX9_pass 39 = .ok (.iadd, 1) := by decide +kernel
theorem dX9_pass_40 : decode cX9_pass 40 = .ok (.invokevirtual 291, 3) := by decide +kernel
theorem dX9_pass_43 : decode cX9_pass 43 = .ok (.invokevirtual 93, 3) := by decide +kernel
theorem dX9_pass_46 : decode cX9_pass 46 = .ok (.aload_n 0, 1) := by decide +kernel
theorem dX9_pass_47 : decode cX9_pass 47 = .ok (.getfield 39, 3) := by decide +kernel
theorem dX9_pass_50 : decode cX9_pass 50 = .ok (.getfield 264, 3) := by decide +kernel
theorem dX9_pass_53 : decode cX9_pass 53 = .ok (.ireturn, 1) := by decide +kernel
theorem dX9_year_0 : decode cX9_year 0 = .ok (.aload_n 0, 1) := by decide +kernel
theorem dX9_year_1 : decode cX9_year 1 = .ok (.getfield 39, 3) := by decide +kernel
theorem dX9_year_4 : decode cX9_year 4 = .ok (.getfield 264, 3) := by decide +kernel
theorem dX9_year_7 : decode cX9_year 7 = .ok (.ireturn, 1) := by decide +kernel
theorem dX9_account_0 : decode cX9_account 0 = .ok (.iload_n 1, 1) := by decide +kernel
theorem dX9_account_1 : decode cX9_account 1 = .ok (.tableswitch 148 0 9 #[55, 64, 73, 85, 97, 108, 116, 124, 132, 140], 55) := by decide +kernel
theorem dX9_account_56 : decode cX9_account 56 = .ok (.aload_n 0, 1) := by decide +kernel
theorem dX9_account_57 : decode cX9_account 57 = .ok (.getfield 39, 3) := by decide +kernel
theorem dX9_account_60 : decode cX9_account 60 = .ok (.getfield 79, 3) := by decide +kernel
theorem dX9_account_63 : decode cX9_account 63 = .ok (.arraylength, 1) := by decide +kernel
theorem dX9_account_64 : decode cX9_account 64 = .ok (.ireturn, 1) := by decide +kernel
theorem dX9_account_65 : decode cX9_account 65 = .ok (.aload_n 0, 1) := by decide +kernel
theorem dX9_account_66 : decode cX9_account 66 = .ok (.getfield 39, 3) := by decide +kernel
theorem dX9_account_69 : decode cX9_account 69 = .ok (.getfield 166, 3) := by decide +kernel
theorem dX9_account_72 : decode cX9_account 72 = .ok (.arraylength, 1) := by decide +kernel
theorem dX9_account_73 : decode cX9_account 73 = .ok (.ireturn, 1) := by decide +kernel
theorem dX9_account_74 : decode cX9_account 74 = .ok (.aload_n 0, 1) := by decide +kernel
theorem dX9_account_75 : decode cX9_account 75 = .ok (.getfield 39, 3) := by decide +kernel
theorem dX9_account_78 : decode cX9_account 78 = .ok (.getfield 135, 3) := by decide +kernel
theorem dX9_account_81 : decode cX9_account 81 = .ok (.getfield 139, 3) := by decide +kernel
theorem dX9_account_84 : decode cX9_account 84 = .ok (.arraylength, 1) := by decide +kernel
theorem dX9_account_85 : decode cX9_account 85 = .ok (.ireturn, 1) := by decide +kernel
theorem dX9_account_86 : decode cX9_account 86 = .ok (.aload_n 0, 1) := by decide +kernel
theorem dX9_account_87 : decode cX9_account 87 = .ok (.getfield 39, 3) := by decide +kernel
theorem dX9_account_90 : decode cX9_account 90 = .ok (.getfield 135, 3) := by decide +kernel
theorem dX9_account_93 : decode cX9_account 93 = .ok (.getfield 308, 3) := by decide +kernel
theorem dX9_account_96 : decode cX9_account 96 = .ok (.arraylength, 1) := by decide +kernel
theorem dX9_account_97 : decode cX9_account 97 = .ok (.ireturn, 1) := by decide +kernel
theorem dX9_account_98 : decode cX9_account 98 = .ok (.aload_n 0, 1) := by decide +kernel
theorem dX9_account_99 : decode cX9_account 99 = .ok (.getfield 39, 3) := by decide +kernel
theorem dX9_account_102 : decode cX9_account 102 = .ok (.getfield 135, 3) := by decide +kernel
theorem dX9_account_105 : decode cX9_account 105 = .ok (.invokevirtual 278, 3) := by decide +kernel
theorem dX9_account_108 : decode cX9_account 108 = .ok (.ireturn, 1) := by decide +kernel
theorem dX9_account_109 : decode cX9_account 109 = .ok (.aload_n 0, 1) := by decide +kernel
theorem dX9_account_110 : decode cX9_account 110 = .ok (.invokevirtual 116, 3) := by decide +kernel
theorem dX9_account_113 : decode cX9_account 113 = .ok (.invokevirtual 281, 3) := by decide +kernel
theorem dX9_account_116 : decode cX9_account 116 = .ok (.ireturn, 1) := by decide +kernel
theorem dX9_account_117 : decode cX9_account 117 = .ok (.aload_n 0, 1) := by decide +kernel
theorem dX9_account_118 : decode cX9_account 118 = .ok (.invokevirtual 116, 3) := by decide +kernel
theorem dX9_account_121 : decode cX9_account 121 = .ok (.invokevirtual 311, 3) := by decide +kernel
theorem dX9_account_124 : decode cX9_account 124 = .ok (.ireturn, 1) := by decide +kernel
theorem dX9_account_125 : decode cX9_account 125 = .ok (.aload_n 0, 1) := by decide +kernel
theorem dX9_account_126 : decode cX9_account 126 = .ok (.invokevirtual 116, 3) := by decide +kernel
theorem dX9_account_129 : decode cX9_account 129 = .ok (.invokevirtual 314, 3) := by decide +kernel
theorem dX9_account_132 : decode cX9_account 132 = .ok (.ireturn, 1) := by decide +kernel
theorem dX9_account_133 : decode cX9_account 133 = .ok (.aload_n 0, 1) := by decide +kernel
theorem dX9_account_134 : decode cX9_account 134 = .ok (.getfield 39, 3) := by decide +kernel
theorem dX9_account_137 : decode cX9_account 137 = .ok (.invokevirtual 317, 3) := by decide +kernel
theorem dX9_account_140 : decode cX9_account 140 = .ok (.ireturn, 1) := by decide +kernel
theorem dX9_account_141 : decode cX9_account 141 = .ok (.aload_n 0, 1) := by decide +kernel
theorem dX9_account_142 : decode cX9_account 142 = .ok (.invokevirtual 116, 3) := by decide +kernel
theorem dX9_account_145 : decode cX9_account 145 = .ok (.invokevirtual 320, 3) := by decide +kernel
theorem dX9_account_148 : decode cX9_account 148 = .ok (.ireturn, 1) := by decide +kernel
theorem dX9_account_149 : decode cX9_account 149 = .ok (.new 76, 3) := by decide +kernel
theorem dX9_account_152 : decode cX9_account 152 = .ok (.dup, 1) := by decide +kernel
theorem dX9_account_153 : decode cX9_account 153 = .ok (.invokespecial 78, 3) := by decide +kernel
theorem dX9_account_156 : decode cX9_account 156 = .ok (.athrow, 1) := by decide +kernel
theorem dX9_meanGrade_0 : decode cX9_meanGrade 0 = .ok (.aload_n 0, 1) := by decide +kernel
theorem dX9_meanGrade_1 : decode cX9_meanGrade 1 = .ok (.invokevirtual 116, 3) := by decide +kernel
theorem dX9_meanGrade_4 : decode cX9_meanGrade 4 = .ok (.invokevirtual 314, 3) := by decide +kernel
theorem dX9_meanGrade_7 : decode cX9_meanGrade 7 = .ok (.istore_n 1, 1) := by decide +kernel
theorem dX9_meanGrade_8 : decode cX9_meanGrade 8 = .ok (.iload_n 1, 1) := by decide +kernel
theorem dX9_meanGrade_9 : decode cX9_meanGrade 9 = .ok (.ifCond .gt 11, 3) := by decide +kernel
theorem dX9_meanGrade_12 : decode cX9_meanGrade 12 = .ok (.new 323, 3) := by decide +kernel
theorem dX9_meanGrade_15 : decode cX9_meanGrade 15 = .ok (.dup, 1) := by decide +kernel
theorem dX9_meanGrade_16 : decode cX9_meanGrade 16 = .ok (.invokespecial 325, 3) := by decide +kernel
theorem dX9_meanGrade_19 : decode cX9_meanGrade 19 = .ok (.athrow, 1) := by decide +kernel
theorem dX9_meanGrade_20 : decode cX9_meanGrade 20 = .ok (.aload_n 0, 1) := by decide +kernel
theorem dX9_meanGrade_21 : decode cX9_meanGrade 21 = .ok (.invokevirtual 116, 3) := by decide +kernel
theorem dX9_meanGrade_24 : decode cX9_meanGrade 24 = .ok (.invokevirtual 326, 3) := by decide +kernel
theorem dX9_meanGrade_27 : decode cX9_meanGrade 27 = .ok (.i2d, 1) := by decide +kernel
theorem dX9_meanGrade_28 : decode cX9_meanGrade 28 = .ok (.iload_n 1, 1) := by decide +kernel
theorem dX9_meanGrade_29 : decode cX9_meanGrade 29 = .ok (.i2d, 1) := by decide +kernel
theorem dX9_meanGrade_30 : decode cX9_meanGrade 30 = .ok (.ddiv, 1) := by decide +kernel
theorem dX9_meanGrade_31 : decode cX9_meanGrade 31 = .ok (.dreturn, 1) := by decide +kernel
theorem dX9_undo_0 : decode cX9_undo 0 = .ok (.aload_n 0, 1) := by decide +kernel
theorem dX9_undo_1 : decode cX9_undo 1 = .ok (.getfield 19, 3) := by decide +kernel
theorem dX9_undo_4 : decode cX9_undo 4 = .ok (.invokevirtual 329, 3) := by decide +kernel
theorem dX9_undo_7 : decode cX9_undo 7 = .ok (.astore_n 1, 1) := by decide +kernel
theorem dX9_undo_8 : decode cX9_undo 8 = .ok (.aload_n 1, 1) := by decide +kernel
theorem dX9_undo_9 : decode cX9_undo 9 = .ok (.ifnonnull 11, 3) := by decide +kernel
theorem dX9_undo_12 : decode cX9_undo 12 = .ok (.new 147, 3) := by decide +kernel
theorem dX9_undo_15 : decode cX9_undo 15 = .ok (.dup, 1) := by decide +kernel
theorem dX9_undo_16 : decode cX9_undo 16 = .ok (.invokespecial 149, 3) := by decide +kernel
theorem dX9_undo_19 : decode cX9_undo 19 = .ok (.athrow, 1) := by decide +kernel
theorem dX9_undo_20 : decode cX9_undo 20 = .ok (.aload_n 0, 1) := by decide +kernel
theorem dX9_undo_21 : decode cX9_undo 21 = .ok (.aload_n 1, 1) := by decide +kernel
theorem dX9_undo_22 : decode cX9_undo 22 = .ok (.putfield 39, 3) := by decide +kernel
theorem dX9_undo_25 : decode cX9_undo 25 = .ok (.aload_n 0, 1) := by decide +kernel
theorem dX9_undo_26 : decode cX9_undo 26 = .ok (.getfield 19, 3) := by decide +kernel
theorem dX9_undo_29 : decode cX9_undo 29 = .ok (.getfield 333, 3) := by decide +kernel
theorem dX9_undo_32 : decode cX9_undo 32 = .ok (.ireturn, 1) := by decide +kernel
theorem dX9_save_0 : decode cX9_save 0 = .ok (.aload_n 0, 1) := by decide +kernel
theorem dX9_save_1 : decode cX9_save 1 = .ok (.aload_n 0, 1) := by decide +kernel
theorem dX9_save_2 : decode cX9_save 2 = .ok (.getfield 39, 3) := by decide +kernel
theorem dX9_save_5 : decode cX9_save 5 = .ok (.putfield 62, 3) := by decide +kernel
theorem dX9_save_8 : decode cX9_save 8 = .ok (.return_, 1) := by decide +kernel
theorem dX9_restore_0 : decode cX9_restore 0 = .ok (.aload_n 0, 1) := by decide +kernel
theorem dX9_restore_1 : decode cX9_restore 1 = .ok (.getfield 62, 3) := by decide +kernel
theorem dX9_restore_4 : decode cX9_restore 4 = .ok (.ifnonnull 11, 3) := by decide +kernel
theorem dX9_restore_7 : decode cX9_restore 7 = .ok (.new 147, 3) := by decide +kernel
theorem dX9_restore_10 : decode cX9_restore 10 = .ok (.dup, 1) := by decide +kernel
theorem dX9_restore_11 : decode cX9_restore 11 = .ok (.invokespecial 149, 3) := by decide +kernel
theorem dX9_restore_14 : decode cX9_restore 14 = .ok (.athrow, 1) := by decide +kernel
theorem dX9_restore_15 : decode cX9_restore 15 = .ok (.aload_n 0, 1) := by decide +kernel
theorem dX9_restore_16 : decode cX9_restore 16 = .ok (.aload_n 0, 1) := by decide +kernel
theorem dX9_restore_17 : decode cX9_restore 17 = .ok (.getfield 62, 3) := by decide +kernel
theorem dX9_restore_20 : decode cX9_restore 20 = .ok (.putfield 39, 3) := by decide +kernel
theorem dX9_restore_23 : decode cX9_restore 23 = .ok (.aload_n 0, 1) := by decide +kernel
theorem dX9_restore_24 : decode cX9_restore 24 = .ok (.getfield 19, 3) := by decide +kernel
theorem dX9_restore_27 : decode cX9_restore 27 = .ok (.invokevirtual 334, 3) := by decide +kernel
theorem dX9_restore_30 : decode cX9_restore 30 = .ok (.return_, 1) := by decide +kernel
theorem dX9_changeTo_0 : decode cX9_changeTo 0 = .ok (.aload_n 0, 1) := by decide +kernel
theorem dX9_changeTo_1 : decode cX9_changeTo 1 = .ok (.getfield 19, 3) := by decide +kernel
theorem dX9_changeTo_4 : decode cX9_changeTo 4 = .ok (.aload_n 0, 1) := by decide +kernel
theorem dX9_changeTo_5 : decode cX9_changeTo 5 = .ok (.getfield 39, 3) := by decide +kernel
theorem dX9_changeTo_8 : decode cX9_changeTo 8 = .ok (.invokevirtual 337, 3) := by decide +kernel
theorem dX9_changeTo_11 : decode cX9_changeTo 11 = .ok (.aload_n 0, 1) := by decide +kernel
theorem dX9_changeTo_12 : decode cX9_changeTo 12 = .ok (.aload_n 1, 1) := by decide +kernel
theorem dX9_changeTo_13 : decode cX9_changeTo 13 = .ok (.putfield 39, 3) := by decide +kernel
theorem dX9_changeTo_16 : decode cX9_changeTo 16 = .ok (.return_, 1) := by decide +kernel
theorem dX9_hasCredit_0 : decode cX9_hasCredit 0 = .ok (.iload_n 1, 1) := by decide +kernel
theorem dX9_hasCredit_1 : decode cX9_hasCredit 1 = .ok (.ifCond .lt 19, 3) := by decide +kernel
theorem dX9_hasCredit_4 : decode cX9_hasCredit 4 = .ok (.iload_n 1, 1) := by decide +kernel
theorem dX9_hasCredit_5 : decode cX9_hasCredit 5 = .ok (.aload_n 0, 1) := by decide +kernel
theorem dX9_hasCredit_6 : decode cX9_hasCredit 6 = .ok (.getfield 39, 3) := by decide +kernel
theorem dX9_hasCredit_9 : decode cX9_hasCredit 9 = .ok (.getfield 79, 3) := by decide +kernel
theorem dX9_hasCredit_12 : decode cX9_hasCredit 12 = .ok (.arraylength, 1) := by decide +kernel
theorem dX9_hasCredit_13 : decode cX9_hasCredit 13 = .ok (.if_icmp .ge 7, 3) := by decide +kernel
theorem dX9_hasCredit_16 : decode cX9_hasCredit 16 = .ok (.iconst 1, 1) := by decide +kernel
theorem dX9_hasCredit_17 : decode cX9_hasCredit 17 = .ok (.goto 4, 3) := by decide +kernel
theorem dX9_hasCredit_20 : decode cX9_hasCredit 20 = .ok (.iconst 0, 1) := by decide +kernel
theorem dX9_hasCredit_21 : decode cX9_hasCredit 21 = .ok (.ireturn, 1) := by decide +kernel
theorem dX9_hasEquivalence_0 : decode cX9_hasEquivalence 0 = .ok (.iload_n 1, 1) := by decide +kernel
theorem dX9_hasEquivalence_1 : decode cX9_hasEquivalence 1 = .ok (.ifCond .lt 19, 3) := by decide +kernel
theorem dX9_hasEquivalence_4 : decode cX9_hasEquivalence 4 = .ok (.iload_n 1, 1) := by decide +kernel
theorem dX9_hasEquivalence_5 : decode cX9_hasEquivalence 5 = .ok (.aload_n 0, 1) := by decide +kernel
theorem dX9_hasEquivalence_6 : decode cX9_hasEquivalence 6 = .ok (.getfield 39, 3) := by decide +kernel
theorem dX9_hasEquivalence_9 : decode cX9_hasEquivalence 9 = .ok (.getfield 166, 3) := by decide +kernel
theorem dX9_hasEquivalence_12 : decode cX9_hasEquivalence 12 = .ok (.arraylength, 1) := by decide +kernel
theorem dX9_hasEquivalence_13 : decode cX9_hasEquivalence 13 = .ok (.if_icmp .ge 7, 3) := by decide +kernel
theorem dX9_hasEquivalence_16 : decode cX9_hasEquivalence 16 = .ok (.iconst 1, 1) := by decide +kernel
theorem dX9_hasEquivalence_17 : decode cX9_hasEquivalence 17 = .ok (.goto 4, 3) := by decide +kernel
theorem dX9_hasEquivalence_20 : decode cX9_hasEquivalence 20 = .ok (.iconst 0, 1) := by decide +kernel
theorem dX9_hasEquivalence_21 : decode cX9_hasEquivalence 21 = .ok (.ireturn, 1) := by decide +kernel
theorem dX9_hasBlock_0 : decode cX9_hasBlock 0 = .ok (.iload_n 1, 1) := by decide +kernel
theorem dX9_hasBlock_1 : decode cX9_hasBlock 1 = .ok (.ifCond .lt 22, 3) := by decide +kernel
theorem dX9_hasBlock_4 : decode cX9_hasBlock 4 = .ok (.iload_n 1, 1) := by decide +kernel
theorem dX9_hasBlock_5 : decode cX9_hasBlock 5 = .ok (.aload_n 0, 1) := by decide +kernel
theorem dX9_hasBlock_6 : decode cX9_hasBlock 6 = .ok (.getfield 39, 3) := by decide +kernel
theorem dX9_hasBlock_9 : decode cX9_hasBlock 9 = .ok (.getfield 135, 3) := by decide +kernel
theorem dX9_hasBlock_12 : decode cX9_hasBlock 12 = .ok (.getfield 139, 3) := by decide +kernel
theorem dX9_hasBlock_15 : decode cX9_hasBlock 15 = .ok (.arraylength, 1) := by decide +kernel
theorem dX9_hasBlock_16 : decode cX9_hasBlock 16 = .ok (.if_icmp .ge 7, 3) := by decide +kernel
theorem dX9_hasBlock_19 : decode cX9_hasBlock 19 = .ok (.iconst 1, 1) := by decide +kernel
theorem dX9_hasBlock_20 : decode cX9_hasBlock 20 = .ok (.goto 4, 3) := by decide +kernel
theorem dX9_hasBlock_23 : decode cX9_hasBlock 23 = .ok (.iconst 0, 1) := by decide +kernel
theorem dX9_hasBlock_24 : decode cX9_hasBlock 24 = .ok (.ireturn, 1) := by decide +kernel
theorem dX9_isInRange_0 : decode cX9_isInRange 0 = .ok (.iload_n 1, 1) := by decide +kernel
theorem dX9_isInRange_1 : decode cX9_isInRange 1 = .ok (.invokestatic 340, 3) := by decide +kernel
theorem dX9_isInRange_4 : decode cX9_isInRange 4 = .ok (.ifCond .ne 10, 3) := by decide +kernel
theorem dX9_isInRange_7 : decode cX9_isInRange 7 = .ok (.iload_n 1, 1) := by decide +kernel
theorem dX9_isInRange_8 : decode cX9_isInRange 8 = .ok (.invokestatic 344, 3) := by decide +kernel
theorem dX9_isInRange_11 : decode cX9_isInRange 11 = .ok (.ifCond .eq 45, 3) := by decide +kernel
theorem dX9_isInRange_14 : decode cX9_isInRange 14 = .ok (.iload_n 2, 1) := by decide +kernel
theorem dX9_isInRange_15 : decode cX9_isInRange 15 = .ok (.iconst 1, 1) := by decide +kernel
theorem dX9_isInRange_16 : decode cX9_isInRange 16 = .ok (.if_icmp .lt 40, 3) := by decide +kernel
theorem dX9_isInRange_19 : decode cX9_isInRange 19 = .ok (.iload_n 2, 1) := by decide +kernel
theorem dX9_isInRange_20 : decode cX9_isInRange 20 = .ok (.bipush 12, 2) := by decide +kernel
theorem dX9_isInRange_22 : decode cX9_isInRange 22 = .ok (.if_icmp .gt 34, 3) := by decide +kernel
theorem dX9_isInRange_25 : decode cX9_isInRange 25 = .ok (.iload_n 3, 1) := by decide +kernel
theorem dX9_isInRange_26 : decode cX9_isInRange 26 = .ok (.ifCond .lt 30, 3) := by decide +kernel
theorem dX9_isInRange_29 : decode cX9_isInRange 29 = .ok (.iload_n 3, 1) := by decide +kernel
theorem dX9_isInRange_30 : decode cX9_isInRange 30 = .ok (.bipush 20, 2) := by decide +kernel
theorem dX9_isInRange_32 : decode cX9_isInRange 32 = .ok (.if_icmp .gt 24, 3) := by decide +kernel
theorem dX9_isInRange_35 : decode cX9_isInRange 35 = .ok (.iload 4, 2) := by decide +kernel
theorem dX9_isInRange_37 : decode cX9_isInRange 37 = .ok (.ifCond .lt 19, 3) := by decide +kernel
theorem dX9_isInRange_40 : decode cX9_isInRange 40 = .ok (.iload 4, 2) := by decide +kernel
theorem dX9_isInRange_42 : decode cX9_isInRange 42 = .ok (.aload_n 0, 1) := by decide +kernel
theorem dX9_isInRange_43 : decode cX9_isInRange 43 = .ok (.getfield 39, 3) := by decide +kernel
theorem dX9_isInRange_46 : decode cX9_isInRange 46 = .ok (.getfield 264, 3) := by decide +kernel
theorem dX9_isInRange_49 : decode cX9_isInRange 49 = .ok (.if_icmp .gt 7, 3) := by decide +kernel
theorem dX9_isInRange_52 : decode cX9_isInRange 52 = .ok (.iconst 1, 1) := by decide +kernel
theorem dX9_isInRange_53 : decode cX9_isInRange 53 = .ok (.goto 4, 3) := by decide +kernel
theorem dX9_isInRange_56 : decode cX9_isInRange 56 = .ok (.iconst 0, 1) := by decide +kernel
theorem dX9_isInRange_57 : decode cX9_isInRange 57 = .ok (.ireturn, 1) := by decide +kernel
theorem dX9_bestUse_0 : decode cX9_bestUse 0 = .ok (.aload_n 0, 1) := by decide +kernel
theorem dX9_bestUse_1 : decode cX9_bestUse 1 = .ok (.getfield 48, 3) := by decide +kernel
theorem dX9_bestUse_4 : decode cX9_bestUse 4 = .ok (.aload_n 0, 1) := by decide +kernel
theorem dX9_bestUse_5 : decode cX9_bestUse 5 = .ok (.getfield 39, 3) := by decide +kernel
theorem dX9_bestUse_8 : decode cX9_bestUse 8 = .ok (.invokevirtual 347, 3) := by decide +kernel
theorem dX9_bestUse_11 : decode cX9_bestUse 11 = .ok (.aload_n 0, 1) := by decide +kernel
theorem dX9_bestUse_12 : decode cX9_bestUse 12 = .ok (.getfield 48, 3) := by decide +kernel
theorem dX9_bestUse_15 : decode cX9_bestUse 15 = .ok (.areturn, 1) := by decide +kernel
theorem dX9_rootsIn_0 : decode cX9_rootsIn 0 = .ok (.aload_n 0, 1) := by decide +kernel
theorem dX9_rootsIn_1 : decode cX9_rootsIn 1 = .ok (.getfield 52, 3) := by decide +kernel
theorem dX9_rootsIn_4 : decode cX9_rootsIn 4 = .ok (.aload_n 1, 1) := by decide +kernel
theorem dX9_rootsIn_5 : decode cX9_rootsIn 5 = .ok (.invokevirtual 347, 3) := by decide +kernel
theorem dX9_rootsIn_8 : decode cX9_rootsIn 8 = .ok (.aload_n 0, 1) := by decide +kernel
theorem dX9_rootsIn_9 : decode cX9_rootsIn 9 = .ok (.getfield 52, 3) := by decide +kernel
theorem dX9_rootsIn_12 : decode cX9_rootsIn 12 = .ok (.invokevirtual 281, 3) := by decide +kernel
theorem dX9_rootsIn_15 : decode cX9_rootsIn 15 = .ok (.ireturn, 1) := by decide +kernel
theorem dX9_rootsAfter_0 : decode cX9_rootsAfter 0 = .ok (.aload_n 0, 1) := by decide +kernel
theorem dX9_rootsAfter_1 : decode cX9_rootsAfter 1 = .ok (.getfield 39, 3) := by decide +kernel
theorem dX9_rootsAfter_4 : decode cX9_rootsAfter 4 = .ok (.aload_n 1, 1) := by decide +kernel
theorem dX9_rootsAfter_5 : decode cX9_rootsAfter 5 = .ok (.invokevirtual 192, 3) := by decide +kernel
theorem dX9_rootsAfter_8 : decode cX9_rootsAfter 8 = .ok (.ifCond .eq 5, 3) := by decide +kernel
theorem dX9_rootsAfter_11 : decode cX9_rootsAfter 11 = .ok (.iconst (-1), 1) := by decide +kernel
theorem dX9_rootsAfter_12 : decode cX9_rootsAfter 12 = .ok (.ireturn, 1) := by decide +kernel
theorem dX9_rootsAfter_13 : decode cX9_rootsAfter 13 = .ok (.aload_n 0, 1) := by decide +kernel
theorem dX9_rootsAfter_14 : decode cX9_rootsAfter 14 = .ok (.aload_n 0, 1) := by decide +kernel
theorem dX9_rootsAfter_15 : decode cX9_rootsAfter 15 = .ok (.getfield 39, 3) := by decide +kernel
theorem dX9_rootsAfter_18 : decode cX9_rootsAfter 18 = .ok (.aload_n 1, 1) := by decide +kernel
theorem dX9_rootsAfter_19 : decode cX9_rootsAfter 19 = .ok (.invokevirtual 196, 3) := by decide +kernel
theorem dX9_rootsAfter_22 : decode cX9_rootsAfter 22 = .ok (.invokevirtual 284, 3) := by decide +kernel
theorem dX9_rootsAfter_25 : decode cX9_rootsAfter 25 = .ok (.ireturn, 1) := by decide +kernel
theorem dX9_isForeignLetter_0 : decode cX9_isForeignLetter 0 = .ok (.iload_n 0, 1) := by decide +kernel
theorem dX9_isForeignLetter_1 : decode cX9_isForeignLetter 1 = .ok (.bipush 65, 2) := by decide +kernel
theorem dX9_isForeignLetter_3 : decode cX9_isForeignLetter 3 = .ok (.if_icmp .lt 13, 3) := by decide +kernel
theorem dX9_isForeignLetter_6 : decode cX9_isForeignLetter 6 = .ok (.iload_n 0, 1) := by decide +kernel
theorem dX9_isForeignLetter_7 : decode cX9_isForeignLetter 7 = .ok (.bipush 90, 2) := by decide +kernel
theorem dX9_isForeignLetter_9 : decode cX9_isForeignLetter 9 = .ok (.if_icmp .gt 7, 3) := by decide +kernel
theorem dX9_isForeignLetter_12 : decode cX9_isForeignLetter 12 = .ok (.iconst 1, 1) := by decide +kernel
theorem dX9_isForeignLetter_13 : decode cX9_isForeignLetter 13 = .ok (.goto 4, 3) := by decide +kernel
theorem dX9_isForeignLetter_16 : decode cX9_isForeignLetter 16 = .ok (.iconst 0, 1) := by decide +kernel
theorem dX9_isForeignLetter_17 : decode cX9_isForeignLetter 17 = .ok (.ireturn, 1) := by decide +kernel
theorem dX9_isOwnLetter_0 : decode cX9_isOwnLetter 0 = .ok (.iload_n 0, 1) := by decide +kernel
theorem dX9_isOwnLetter_1 : decode cX9_isOwnLetter 1 = .ok (.bipush 97, 2) := by decide +kernel
theorem dX9_isOwnLetter_3 : decode cX9_isOwnLetter 3 = .ok (.if_icmp .lt 13, 3) := by decide +kernel
theorem dX9_isOwnLetter_6 : decode cX9_isOwnLetter 6 = .ok (.iload_n 0, 1) := by decide +kernel
theorem dX9_isOwnLetter_7 : decode cX9_isOwnLetter 7 = .ok (.bipush 122, 2) := by decide +kernel
theorem dX9_isOwnLetter_9 : decode cX9_isOwnLetter 9 = .ok (.if_icmp .gt 7, 3) := by decide +kernel
theorem dX9_isOwnLetter_12 : decode cX9_isOwnLetter 12 = .ok (.iconst 1, 1) := by decide +kernel
theorem dX9_isOwnLetter_13 : decode cX9_isOwnLetter 13 = .ok (.goto 4, 3) := by decide +kernel
theorem dX9_isOwnLetter_16 : decode cX9_isOwnLetter 16 = .ok (.iconst 0, 1) := by decide +kernel
theorem dX9_isOwnLetter_17 : decode cX9_isOwnLetter 17 = .ok (.ireturn, 1) := by decide +kernel
theorem dX9_areForeignLetters_0 : decode cX9_areForeignLetters 0 = .ok (.iload_n 0, 1) := by decide +kernel
theorem dX9_areForeignLetters_1 : decode cX9_areForeignLetters 1 = .ok (.invokestatic 340, 3) := by decide +kernel
theorem dX9_areForeignLetters_4 : decode cX9_areForeignLetters 4 = .ok (.ifCond .eq 25, 3) := by decide +kernel
theorem dX9_areForeignLetters_7 : decode cX9_areForeignLetters 7 = .ok (.iload_n 1, 1) := by decide +kernel
theorem dX9_areForeignLetters_8 : decode cX9_areForeignLetters 8 = .ok (.bipush 32, 2) := by decide +kernel
theorem dX9_areForeignLetters_10 : decode cX9_areForeignLetters 10 = .ok (.if_icmp .eq 10, 3) := by decide +kernel
theorem dX9_areForeignLetters_13 : decode cX9_areForeignLetters 13 = .ok (.iload_n 1, 1) := by decide +kernel
theorem dX9_areForeignLetters_14 : decode cX9_areForeignLetters 14 = .ok (.invokestatic 340, 3) := by decide +kernel
theorem dX9_areForeignLetters_17 : decode cX9_areForeignLetters 17 = .ok (.ifCond .eq 12, 3) := by decide +kernel
theorem dX9_areForeignLetters_20 : decode cX9_areForeignLetters 20 = .ok (.iload_n 0, 1) := by decide +kernel
theorem dX9_areForeignLetters_21 : decode cX9_areForeignLetters 21 = .ok (.iload_n 1, 1) := by decide +kernel
theorem dX9_areForeignLetters_22 : decode cX9_areForeignLetters 22 = .ok (.if_icmp .eq 7, 3) := by decide +kernel
theorem dX9_areForeignLetters_25 : decode cX9_areForeignLetters 25 = .ok (.iconst 1, 1) := by decide +kernel
theorem dX9_areForeignLetters_26 : decode cX9_areForeignLetters 26 = .ok (.goto 4, 3) := by decide +kernel
theorem dX9_areForeignLetters_29 : decode cX9_areForeignLetters 29 = .ok (.iconst 0, 1) := by decide +kernel
theorem dX9_areForeignLetters_30 : decode cX9_areForeignLetters 30 = .ok (.ireturn, 1) := by decide +kernel
theorem dX9_areOwnLetters_0 : decode cX9_areOwnLetters 0 = .ok (.iload_n 0, 1) := by decide +kernel
theorem dX9_areOwnLetters_1 : decode cX9_areOwnLetters 1 = .ok (.invokestatic 344, 3) := by decide +kernel
theorem dX9_areOwnLetters_4 : decode cX9_areOwnLetters 4 = .ok (.ifCond .eq 25, 3) := by decide +kernel
theorem dX9_areOwnLetters_7 : decode cX9_areOwnLetters 7 = .ok (.iload_n 1, 1) := by decide +kernel
theorem dX9_areOwnLetters_8 : decode cX9_areOwnLetters 8 = .ok (.bipush 32, 2) := by decide +kernel
theorem dX9_areOwnLetters_10 : decode cX9_areOwnLetters 10 = .ok (.if_icmp .eq 10, 3) := by decide +kernel
theorem dX9_areOwnLetters_13 : decode cX9_areOwnLetters 13 = .ok (.iload_n 1, 1) := by decide +kernel
theorem dX9_areOwnLetters_14 : decode cX9_areOwnLetters 14 = .ok (.invokestatic 344, 3) := by decide +kernel
theorem dX9_areOwnLetters_17 : decode cX9_areOwnLetters 17 = .ok (.ifCond .eq 12, 3) := by decide +kernel
theorem dX9_areOwnLetters_20 : decode cX9_areOwnLetters 20 = .ok (.iload_n 0, 1) := by decide +kernel
theorem dX9_areOwnLetters_21 : decode cX9_areOwnLetters 21 = .ok (.iload_n 1, 1) := by decide +kernel
theorem dX9_areOwnLetters_22 : decode cX9_areOwnLetters 22 = .ok (.if_icmp .eq 7, 3) := by decide +kernel
theorem dX9_areOwnLetters_25 : decode cX9_areOwnLetters 25 = .ok (.iconst 1, 1) := by decide +kernel
theorem dX9_areOwnLetters_26 : decode cX9_areOwnLetters 26 = .ok (.goto 4, 3) := by decide +kernel
theorem dX9_areOwnLetters_29 : decode cX9_areOwnLetters 29 = .ok (.iconst 0, 1) := by decide +kernel
theorem dX9_areOwnLetters_30 : decode cX9_areOwnLetters 30 = .ok (.ireturn, 1) := by decide +kernel
theorem dX9_isInSet_0 : decode cX9_isInSet 0 = .ok (.iload_n 0, 1) := by decide +kernel
theorem dX9_isInSet_1 : decode cX9_isInSet 1 = .ok (.iload_n 1, 1) := by decide +kernel
theorem dX9_isInSet_2 : decode cX9_isInSet 2 = .ok (.ishr, 1) := by decide +kernel
theorem dX9_isInSet_3 : decode cX9_isInSet 3 = .ok (.iconst 1, 1) := by decide +kernel
theorem dX9_isInSet_4 : decode cX9_isInSet 4 = .ok (.iand, 1) := by decide +kernel
theorem dX9_isInSet_5 : decode cX9_isInSet 5 = .ok (.iconst 1, 1) := by decide +kernel
theorem dX9_isInSet_6 : decode cX9_isInSet 6 = .ok (.if_icmp .ne 7, 3) := by decide +kernel
theorem dX9_isInSet_9 : decode cX9_isInSet 9 = .ok (.iconst 1, 1) := by decide +kernel
theorem dX9_isInSet_10 : decode cX9_isInSet 10 = .ok (.goto 4, 3) := by decide +kernel
theorem dX9_isInSet_13 : decode cX9_isInSet 13 = .ok (.iconst 0, 1) := by decide +kernel
theorem dX9_isInSet_14 : decode cX9_isInSet 14 = .ok (.ireturn, 1) := by decide +kernel
