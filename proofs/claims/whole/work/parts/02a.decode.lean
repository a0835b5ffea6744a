theorem dX0_init_0 : decode cX0_init 0 = .ok (.aload_n 0, 1) := by decide +kernel
theorem dX0_init_1 : decode cX0_init 1 = .ok (.invokespecial 3, 3) := by decide +kernel
theorem dX0_init_4 : decode cX0_init 4 = .ok (.aload_n 0, 1) := by decide +kernel
theorem dX0_init_5 : decode cX0_init 5 = .ok (.sipush 720, 3) := by decide +kernel
theorem dX0_init_8 : decode cX0_init 8 = .ok (.newarray .int, 2) := by decide +kernel
theorem dX0_init_10 : decode cX0_init 10 = .ok (.putfield 9, 3) := by decide +kernel
theorem dX0_init_13 : decode cX0_init 13 = .ok (.aload_n 0, 1) := by decide +kernel
theorem dX0_init_14 : decode cX0_init 14 = .ok (.sipush 2048, 3) := by decide +kernel
theorem dX0_init_17 : decode cX0_init 17 = .ok (.newarray .int, 2) := by decide +kernel
theorem dX0_init_19 : decode cX0_init 19 = .ok (.putfield 15, 3) := by decide +kernel
theorem dX0_init_22 : decode cX0_init 22 = .ok (.return_, 1) := by decide +kernel
theorem dX0_gather_0 : decode cX0_gather 0 = .ok (.aload_n 0, 1) := by decide +kernel
theorem dX0_gather_1 : decode cX0_gather 1 = .ok (.iconst 0, 1) := by decide +kernel
theorem dX0_gather_2 : decode cX0_gather 2 = .ok (.putfield 18, 3) := by decide +kernel
theorem dX0_gather_5 : decode cX0_gather 5 = .ok (.aload_n 0, 1) := by decide +kernel
theorem dX0_gather_6 : decode cX0_gather 6 = .ok (.getfield 15, 3) := by decide +kernel
theorem dX0_gather_9 : decode cX0_gather 9 = .ok (.sipush 1023, 3) := by decide +kernel
theorem dX0_gather_12 : decode cX0_gather 12 = .ok (.invokestatic 22, 3) := by decide +kernel
theorem dX0_gather_15 : decode cX0_gather 15 = .ok (.aload_n 0, 1) := by decide +kernel
theorem dX0_gather_16 : decode cX0_gather 16 = .ok (.iload_n 1, 1) := by decide +kernel
theorem dX0_gather_17 : decode cX0_gather 17 = .ok (.invokevirtual 28, 3) := by decide +kernel
theorem dX0_gather_20 : decode cX0_gather 20 = .ok (.iconst 0, 1) := by decide +kernel
theorem dX0_gather_21 : decode cX0_gather 21 = .ok (.istore_n 3, 1) := by decide +kernel
theorem dX0_gather_22 : decode cX0_gather 22 = .ok (.iload_n 3, 1) := by decide +kernel
theorem dX0_gather_23 : decode cX0_gather 23 = .ok (.sipush 720, 3) := by decide +kernel
theorem dX0_gather_26 : decode cX0_gather 26 = .ok (.if_icmp .ge 69, 3) := by decide +kernel
theorem dX0_gather_29 : decode cX0_gather 29 = .ok (.iload_n 3, 1) := by decide +kernel
theorem dX0_gather_30 : decode cX0_gather 30 = .ok (.aload_n 0, 1) := by decide +kernel
theorem dX0_gather_31 : decode cX0_gather 31 = .ok (.getfield 18, 3) := by decide +kernel
theorem dX0_gather_34 : decode cX0_gather 34 = .ok (.if_icmp .ge 61, 3) := by decide +kernel
theorem dX0_gather_37 : decode cX0_gather 37 = .ok (.iconst 0, 1) := by decide +kernel
theorem dX0_gather_38 : decode cX0_gather 38 = .ok (.istore 4, 2) := by decide +kernel
theorem dX0_gather_40 : decode cX0_gather 40 = .ok (.iload 4, 2) := by decide +kernel
theorem dX0_gather_42 : decode cX0_gather 42 = .ok (.iload_n 2, 1) := by decide +kernel
theorem dX0_gather_43 : decode cX0_gather 43 = .ok (.if_icmp .ge 46, 3) := by decide +kernel
theorem dX0_gather_46 : decode cX0_gather 46 = .ok (.iload 4, 2) := by decide +kernel
theorem dX0_gather_48 : decode cX0_gather 48 = .ok (.iconst 1, 1) := by decide +kernel
theorem dX0_gather_49 : decode cX0_gather 49 = .ok (.iadd, 1) := by decide +kernel
theorem dX0_gather_50 : decode cX0_gather 50 = .ok (.istore 5, 2) := by decide +kernel
theorem dX0_gather_52 : decode cX0_gather 52 = .ok (.iload 5, 2) := by decide +kernel
theorem dX0_gather_54 : decode cX0_gather 54 = .ok (.iload_n 2, 1) := by decide +kernel
theorem dX0_gather_55 : decode cX0_gather 55 = .ok (.if_icmp .ge 28, 3) := by decide +kernel
theorem dX0_gather_58 : decode cX0_gather 58 = .ok (.aload_n 0, 1) := by decide +kernel
theorem dX0_gather_59 : decode cX0_gather 59 = .ok (.aload_n 0, 1) := by decide +kernel
theorem dX0_gather_60 : decode cX0_gather 60 = .ok (.getfield 9, 3) := by decide +kernel
theorem dX0_gather_63 : decode cX0_gather 63 = .ok (.iload_n 3, 1) := by decide +kernel
theorem dX0_gather_64 : decode cX0_gather 64 = .ok (.invokestatic 32, 3) := by decide +kernel
theorem dX0_gather_67 : decode cX0_gather 67 = .ok (.iload 4, 2) := by decide +kernel
theorem dX0_gather_69 : decode cX0_gather 69 = .ok (.iload 5, 2) := by decide +kernel
theorem dX0_gather_71 : decode cX0_gather 71 = .ok (.invokestatic 36, 3) := by decide +kernel
theorem dX0_gather_74 : decode cX0_gather 74 = .ok (.invokevirtual 28, 3) := by decide +kernel
theorem dX0_gather_77 : decode cX0_gather 77 = .ok (.iinc 5 1, 3) := by decide +kernel
theorem dX0_gather_80 : decode cX0_gather 80 = .ok (.goto (-28), 3) := by decide +kernel
theorem dX0_gather_83 : decode cX0_gather 83 = .ok (.iinc 4 1, 3) := by decide +kernel
theorem dX0_gather_86 : decode cX0_gather 86 = .ok (.goto (-46), 3) := by decide +kernel
theorem dX0_gather_89 : decode cX0_gather 89 = .ok (.iinc 3 1, 3) := by decide +kernel
theorem dX0_gather_92 : decode cX0_gather 92 = .ok (.goto (-70), 3) := by decide +kernel
theorem dX0_gather_95 : decode cX0_gather 95 = .ok (.return_, 1) := by decide +kernel
theorem dX0_add_0 : decode cX0_add 0 = .ok (.aload_n 0, 1) := by decide +kernel
theorem dX0_add_1 : decode cX0_add 1 = .ok (.iload_n 1, 1) := by decide +kernel
theorem dX0_add_2 : decode cX0_add 2 = .ok (.invokevirtual 40, 3) := by decide +kernel
theorem dX0_add_5 : decode cX0_add 5 = .ok (.istore_n 2, 1) := by decide +kernel
theorem dX0_add_6 : decode cX0_add 6 = .ok (.aload_n 0, 1) := by decide +kernel
theorem dX0_add_7 : decode cX0_add 7 = .ok (.getfield 15, 3) := by decide +kernel
theorem dX0_add_10 : decode cX0_add 10 = .ok (.iload_n 2, 1) := by decide +kernel
theorem dX0_add_11 : decode cX0_add 11 = .ok (.invokestatic 32, 3) := by decide +kernel
theorem dX0_add_14 : decode cX0_add 14 = .ok (.sipush 1023, 3) := by decide +kernel
theorem dX0_add_17 : decode cX0_add 17 = .ok (.if_icmp .ne 47, 3) := by decide +kernel
theorem dX0_add_20 : decode cX0_add 20 = .ok (.aload_n 0, 1) := by decide +kernel
theorem dX0_add_21 : decode cX0_add 21 = .ok (.getfield 18, 3) := by decide +kernel
theorem dX0_add_24 : decode cX0_add 24 = .ok (.sipush 720, 3) := by decide +kernel
theorem dX0_add_27 : decode cX0_add 27 = .ok (.if_icmp .ge 37, 3) := by decide +kernel
theorem dX0_add_30 : decode cX0_add 30 = .ok (.aload_n 0, 1) := by decide +kernel
theorem dX0_add_31 : decode cX0_add 31 = .ok (.getfield 15, 3) := by decide +kernel
theorem dX0_add_34 : decode cX0_add 34 = .ok (.iload_n 2, 1) := by decide +kernel
theorem dX0_add_35 : decode cX0_add 35 = .ok (.aload_n 0, 1) := by decide +kernel
theorem dX0_add_36 : decode cX0_add 36 = .ok (.getfield 18, 3) := by decide +kernel
theorem dX0_add_39 : decode cX0_add 39 = .ok (.invokestatic 44, 3) := by decide +kernel
theorem dX0_add_42 : decode cX0_add 42 = .ok (.aload_n 0, 1) := by decide +kernel
theorem dX0_add_43 : decode cX0_add 43 = .ok (.getfield 9, 3) := by decide +kernel
theorem dX0_add_46 : decode cX0_add 46 = .ok (.aload_n 0, 1) := by decide +kernel
theorem dX0_add_47 : decode cX0_add 47 = .ok (.getfield 18, 3) := by decide +kernel
theorem dX0_add_50 : decode cX0_add 50 = .ok (.iload_n 1, 1) := by decide +kernel
theorem dX0_add_51 : decode cX0_add 51 = .ok (.invokestatic 44, 3) := by decide +kernel
theorem dX0_add_54 : decode cX0_add 54 = .ok (.aload_n 0, 1) := by decide +kernel
theorem dX0_add_55 : decode cX0_add 55 = .ok (.dup, 1) := by decide +kernel
theorem dX0_add_56 : decode cX0_add 56 = .ok (.getfield 18, 3) := by decide +kernel
theorem dX0_add_59 : decode cX0_add 59 = .ok (.iconst 1, 1) := by decide +kernel
theorem dX0_add_60 : decode cX0_add 60 = .ok (.iadd, 1) := by decide +kernel
theorem dX0_add_61 : decode cX0_add 61 = .ok (.putfield 18, 3) := by decide +kernel
theorem dX0_add_64 : decode cX0_add 64 = .ok (.return_, 1) := by decide +kernel
theorem dX0_slotOf_0 : decode cX0_slotOf 0 = .ok (.iload_n 1, 1) := by decide +kernel
theorem dX0_slotOf_1 : decode cX0_slotOf 1 = .ok (.ldc 48, 2) := by decide +kernel
theorem dX0_slotOf_3 : decode cX0_slotOf 3 = .ok (.imul, 1) := by decide +kernel
theorem dX0_slotOf_4 : decode cX0_slotOf 4 = .ok (.bipush 21, 2) := by decide +kernel
theorem dX0_slotOf_6 : decode cX0_slotOf 6 = .ok (.iushr, 1) := by decide +kernel
theorem dX0_slotOf_7 : decode cX0_slotOf 7 = .ok (.istore_n 2, 1) := by decide +kernel
theorem dX0_slotOf_8 : decode cX0_slotOf 8 = .ok (.iconst 0, 1) := by decide +kernel
theorem dX0_slotOf_9 : decode cX0_slotOf 9 = .ok (.istore_n 3, 1) := by decide +kernel
theorem dX0_slotOf_10 : decode cX0_slotOf 10 = .ok (.iload_n 3, 1) := by decide +kernel
theorem dX0_slotOf_11 : decode cX0_slotOf 11 = .ok (.sipush 2048, 3) := by decide +kernel
theorem dX0_slotOf_14 : decode cX0_slotOf 14 = .ok (.if_icmp .ge 50, 3) := by decide +kernel
theorem dX0_slotOf_17 : decode cX0_slotOf 17 = .ok (.aload_n 0, 1) := by decide +kernel
theorem dX0_slotOf_18 : decode cX0_slotOf 18 = .ok (.getfield 15, 3) := by decide +kernel
theorem dX0_slotOf_21 : decode cX0_slotOf 21 = .ok (.iload_n 2, 1) := by decide +kernel
theorem dX0_slotOf_22 : decode cX0_slotOf 22 = .ok (.invokestatic 32, 3) := by decide +kernel
theorem dX0_slotOf_25 : decode cX0_slotOf 25 = .ok (.istore 4, 2) := by decide +kernel
theorem dX0_slotOf_27 : decode cX0_slotOf 27 = .ok (.iload 4, 2) := by decide +kernel
theorem dX0_slotOf_29 : decode cX0_slotOf 29 = .ok (.sipush 1023, 3) := by decide +kernel
theorem dX0_slotOf_32 : decode cX0_slotOf 32 = .ok (.if_icmp .eq 16, 3) := by decide +kernel
theorem dX0_slotOf_35 : decode cX0_slotOf 35 = .ok (.aload_n 0, 1) := by decide +kernel
theorem dX0_slotOf_36 : decode cX0_slotOf 36 = .ok (.getfield 9, 3) := by decide +kernel
theorem dX0_slotOf_39 : decode cX0_slotOf 39 = .ok (.iload 4, 2) := by decide +kernel
theorem dX0_slotOf_41 : decode cX0_slotOf 41 = .ok (.invokestatic 32, 3) := by decide +kernel
theorem dX0_slotOf_44 : decode cX0_slotOf 44 = .ok (.iload_n 1, 1) := by decide +kernel
theorem dX0_slotOf_45 : decode cX0_slotOf 45 = .ok (.if_icmp .ne 5, 3) := by decide +kernel
theorem dX0_slotOf_48 : decode cX0_slotOf 48 = .ok (.iload_n 2, 1) := by decide +kernel
theorem dX0_slotOf_49 : decode cX0_slotOf 49 = .ok (.ireturn, 1) := by decide +kernel
theorem dX0_slotOf_50 : decode cX0_slotOf 50 = .ok (.iload_n 2, 1) := by decide +kernel
theorem dX0_slotOf_51 : decode cX0_slotOf 51 = .ok (.iconst 1, 1) := by decide +kernel
theorem dX0_slotOf_52 : decode cX0_slotOf 52 = .ok (.iadd, 1) := by decide +kernel
theorem dX0_slotOf_53 : decode cX0_slotOf 53 = .ok (.sipush 2047, 3) := by decide +kernel
theorem dX0_slotOf_56 : decode cX0_slotOf 56 = .ok (.iand, 1) := by decide +kernel
theorem dX0_slotOf_57 : decode cX0_slotOf 57 = .ok (.istore_n 2, 1) := by decide +kernel
theorem dX0_slotOf_58 : decode cX0_slotOf 58 = .ok (.iinc 3 1, 3) := by decide +kernel
theorem dX0_slotOf_61 : decode cX0_slotOf 61 = .ok (.goto (-51), 3) := by decide +kernel
theorem dX0_slotOf_64 : decode cX0_slotOf 64 = .ok (.iload_n 2, 1) := by decide +kernel
theorem dX0_slotOf_65 : decode cX0_slotOf 65 = .ok (.ireturn, 1) := by decide +kernel
theorem dX0_numberOf_0 : decode cX0_numberOf 0 = .ok (.aload_n 0, 1) := by decide +kernel
theorem dX0_numberOf_1 : decode cX0_numberOf 1 = .ok (.getfield 15, 3) := by decide +kernel
theorem dX0_numberOf_4 : decode cX0_numberOf 4 = .ok (.aload_n 0, 1) := by decide +kernel
theorem dX0_numberOf_5 : decode cX0_numberOf 5 = .ok (.iload_n 1, 1) := by decide +kernel
theorem dX0_numberOf_6 : decode cX0_numberOf 6 = .ok (.invokevirtual 40, 3) := by decide +kernel
theorem dX0_numberOf_9 : decode cX0_numberOf 9 = .ok (.invokestatic 32, 3) := by decide +kernel
theorem dX0_numberOf_12 : decode cX0_numberOf 12 = .ok (.ireturn, 1) := by decide +kernel
theorem dX0_lieOf_0 : decode cX0_lieOf 0 = .ok (.aload_n 0, 1) := by decide +kernel
theorem dX0_lieOf_1 : decode cX0_lieOf 1 = .ok (.getfield 9, 3) := by decide +kernel
theorem dX0_lieOf_4 : decode cX0_lieOf 4 = .ok (.iload_n 1, 1) := by decide +kernel
theorem dX0_lieOf_5 : decode cX0_lieOf 5 = .ok (.invokestatic 32, 3) := by decide +kernel
theorem dX0_lieOf_8 : decode cX0_lieOf 8 = .ok (.ireturn, 1) := by decide +kernel
theorem dX1_init_0 : decode cX1_init 0 = .ok (.aload_n 0, 1) := by decide +kernel
theorem dX1_init_1 : decode cX1_init 1 = .ok (.invokespecial 1, 3) := by decide +kernel
theorem dX1_init_4 : decode cX1_init 4 = .ok (.return_, 1) := by decide +kernel
theorem dX2_init_0 : decode cX2_init 0 = .ok (.aload_n 0, 1) := by decide +kernel
theorem dX2_init_1 : decode cX2_init 1 = .ok (.invokespecial 3, 3) := by decide +kernel
theorem dX2_init_4 : decode cX2_init 4 = .ok (.aload_n 0, 1) := by decide +kernel
theorem dX2_init_5 : decode cX2_init 5 = .ok (.bipush 8, 2) := by decide +kernel
theorem dX2_init_7 : decode cX2_init 7 = .ok (.newarray .int, 2) := by decide +kernel
theorem dX2_init_9 : decode cX2_init 9 = .ok (.putfield 9, 3) := by decide +kernel
theorem dX2_init_12 : decode cX2_init 12 = .ok (.aload_n 0, 1) := by decide +kernel
theorem dX2_init_13 : decode cX2_init 13 = .ok (.bipush 8, 2) := by decide +kernel
theorem dX2_init_15 : decode cX2_init 15 = .ok (.newarray .long, 2) := by decide +kernel
theorem dX2_init_17 : decode cX2_init 17 = .ok (.putfield 15, 3) := by decide +kernel
theorem dX2_init_20 : decode cX2_init 20 = .ok (.aload_n 0, 1) := by decide +kernel
theorem dX2_init_21 : decode cX2_init 21 = .ok (.bipush 8, 2) := by decide +kernel
theorem dX2_init_23 : decode cX2_init 23 = .ok (.newarray .int, 2) := by decide +kernel
theorem dX2_init_25 : decode cX2_init 25 = .ok (.putfield 19, 3) := by decide +kernel
theorem dX2_init_28 : decode cX2_init 28 = .ok (.aload_n 0, 1) := by decide +kernel
theorem dX2_init_29 : decode cX2_init 29 = .ok (.iload_n 1, 1) := by decide +kernel
theorem dX2_init_30 : decode cX2_init 30 = .ok (.bipush 8, 2) := by decide +kernel
theorem dX2_init_32 : decode cX2_init 32 = .ok (.invokestatic 22, 3) := by decide +kernel
theorem dX2_init_35 : decode cX2_init 35 = .ok (.putfield 28, 3) := by decide +kernel
theorem dX2_init_38 : decode cX2_init 38 = .ok (.return_, 1) := by decide +kernel
theorem dX2_addLast_0 : decode cX2_addLast 0 = .ok (.aload_n 0, 1) := by decide +kernel
theorem dX2_addLast_1 : decode cX2_addLast 1 = .ok (.getfield 32, 3) := by decide +kernel
theorem dX2_addLast_4 : decode cX2_addLast 4 = .ok (.aload_n 0, 1) := by decide +kernel
theorem dX2_addLast_5 : decode cX2_addLast 5 = .ok (.getfield 28, 3) := by decide +kernel
theorem dX2_addLast_8 : decode cX2_addLast 8 = .ok (.if_icmp .lt 7, 3) := by decide +kernel
theorem dX2_addLast_11 : decode cX2_addLast 11 = .ok (.aload_n 0, 1) := by decide +kernel
theorem dX2_addLast_12 : decode cX2_addLast 12 = .ok (.invokevirtual 35, 3) := by decide +kernel
theorem dX2_addLast_15 : decode cX2_addLast 15 = .ok (.aload_n 0, 1) := by decide +kernel
theorem dX2_addLast_16 : decode cX2_addLast 16 = .ok (.getfield 32, 3) := by decide +kernel
theorem dX2_addLast_19 : decode cX2_addLast 19 = .ok (.ifCond .lt 61, 3) := by decide +kernel
theorem dX2_addLast_22 : decode cX2_addLast 22 = .ok (.aload_n 0, 1) := by decide +kernel
theorem dX2_addLast_23 : decode cX2_addLast 23 = .ok (.getfield 32, 3) := by decide +kernel
theorem dX2_addLast_26 : decode cX2_addLast 26 = .ok (.bipush 8, 2) := by decide +kernel
theorem dX2_addLast_28 : decode cX2_addLast 28 = .ok (.if_icmp .ge 52, 3) := by decide +kernel
theorem dX2_addLast_31 : decode cX2_addLast 31 = .ok (.aload_n 0, 1) := by decide +kernel
theorem dX2_addLast_32 : decode cX2_addLast 32 = .ok (.getfield 9, 3) := by decide +kernel
theorem dX2_addLast_35 : decode cX2_addLast 35 = .ok (.aload_n 0, 1) := by decide +kernel
theorem dX2_addLast_36 : decode cX2_addLast 36 = .ok (.getfield 32, 3) := by decide +kernel
theorem dX2_addLast_39 : decode cX2_addLast 39 = .ok (.aload_n 1, 1) := by decide +kernel
theorem dX2_addLast_40 : decode cX2_addLast 40 = .ok (.getfield 38, 3) := by decide +kernel
theorem dX2_addLast_43 : decode cX2_addLast 43 = .ok (.iastore, 1) := by decide +kernel
theorem dX2_addLast_44 : decode cX2_addLast 44 = .ok (.aload_n 0, 1) := by decide +kernel
theorem dX2_addLast_45 : decode cX2_addLast 45 = .ok (.getfield 15, 3) := by decide +kernel
theorem dX2_addLast_48 : decode cX2_addLast 48 = .ok (.aload_n 0, 1) := by decide +kernel
theorem dX2_addLast_49 : decode cX2_addLast 49 = .ok (.getfield 32, 3) := by decide +kernel
theorem dX2_addLast_52 : decode cX2_addLast 52 = .ok (.aload_n 1, 1) := by decide +kernel
theorem dX2_addLast_53 : decode cX2_addLast 53 = .ok (.getfield 43, 3) := by decide +kernel
theorem dX2_addLast_56 : decode cX2_addLast 56 = .ok (.lastore, 1) := by decide +kernel
theorem dX2_addLast_57 : decode cX2_addLast 57 = .ok (.aload_n 0, 1) := by decide +kernel
theorem dX2_addLast_58 : decode cX2_addLast 58 = .ok (.getfield 19, 3) := by decide +kernel
theorem dX2_addLast_61 : decode cX2_addLast 61 = .ok (.aload_n 0, 1) := by decide +kernel
theorem dX2_addLast_62 : decode cX2_addLast 62 = .ok (.getfield 32, 3) := by decide +kernel
theorem dX2_addLast_65 : decode cX2_addLast 65 = .ok (.aload_n 1, 1) := by decide +kernel
theorem dX2_addLast_66 : decode cX2_addLast 66 = .ok (.getfield 47, 3) := by decide +kernel
theorem dX2_addLast_69 : decode cX2_addLast 69 = .ok (.iastore, 1) := by decide +kernel
theorem dX2_addLast_70 : decode cX2_addLast 70 = .ok (.aload_n 0, 1) := by decide +kernel
theorem dX2_addLast_71 : decode cX2_addLast 71 = .ok (.dup, 1) := by decide +kernel
theorem dX2_addLast_72 : decode cX2_addLast 72 = .ok (.getfield 32, 3) := by decide +kernel
theorem dX2_addLast_75 : decode cX2_addLast 75 = .ok (.iconst 1, 1) := by decide +kernel
theorem dX2_addLast_76 : decode cX2_addLast 76 = .ok (.iadd, 1) := by decide +kernel
theorem dX2_addLast_77 : decode cX2_addLast 77 = .ok (.putfield 32, 3) := by decide +kernel
theorem dX2_addLast_80 : decode cX2_addLast 80 = .ok (.return_, 1) := by decide +kernel
theorem dX2_dropOldest_0 : decode cX2_dropOldest 0 = .ok (.iconst 1, 1) := by decide +kernel
theorem dX2_dropOldest_1 : decode cX2_dropOldest 1 = .ok (.istore_n 1, 1) := by decide +kernel
theorem dX2_dropOldest_2 : decode cX2_dropOldest 2 = .ok (.iload_n 1, 1) := by decide +kernel
theorem dX2_dropOldest_3 : decode cX2_dropOldest 3 = .ok (.aload_n 0, 1) := by decide +kernel
theorem dX2_dropOldest_4 : decode cX2_dropOldest 4 = .ok (.getfield 32, 3) := by decide +kernel
theorem dX2_dropOldest_7 : decode cX2_dropOldest 7 = .ok (.if_icmp .ge 57, 3) := by decide +kernel
theorem dX2_dropOldest_10 : decode cX2_dropOldest 10 = .ok (.iload_n 1, 1) := by decide +kernel
theorem dX2_dropOldest_11 : decode cX2_dropOldest 11 = .ok (.bipush 8, 2) := by decide +kernel
theorem dX2_dropOldest_13 : decode cX2_dropOldest 13 = .ok (.if_icmp .ge 51, 3) := by decide +kernel
theorem dX2_dropOldest_16 : decode cX2_dropOldest 16 = .ok (.aload_n 0, 1) := by decide +kernel
theorem dX2_dropOldest_17 : decode cX2_dropOldest 17 = .ok (.getfield 9, 3) := by decide +kernel
theorem dX2_dropOldest_20 : decode cX2_dropOldest 20 = .ok (.iload_n 1, 1) := by decide +kernel
theorem dX2_dropOldest_21 : decode cX2_dropOldest 21 = .ok (.iconst 1, 1) := by decide +kernel
theorem dX2_dropOldest_22 : decode cX2_dropOldest 22 = .ok (.isub, 1) := by decide +kernel
theorem dX2_dropOldest_23 : decode cX2_dropOldest 23 = .ok (.aload_n 0, 1) := by decide +kernel
theorem dX2_dropOldest_24 : decode cX2_dropOldest 24 = .ok (.getfield 9, 3) := by decide +kernel
theorem dX2_dropOldest_27 : decode cX2_dropOldest 27 = .ok (.iload_n 1, 1) := by decide +kernel
theorem dX2_dropOldest_28 : decode cX2_dropOldest 28 = .ok (.iaload, 1) := by decide +kernel
theorem dX2_dropOldest_29 : decode cX2_dropOldest 29 = .ok (.iastore, 1) := by decide +kernel
theorem dX2_dropOldest_30 : decode cX2_dropOldest 30 = .ok (.aload_n 0, 1) := by decide +kernel
theorem dX2_dropOldest_31 : decode cX2_dropOldest 31 = .ok (.getfield 15, 3) := by decide +kernel
theorem dX2_dropOldest_34 : decode cX2_dropOldest 34 = .ok (.iload_n 1, 1) := by decide +kernel
theorem dX2_dropOldest_35 : decode cX2_dropOldest 35 = .ok (.iconst 1, 1) := by decide +kernel
theorem dX2_dropOldest_36 : decode cX2_dropOldest 36 = .ok (.isub, 1) := by decide +kernel
theorem dX2_dropOldest_37 : decode cX2_dropOldest 37 = .ok (.aload_n 0, 1) := by decide +kernel
theorem dX2_dropOldest_38 : decode cX2_dropOldest 38 = .ok (.getfield 15, 3) := by decide +kernel
theorem dX2_dropOldest_41 : decode cX2_dropOldest 41 = .ok (.iload_n 1, 1) := by decide +kernel
theorem dX2_dropOldest_42 : decode cX2_dropOldest 42 = .ok (.laload, 1) := by decide +kernel
theorem dX2_dropOldest_43 : decode cX2_dropOldest 43 = .ok (.lastore, 1) := by decide +kernel
theorem dX2_dropOldest_44 : decode cX2_dropOldest 44 = .ok (.aload_n 0, 1) := by decide +kernel
theorem dX2_dropOldest_45 : decode cX2_dropOldest 45 = .ok (.getfield 19, 3) := by decide +kernel
theorem dX2_dropOldest_48 : decode cX2_dropOldest 48 = .ok (.iload_n 1, 1) := by decide +kernel
theorem dX2_dropOldest_49 : decode cX2_dropOldest 49 = .ok (.iconst 1, 1) := by decide +kernel
theorem dX2_dropOldest_50 : decode cX2_dropOldest 50 = .ok (.isub, 1) := by decide +kernel
theorem dX2_dropOldest_51 : decode cX2_dropOldest 51 = .ok (.aload_n 0, 1) := by decide +kernel
theorem dX2_dropOldest_52 : decode cX2_dropOldest 52 = .ok (.getfield 19, 3) := by decide +kernel
theorem dX2_dropOldest_55 : decode cX2_dropOldest 55 = .ok (.iload_n 1, 1) := by decide +kernel
theorem dX2_dropOldest_56 : decode cX2_dropOldest 56 = .ok (.iaload, 1) := by decide +kernel
theorem dX2_dropOldest_57 : decode cX2_dropOldest 57 = .ok (.iastore, 1) := by decide +kernel
theorem dX2_dropOldest_58 : decode cX2_dropOldest 58 = .ok (.iinc 1 1, 3) := by decide +kernel
theorem dX2_dropOldest_61 : decode cX2_dropOldest 61 = .ok (.goto (-59), 3) := by decide +kernel
theorem dX2_dropOldest_64 : decode cX2_dropOldest 64 = .ok (.aload_n 0, 1) := by decide +kernel
theorem dX2_dropOldest_65 : decode cX2_dropOldest 65 = .ok (.iconst 0, 1) := by decide +kernel
theorem dX2_dropOldest_66 : decode cX2_dropOldest 66 = .ok (.aload_n 0, 1) := by decide +kernel
theorem dX2_dropOldest_67 : decode cX2_dropOldest 67 = .ok (.getfield 32, 3) := by decide +kernel
theorem dX2_dropOldest_70 : decode cX2_dropOldest 70 = .ok (.iconst 1, 1) := by decide +kernel
theorem dX2_dropOldest_71 : decode cX2_dropOldest 71 = .ok (.isub, 1) := by decide +kernel
theorem dX2_dropOldest_72 : decode cX2_dropOldest 72 = .ok (.invokestatic 50, 3) := by decide +kernel
theorem dX2_dropOldest_75 : decode cX2_dropOldest 75 = .ok (.putfield 32, 3) := by decide +kernel
theorem dX2_dropOldest_78 : decode cX2_dropOldest 78 = .ok (.return_, 1) := by decide +kernel
theorem dX2_takeLast_0 : decode cX2_takeLast 0 = .ok (.aload_n 0, 1) := by decide +kernel
theorem dX2_takeLast_1 : decode cX2_takeLast 1 = .ok (.getfield 32, 3) := by decide +kernel
theorem dX2_takeLast_4 : decode cX2_takeLast 4 = .ok (.ifCond .le 61, 3) := by decide +kernel
theorem dX2_takeLast_7 : decode cX2_takeLast 7 = .ok (.aload_n 0, 1) := by decide +kernel
theorem dX2_takeLast_8 : decode cX2_takeLast 8 = .ok (.getfield 32, 3) := by decide +kernel
theorem dX2_takeLast_11 : decode cX2_takeLast 11 = .ok (.bipush 8, 2) := by decide +kernel
theorem dX2_takeLast_13 : decode cX2_takeLast 13 = .ok (.if_icmp .gt 52, 3) := by decide +kernel
theorem dX2_takeLast_16 : decode cX2_takeLast 16 = .ok (.aload_n 0, 1) := by decide +kernel
theorem dX2_takeLast_17 : decode cX2_takeLast 17 = .ok (.dup, 1) := by decide +kernel
theorem dX2_takeLast_18 : decode cX2_takeLast 18 = .ok (.getfield 32, 3) := by decide +kernel
theorem dX2_takeLast_21 : decode cX2_takeLast 21 = .ok (.iconst 1, 1) := by decide +kernel
theorem dX2_takeLast_22 : decode cX2_takeLast 22 = .ok (.isub, 1) := by decide +kernel
theorem dX2_takeLast_23 : decode cX2_takeLast 23 = .ok (.putfield 32, 3) := by decide +kernel
theorem dX2_takeLast_26 : decode cX2_takeLast 26 = .ok (.aload_n 1, 1) := by decide +kernel
theorem dX2_takeLast_27 : decode cX2_takeLast 27 = .ok (.aload_n 0, 1) := by decide +kernel
theorem dX2_takeLast_28 : decode cX2_takeLast 28 = .ok (.getfield 9, 3) := by decide +kernel
theorem dX2_takeLast_31 : decode cX2_takeLast 31 = .ok (.aload_n 0, 1) := by decide +kernel
theorem dX2_takeLast_32 : decode cX2_takeLast 32 = .ok (.getfield 32, 3) := by decide +kernel
theorem dX2_takeLast_35 : decode cX2_takeLast 35 = .ok (.iaload, 1) := by decide +kernel
theorem dX2_takeLast_36 : decode cX2_takeLast 36 = .ok (.putfield 38, 3) := by decide +kernel
theorem dX2_takeLast_39 : decode cX2_takeLast 39 = .ok (.aload_n 1, 1) := by decide +kernel
theorem dX2_takeLast_40 : decode cX2_takeLast 40 = .ok (.aload_n 0, 1) := by decide +kernel
theorem dX2_takeLast_41 : decode cX2_takeLast 41 = .ok (.getfield 15, 3) := by decide +kernel
theorem dX2_takeLast_44 : decode cX2_takeLast 44 = .ok (.aload_n 0, 1) := by decide +kernel
theorem dX2_takeLast_45 : decode cX2_takeLast 45 = .ok (.getfield 32, 3) := by decide +kernel
theorem dX2_takeLast_48 : decode cX2_takeLast 48 = .ok (.laload, 1) := by decide +kernel
theorem dX2_takeLast_49 : decode cX2_takeLast 49 = .ok (.putfield 43, 3) := by decide +kernel
theorem dX2_takeLast_52 : decode cX2_takeLast 52 = .ok (.aload_n 1, 1) := by decide +kernel
theorem dX2_takeLast_53 : decode cX2_takeLast 53 = .ok (.aload_n 0, 1) := by decide +kernel
theorem dX2_takeLast_54 : decode cX2_takeLast 54 = .ok (.getfield 19, 3) := by decide +kernel
theorem dX2_takeLast_57 : decode cX2_takeLast 57 = .ok (.aload_n 0, 1) := by decide +kernel
theorem dX2_takeLast_58 : decode cX2_takeLast 58 = .ok (.getfield 32, 3) := by decide +kernel
theorem dX2_takeLast_61 : decode cX2_takeLast 61 = .ok (.iaload, 1) := by decide +kernel
theorem dX2_takeLast_62 : decode cX2_takeLast 62 = .ok (.putfield 47, 3) := by decide +kernel
theorem dX2_takeLast_65 : decode cX2_takeLast 65 = .ok (.return_, 1) := by decide +kernel
theorem dX3_init_0 : decode cX3_init 0 = .ok (.aload_n 0, 1) := by decide +kernel
theorem dX3_init_1 : decode cX3_init 1 = .ok (.invokespecial 3, 3) := by decide +kernel
theorem dX3_init_4 : decode cX3_init 4 = .ok (.aload_n 0, 1) := by decide +kernel
theorem dX3_init_5 : decode cX3_init 5 = .ok (.aload_n 1, 1) := by decide +kernel
theorem dX3_init_6 : decode cX3_init 6 = .ok (.putfield 9, 3) := by decide +kernel
theorem dX3_init_9 : decode cX3_init 9 = .ok (.aload_n 0, 1) := by decide +kernel
theorem dX3_init_10 : decode cX3_init 10 = .ok (.aload_n 2, 1) := by decide +kernel
theorem dX3_init_11 : decode cX3_init 11 = .ok (.putfield 15, 3) := by decide +kernel
theorem dX3_init_14 : decode cX3_init 14 = .ok (.aload_n 0, 1) := by decide +kernel
theorem dX3_init_15 : decode cX3_init 15 = .ok (.iconst 0, 1) := by decide +kernel
theorem dX3_init_16 : decode cX3_init 16 = .ok (.iload_n 3, 1) := by decide +kernel
theorem dX3_init_17 : decode cX3_init 17 = .ok (.invokestatic 19, 3) := by decide +kernel
theorem dX3_init_20 : decode cX3_init 20 = .ok (.newarray .long, 2) := by decide +kernel
theorem dX3_init_22 : decode cX3_init 22 = .ok (.putfield 25, 3) := by decide +kernel
theorem dX3_init_25 : decode cX3_init 25 = .ok (.return_, 1) := by decide +kernel
theorem dX3_forget_0 : decode cX3_forget 0 = .ok (.aload_n 0, 1) := by decide +kernel
theorem dX3_forget_1 : decode cX3_forget 1 = .ok (.getfield 25, 3) := by decide +kernel
theorem dX3_forget_4 : decode cX3_forget 4 = .ok (.ldc2_w 29, 3) := by decide +kernel
theorem dX3_forget_7 : decode cX3_forget 7 = .ok (.invokestatic 31, 3) := by decide +kernel
theorem dX3_forget_10 : decode cX3_forget 10 = .ok (.return_, 1) := by decide +kernel
theorem dX3_rowOf_0 : decode cX3_rowOf 0 = .ok (.iload_n 1, 1) := by decide +kernel
theorem dX3_rowOf_1 : decode cX3_rowOf 1 = .ok (.bipush 6, 2) := by decide +kernel
theorem dX3_rowOf_3 : decode cX3_rowOf 3 = .ok (.imul, 1) := by decide +kernel
theorem dX3_rowOf_4 : decode cX3_rowOf 4 = .ok (.iload_n 2, 1) := by decide +kernel
theorem dX3_rowOf_5 : decode cX3_rowOf 5 = .ok (.iadd, 1) := by decide +kernel
theorem dX3_rowOf_6 : decode cX3_rowOf 6 = .ok (.istore_n 3, 1) := by decide +kernel
theorem dX3_rowOf_7 : decode cX3_rowOf 7 = .ok (.iload_n 3, 1) := by decide +kernel
theorem dX3_rowOf_8 : decode cX3_rowOf 8 = .ok (.ifCond .lt 16, 3) := by decide +kernel
theorem dX3_rowOf_11 : decode cX3_rowOf 11 = .ok (.iload_n 3, 1) := by decide +kernel
theorem dX3_rowOf_12 : decode cX3_rowOf 12 = .ok (.aload_n 0, 1) := by decide +kernel
theorem dX3_rowOf_13 : decode cX3_rowOf 13 = .ok (.getfield 25, 3) := by decide +kernel
theorem dX3_rowOf_16 : decode cX3_rowOf 16 = .ok (.arraylength, 1) := by decide +kernel
theorem dX3_rowOf_17 : decode cX3_rowOf 17 = .ok (.if_icmp .ge 7, 3) := by decide +kernel
theorem dX3_rowOf_20 : decode cX3_rowOf 20 = .ok (.iconst 1, 1) := by decide +kernel
theorem dX3_rowOf_21 : decode cX3_rowOf 21 = .ok (.goto 4, 3) := by decide +kernel
theorem dX3_rowOf_24 : decode cX3_rowOf 24 = .ok (.iconst 0, 1) := by decide +kernel
theorem dX3_rowOf_25 : decode cX3_rowOf 25 = .ok (.istore 4, 2) := by decide +kernel
theorem dX3_rowOf_27 : decode cX3_rowOf 27 = .ok (.iload 4, 2) := by decide +kernel
theorem dX3_rowOf_29 : decode cX3_rowOf 29 = .ok (.ifCond .eq 23, 3) := by decide +kernel
theorem dX3_rowOf_32 : decode cX3_rowOf 32 = .ok (.aload_n 0, 1) := by decide +kernel
theorem dX3_rowOf_33 : decode cX3_rowOf 33 = .ok (.getfield 25, 3) := by decide +kernel
theorem dX3_rowOf_36 : decode cX3_rowOf 36 = .ok (.iload_n 3, 1) := by decide +kernel
theorem dX3_rowOf_37 : decode cX3_rowOf 37 = .ok (.laload, 1) := by decide +kernel
theorem dX3_rowOf_38 : decode cX3_rowOf 38 = .ok (.ldc2_w 29, 3) := by decide +kernel
theorem dX3_rowOf_41 : decode cX3_rowOf 41 = .ok (.lcmp, 1) := by decide +kernel
theorem dX3_rowOf_42 : decode cX3_rowOf 42 = .ok (.ifCond .eq 10, 3) := by decide +kernel
theorem dX3_rowOf_45 : decode cX3_rowOf 45 = .ok (.aload_n 0, 1) := by decide +kernel
theorem dX3_rowOf_46 : decode cX3_rowOf 46 = .ok (.getfield 25, 3) := by decide +kernel
theorem dX3_rowOf_49 : decode cX3_rowOf 49 = .ok (.iload_n 3, 1) := by decide +kernel
theorem dX3_rowOf_50 : decode cX3_rowOf 50 = .ok (.laload, 1) := by decide +kernel
theorem dX3_rowOf_51 : decode cX3_rowOf 51 = .ok (.lreturn, 1) := by decide +kernel
theorem dX3_rowOf_52 : decode cX3_rowOf 52 = .ok (.aload_n 0, 1) := by decide +kernel
theorem dX3_rowOf_53 : decode cX3_rowOf 53 = .ok (.getfield 15, 3) := by decide +kernel
theorem dX3_rowOf_56 : decode cX3_rowOf 56 = .ok (.iload_n 1, 1) := by decide +kernel
theorem dX3_rowOf_57 : decode cX3_rowOf 57 = .ok (.invokevirtual 37, 3) := by decide +kernel
theorem dX3_rowOf_60 : decode cX3_rowOf 60 = .ok (.istore 5, 2) := by decide +kernel
theorem dX3_rowOf_62 : decode cX3_rowOf 62 = .ok (.lconst 0, 1) := by decide +kernel
theorem dX3_rowOf_63 : decode cX3_rowOf 63 = .ok (.lstore 6, 2) := by decide +kernel
theorem dX3_rowOf_65 : decode cX3_rowOf 65 = .ok (.iconst 5, 1) := by decide +kernel
theorem dX3_rowOf_66 : decode cX3_rowOf 66 = .ok (.istore 8, 2) := by decide +kernel
theorem dX3_rowOf_68 : decode cX3_rowOf 68 = .ok (.iload 8, 2) := by decide +kernel
theorem dX3_rowOf_70 : decode cX3_rowOf 70 = .ok (.ifCond .lt 66, 3) := by decide +kernel
theorem dX3_rowOf_73 : decode cX3_rowOf 73 = .ok (.aload_n 0, 1) := by decide +kernel
theorem dX3_rowOf_74 : decode cX3_rowOf 74 = .ok (.getfield 9, 3) := by decide +kernel
theorem dX3_rowOf_77 : decode cX3_rowOf 77 = .ok (.iload 5, 2) := by decide +kernel
theorem dX3_rowOf_79 : decode cX3_rowOf 79 = .ok (.iload_n 2, 1) := by decide +kernel
theorem dX3_rowOf_80 : decode cX3_rowOf 80 = .ok (.iload 8, 2) := by decide +kernel
theorem dX3_rowOf_82 : decode cX3_rowOf 82 = .ok (.invokevirtual 43, 3) := by decide +kernel
theorem dX3_rowOf_85 : decode cX3_rowOf 85 = .ok (.istore 9, 2) := by decide +kernel
theorem dX3_rowOf_87 : decode cX3_rowOf 87 = .ok (.iload 9, 2) := by decide +kernel
theorem dX3_rowOf_89 : decode cX3_rowOf 89 = .ok (.ifCond .eq 25, 3) := by decide +kernel
theorem dX3_rowOf_92 : decode cX3_rowOf 92 = .ok (.aload_n 0, 1) := by decide +kernel
theorem dX3_rowOf_93 : decode cX3_rowOf 93 = .ok (.getfield 15, 3) := by decide +kernel
theorem dX3_rowOf_96 : decode cX3_rowOf 96 = .ok (.aload_n 0, 1) := by decide +kernel
theorem dX3_rowOf_97 : decode cX3_rowOf 97 = .ok (.getfield 9, 3) := by decide +kernel
theorem dX3_rowOf_100 : decode cX3_rowOf 100 = .ok (.iload 5, 2) := by decide +kernel
theorem dX3_rowOf_102 : decode cX3_rowOf 102 = .ok (.iload_n 2, 1) := by decide +kernel
theorem dX3_rowOf_103 : decode cX3_rowOf 103 = .ok (.iload 8, 2) := by decide +kernel
theorem dX3_rowOf_105 : decode cX3_rowOf 105 = .ok (.invokevirtual 49, 3) := by decide +kernel
theorem dX3_rowOf_108 : decode cX3_rowOf 108 = .ok (.invokevirtual 53, 3) := by decide +kernel
theorem dX3_rowOf_111 : decode cX3_rowOf 111 = .ok (.goto 6, 3) := by decide +kernel
theorem dX3_rowOf_114 : decode cX3_rowOf 114 = .ok (.sipush 1023, 3) := by decide +kernel
theorem dX3_rowOf_117 : decode cX3_rowOf 117 = .ok (.istore 10, 2) := by decide +kernel
theorem dX3_rowOf_119 : decode cX3_rowOf 119 = .ok (.lload 6, 2) := by decide +kernel
theorem dX3_rowOf_121 : decode cX3_rowOf 121 = .ok (.bipush 10, 2) := by decide +kernel
theorem dX3_rowOf_123 : decode cX3_rowOf 123 = .ok (.lshl, 1) := by decide +kernel
theorem dX3_rowOf_124 : decode cX3_rowOf 124 = .ok (.iload 10, 2) := by decide +kernel
theorem dX3_rowOf_126 : decode cX3_rowOf 126 = .ok (.i2l, 1) := by decide +kernel
theorem dX3_rowOf_127 : decode cX3_rowOf 127 = .ok (.lor, 1) := by decide +kernel
theorem dX3_rowOf_128 : decode cX3_rowOf 128 = .ok (.lstore 6, 2) := by decide +kernel
theorem dX3_rowOf_130 : decode cX3_rowOf 130 = .ok (.iinc 8 (-1), 3) := by decide +kernel
theorem dX3_rowOf_133 : decode cX3_rowOf 133 = .ok (.goto (-65), 3) := by decide +kernel
theorem dX3_rowOf_136 : decode cX3_rowOf 136 = .ok (.iload 4, 2) := by decide +kernel
theorem dX3_rowOf_138 : decode cX3_rowOf 138 = .ok (.ifCond .eq 11, 3) := by decide +kernel
theorem dX3_rowOf_141 : decode cX3_rowOf 141 = .ok (.aload_n 0, 1) := by decide +kernel
theorem dX3_rowOf_142 : decode cX3_rowOf 142 = .ok (.getfield 25, 3) := by decide +kernel
theorem dX3_rowOf_145 : decode cX3_rowOf 145 = .ok (.iload_n 3, 1) := by decide +kernel
theorem dX3_rowOf_146 : decode cX3_rowOf 146 = .ok (.lload 6, 2) := by decide +kernel
theorem dX3_rowOf_148 : decode cX3_rowOf 148 = .ok (.lastore, 1) := by decide +kernel
theorem dX3_rowOf_149 : decode cX3_rowOf 149 = .ok (.lload 6, 2) := by decide +kernel
theorem dX3_rowOf_151 : decode cX3_rowOf 151 = .ok (.lreturn, 1) := by decide +kernel
theorem dX3_target_0 : decode cX3_target 0 = .ok (.lload_n 0, 1) := by decide +kernel
theorem dX3_target_1 : decode cX3_target 1 = .ok (.bipush 10, 2) := by decide +kernel
theorem dX3_target_3 : decode cX3_target 3 = .ok (.iload_n 2, 1) := by decide +kernel
theorem dX3_target_4 : decode cX3_target 4 = .ok (.imul, 1) := by decide +kernel
theorem dX3_target_5 : decode cX3_target 5 = .ok (.lshr, 1) := by decide +kernel
theorem dX3_target_6 : decode cX3_target 6 = .ok (.l2i, 1) := by decide +kernel
theorem dX3_target_7 : decode cX3_target 7 = .ok (.sipush 1023, 3) := by decide +kernel
theorem dX3_target_10 : decode cX3_target 10 = .ok (.iand, 1) := by decide +kernel
theorem dX3_target_11 : decode cX3_target 11 = .ok (.ireturn, 1) := by decide +kernel
theorem dX3_changeAnything_0 : decode cX3_changeAnything 0 = .ok (.iconst 0, 1) := by decide +kernel
theorem dX3_changeAnything_1 : decode cX3_changeAnything 1 = .ok (.istore_n 2, 1) := by decide +kernel
theorem dX3_changeAnything_2 : decode cX3_changeAnything 2 = .ok (.iload_n 2, 1) := by decide +kernel
theorem dX3_changeAnything_3 : decode cX3_changeAnything 3 = .ok (.aload_n 0, 1) := by decide +kernel
theorem dX3_changeAnything_4 : decode cX3_changeAnything 4 = .ok (.getfield 9, 3) := by decide +kernel
theorem dX3_changeAnything_7 : decode cX3_changeAnything 7 = .ok (.getfield 56, 3) := by decide +kernel
theorem dX3_changeAnything_10 : decode cX3_changeAnything 10 = .ok (.if_icmp .ge 61, 3) := by decide +kernel
theorem dX3_changeAnything_13 : decode cX3_changeAnything 13 = .ok (.aload_n 0, 1) := by decide +kernel
theorem dX3_changeAnything_14 : decode cX3_changeAnything 14 = .ok (.iload_n 1, 1) := by decide +kernel
theorem dX3_changeAnything_15 : decode cX3_changeAnything 15 = .ok (.iload_n 2, 1) := by decide +kernel
theorem dX3_changeAnything_16 : decode cX3_changeAnything 16 = .ok (.invokevirtual 60, 3) := by decide +kernel
theorem dX3_changeAnything_19 : decode cX3_changeAnything 19 = .ok (.lstore_n 3, 1) := by decide +kernel
theorem dX3_changeAnything_20 : decode cX3_changeAnything 20 = .ok (.iconst 0, 1) := by decide +kernel
theorem dX3_changeAnything_21 : decode cX3_changeAnything 21 = .ok (.istore 5, 2) := by decide +kernel
theorem dX3_changeAnything_23 : decode cX3_changeAnything 23 = .ok (.iload 5, 2) := by decide +kernel
theorem dX3_changeAnything_25 : decode cX3_changeAnything 25 = .ok (.aload_n 0, 1) := by decide +kernel
theorem dX3_changeAnything_26 : decode cX3_changeAnything 26 = .ok (.getfield 9, 3) := by decide +kernel
theorem dX3_changeAnything_29 : decode cX3_changeAnything 29 = .ok (.getfield 56, 3) := by decide +kernel
theorem dX3_changeAnything_32 : decode cX3_changeAnything 32 = .ok (.if_icmp .ge 33, 3) := by decide +kernel
theorem dX3_changeAnything_35 : decode cX3_changeAnything 35 = .ok (.lload_n 3, 1) := by decide +kernel
theorem dX3_changeAnything_36 : decode cX3_changeAnything 36 = .ok (.iload 5, 2) := by decide +kernel
theorem dX3_changeAnything_38 : decode cX3_changeAnything 38 = .ok (.invokestatic 64, 3) := by decide +kernel
theorem dX3_changeAnything_41 : decode cX3_changeAnything 41 = .ok (.istore 6, 2) := by decide +kernel
theorem dX3_changeAnything_43 : decode cX3_changeAnything 43 = .ok (.iload 6, 2) := by decide +kernel
theorem dX3_changeAnything_45 : decode cX3_changeAnything 45 = .ok (.sipush 1023, 3) := by decide +kernel
theorem dX3_changeAnything_48 : decode cX3_changeAnything 48 = .ok (.if_icmp .eq 11, 3) := by decide +kernel
theorem dX3_changeAnything_51 : decode cX3_changeAnything 51 = .ok (.iload 6, 2) := by decide +kernel
theorem dX3_changeAnything_53 : decode cX3_changeAnything 53 = .ok (.iload_n 1, 1) := by decide +kernel
theorem dX3_changeAnything_54 : decode cX3_changeAnything 54 = .ok (.if_icmp .eq 5, 3) := by decide +kernel
theorem dX3_changeAnything_57 : decode cX3_changeAnything 57 = .ok (.iconst 1, 1) := by decide +kernel
theorem dX3_changeAnything_58 : decode cX3_changeAnything 58 = .ok (.ireturn, 1) := by decide +kernel
theorem dX3_changeAnything_59 : decode cX3_changeAnything 59 = .ok (.iinc 5 1, 3) := by decide +kernel
theorem dX3_changeAnything_62 : decode cX3_changeAnything 62 = .ok (.goto (-39), 3) := by decide +kernel
theorem dX3_changeAnything_65 : decode cX3_changeAnything 65 = .ok (.iinc 2 1, 3) := by decide +kernel
theorem dX3_changeAnything_68 : decode cX3_changeAnything 68 = .ok (.goto (-66), 3) := by decide +kernel
theorem dX3_changeAnything_71 : decode cX3_changeAnything 71 = .ok (.iconst 0, 1) := by decide +kernel
theorem dX3_changeAnything_72 : decode cX3_changeAnything 72 = .ok (.ireturn, 1) := by decide +kernel
theorem dX4_init_0 : decode cX4_init 0 = .ok (.aload_n 0, 1) := by decide +kernel
theorem dX4_init_1 : decode cX4_init 1 = .ok (.invokespecial 3, 3) := by decide +kernel
theorem dX4_init_4 : decode cX4_init 4 = .ok (.aload_n 0, 1) := by decide +kernel
theorem dX4_init_5 : decode cX4_init 5 = .ok (.iconst 3, 1) := by decide +kernel
theorem dX4_init_6 : decode cX4_init 6 = .ok (.newarray .int, 2) := by decide +kernel
theorem dX4_init_8 : decode cX4_init 8 = .ok (.putfield 9, 3) := by decide +kernel
theorem dX4_init_11 : decode cX4_init 11 = .ok (.aload_n 0, 1) := by decide +kernel
theorem dX4_init_12 : decode cX4_init 12 = .ok (.aload_n 1, 1) := by decide +kernel
theorem dX4_init_13 : decode cX4_init 13 = .ok (.putfield 15, 3) := by decide +kernel
theorem dX4_init_16 : decode cX4_init 16 = .ok (.aload_n 0, 1) := by decide +kernel
theorem dX4_init_17 : decode cX4_init 17 = .ok (.aload_n 2, 1) := by decide +kernel
theorem dX4_init_18 : decode cX4_init 18 = .ok (.putfield 18, 3) := by decide +kernel
theorem dX4_init_21 : decode cX4_init 21 = .ok (.return_, 1) := by decide +kernel
theorem dX4_read_0 : decode cX4_read 0 = .ok (.aload_n 0, 1) := by decide +kernel
theorem dX4_read_1 : decode cX4_read 1 = .ok (.getfield 18, 3) := by decide +kernel
theorem dX4_read_4 : decode cX4_read 4 = .ok (.invokevirtual 22, 3) := by decide +kernel
theorem dX4_read_7 : decode cX4_read 7 = .ok (.aload_n 0, 1) := by decide +kernel
theorem dX4_read_8 : decode cX4_read 8 = .ok (.iload_n 1, 1) := by decide +kernel
theorem dX4_read_9 : decode cX4_read 9 = .ok (.putfield 27, 3) := by decide +kernel
theorem dX4_read_12 : decode cX4_read 12 = .ok (.aload_n 0, 1) := by decide +kernel
theorem dX4_read_13 : decode cX4_read 13 = .ok (.iconst 0, 1) := by decide +kernel
theorem dX4_read_14 : decode cX4_read 14 = .ok (.putfield 31, 3) := by decide +kernel
theorem dX4_read_17 : decode cX4_read 17 = .ok (.iconst 0, 1) := by decide +kernel
theorem dX4_read_18 : decode cX4_read 18 = .ok (.istore_n 2, 1) := by decide +kernel
theorem dX4_read_19 : decode cX4_read 19 = .ok (.iload_n 2, 1) := by decide +kernel
theorem dX4_read_20 : decode cX4_read 20 = .ok (.sipush 300, 3) := by decide +kernel
theorem dX4_read_23 : decode cX4_read 23 = .ok (.if_icmp .ge 34, 3) := by decide +kernel
theorem dX4_read_26 : decode cX4_read 26 = .ok (.aload_n 0, 1) := by decide +kernel
theorem dX4_read_27 : decode cX4_read 27 = .ok (.getfield 31, 3) := by decide +kernel
theorem dX4_read_30 : decode cX4_read 30 = .ok (.aload_n 0, 1) := by decide +kernel
theorem dX4_read_31 : decode cX4_read 31 = .ok (.getfield 27, 3) := by decide +kernel
theorem dX4_read_34 : decode cX4_read 34 = .ok (.if_icmp .ge 23, 3) := by decide +kernel
theorem dX4_read_37 : decode cX4_read 37 = .ok (.aload_n 0, 1) := by decide +kernel
theorem dX4_read_38 : decode cX4_read 38 = .ok (.getfield 31, 3) := by decide +kernel
theorem dX4_read_41 : decode cX4_read 41 = .ok (.istore_n 3, 1) := by decide +kernel
theorem dX4_read_42 : decode cX4_read 42 = .ok (.aload_n 0, 1) := by decide +kernel
theorem dX4_read_43 : decode cX4_read 43 = .ok (.invokevirtual 34, 3) := by decide +kernel
theorem dX4_read_46 : decode cX4_read 46 = .ok (.ifCond .ne 5, 3) := by decide +kernel
theorem dX4_read_49 : decode cX4_read 49 = .ok (.iload_n 3, 1) := by decide +kernel
theorem dX4_read_50 : decode cX4_read 50 = .ok (.ireturn, 1) := by decide +kernel
theorem dX4_read_51 : decode cX4_read 51 = .ok (.iinc 2 1, 3) := by decide +kernel
theorem dX4_read_54 : decode cX4_read 54 = .ok (.goto (-35), 3) := by decide +kernel
theorem dX4_read_57 : decode cX4_read 57 = .ok (.bipush (-4), 2) := by decide +kernel
theorem dX4_read_59 : decode cX4_read 59 = .ok (.ireturn, 1) := by decide +kernel
theorem dX4_readItem_0 : decode cX4_readItem 0 = .ok (.aload_n 0, 1) := by decide +kernel
theorem dX4_readItem_1 : decode cX4_readItem 1 = .ok (.invokevirtual 38, 3) := by decide +kernel
theorem dX4_readItem_4 : decode cX4_readItem 4 = .ok (.istore_n 1, 1) := by decide +kernel
theorem dX4_readItem_5 : decode cX4_readItem 5 = .ok (.iload_n 1, 1) := by decide +kernel
theorem dX4_readItem_6 : decode cX4_readItem 6 = .ok (.bipush 119, 2) := by decide +kernel
theorem dX4_readItem_8 : decode cX4_readItem 8 = .ok (.if_icmp .ne 8, 3) := by decide +kernel
theorem dX4_readItem_11 : decode cX4_readItem 11 = .ok (.aload_n 0, 1) := by decide +kernel
theorem dX4_readItem_12 : decode cX4_readItem 12 = .ok (.invokevirtual 42, 3) := by decide +kernel
theorem dX4_readItem_15 : decode cX4_readItem 15 = .ok (.ireturn, 1) := by decide +kernel
theorem dX4_readItem_16 : decode cX4_readItem 16 = .ok (.iload_n 1, 1) := by decide +kernel
theorem dX4_readItem_17 : decode cX4_readItem 17 = .ok (.bipush 103, 2) := by decide +kernel
theorem dX4_readItem_19 : decode cX4_readItem 19 = .ok (.if_icmp .ne 7, 3) := by decide +kernel
theorem dX4_readItem_22 : decode cX4_readItem 22 = .ok (.iconst 3, 1) := by decide +kernel
theorem dX4_readItem_23 : decode cX4_readItem 23 = .ok (.goto 4, 3) := by decide +kernel
theorem dX4_readItem_26 : decode cX4_readItem 26 = .ok (.iconst 1, 1) := by decide +kernel
theorem dX4_readItem_27 : decode cX4_readItem 27 = .ok (.istore_n 2, 1) := by decide +kernel
theorem dX4_readItem_28 : decode cX4_readItem 28 = .ok (.iconst 0, 1) := by decide +kernel
theorem dX4_readItem_29 : decode cX4_readItem 29 = .ok (.istore_n 3, 1) := by decide +kernel
theorem dX4_readItem_30 : decode cX4_readItem 30 = .ok (.iload_n 3, 1) := by decide +kernel
theorem dX4_readItem_31 : decode cX4_readItem 31 = .ok (.iload_n 2, 1) := by decide +kernel
theorem dX4_readItem_32 : decode cX4_readItem 32 = .ok (.if_icmp .ge 40, 3) := by decide +kernel
theorem dX4_readItem_35 : decode cX4_readItem 35 = .ok (.aload_n 0, 1) := by decide +kernel
theorem dX4_readItem_36 : decode cX4_readItem 36 = .ok (.iload_n 3, 1) := by decide +kernel
theorem dX4_readItem_37 : decode cX4_readItem 37 = .ok (.invokevirtual 45, 3) := by decide +kernel
theorem dX4_readItem_40 : decode cX4_readItem 40 = .ok (.ifCond .eq 24, 3) := by decide +kernel
theorem dX4_readItem_43 : decode cX4_readItem 43 = .ok (.aload_n 0, 1) := by decide +kernel
theorem dX4_readItem_44 : decode cX4_readItem 44 = .ok (.invokevirtual 38, 3) := by decide +kernel
theorem dX4_readItem_47 : decode cX4_readItem 47 = .ok (.iload_n 3, 1) := by decide +kernel
theorem dX4_readItem_48 : decode cX4_readItem 48 = .ok (.iload_n 2, 1) := by decide +kernel
theorem dX4_readItem_49 : decode cX4_readItem 49 = .ok (.iconst 1, 1) := by decide +kernel
theorem dX4_readItem_50 : decode cX4_readItem 50 = .ok (.isub, 1) := by decide +kernel
theorem dX4_readItem_51 : decode cX4_readItem 51 = .ok (.if_icmp .ge 8, 3) := by decide +kernel
theorem dX4_readItem_54 : decode cX4_readItem 54 = .ok (.bipush 44, 2) := by decide +kernel
theorem dX4_readItem_56 : decode cX4_readItem 56 = .ok (.goto 5, 3) := by decide +kernel
theorem dX4_readItem_59 : decode cX4_readItem 59 = .ok (.bipush 59, 2) := by decide +kernel
theorem dX4_readItem_61 : decode cX4_readItem 61 = .ok (.if_icmp .eq 5, 3) := by decide +kernel
theorem dX4_readItem_64 : decode cX4_readItem 64 = .ok (.iconst 0, 1) := by decide +kernel
theorem dX4_readItem_65 : decode cX4_readItem 65 = .ok (.ireturn, 1) := by decide +kernel
theorem dX4_readItem_66 : decode cX4_readItem 66 = .ok (.iinc 3 1, 3) := by decide +kernel
theorem dX4_readItem_69 : decode cX4_readItem 69 = .ok (.goto (-39), 3) := by decide +kernel
theorem dX4_readItem_72 : decode cX4_readItem 72 = .ok (.iload_n 1, 1) := by decide +kernel
theorem dX4_readItem_73 : decode cX4_readItem 73 = .ok (.bipush 103, 2) := by decide +kernel
theorem dX4_readItem_75 : decode cX4_readItem 75 = .ok (.if_icmp .ne 32, 3) := by decide +kernel
theorem dX4_readItem_78 : decode cX4_readItem 78 = .ok (.aload_n 0, 1) := by decide +kernel
theorem dX4_readItem_79 : decode cX4_readItem 79 = .ok (.aload_n 0, 1) := by decide +kernel
theorem dX4_readItem_80 : decode cX4_readItem 80 = .ok (.getfield 9, 3) := by decide +kernel
theorem dX4_readItem_83 : decode cX4_readItem 83 = .ok (.iconst 0, 1) := by decide +kernel
theorem dX4_readItem_84 : decode cX4_readItem 84 = .ok (.invokestatic 49, 3) := by decide +kernel
theorem dX4_readItem_87 : decode cX4_readItem 87 = .ok (.aload_n 0, 1) := by decide +kernel
theorem dX4_readItem_88 : decode cX4_readItem 88 = .ok (.getfield 9, 3) := by decide +kernel
theorem dX4_readItem_91 : decode cX4_readItem 91 = .ok (.iconst 1, 1) := by decide +kernel
theorem dX4_readItem_92 : decode cX4_readItem 92 = .ok (.invokestatic 49, 3) := by decide +kernel
theorem dX4_readItem_95 : decode cX4_readItem 95 = .ok (.aload_n 0, 1) := by decide +kernel
theorem dX4_readItem_96 : decode cX4_readItem 96 = .ok (.getfield 9, 3) := by decide +kernel
theorem dX4_readItem_99 : decode cX4_readItem 99 = .ok (.iconst 2, 1) := by decide +kernel
theorem dX4_readItem_100 : decode cX4_readItem 100 = .ok (.invokestatic 49, 3) := by decide +kernel
theorem dX4_readItem_103 : decode cX4_readItem 103 = .ok (.invokevirtual 53, 3) := by decide +kernel
theorem dX4_readItem_106 : decode cX4_readItem 106 = .ok (.ireturn, 1) := by decide +kernel
theorem dX4_readItem_107 : decode cX4_readItem 107 = .ok (.aload_n 0, 1) := by decide +kernel
theorem dX4_readItem_108 : decode cX4_readItem 108 = .ok (.iload_n 1, 1) := by decide +kernel
theorem dX4_readItem_109 : decode cX4_readItem 109 = .ok (.aload_n 0, 1) := by decide +kernel
theorem dX4_readItem_110 : decode cX4_readItem 110 = .ok (.getfield 9, 3) := by decide +kernel
theorem dX4_readItem_113 : decode cX4_readItem 113 = .ok (.iconst 0, 1) := by decide +kernel
theorem dX4_readItem_114 : decode cX4_readItem 114 = .ok (.invokestatic 49, 3) := by decide +kernel
theorem dX4_readItem_117 : decode cX4_readItem 117 = .ok (.invokevirtual 57, 3) := by decide +kernel
theorem dX4_readItem_120 : decode cX4_readItem 120 = .ok (.ireturn, 1) := by decide +kernel
theorem dX4_takeNumber_0 : decode cX4_takeNumber 0 = .ok (.iload_n 1, 1) := by decide +kernel
theorem dX4_takeNumber_1 : decode cX4_takeNumber 1 = .ok (.lookupswitch 127 #[(99, 107), (100, 43), (114, 78), (115, 97)], 43) := by decide +kernel
theorem dX4_takeNumber_44 : decode cX4_takeNumber 44 = .ok (.aload_n 0, 1) := by decide +kernel
theorem dX4_takeNumber_45 : decode cX4_takeNumber 45 = .ok (.getfield 18, 3) := by decide +kernel
theorem dX4_takeNumber_48 : decode cX4_takeNumber 48 = .ok (.iload_n 2, 1) := by decide +kernel
theorem dX4_takeNumber_49 : decode cX4_takeNumber 49 = .ok (.putfield 61, 3) := by decide +kernel
theorem dX4_takeNumber_52 : decode cX4_takeNumber 52 = .ok (.iload_n 2, 1) := by decide +kernel
theorem dX4_takeNumber_53 : decode cX4_takeNumber 53 = .ok (.iconst 1, 1) := by decide +kernel
theorem dX4_takeNumber_54 : decode cX4_takeNumber 54 = .ok (.if_icmp .lt 23, 3) := by decide +kernel
theorem dX4_takeNumber_57 : decode cX4_takeNumber 57 = .ok (.iload_n 2, 1) := by decide +kernel
theorem dX4_takeNumber_58 : decode cX4_takeNumber 58 = .ok (.bipush 6, 2) := by decide +kernel
theorem dX4_takeNumber_60 : decode cX4_takeNumber 60 = .ok (.if_icmp .gt 17, 3) := by decide +kernel
theorem dX4_takeNumber_63 : decode cX4_takeNumber 63 = .ok (.aload_n 0, 1) := by decide +kernel
theorem dX4_takeNumber_64 : decode cX4_takeNumber 64 = .ok (.getfield 18, 3) := by decide +kernel
theorem dX4_takeNumber_67 : decode cX4_takeNumber 67 = .ok (.getfield 64, 3) := by decide +kernel
theorem dX4_takeNumber_70 : decode cX4_takeNumber 70 = .ok (.ifCond .ne 7, 3) := by decide +kernel
theorem dX4_takeNumber_73 : decode cX4_takeNumber 73 = .ok (.iconst 1, 1) := by decide +kernel
theorem dX4_takeNumber_74 : decode cX4_takeNumber 74 = .ok (.goto 4, 3) := by decide +kernel
theorem dX4_takeNumber_77 : decode cX4_takeNumber 77 = .ok (.iconst 0, 1) := by decide +kernel
theorem dX4_takeNumber_78 : decode cX4_takeNumber 78 = .ok (.ireturn, 1) := by decide +kernel
theorem dX4_takeNumber_79 : decode cX4_takeNumber 79 = .ok (.aload_n 0, 1) := by decide +kernel
theorem dX4_takeNumber_80 : decode cX4_takeNumber 80 = .ok (.getfield 18, 3) := by decide +kernel
theorem dX4_takeNumber_83 : decode cX4_takeNumber 83 = .ok (.iload_n 2, 1) := by decide +kernel
theorem dX4_takeNumber_84 : decode cX4_takeNumber 84 = .ok (.putfield 67, 3) := by decide +kernel
theorem dX4_takeNumber_87 : decode cX4_takeNumber 87 = .ok (.iload_n 2, 1) := by decide +kernel
theorem dX4_takeNumber_88 : decode cX4_takeNumber 88 = .ok (.iconst 1, 1) := by decide +kernel
theorem dX4_takeNumber_89 : decode cX4_takeNumber 89 = .ok (.if_icmp .gt 7, 3) := by decide +kernel
theorem dX4_takeNumber_92 : decode cX4_takeNumber 92 = .ok (.iconst 1, 1) := by decide +kernel
theorem dX4_takeNumber_93 : decode cX4_takeNumber 93 = .ok (.goto 4, 3) := by decide +kernel
theorem dX4_takeNumber_96 : decode cX4_takeNumber 96 = .ok (.iconst 0, 1) := by decide +kernel
theorem dX4_takeNumber_97 : decode cX4_takeNumber 97 = .ok (.ireturn, 1) := by decide +kernel
theorem dX4_takeNumber_98 : decode cX4_takeNumber 98 = .ok (.aload_n 0, 1) := by decide +kernel
theorem dX4_takeNumber_99 : decode cX4_takeNumber 99 = .ok (.getfield 18, 3) := by decide +kernel
theorem dX4_takeNumber_102 : decode cX4_takeNumber 102 = .ok (.iload_n 2, 1) := by decide +kernel
theorem dX4_takeNumber_103 : decode cX4_takeNumber 103 = .ok (.putfield 70, 3) := by decide +kernel
theorem dX4_takeNumber_106 : decode cX4_takeNumber 106 = .ok (.iconst 1, 1) := by decide +kernel
theorem dX4_takeNumber_107 : decode cX4_takeNumber 107 = .ok (.ireturn, 1) := by decide +kernel
theorem dX4_takeNumber_108 : decode cX4_takeNumber 108 = .ok (.aload_n 0, 1) := by decide +kernel
theorem dX4_takeNumber_109 : decode cX4_takeNumber 109 = .ok (.getfield 18, 3) := by decide +kernel
theorem dX4_takeNumber_112 : decode cX4_takeNumber 112 = .ok (.iload_n 2, 1) := by decide +kernel
theorem dX4_takeNumber_113 : decode cX4_takeNumber 113 = .ok (.putfield 73, 3) := by decide +kernel
theorem dX4_takeNumber_116 : decode cX4_takeNumber 116 = .ok (.iload_n 2, 1) := by decide +kernel
theorem dX4_takeNumber_117 : decode cX4_takeNumber 117 = .ok (.bipush 9, 2) := by decide +kernel
theorem dX4_takeNumber_119 : decode cX4_takeNumber 119 = .ok (.if_icmp .gt 7, 3) := by decide +kernel
theorem dX4_takeNumber_122 : decode cX4_takeNumber 122 = .ok (.iconst 1, 1) := by decide +kernel
theorem dX4_takeNumber_123 : decode cX4_takeNumber 123 = .ok (.goto 4, 3) := by decide +kernel
theorem dX4_takeNumber_126 : decode cX4_takeNumber 126 = .ok (.iconst 0, 1) := by decide +kernel
theorem dX4_takeNumber_127 : decode cX4_takeNumber 127 = .ok (.ireturn, 1) := by decide +kernel
theorem dX4_takeNumber_128 : decode cX4_takeNumber 128 = .ok (.iconst 0, 1) := by decide +kernel
theorem dX4_takeNumber_129 : decode cX4_takeNumber 129 = .ok (.ireturn, 1) := by decide +kernel
theorem dX4_takeGuest_0 : decode cX4_takeGuest 0 = .ok (.iload_n 2, 1) := by decide +kernel
theorem dX4_takeGuest_1 : decode cX4_takeGuest 1 = .ok (.bipush 9, 2) := by decide +kernel
theorem dX4_takeGuest_3 : decode cX4_takeGuest 3 = .ok (.if_icmp .eq 28, 3) := by decide +kernel
theorem dX4_takeGuest_6 : decode cX4_takeGuest 6 = .ok (.iload_n 2, 1) := by decide +kernel
theorem dX4_takeGuest_7 : decode cX4_takeGuest 7 = .ok (.aload_n 0, 1) := by decide +kernel
theorem dX4_takeGuest_8 : decode cX4_takeGuest 8 = .ok (.getfield 18, 3) := by decide +kernel
theorem dX4_takeGuest_11 : decode cX4_takeGuest 11 = .ok (.getfield 61, 3) := by decide +kernel
theorem dX4_takeGuest_14 : decode cX4_takeGuest 14 = .ok (.if_icmp .ge 21, 3) := by decide +kernel
theorem dX4_takeGuest_17 : decode cX4_takeGuest 17 = .ok (.aload_n 0, 1) := by decide +kernel
theorem dX4_takeGuest_18 : decode cX4_takeGuest 18 = .ok (.getfield 18, 3) := by decide +kernel
theorem dX4_takeGuest_21 : decode cX4_takeGuest 21 = .ok (.getfield 76, 3) := by decide +kernel
theorem dX4_takeGuest_24 : decode cX4_takeGuest 24 = .ok (.iload_n 2, 1) := by decide +kernel
theorem dX4_takeGuest_25 : decode cX4_takeGuest 25 = .ok (.invokestatic 79, 3) := by decide +kernel
theorem dX4_takeGuest_28 : decode cX4_takeGuest 28 = .ok (.ifCond .ge 7, 3) := by decide +kernel
theorem dX4_takeGuest_31 : decode cX4_takeGuest 31 = .ok (.iconst 1, 1) := by decide +kernel
theorem dX4_takeGuest_32 : decode cX4_takeGuest 32 = .ok (.goto 4, 3) := by decide +kernel
theorem dX4_takeGuest_35 : decode cX4_takeGuest 35 = .ok (.iconst 0, 1) := by decide +kernel
theorem dX4_takeGuest_36 : decode cX4_takeGuest 36 = .ok (.istore 4, 2) := by decide +kernel
theorem dX4_takeGuest_38 : decode cX4_takeGuest 38 = .ok (.iload_n 3, 1) := by decide +kernel
theorem dX4_takeGuest_39 : decode cX4_takeGuest 39 = .ok (.aload_n 0, 1) := by decide +kernel
theorem dX4_takeGuest_40 : decode cX4_takeGuest 40 = .ok (.getfield 18, 3) := by decide +kernel
theorem dX4_takeGuest_43 : decode cX4_takeGuest 43 = .ok (.invokevirtual 83, 3) := by decide +kernel
theorem dX4_takeGuest_46 : decode cX4_takeGuest 46 = .ok (.iconst (-1), 1) := by decide +kernel
theorem dX4_takeGuest_47 : decode cX4_takeGuest 47 = .ok (.ixor, 1) := by decide +kernel
theorem dX4_takeGuest_48 : decode cX4_takeGuest 48 = .ok (.iand, 1) := by decide +kernel
theorem dX4_takeGuest_49 : decode cX4_takeGuest 49 = .ok (.ifCond .ne 7, 3) := by decide +kernel
theorem dX4_takeGuest_52 : decode cX4_takeGuest 52 = .ok (.iconst 1, 1) := by decide +kernel
theorem dX4_takeGuest_53 : decode cX4_takeGuest 53 = .ok (.goto 4, 3) := by decide +kernel
theorem dX4_takeGuest_56 : decode cX4_takeGuest 56 = .ok (.iconst 0, 1) := by decide +kernel
theorem dX4_takeGuest_57 : decode cX4_takeGuest 57 = .ok (.istore 5, 2) := by decide +kernel
theorem dX4_takeGuest_59 : decode cX4_takeGuest 59 = .ok (.aload_n 0, 1) := by decide +kernel
theorem dX4_takeGuest_60 : decode cX4_takeGuest 60 = .ok (.getfield 18, 3) := by decide +kernel
theorem dX4_takeGuest_63 : decode cX4_takeGuest 63 = .ok (.getfield 64, 3) := by decide +kernel
theorem dX4_takeGuest_66 : decode cX4_takeGuest 66 = .ok (.bipush 6, 2) := by decide +kernel
theorem dX4_takeGuest_68 : decode cX4_takeGuest 68 = .ok (.if_icmp .ge 18, 3) := by decide +kernel
theorem dX4_takeGuest_71 : decode cX4_takeGuest 71 = .ok (.iload_n 1, 1) := by decide +kernel
theorem dX4_takeGuest_72 : decode cX4_takeGuest 72 = .ok (.iconst 3, 1) := by decide +kernel
theorem dX4_takeGuest_73 : decode cX4_takeGuest 73 = .ok (.if_icmp .gt 13, 3) := by decide +kernel
theorem dX4_takeGuest_76 : decode cX4_takeGuest 76 = .ok (.iload 4, 2) := by decide +kernel
theorem dX4_takeGuest_78 : decode cX4_takeGuest 78 = .ok (.ifCond .eq 8, 3) := by decide +kernel
theorem dX4_takeGuest_81 : decode cX4_takeGuest 81 = .ok (.iload 5, 2) := by decide +kernel
theorem dX4_takeGuest_83 : decode cX4_takeGuest 83 = .ok (.ifCond .ne 5, 3) := by decide +kernel
theorem dX4_takeGuest_86 : decode cX4_takeGuest 86 = .ok (.iconst 0, 1) := by decide +kernel
theorem dX4_takeGuest_87 : decode cX4_takeGuest 87 = .ok (.ireturn, 1) := by decide +kernel
theorem dX4_takeGuest_88 : decode cX4_takeGuest 88 = .ok (.aload_n 0, 1) := by decide +kernel
theorem dX4_takeGuest_89 : decode cX4_takeGuest 89 = .ok (.getfield 18, 3) := by decide +kernel
theorem dX4_takeGuest_92 : decode cX4_takeGuest 92 = .ok (.iload_n 1, 1) := by decide +kernel
theorem dX4_takeGuest_93 : decode cX4_takeGuest 93 = .ok (.iload_n 2, 1) := by decide +kernel
theorem dX4_takeGuest_94 : decode cX4_takeGuest 94 = .ok (.bipush 9, 2) := by decide +kernel
theorem dX4_takeGuest_96 : decode cX4_takeGuest 96 = .ok (.if_icmp .ne 8, 3) := by decide +kernel
theorem dX4_takeGuest_99 : decode cX4_takeGuest 99 = .ok (.bipush 7, 2) := by decide +kernel
theorem dX4_takeGuest_101 : decode cX4_takeGuest 101 = .ok (.goto 4, 3) := by decide +kernel
theorem dX4_takeGuest_104 : decode cX4_takeGuest 104 = .ok (.iload_n 2, 1) := by decide +kernel
theorem dX4_takeGuest_105 : decode cX4_takeGuest 105 = .ok (.iload_n 3, 1) := by decide +kernel
theorem dX4_takeGuest_106 : decode cX4_takeGuest 106 = .ok (.invokevirtual 86, 3) := by decide +kernel
theorem dX4_takeGuest_109 : decode cX4_takeGuest 109 = .ok (.iconst 1, 1) := by decide +kernel
theorem dX4_takeGuest_110 : decode cX4_takeGuest 110 = .ok (.ireturn, 1) := by decide +kernel
theorem dX4_readWorths_0 : decode cX4_readWorths 0 = .ok (.aload_n 0, 1) := by decide +kernel
theorem dX4_readWorths_1 : decode cX4_readWorths 1 = .ok (.getfield 18, 3) := by decide +kernel
theorem dX4_readWorths_4 : decode cX4_readWorths 4 = .ok (.getfield 64, 3) := by decide +kernel
theorem dX4_readWorths_7 : decode cX4_readWorths 7 = .ok (.ifCond .ne 5, 3) := by decide +kernel
theorem dX4_readWorths_10 : decode cX4_readWorths 10 = .ok (.iconst 0, 1) := by decide +kernel
theorem dX4_readWorths_11 : decode cX4_readWorths 11 = .ok (.ireturn, 1) := by decide +kernel
theorem dX4_readWorths_12 : decode cX4_readWorths 12 = .ok (.iconst 0, 1) := by decide +kernel
theorem dX4_readWorths_13 : decode cX4_readWorths 13 = .ok (.istore_n 1, 1) := by decide +kernel
theorem dX4_readWorths_14 : decode cX4_readWorths 14 = .ok (.iload_n 1, 1) := by decide +kernel
theorem dX4_readWorths_15 : decode cX4_readWorths 15 = .ok (.aload_n 0, 1) := by decide +kernel
theorem dX4_readWorths_16 : decode cX4_readWorths 16 = .ok (.getfield 18, 3) := by decide +kernel
theorem dX4_readWorths_19 : decode cX4_readWorths 19 = .ok (.getfield 61, 3) := by decide +kernel
theorem dX4_readWorths_22 : decode cX4_readWorths 22 = .ok (.if_icmp .ge 39, 3) := by decide +kernel
theorem dX4_readWorths_25 : decode cX4_readWorths 25 = .ok (.aload_n 0, 1) := by decide +kernel
theorem dX4_readWorths_26 : decode cX4_readWorths 26 = .ok (.invokevirtual 90, 3) := by decide +kernel
theorem dX4_readWorths_29 : decode cX4_readWorths 29 = .ok (.istore_n 2, 1) := by decide +kernel
theorem dX4_readWorths_30 : decode cX4_readWorths 30 = .ok (.iload_n 2, 1) := by decide +kernel
theorem dX4_readWorths_31 : decode cX4_readWorths 31 = .ok (.iconst (-1), 1) := by decide +kernel
theorem dX4_readWorths_32 : decode cX4_readWorths 32 = .ok (.if_icmp .ne 5, 3) := by decide +kernel
theorem dX4_readWorths_35 : decode cX4_readWorths 35 = .ok (.iconst 0, 1) := by decide +kernel
theorem dX4_readWorths_36 : decode cX4_readWorths 36 = .ok (.ireturn, 1) := by decide +kernel
theorem dX4_readWorths_37 : decode cX4_readWorths 37 = .ok (.aload_n 0, 1) := by decide +kernel
theorem dX4_readWorths_38 : decode cX4_readWorths 38 = .ok (.getfield 18, 3) := by decide +kernel
theorem dX4_readWorths_41 : decode cX4_readWorths 41 = .ok (.aload_n 0, 1) := by decide +kernel
theorem dX4_readWorths_42 : decode cX4_readWorths 42 = .ok (.getfield 18, 3) := by decide +kernel
theorem dX4_readWorths_45 : decode cX4_readWorths 45 = .ok (.getfield 64, 3) := by decide +kernel
theorem dX4_readWorths_48 : decode cX4_readWorths 48 = .ok (.iconst 1, 1) := by decide +kernel
theorem dX4_readWorths_49 : decode cX4_readWorths 49 = .ok (.isub, 1) := by decide +kernel
theorem dX4_readWorths_50 : decode cX4_readWorths 50 = .ok (.iload_n 1, 1) := by decide +kernel
theorem dX4_readWorths_51 : decode cX4_readWorths 51 = .ok (.iload_n 2, 1) := by decide +kernel
theorem dX4_readWorths_52 : decode cX4_readWorths 52 = .ok (.invokevirtual 93, 3) := by decide +kernel
theorem dX4_readWorths_55 : decode cX4_readWorths 55 = .ok (.iinc 1 1, 3) := by decide +kernel
theorem dX4_readWorths_58 : decode cX4_readWorths 58 = .ok (.goto (-44), 3) := by decide +kernel
theorem dX4_readWorths_61 : decode cX4_readWorths 61 = .ok (.aload_n 0, 1) := by decide +kernel
theorem dX4_readWorths_62 : decode cX4_readWorths 62 = .ok (.invokevirtual 38, 3) := by decide +kernel
theorem dX4_readWorths_65 : decode cX4_readWorths 65 = .ok (.bipush 59, 2) := by decide +kernel
theorem dX4_readWorths_67 : decode cX4_readWorths 67 = .ok (.if_icmp .ne 7, 3) := by decide +kernel
theorem dX4_readWorths_70 : decode cX4_readWorths 70 = .ok (.iconst 1, 1) := by decide +kernel
theorem dX4_readWorths_71 : decode cX4_readWorths 71 = .ok (.goto 4, 3) := by decide +kernel
theorem dX4_readWorths_74 : decode cX4_readWorths 74 = .ok (.iconst 0, 1) := by decide +kernel
theorem dX4_readWorths_75 : decode cX4_readWorths 75 = .ok (.ireturn, 1) := by decide +kernel
theorem dX4_readNumber_0 : decode cX4_readNumber 0 = .ok (.aload_n 0, 1) := by decide +kernel
theorem dX4_readNumber_1 : decode cX4_readNumber 1 = .ok (.invokevirtual 90, 3) := by decide +kernel
theorem dX4_readNumber_4 : decode cX4_readNumber 4 = .ok (.istore_n 2, 1) := by decide +kernel
theorem dX4_readNumber_5 : decode cX4_readNumber 5 = .ok (.iload_n 2, 1) := by decide +kernel
theorem dX4_readNumber_6 : decode cX4_readNumber 6 = .ok (.iconst (-1), 1) := by decide +kernel
theorem dX4_readNumber_7 : decode cX4_readNumber 7 = .ok (.if_icmp .ne 5, 3) := by decide +kernel
theorem dX4_readNumber_10 : decode cX4_readNumber 10 = .ok (.iconst 0, 1) := by decide +kernel
theorem dX4_readNumber_11 : decode cX4_readNumber 11 = .ok (.ireturn, 1) := by decide +kernel
theorem dX4_readNumber_12 : decode cX4_readNumber 12 = .ok (.aload_n 0, 1) := by decide +kernel
theorem dX4_readNumber_13 : decode cX4_readNumber 13 = .ok (.invokevirtual 90, 3) := by decide +kernel
theorem dX4_readNumber_16 : decode cX4_readNumber 16 = .ok (.istore_n 3, 1) := by decide +kernel
theorem dX4_readNumber_17 : decode cX4_readNumber 17 = .ok (.aload_n 0, 1) := by decide +kernel
theorem dX4_readNumber_18 : decode cX4_readNumber 18 = .ok (.getfield 9, 3) := by decide +kernel
theorem dX4_readNumber_21 : decode cX4_readNumber 21 = .ok (.iload_n 1, 1) := by decide +kernel
theorem dX4_readNumber_22 : decode cX4_readNumber 22 = .ok (.iload_n 3, 1) := by decide +kernel
theorem dX4_readNumber_23 : decode cX4_readNumber 23 = .ok (.iconst (-1), 1) := by decide +kernel
theorem dX4_readNumber_24 : decode cX4_readNumber 24 = .ok (.if_icmp .ne 7, 3) := by decide +kernel
theorem dX4_readNumber_27 : decode cX4_readNumber 27 = .ok (.iload_n 2, 1) := by decide +kernel
theorem dX4_readNumber_28 : decode cX4_readNumber 28 = .ok (.goto 9, 3) := by decide +kernel
theorem dX4_readNumber_31 : decode cX4_readNumber 31 = .ok (.bipush 10, 2) := by decide +kernel
theorem dX4_readNumber_33 : decode cX4_readNumber 33 = .ok (.iload_n 2, 1) := by decide +kernel
theorem dX4_readNumber_34 : decode cX4_readNumber 34 = .ok (.imul, 1) := by decide +kernel
theorem dX4_readNumber_35 : decode cX4_readNumber 35 = .ok (.iload_n 3, 1) := by decide +kernel
theorem dX4_readNumber_36 : decode cX4_readNumber 36 = .ok (.iadd, 1) := by decide +kernel
theorem dX4_readNumber_37 : decode cX4_readNumber 37 = .ok (.invokestatic 96, 3) := by decide +kernel
theorem dX4_readNumber_40 : decode cX4_readNumber 40 = .ok (.iconst 1, 1) := by decide +kernel
theorem dX4_readNumber_41 : decode cX4_readNumber 41 = .ok (.ireturn, 1) := by decide +kernel
theorem dX4_nextFigure_0 : decode cX4_nextFigure 0 = .ok (.aload_n 0, 1) := by decide +kernel
theorem dX4_nextFigure_1 : decode cX4_nextFigure 1 = .ok (.getfield 31, 3) := by decide +kernel
theorem dX4_nextFigure_4 : decode cX4_nextFigure 4 = .ok (.aload_n 0, 1) := by decide +kernel
theorem dX4_nextFigure_5 : decode cX4_nextFigure 5 = .ok (.getfield 27, 3) := by decide +kernel
theorem dX4_nextFigure_8 : decode cX4_nextFigure 8 = .ok (.if_icmp .ge 17, 3) := by decide +kernel
theorem dX4_nextFigure_11 : decode cX4_nextFigure 11 = .ok (.aload_n 0, 1) := by decide +kernel
theorem dX4_nextFigure_12 : decode cX4_nextFigure 12 = .ok (.getfield 15, 3) := by decide +kernel
theorem dX4_nextFigure_15 : decode cX4_nextFigure 15 = .ok (.aload_n 0, 1) := by decide +kernel
theorem dX4_nextFigure_16 : decode cX4_nextFigure 16 = .ok (.getfield 31, 3) := by decide +kernel
theorem dX4_nextFigure_19 : decode cX4_nextFigure 19 = .ok (.invokestatic 49, 3) := by decide +kernel
theorem dX4_nextFigure_22 : decode cX4_nextFigure 22 = .ok (.goto 4, 3) := by decide +kernel
theorem dX4_nextFigure_25 : decode cX4_nextFigure 25 = .ok (.iconst 0, 1) := by decide +kernel
theorem dX4_nextFigure_26 : decode cX4_nextFigure 26 = .ok (.istore_n 1, 1) := by decide +kernel
theorem dX4_nextFigure_27 : decode cX4_nextFigure 27 = .ok (.iload_n 1, 1) := by decide +kernel
theorem dX4_nextFigure_28 : decode cX4_nextFigure 28 = .ok (.bipush 48, 2) := by decide +kernel
theorem dX4_nextFigure_30 : decode cX4_nextFigure 30 = .ok (.if_icmp .lt 9, 3) := by decide +kernel
theorem dX4_nextFigure_33 : decode cX4_nextFigure 33 = .ok (.iload_n 1, 1) := by decide +kernel
theorem dX4_nextFigure_34 : decode cX4_nextFigure 34 = .ok (.bipush 57, 2) := by decide +kernel
theorem dX4_nextFigure_36 : decode cX4_nextFigure 36 = .ok (.if_icmp .le 5, 3) := by decide +kernel
theorem dX4_nextFigure_39 : decode cX4_nextFigure 39 = .ok (.iconst (-1), 1) := by decide +kernel
theorem dX4_nextFigure_40 : decode cX4_nextFigure 40 = .ok (.ireturn, 1) := by decide +kernel
theorem dX4_nextFigure_41 : decode cX4_nextFigure 41 = .ok (.aload_n 0, 1) := by decide +kernel
theorem dX4_nextFigure_42 : decode cX4_nextFigure 42 = .ok (.dup, 1) := by decide +kernel
theorem dX4_nextFigure_43 : decode cX4_nextFigure 43 = .ok (.getfield 31, 3) := by decide +kernel
theorem dX4_nextFigure_46 : decode cX4_nextFigure 46 = .ok (.iconst 1, 1) := by decide +kernel
theorem dX4_nextFigure_47 : decode cX4_nextFigure 47 = .ok (.iadd, 1) := by decide +kernel
theorem dX4_nextFigure_48 : decode cX4_nextFigure 48 = .ok (.putfield 31, 3) := by decide +kernel
theorem dX4_nextFigure_51 : decode cX4_nextFigure 51 = .ok (.iload_n 1, 1) := by decide +kernel
theorem dX4_nextFigure_52 : decode cX4_nextFigure 52 = .ok (.bipush 48, 2) := by decide +kernel
theorem dX4_nextFigure_54 : decode cX4_nextFigure 54 = .ok (.isub, 1) := by decide +kernel
theorem dX4_nextFigure_55 : decode cX4_nextFigure 55 = .ok (.ireturn, 1) := by decide +kernel
theorem dX4_nextByte_0 : decode cX4_nextByte 0 = .ok (.aload_n 0, 1) := by decide +kernel
theorem dX4_nextByte_1 : decode cX4_nextByte 1 = .ok (.getfield 31, 3) := by decide +kernel
theorem dX4_nextByte_4 : decode cX4_nextByte 4 = .ok (.aload_n 0, 1) := by decide +kernel
theorem dX4_nextByte_5 : decode cX4_nextByte 5 = .ok (.getfield 27, 3) := by decide +kernel
theorem dX4_nextByte_8 : decode cX4_nextByte 8 = .ok (.if_icmp .ge 17, 3) := by decide +kernel
theorem dX4_nextByte_11 : decode cX4_nextByte 11 = .ok (.aload_n 0, 1) := by decide +kernel
theorem dX4_nextByte_12 : decode cX4_nextByte 12 = .ok (.getfield 15, 3) := by decide +kernel
theorem dX4_nextByte_15 : decode cX4_nextByte 15 = .ok (.aload_n 0, 1) := by decide +kernel
theorem dX4_nextByte_16 : decode cX4_nextByte 16 = .ok (.getfield 31, 3) := by decide +kernel
theorem dX4_nextByte_19 : decode cX4_nextByte 19 = .ok (.invokestatic 49, 3) := by decide +kernel
theorem dX4_nextByte_22 : decode cX4_nextByte 22 = .ok (.goto 4, 3) := by decide +kernel
theorem dX4_nextByte_25 : decode cX4_nextByte 25 = .ok (.iconst (-1), 1) := by decide +kernel
theorem dX4_nextByte_26 : decode cX4_nextByte 26 = .ok (.istore_n 1, 1) := by decide +kernel
theorem dX4_nextByte_27 : decode cX4_nextByte 27 = .ok (.aload_n 0, 1) := by decide +kernel
theorem dX4_nextByte_28 : decode cX4_nextByte 28 = .ok (.dup, 1) := by decide +kernel
theorem dX4_nextByte_29 : decode cX4_nextByte 29 = .ok (.getfield 31, 3) := by decide +kernel
theorem dX4_nextByte_32 : decode cX4_nextByte 32 = .ok (.iconst 1, 1) := by decide +kernel
theorem dX4_nextByte_33 : decode cX4_nextByte 33 = .ok (.iadd, 1) := by decide +kernel
theorem dX4_nextByte_34 : decode cX4_nextByte 34 = .ok (.putfield 31, 3) := by decide +kernel
theorem dX4_nextByte_37 : decode cX4_nextByte 37 = .ok (.iload_n 1, 1) := by decide +kernel
theorem dX4_nextByte_38 : decode cX4_nextByte 38 = .ok (.ireturn, 1) := by decide +kernel
theorem dX5_init_0 : decode cX5_init 0 = .ok (.aload_n 0, 1) := by decide +kernel
theorem dX5_init_1 : decode cX5_init 1 = .ok (.invokespecial 3, 3) := by decide +kernel
theorem dX5_init_4 : decode cX5_init 4 = .ok (.aload_n 0, 1) := by decide +kernel
theorem dX5_init_5 : decode cX5_init 5 = .ok (.sipush 1023, 3) := by decide +kernel
theorem dX5_init_8 : decode cX5_init 8 = .ok (.putfield 9, 3) := by decide +kernel
theorem dX5_init_11 : decode cX5_init 11 = .ok (.aload_n 0, 1) := by decide +kernel
theorem dX5_init_12 : decode cX5_init 12 = .ok (.sipush 720, 3) := by decide +kernel
theorem dX5_init_15 : decode cX5_init 15 = .ok (.newarray .int, 2) := by decide +kernel
theorem dX5_init_17 : decode cX5_init 17 = .ok (.putfield 15, 3) := by decide +kernel
theorem dX5_init_20 : decode cX5_init 20 = .ok (.aload_n 0, 1) := by decide +kernel
theorem dX5_init_21 : decode cX5_init 21 = .ok (.sipush 720, 3) := by decide +kernel
theorem dX5_init_24 : decode cX5_init 24 = .ok (.newarray .int, 2) := by decide +kernel
theorem dX5_init_26 : decode cX5_init 26 = .ok (.putfield 19, 3) := by decide +kernel
theorem dX5_init_29 : decode cX5_init 29 = .ok (.aload_n 0, 1) := by decide +kernel
theorem dX5_init_30 : decode cX5_init 30 = .ok (.sipush 720, 3) := by decide +kernel
theorem dX5_init_33 : decode cX5_init 33 = .ok (.newarray .int, 2) := by decide +kernel
theorem dX5_init_35 : decode cX5_init 35 = .ok (.putfield 22, 3) := by decide +kernel
theorem dX5_init_38 : decode cX5_init 38 = .ok (.aload_n 0, 1) := by decide +kernel
theorem dX5_init_39 : decode cX5_init 39 = .ok (.aload_n 1, 1) := by decide +kernel
theorem dX5_init_40 : decode cX5_init 40 = .ok (.putfield 25, 3) := by decide +kernel
theorem dX5_init_43 : decode cX5_init 43 = .ok (.return_, 1) := by decide +kernel
theorem dX5_forget_0 : decode cX5_forget 0 = .ok (.aload_n 0, 1) := by decide +kernel
theorem dX5_forget_1 : decode cX5_forget 1 = .ok (.sipush 1023, 3) := by decide +kernel
theorem dX5_forget_4 : decode cX5_forget 4 = .ok (.putfield 9, 3) := by decide +kernel
theorem dX5_forget_7 : decode cX5_forget 7 = .ok (.aload_n 0, 1) := by decide +kernel
theorem dX5_forget_8 : decode cX5_forget 8 = .ok (.iconst 0, 1) := by decide +kernel
theorem dX5_forget_9 : decode cX5_forget 9 = .ok (.putfield 29, 3) := by decide +kernel
theorem dX5_forget_12 : decode cX5_forget 12 = .ok (.aload_n 0, 1) := by decide +kernel
theorem dX5_forget_13 : decode cX5_forget 13 = .ok (.iconst 0, 1) := by decide +kernel
theorem dX5_forget_14 : decode cX5_forget 14 = .ok (.putfield 32, 3) := by decide +kernel
theorem dX5_forget_17 : decode cX5_forget 17 = .ok (.return_, 1) := by decide +kernel
theorem dX5_startFrom_0 : decode cX5_startFrom 0 = .ok (.iload_n 1, 1) := by decide +kernel
theorem dX5_startFrom_1 : decode cX5_startFrom 1 = .ok (.aload_n 0, 1) := by decide +kernel
theorem dX5_startFrom_2 : decode cX5_startFrom 2 = .ok (.getfield 9, 3) := by decide +kernel
theorem dX5_startFrom_5 : decode cX5_startFrom 5 = .ok (.if_icmp .ne 4, 3) := by decide +kernel
theorem dX5_startFrom_8 : decode cX5_startFrom 8 = .ok (.return_, 1) := by decide +kernel
theorem dX5_startFrom_9 : decode cX5_startFrom 9 = .ok (.aload_n 0, 1) := by decide +kernel
theorem dX5_startFrom_10 : decode cX5_startFrom 10 = .ok (.invokevirtual 35, 3) := by decide +kernel
theorem dX5_startFrom_13 : decode cX5_startFrom 13 = .ok (.aload_n 0, 1) := by decide +kernel
theorem dX5_startFrom_14 : decode cX5_startFrom 14 = .ok (.iload_n 1, 1) := by decide +kernel
theorem dX5_startFrom_15 : decode cX5_startFrom 15 = .ok (.putfield 9, 3) := by decide +kernel
theorem dX5_startFrom_18 : decode cX5_startFrom 18 = .ok (.aload_n 0, 1) := by decide +kernel
theorem dX5_startFrom_19 : decode cX5_startFrom 19 = .ok (.getfield 19, 3) := by decide +kernel
theorem dX5_startFrom_22 : decode cX5_startFrom 22 = .ok (.iconst (-1), 1) := by decide +kernel
theorem dX5_startFrom_23 : decode cX5_startFrom 23 = .ok (.invokestatic 38, 3) := by decide +kernel
theorem dX5_startFrom_26 : decode cX5_startFrom 26 = .ok (.aload_n 0, 1) := by decide +kernel
theorem dX5_startFrom_27 : decode cX5_startFrom 27 = .ok (.iload_n 1, 1) := by decide +kernel
theorem dX5_startFrom_28 : decode cX5_startFrom 28 = .ok (.iconst 0, 1) := by decide +kernel
theorem dX5_startFrom_29 : decode cX5_startFrom 29 = .ok (.iconst 0, 1) := by decide +kernel
theorem dX5_startFrom_30 : decode cX5_startFrom 30 = .ok (.invokevirtual 44, 3) := by decide +kernel
theorem dX5_startFrom_33 : decode cX5_startFrom 33 = .ok (.return_, 1) := by decide +kernel
theorem dX5_reachedAs_0 : decode cX5_reachedAs 0 = .ok (.aload_n 0, 1) := by decide +kernel
theorem dX5_reachedAs_1 : decode cX5_reachedAs 1 = .ok (.getfield 25, 3) := by decide +kernel
theorem dX5_reachedAs_4 : decode cX5_reachedAs 4 = .ok (.getfield 48, 3) := by decide +kernel
theorem dX5_reachedAs_7 : decode cX5_reachedAs 7 = .ok (.getfield 54, 3) := by decide +kernel
theorem dX5_reachedAs_10 : decode cX5_reachedAs 10 = .ok (.istore_n 3, 1) := by decide +kernel
theorem dX5_reachedAs_11 : decode cX5_reachedAs 11 = .ok (.aload_n 0, 1) := by decide +kernel
theorem dX5_reachedAs_12 : decode cX5_reachedAs 12 = .ok (.getfield 32, 3) := by decide +kernel
theorem dX5_reachedAs_15 : decode cX5_reachedAs 15 = .ok (.sipush 720, 3) := by decide +kernel
theorem dX5_reachedAs_18 : decode cX5_reachedAs 18 = .ok (.if_icmp .ge 160, 3) := by decide +kernel
theorem dX5_reachedAs_21 : decode cX5_reachedAs 21 = .ok (.aload_n 0, 1) := by decide +kernel
theorem dX5_reachedAs_22 : decode cX5_reachedAs 22 = .ok (.getfield 32, 3) := by decide +kernel
theorem dX5_reachedAs_25 : decode cX5_reachedAs 25 = .ok (.aload_n 0, 1) := by decide +kernel
theorem dX5_reachedAs_26 : decode cX5_reachedAs 26 = .ok (.getfield 29, 3) := by decide +kernel
theorem dX5_reachedAs_29 : decode cX5_reachedAs 29 = .ok (.if_icmp .ge 149, 3) := by decide +kernel
theorem dX5_reachedAs_32 : decode cX5_reachedAs 32 = .ok (.aload_n 0, 1) := by decide +kernel
theorem dX5_reachedAs_33 : decode cX5_reachedAs 33 = .ok (.getfield 29, 3) := by decide +kernel
theorem dX5_reachedAs_36 : decode cX5_reachedAs 36 = .ok (.iload_n 1, 1) := by decide +kernel
theorem dX5_reachedAs_37 : decode cX5_reachedAs 37 = .ok (.if_icmp .gt 141, 3) := by decide +kernel
theorem dX5_reachedAs_40 : decode cX5_reachedAs 40 = .ok (.aload_n 0, 1) := by decide +kernel
theorem dX5_reachedAs_41 : decode cX5_reachedAs 41 = .ok (.aload_n 0, 1) := by decide +kernel
theorem dX5_reachedAs_42 : decode cX5_reachedAs 42 = .ok (.getfield 32, 3) := by decide +kernel
theorem dX5_reachedAs_45 : decode cX5_reachedAs 45 = .ok (.invokevirtual 59, 3) := by decide +kernel
theorem dX5_reachedAs_48 : decode cX5_reachedAs 48 = .ok (.iload_n 2, 1) := by decide +kernel
theorem dX5_reachedAs_49 : decode cX5_reachedAs 49 = .ok (.iconst 1, 1) := by decide +kernel
theorem dX5_reachedAs_50 : decode cX5_reachedAs 50 = .ok (.isub, 1) := by decide +kernel
theorem dX5_reachedAs_51 : decode cX5_reachedAs 51 = .ok (.if_icmp .ge 127, 3) := by decide +kernel
theorem dX5_reachedAs_54 : decode cX5_reachedAs 54 = .ok (.aload_n 0, 1) := by decide +kernel
theorem dX5_reachedAs_55 : decode cX5_reachedAs 55 = .ok (.getfield 15, 3) := by decide +kernel
theorem dX5_reachedAs_58 : decode cX5_reachedAs 58 = .ok (.aload_n 0, 1) := by decide +kernel
theorem dX5_reachedAs_59 : decode cX5_reachedAs 59 = .ok (.getfield 32, 3) := by decide +kernel
theorem dX5_reachedAs_62 : decode cX5_reachedAs 62 = .ok (.invokestatic 63, 3) := by decide +kernel
theorem dX5_reachedAs_65 : decode cX5_reachedAs 65 = .ok (.istore 4, 2) := by decide +kernel
theorem dX5_reachedAs_67 : decode cX5_reachedAs 67 = .ok (.aload_n 0, 1) := by decide +kernel
theorem dX5_reachedAs_68 : decode cX5_reachedAs 68 = .ok (.aload_n 0, 1) := by decide +kernel
theorem dX5_reachedAs_69 : decode cX5_reachedAs 69 = .ok (.getfield 32, 3) := by decide +kernel
theorem dX5_reachedAs_72 : decode cX5_reachedAs 72 = .ok (.invokevirtual 59, 3) := by decide +kernel
theorem dX5_reachedAs_75 : decode cX5_reachedAs 75 = .ok (.iconst 1, 1) := by decide +kernel
theorem dX5_reachedAs_76 : decode cX5_reachedAs 76 = .ok (.iadd, 1) := by decide +kernel
theorem dX5_reachedAs_77 : decode cX5_reachedAs 77 = .ok (.istore 5, 2) := by decide +kernel
theorem dX5_reachedAs_79 : decode cX5_reachedAs 79 = .ok (.iconst 0, 1) := by decide +kernel
theorem dX5_reachedAs_80 : decode cX5_reachedAs 80 = .ok (.istore 6, 2) := by decide +kernel
theorem dX5_reachedAs_82 : decode cX5_reachedAs 82 = .ok (.iload 6, 2) := by decide +kernel
theorem dX5_reachedAs_84 : decode cX5_reachedAs 84 = .ok (.iload_n 3, 1) := by decide +kernel
theorem dX5_reachedAs_85 : decode cX5_reachedAs 85 = .ok (.if_icmp .ge 80, 3) := by decide +kernel
theorem dX5_reachedAs_88 : decode cX5_reachedAs 88 = .ok (.aload_n 0, 1) := by decide +kernel
theorem dX5_reachedAs_89 : decode cX5_reachedAs 89 = .ok (.getfield 25, 3) := by decide +kernel
theorem dX5_reachedAs_92 : decode cX5_reachedAs 92 = .ok (.iload 4, 2) := by decide +kernel
theorem dX5_reachedAs_94 : decode cX5_reachedAs 94 = .ok (.iload 6, 2) := by decide +kernel
theorem dX5_reachedAs_96 : decode cX5_reachedAs 96 = .ok (.invokevirtual 67, 3) := by decide +kernel
theorem dX5_reachedAs_99 : decode cX5_reachedAs 99 = .ok (.lstore 7, 2) := by decide +kernel
theorem dX5_reachedAs_101 : decode cX5_reachedAs 101 = .ok (.iconst 0, 1) := by decide +kernel
theorem dX5_reachedAs_102 : decode cX5_reachedAs 102 = .ok (.istore 9, 2) := by decide +kernel
theorem dX5_reachedAs_104 : decode cX5_reachedAs 104 = .ok (.iload 9, 2) := by decide +kernel
theorem dX5_reachedAs_106 : decode cX5_reachedAs 106 = .ok (.iload_n 3, 1) := by decide +kernel
theorem dX5_reachedAs_107 : decode cX5_reachedAs 107 = .ok (.if_icmp .ge 52, 3) := by decide +kernel
theorem dX5_reachedAs_110 : decode cX5_reachedAs 110 = .ok (.iload 5, 2) := by decide +kernel
theorem dX5_reachedAs_112 : decode cX5_reachedAs 112 = .ok (.iconst 1, 1) := by decide +kernel
theorem dX5_reachedAs_113 : decode cX5_reachedAs 113 = .ok (.if_icmp .ne 14, 3) := by decide +kernel
theorem dX5_reachedAs_116 : decode cX5_reachedAs 116 = .ok (.bipush 10, 2) := by decide +kernel
theorem dX5_reachedAs_118 : decode cX5_reachedAs 118 = .ok (.iload 6, 2) := by decide +kernel
theorem dX5_reachedAs_120 : decode cX5_reachedAs 120 = .ok (.imul, 1) := by decide +kernel
theorem dX5_reachedAs_121 : decode cX5_reachedAs 121 = .ok (.iload 9, 2) := by decide +kernel
theorem dX5_reachedAs_123 : decode cX5_reachedAs 123 = .ok (.iadd, 1) := by decide +kernel
theorem dX5_reachedAs_124 : decode cX5_reachedAs 124 = .ok (.goto 12, 3) := by decide +kernel
theorem dX5_reachedAs_127 : decode cX5_reachedAs 127 = .ok (.aload_n 0, 1) := by decide +kernel
theorem dX5_reachedAs_128 : decode cX5_reachedAs 128 = .ok (.getfield 22, 3) := by decide +kernel
theorem dX5_reachedAs_131 : decode cX5_reachedAs 131 = .ok (.iload 4, 2) := by decide +kernel
theorem dX5_reachedAs_133 : decode cX5_reachedAs 133 = .ok (.invokestatic 63, 3) := by decide +kernel
theorem dX5_reachedAs_136 : decode cX5_reachedAs 136 = .ok (.istore 10, 2) := by decide +kernel
theorem dX5_reachedAs_138 : decode cX5_reachedAs 138 = .ok (.aload_n 0, 1) := by decide +kernel
theorem dX5_reachedAs_139 : decode cX5_reachedAs 139 = .ok (.lload 7, 2) := by decide +kernel
theorem dX5_reachedAs_141 : decode cX5_reachedAs 141 = .ok (.iload 9, 2) := by decide +kernel
theorem dX5_reachedAs_143 : decode cX5_reachedAs 143 = .ok (.invokestatic 71, 3) := by decide +kernel
theorem dX5_reachedAs_146 : decode cX5_reachedAs 146 = .ok (.iload 5, 2) := by decide +kernel
theorem dX5_reachedAs_148 : decode cX5_reachedAs 148 = .ok (.iload 10, 2) := by decide +kernel
theorem dX5_reachedAs_150 : decode cX5_reachedAs 150 = .ok (.invokevirtual 44, 3) := by decide +kernel
theorem dX5_reachedAs_153 : decode cX5_reachedAs 153 = .ok (.iinc 9 1, 3) := by decide +kernel
theorem dX5_reachedAs_156 : decode cX5_reachedAs 156 = .ok (.goto (-52), 3) := by decide +kernel
theorem dX5_reachedAs_159 : decode cX5_reachedAs 159 = .ok (.iinc 6 1, 3) := by decide +kernel
theorem dX5_reachedAs_162 : decode cX5_reachedAs 162 = .ok (.goto (-80), 3) := by decide +kernel
theorem dX5_reachedAs_165 : decode cX5_reachedAs 165 = .ok (.aload_n 0, 1) := by decide +kernel
theorem dX5_reachedAs_166 : decode cX5_reachedAs 166 = .ok (.dup, 1) := by decide +kernel
theorem dX5_reachedAs_167 : decode cX5_reachedAs 167 = .ok (.getfield 32, 3) := by decide +kernel
theorem dX5_reachedAs_170 : decode cX5_reachedAs 170 = .ok (.iconst 1, 1) := by decide +kernel
theorem dX5_reachedAs_171 : decode cX5_reachedAs 171 = .ok (.iadd, 1) := by decide +kernel
theorem dX5_reachedAs_172 : decode cX5_reachedAs 172 = .ok (.putfield 32, 3) := by decide +kernel
theorem dX5_reachedAs_175 : decode cX5_reachedAs 175 = .ok (.goto (-164), 3) := by decide +kernel
theorem dX5_reachedAs_178 : decode cX5_reachedAs 178 = .ok (.iload_n 1, 1) := by decide +kernel
theorem dX5_reachedAs_179 : decode cX5_reachedAs 179 = .ok (.aload_n 0, 1) := by decide +kernel
theorem dX5_reachedAs_180 : decode cX5_reachedAs 180 = .ok (.getfield 29, 3) := by decide +kernel
theorem dX5_reachedAs_183 : decode cX5_reachedAs 183 = .ok (.if_icmp .ge 23, 3) := by decide +kernel
theorem dX5_reachedAs_186 : decode cX5_reachedAs 186 = .ok (.aload_n 0, 1) := by decide +kernel
theorem dX5_reachedAs_187 : decode cX5_reachedAs 187 = .ok (.iload_n 1, 1) := by decide +kernel
theorem dX5_reachedAs_188 : decode cX5_reachedAs 188 = .ok (.invokevirtual 59, 3) := by decide +kernel
theorem dX5_reachedAs_191 : decode cX5_reachedAs 191 = .ok (.iload_n 2, 1) := by decide +kernel
theorem dX5_reachedAs_192 : decode cX5_reachedAs 192 = .ok (.if_icmp .ge 14, 3) := by decide +kernel
theorem dX5_reachedAs_195 : decode cX5_reachedAs 195 = .ok (.aload_n 0, 1) := by decide +kernel
theorem dX5_reachedAs_196 : decode cX5_reachedAs 196 = .ok (.getfield 15, 3) := by decide +kernel
theorem dX5_reachedAs_199 : decode cX5_reachedAs 199 = .ok (.iload_n 1, 1) := by decide +kernel
theorem dX5_reachedAs_200 : decode cX5_reachedAs 200 = .ok (.invokestatic 63, 3) := by decide +kernel
theorem dX5_reachedAs_203 : decode cX5_reachedAs 203 = .ok (.goto 6, 3) := by decide +kernel
theorem dX5_reachedAs_206 : decode cX5_reachedAs 206 = .ok (.sipush 1023, 3) := by decide +kernel
theorem dX5_reachedAs_209 : decode cX5_reachedAs 209 = .ok (.ireturn, 1) := by decide +kernel
theorem dX5_stepsAs_0 : decode cX5_stepsAs 0 = .ok (.aload_n 0, 1) := by decide +kernel
theorem dX5_stepsAs_1 : decode cX5_stepsAs 1 = .ok (.getfield 19, 3) := by decide +kernel
theorem dX5_stepsAs_4 : decode cX5_stepsAs 4 = .ok (.aload_n 0, 1) := by decide +kernel
theorem dX5_stepsAs_5 : decode cX5_stepsAs 5 = .ok (.getfield 15, 3) := by decide +kernel
theorem dX5_stepsAs_8 : decode cX5_stepsAs 8 = .ok (.iload_n 1, 1) := by decide +kernel
theorem dX5_stepsAs_9 : decode cX5_stepsAs 9 = .ok (.invokestatic 63, 3) := by decide +kernel
theorem dX5_stepsAs_12 : decode cX5_stepsAs 12 = .ok (.invokestatic 63, 3) := by decide +kernel
theorem dX5_stepsAs_15 : decode cX5_stepsAs 15 = .ok (.ireturn, 1) := by decide +kernel
theorem dX5_reach_0 : decode cX5_reach 0 = .ok (.iload_n 1, 1) := by decide +kernel
theorem dX5_reach_1 : decode cX5_reach 1 = .ok (.ifCond .lt 56, 3) := by decide +kernel
theorem dX5_reach_4 : decode cX5_reach 4 = .ok (.iload_n 1, 1) := by decide +kernel
theorem dX5_reach_5 : decode cX5_reach 5 = .ok (.sipush 720, 3) := by decide +kernel
theorem dX5_reach_8 : decode cX5_reach 8 = .ok (.if_icmp .ge 49, 3) := by decide +kernel
theorem dX5_reach_11 : decode cX5_reach 11 = .ok (.aload_n 0, 1) := by decide +kernel
theorem dX5_reach_12 : decode cX5_reach 12 = .ok (.getfield 19, 3) := by decide +kernel
theorem dX5_reach_15 : decode cX5_reach 15 = .ok (.iload_n 1, 1) := by decide +kernel
theorem dX5_reach_16 : decode cX5_reach 16 = .ok (.iaload, 1) := by decide +kernel
theorem dX5_reach_17 : decode cX5_reach 17 = .ok (.iconst (-1), 1) := by decide +kernel
theorem dX5_reach_18 : decode cX5_reach 18 = .ok (.if_icmp .ne 39, 3) := by decide +kernel
theorem dX5_reach_21 : decode cX5_reach 21 = .ok (.aload_n 0, 1) := by decide +kernel
theorem dX5_reach_22 : decode cX5_reach 22 = .ok (.getfield 19, 3) := by decide +kernel
theorem dX5_reach_25 : decode cX5_reach 25 = .ok (.iload_n 1, 1) := by decide +kernel
theorem dX5_reach_26 : decode cX5_reach 26 = .ok (.iload_n 2, 1) := by decide +kernel
theorem dX5_reach_27 : decode cX5_reach 27 = .ok (.iastore, 1) := by decide +kernel
theorem dX5_reach_28 : decode cX5_reach 28 = .ok (.aload_n 0, 1) := by decide +kernel
theorem dX5_reach_29 : decode cX5_reach 29 = .ok (.getfield 22, 3) := by decide +kernel
theorem dX5_reach_32 : decode cX5_reach 32 = .ok (.iload_n 1, 1) := by decide +kernel
theorem dX5_reach_33 : decode cX5_reach 33 = .ok (.iload_n 3, 1) := by decide +kernel
theorem dX5_reach_34 : decode cX5_reach 34 = .ok (.iastore, 1) := by decide +kernel
theorem dX5_reach_35 : decode cX5_reach 35 = .ok (.aload_n 0, 1) := by decide +kernel
theorem dX5_reach_36 : decode cX5_reach 36 = .ok (.getfield 15, 3) := by decide +kernel
theorem dX5_reach_39 : decode cX5_reach 39 = .ok (.aload_n 0, 1) := by decide +kernel
theorem dX5_reach_40 : decode cX5_reach 40 = .ok (.getfield 29, 3) := by decide +kernel
theorem dX5_reach_43 : decode cX5_reach 43 = .ok (.iload_n 1, 1) := by decide +kernel
theorem dX5_reach_44 : decode cX5_reach 44 = .ok (.invokestatic 75, 3) := by decide +kernel
theorem dX5_reach_47 : decode cX5_reach 47 = .ok (.aload_n 0, 1) := by decide +kernel
theorem dX5_reach_48 : decode cX5_reach 48 = .ok (.dup, 1) := by decide +kernel
theorem dX5_reach_49 : decode cX5_reach 49 = .ok (.getfield 29, 3) := by decide +kernel
theorem dX5_reach_52 : decode cX5_reach 52 = .ok (.iconst 1, 1) := by decide +kernel
theorem dX5_reach_53 : decode cX5_reach 53 = .ok (.iadd, 1) := by decide +kernel
theorem dX5_reach_54 : decode cX5_reach 54 = .ok (.putfield 29, 3) := by decide +kernel
theorem dX5_reach_57 : decode cX5_reach 57 = .ok (.return_, 1) := by decide +kernel
theorem dX5_stepsTo_0 : decode cX5_stepsTo 0 = .ok (.aload_n 0, 1) := by decide +kernel
theorem dX5_stepsTo_1 : decode cX5_stepsTo 1 = .ok (.iload_n 1, 1) := by decide +kernel
theorem dX5_stepsTo_2 : decode cX5_stepsTo 2 = .ok (.iload_n 2, 1) := by decide +kernel
theorem dX5_stepsTo_3 : decode cX5_stepsTo 3 = .ok (.invokevirtual 79, 3) := by decide +kernel
theorem dX5_stepsTo_6 : decode cX5_stepsTo 6 = .ok (.istore_n 3, 1) := by decide +kernel
theorem dX5_stepsTo_7 : decode cX5_stepsTo 7 = .ok (.iload_n 3, 1) := by decide +kernel
theorem dX5_stepsTo_8 : decode cX5_stepsTo 8 = .ok (.ifCond .ge 8, 3) := by decide +kernel
theorem dX5_stepsTo_11 : decode cX5_stepsTo 11 = .ok (.bipush (-4), 2) := by decide +kernel
theorem dX5_stepsTo_13 : decode cX5_stepsTo 13 = .ok (.goto 8, 3) := by decide +kernel
theorem dX5_stepsTo_16 : decode cX5_stepsTo 16 = .ok (.aload_n 0, 1) := by decide +kernel
theorem dX5_stepsTo_17 : decode cX5_stepsTo 17 = .ok (.iload_n 3, 1) := by decide +kernel
theorem dX5_stepsTo_18 : decode cX5_stepsTo 18 = .ok (.invokevirtual 59, 3) := by decide +kernel
theorem dX5_stepsTo_21 : decode cX5_stepsTo 21 = .ok (.ireturn, 1) := by decide +kernel
theorem dX5_openingTo_0 : decode cX5_openingTo 0 = .ok (.aload_n 0, 1) := by decide +kernel
theorem dX5_openingTo_1 : decode cX5_openingTo 1 = .ok (.iload_n 1, 1) := by decide +kernel
theorem dX5_openingTo_2 : decode cX5_openingTo 2 = .ok (.iload_n 2, 1) := by decide +kernel
theorem dX5_openingTo_3 : decode cX5_openingTo 3 = .ok (.invokevirtual 79, 3) := by decide +kernel
theorem dX5_openingTo_6 : decode cX5_openingTo 6 = .ok (.istore_n 3, 1) := by decide +kernel
theorem dX5_openingTo_7 : decode cX5_openingTo 7 = .ok (.iload_n 3, 1) := by decide +kernel
theorem dX5_openingTo_8 : decode cX5_openingTo 8 = .ok (.ifCond .gt 8, 3) := by decide +kernel
theorem dX5_openingTo_11 : decode cX5_openingTo 11 = .ok (.bipush (-4), 2) := by decide +kernel
theorem dX5_openingTo_13 : decode cX5_openingTo 13 = .ok (.goto 18, 3) := by decide +kernel
theorem dX5_openingTo_16 : decode cX5_openingTo 16 = .ok (.aload_n 0, 1) := by decide +kernel
theorem dX5_openingTo_17 : decode cX5_openingTo 17 = .ok (.getfield 22, 3) := by decide +kernel
theorem dX5_openingTo_20 : decode cX5_openingTo 20 = .ok (.aload_n 0, 1) := by decide +kernel
theorem dX5_openingTo_21 : decode cX5_openingTo 21 = .ok (.getfield 15, 3) := by decide +kernel
theorem dX5_openingTo_24 : decode cX5_openingTo 24 = .ok (.iload_n 3, 1) := by decide +kernel
theorem dX5_openingTo_25 : decode cX5_openingTo 25 = .ok (.invokestatic 63, 3) := by decide +kernel
theorem dX5_openingTo_28 : decode cX5_openingTo 28 = .ok (.invokestatic 63, 3) := by decide +kernel
theorem dX5_openingTo_31 : decode cX5_openingTo 31 = .ok (.ireturn, 1) := by decide +kernel
theorem dX5_firstWith_0 : decode cX5_firstWith 0 = .ok (.aload_n 0, 1) := by decide +kernel
theorem dX5_firstWith_1 : decode cX5_firstWith 1 = .ok (.getfield 25, 3) := by decide +kernel
theorem dX5_firstWith_4 : decode cX5_firstWith 4 = .ok (.getfield 48, 3) := by decide +kernel
theorem dX5_firstWith_7 : decode cX5_firstWith 7 = .ok (.getfield 83, 3) := by decide +kernel
theorem dX5_firstWith_10 : decode cX5_firstWith 10 = .ok (.iload_n 2, 1) := by decide +kernel
theorem dX5_firstWith_11 : decode cX5_firstWith 11 = .ok (.invokestatic 86, 3) := by decide +kernel
theorem dX5_firstWith_14 : decode cX5_firstWith 14 = .ok (.ifCond .ge 5, 3) := by decide +kernel
theorem dX5_firstWith_17 : decode cX5_firstWith 17 = .ok (.iconst (-1), 1) := by decide +kernel
theorem dX5_firstWith_18 : decode cX5_firstWith 18 = .ok (.ireturn, 1) := by decide +kernel
theorem dX5_firstWith_19 : decode cX5_firstWith 19 = .ok (.iconst 0, 1) := by decide +kernel
theorem dX5_firstWith_20 : decode cX5_firstWith 20 = .ok (.istore_n 3, 1) := by decide +kernel
theorem dX5_firstWith_21 : decode cX5_firstWith 21 = .ok (.iload_n 3, 1) := by decide +kernel
theorem dX5_firstWith_22 : decode cX5_firstWith 22 = .ok (.sipush 720, 3) := by decide +kernel
theorem dX5_firstWith_25 : decode cX5_firstWith 25 = .ok (.if_icmp .ge 50, 3) := by decide +kernel
theorem dX5_firstWith_28 : decode cX5_firstWith 28 = .ok (.aload_n 0, 1) := by decide +kernel
theorem dX5_firstWith_29 : decode cX5_firstWith 29 = .ok (.iload_n 3, 1) := by decide +kernel
theorem dX5_firstWith_30 : decode cX5_firstWith 30 = .ok (.ldc 89, 2) := by decide +kernel
theorem dX5_firstWith_32 : decode cX5_firstWith 32 = .ok (.invokevirtual 90, 3) := by decide +kernel
theorem dX5_firstWith_35 : decode cX5_firstWith 35 = .ok (.istore 4, 2) := by decide +kernel
theorem dX5_firstWith_37 : decode cX5_firstWith 37 = .ok (.iload 4, 2) := by decide +kernel
theorem dX5_firstWith_39 : decode cX5_firstWith 39 = .ok (.sipush 1023, 3) := by decide +kernel
theorem dX5_firstWith_42 : decode cX5_firstWith 42 = .ok (.if_icmp .ne 5, 3) := by decide +kernel
theorem dX5_firstWith_45 : decode cX5_firstWith 45 = .ok (.iconst (-1), 1) := by decide +kernel
theorem dX5_firstWith_46 : decode cX5_firstWith 46 = .ok (.ireturn, 1) := by decide +kernel
theorem dX5_firstWith_47 : decode cX5_firstWith 47 = .ok (.aload_n 0, 1) := by decide +kernel
theorem dX5_firstWith_48 : decode cX5_firstWith 48 = .ok (.getfield 25, 3) := by decide +kernel
theorem dX5_firstWith_51 : decode cX5_firstWith 51 = .ok (.getfield 93, 3) := by decide +kernel
theorem dX5_firstWith_54 : decode cX5_firstWith 54 = .ok (.iload 4, 2) := by decide +kernel
theorem dX5_firstWith_56 : decode cX5_firstWith 56 = .ok (.invokevirtual 97, 3) := by decide +kernel
theorem dX5_firstWith_59 : decode cX5_firstWith 59 = .ok (.iload_n 1, 1) := by decide +kernel
theorem dX5_firstWith_60 : decode cX5_firstWith 60 = .ok (.invokestatic 102, 3) := by decide +kernel
theorem dX5_firstWith_63 : decode cX5_firstWith 63 = .ok (.iload_n 2, 1) := by decide +kernel
theorem dX5_firstWith_64 : decode cX5_firstWith 64 = .ok (.if_icmp .ne 5, 3) := by decide +kernel
theorem dX5_firstWith_67 : decode cX5_firstWith 67 = .ok (.iload_n 3, 1) := by decide +kernel
theorem dX5_firstWith_68 : decode cX5_firstWith 68 = .ok (.ireturn, 1) := by decide +kernel
theorem dX5_firstWith_69 : decode cX5_firstWith 69 = .ok (.iinc 3 1, 3) := by decide +kernel
theorem dX5_firstWith_72 : decode cX5_firstWith 72 = .ok (.goto (-51), 3) := by decide +kernel
theorem dX5_firstWith_75 : decode cX5_firstWith 75 = .ok (.iconst (-1), 1) := by decide +kernel
theorem dX5_firstWith_76 : decode cX5_firstWith 76 = .ok (.ireturn, 1) := by decide +kernel
theorem dX5_stepsToRest_0 : decode cX5_stepsToRest 0 = .ok (.iconst 0, 1) := by decide +kernel
theorem dX5_stepsToRest_1 : decode cX5_stepsToRest 1 = .ok (.istore_n 2, 1) := by decide +kernel
theorem dX5_stepsToRest_2 : decode cX5_stepsToRest 2 = .ok (.iload_n 2, 1) := by decide +kernel
theorem dX5_stepsToRest_3 : decode cX5_stepsToRest 3 = .ok (.sipush 720, 3) := by decide +kernel
theorem dX5_stepsToRest_6 : decode cX5_stepsToRest 6 = .ok (.if_icmp .ge 59, 3) := by decide +kernel
theorem dX5_stepsToRest_9 : decode cX5_stepsToRest 9 = .ok (.aload_n 0, 1) := by decide +kernel
theorem dX5_stepsToRest_10 : decode cX5_stepsToRest 10 = .ok (.iload_n 2, 1) := by decide +kernel
theorem dX5_stepsToRest_11 : decode cX5_stepsToRest 11 = .ok (.iload_n 1, 1) := by decide +kernel
theorem dX5_stepsToRest_12 : decode cX5_stepsToRest 12 = .ok (.invokevirtual 90, 3) := by decide +kernel
theorem dX5_stepsToRest_15 : decode cX5_stepsToRest 15 = .ok (.istore_n 3, 1) := by decide +kernel
theorem dX5_stepsToRest_16 : decode cX5_stepsToRest 16 = .ok (.iload_n 3, 1) := by decide +kernel
theorem dX5_stepsToRest_17 : decode cX5_stepsToRest 17 = .ok (.sipush 1023, 3) := by decide +kernel
theorem dX5_stepsToRest_20 : decode cX5_stepsToRest 20 = .ok (.if_icmp .ne 6, 3) := by decide +kernel
theorem dX5_stepsToRest_23 : decode cX5_stepsToRest 23 = .ok (.bipush (-4), 2) := by decide +kernel
theorem dX5_stepsToRest_25 : decode cX5_stepsToRest 25 = .ok (.ireturn, 1) := by decide +kernel
theorem dX5_stepsToRest_26 : decode cX5_stepsToRest 26 = .ok (.aload_n 0, 1) := by decide +kernel
theorem dX5_stepsToRest_27 : decode cX5_stepsToRest 27 = .ok (.getfield 25, 3) := by decide +kernel
theorem dX5_stepsToRest_30 : decode cX5_stepsToRest 30 = .ok (.getfield 48, 3) := by decide +kernel
theorem dX5_stepsToRest_33 : decode cX5_stepsToRest 33 = .ok (.aload_n 0, 1) := by decide +kernel
theorem dX5_stepsToRest_34 : decode cX5_stepsToRest 34 = .ok (.getfield 25, 3) := by decide +kernel
theorem dX5_stepsToRest_37 : decode cX5_stepsToRest 37 = .ok (.getfield 93, 3) := by decide +kernel
theorem dX5_stepsToRest_40 : decode cX5_stepsToRest 40 = .ok (.iload_n 3, 1) := by decide +kernel
theorem dX5_stepsToRest_41 : decode cX5_stepsToRest 41 = .ok (.invokevirtual 97, 3) := by decide +kernel
theorem dX5_stepsToRest_44 : decode cX5_stepsToRest 44 = .ok (.invokevirtual 105, 3) := by decide +kernel
theorem dX5_stepsToRest_47 : decode cX5_stepsToRest 47 = .ok (.ifCond .eq 12, 3) := by decide +kernel
theorem dX5_stepsToRest_50 : decode cX5_stepsToRest 50 = .ok (.aload_n 0, 1) := by decide +kernel
theorem dX5_stepsToRest_51 : decode cX5_stepsToRest 51 = .ok (.getfield 19, 3) := by decide +kernel
theorem dX5_stepsToRest_54 : decode cX5_stepsToRest 54 = .ok (.iload_n 3, 1) := by decide +kernel
theorem dX5_stepsToRest_55 : decode cX5_stepsToRest 55 = .ok (.invokestatic 63, 3) := by decide +kernel
theorem dX5_stepsToRest_58 : decode cX5_stepsToRest 58 = .ok (.ireturn, 1) := by decide +kernel
theorem dX5_stepsToRest_59 : decode cX5_stepsToRest 59 = .ok (.iinc 2 1, 3) := by decide +kernel
theorem dX5_stepsToRest_62 : decode cX5_stepsToRest 62 = .ok (.goto (-60), 3) := by decide +kernel
theorem dX5_stepsToRest_65 : decode cX5_stepsToRest 65 = .ok (.bipush (-4), 2) := by decide +kernel
theorem dX5_stepsToRest_67 : decode cX5_stepsToRest 67 = .ok (.ireturn, 1) := by decide +kernel
theorem dX5_pairsReached_0 : decode cX5_pairsReached 0 = .ok (.lconst 0, 1) := by decide +kernel
theorem dX5_pairsReached_1 : decode cX5_pairsReached 1 = .ok (.lstore_n 3, 1) := by decide +kernel
theorem dX5_pairsReached_2 : decode cX5_pairsReached 2 = .ok (.iconst 0, 1) := by decide +kernel
theorem dX5_pairsReached_3 : decode cX5_pairsReached 3 = .ok (.istore 5, 2) := by decide +kernel
theorem dX5_pairsReached_5 : decode cX5_pairsReached 5 = .ok (.iload 5, 2) := by decide +kernel
theorem dX5_pairsReached_7 : decode cX5_pairsReached 7 = .ok (.sipush 720, 3) := by decide +kernel
theorem dX5_pairsReached_10 : decode cX5_pairsReached 10 = .ok (.if_icmp .ge 55, 3) := by decide +kernel
theorem dX5_pairsReached_13 : decode cX5_pairsReached 13 = .ok (.lload_n 3, 1) := by decide +kernel
theorem dX5_pairsReached_14 : decode cX5_pairsReached 14 = .ok (.lload_n 1, 1) := by decide +kernel
theorem dX5_pairsReached_15 : decode cX5_pairsReached 15 = .ok (.lcmp, 1) := by decide +kernel
theorem dX5_pairsReached_16 : decode cX5_pairsReached 16 = .ok (.ifCond .eq 49, 3) := by decide +kernel
theorem dX5_pairsReached_19 : decode cX5_pairsReached 19 = .ok (.aload_n 0, 1) := by decide +kernel
theorem dX5_pairsReached_20 : decode cX5_pairsReached 20 = .ok (.iload 5, 2) := by decide +kernel
theorem dX5_pairsReached_22 : decode cX5_pairsReached 22 = .ok (.ldc 89, 2) := by decide +kernel
theorem dX5_pairsReached_24 : decode cX5_pairsReached 24 = .ok (.invokevirtual 90, 3) := by decide +kernel
theorem dX5_pairsReached_27 : decode cX5_pairsReached 27 = .ok (.istore 6, 2) := by decide +kernel
theorem dX5_pairsReached_29 : decode cX5_pairsReached 29 = .ok (.iload 6, 2) := by decide +kernel
theorem dX5_pairsReached_31 : decode cX5_pairsReached 31 = .ok (.sipush 1023, 3) := by decide +kernel
theorem dX5_pairsReached_34 : decode cX5_pairsReached 34 = .ok (.if_icmp .ne 5, 3) := by decide +kernel
theorem dX5_pairsReached_37 : decode cX5_pairsReached 37 = .ok (.lload_n 3, 1) := by decide +kernel
theorem dX5_pairsReached_38 : decode cX5_pairsReached 38 = .ok (.lreturn, 1) := by decide +kernel
theorem dX5_pairsReached_39 : decode cX5_pairsReached 39 = .ok (.lload_n 3, 1) := by decide +kernel
theorem dX5_pairsReached_40 : decode cX5_pairsReached 40 = .ok (.lload_n 1, 1) := by decide +kernel
theorem dX5_pairsReached_41 : decode cX5_pairsReached 41 = .ok (.aload_n 0, 1) := by decide +kernel
theorem dX5_pairsReached_42 : decode cX5_pairsReached 42 = .ok (.getfield 25, 3) := by decide +kernel
theorem dX5_pairsReached_45 : decode cX5_pairsReached 45 = .ok (.getfield 93, 3) := by decide +kernel
theorem dX5_pairsReached_48 : decode cX5_pairsReached 48 = .ok (.iload 6, 2) := by decide +kernel
theorem dX5_pairsReached_50 : decode cX5_pairsReached 50 = .ok (.invokevirtual 97, 3) := by decide +kernel
theorem dX5_pairsReached_53 : decode cX5_pairsReached 53 = .ok (.invokestatic 109, 3) := by decide +kernel
theorem dX5_pairsReached_56 : decode cX5_pairsReached 56 = .ok (.land, 1) := by decide +kernel
theorem dX5_pairsReached_57 : decode cX5_pairsReached 57 = .ok (.lor, 1) := by decide +kernel
theorem dX5_pairsReached_58 : decode cX5_pairsReached 58 = .ok (.lstore_n 3, 1) := by decide +kernel
theorem dX5_pairsReached_59 : decode cX5_pairsReached 59 = .ok (.iinc 5 1, 3) := by decide +kernel
theorem dX5_pairsReached_62 : decode cX5_pairsReached 62 = .ok (.goto (-57), 3) := by decide +kernel
theorem dX5_pairsReached_65 : decode cX5_pairsReached 65 = .ok (.lload_n 3, 1) := by decide +kernel
theorem dX5_pairsReached_66 : decode cX5_pairsReached 66 = .ok (.lreturn, 1) := by decide +kernel
theorem dX6_init_0 : decode cX6_init 0 = .ok (.aload_n 0, 1) := by decide +kernel
theorem dX6_init_1 : decode cX6_init 1 = .ok (.invokespecial 3, 3) := by decide +kernel
theorem dX6_init_4 : decode cX6_init 4 = .ok (.aload_n 0, 1) := by decide +kernel
theorem dX6_init_5 : decode cX6_init 5 = .ok (.sipush 720, 3) := by decide +kernel
theorem dX6_init_8 : decode cX6_init 8 = .ok (.newarray .int, 2) := by decide +kernel
theorem dX6_init_10 : decode cX6_init 10 = .ok (.putfield 9, 3) := by decide +kernel
theorem dX6_init_13 : decode cX6_init 13 = .ok (.aload_n 0, 1) := by decide +kernel
theorem dX6_init_14 : decode cX6_init 14 = .ok (.sipush 720, 3) := by decide +kernel
theorem dX6_init_17 : decode cX6_init 17 = .ok (.newarray .long, 2) := by decide +kernel
theorem dX6_init_19 : decode cX6_init 19 = .ok (.putfield 15, 3) := by decide +kernel
theorem dX6_init_22 : decode cX6_init 22 = .ok (.aload_n 0, 1) := by decide +kernel
theorem dX6_init_23 : decode cX6_init 23 = .ok (.sipush 720, 3) := by decide +kernel
theorem dX6_init_26 : decode cX6_init 26 = .ok (.newarray .long, 2) := by decide +kernel
theorem dX6_init_28 : decode cX6_init 28 = .ok (.putfield 19, 3) := by decide +kernel
theorem dX6_init_31 : decode cX6_init 31 = .ok (.aload_n 0, 1) := by decide +kernel
theorem dX6_init_32 : decode cX6_init 32 = .ok (.aload_n 1, 1) := by decide +kernel
theorem dX6_init_33 : decode cX6_init 33 = .ok (.putfield 22, 3) := by decide +kernel
theorem dX6_init_36 : decode cX6_init 36 = .ok (.return_, 1) := by decide +kernel
theorem dX6_leastPrice_0 : decode cX6_leastPrice 0 = .ok (.aload_n 0, 1) := by decide +kernel
theorem dX6_leastPrice_1 : decode cX6_leastPrice 1 = .ok (.getfield 9, 3) := by decide +kernel
theorem dX6_leastPrice_4 : decode cX6_leastPrice 4 = .ok (.ldc 26, 2) := by decide +kernel
theorem dX6_leastPrice_6 : decode cX6_leastPrice 6 = .ok (.invokestatic 27, 3) := by decide +kernel
theorem dX6_leastPrice_9 : decode cX6_leastPrice 9 = .ok (.aload_n 0, 1) := by decide +kernel
theorem dX6_leastPrice_10 : decode cX6_leastPrice 10 = .ok (.getfield 9, 3) := by decide +kernel
theorem dX6_leastPrice_13 : decode cX6_leastPrice 13 = .ok (.iload_n 1, 1) := by decide +kernel
theorem dX6_leastPrice_14 : decode cX6_leastPrice 14 = .ok (.iconst 0, 1) := by decide +kernel
theorem dX6_leastPrice_15 : decode cX6_leastPrice 15 = .ok (.invokestatic 33, 3) := by decide +kernel
theorem dX6_leastPrice_18 : decode cX6_leastPrice 18 = .ok (.aload_n 0, 1) := by decide +kernel
theorem dX6_leastPrice_19 : decode cX6_leastPrice 19 = .ok (.getfield 22, 3) := by decide +kernel
theorem dX6_leastPrice_22 : decode cX6_leastPrice 22 = .ok (.getfield 37, 3) := by decide +kernel
theorem dX6_leastPrice_25 : decode cX6_leastPrice 25 = .ok (.iload_n 1, 1) := by decide +kernel
theorem dX6_leastPrice_26 : decode cX6_leastPrice 26 = .ok (.invokevirtual 43, 3) := by decide +kernel
theorem dX6_leastPrice_29 : decode cX6_leastPrice 29 = .ok (.iload_n 2, 1) := by decide +kernel
theorem dX6_leastPrice_30 : decode cX6_leastPrice 30 = .ok (.invokestatic 49, 3) := by decide +kernel
theorem dX6_leastPrice_33 : decode cX6_leastPrice 33 = .ok (.iload_n 3, 1) := by decide +kernel
theorem dX6_leastPrice_34 : decode cX6_leastPrice 34 = .ok (.if_icmp .ne 5, 3) := by decide +kernel
theorem dX6_leastPrice_37 : decode cX6_leastPrice 37 = .ok (.iconst 0, 1) := by decide +kernel
theorem dX6_leastPrice_38 : decode cX6_leastPrice 38 = .ok (.ireturn, 1) := by decide +kernel
theorem dX6_leastPrice_39 : decode cX6_leastPrice 39 = .ok (.iconst 0, 1) := by decide +kernel
theorem dX6_leastPrice_40 : decode cX6_leastPrice 40 = .ok (.istore 4, 2) := by decide +kernel
theorem dX6_leastPrice_42 : decode cX6_leastPrice 42 = .ok (.iload 4, 2) := by decide +kernel
theorem dX6_leastPrice_44 : decode cX6_leastPrice 44 = .ok (.aload_n 0, 1) := by decide +kernel
theorem dX6_leastPrice_45 : decode cX6_leastPrice 45 = .ok (.getfield 22, 3) := by decide +kernel
theorem dX6_leastPrice_48 : decode cX6_leastPrice 48 = .ok (.getfield 53, 3) := by decide +kernel
theorem dX6_leastPrice_51 : decode cX6_leastPrice 51 = .ok (.getfield 57, 3) := by decide +kernel
theorem dX6_leastPrice_54 : decode cX6_leastPrice 54 = .ok (.if_icmp .ge 78, 3) := by decide +kernel
theorem dX6_leastPrice_57 : decode cX6_leastPrice 57 = .ok (.iconst 0, 1) := by decide +kernel
theorem dX6_leastPrice_58 : decode cX6_leastPrice 58 = .ok (.istore 5, 2) := by decide +kernel
theorem dX6_leastPrice_60 : decode cX6_leastPrice 60 = .ok (.iload 5, 2) := by decide +kernel
theorem dX6_leastPrice_62 : decode cX6_leastPrice 62 = .ok (.aload_n 0, 1) := by decide +kernel
theorem dX6_leastPrice_63 : decode cX6_leastPrice 63 = .ok (.getfield 22, 3) := by decide +kernel
theorem dX6_leastPrice_66 : decode cX6_leastPrice 66 = .ok (.getfield 37, 3) := by decide +kernel
theorem dX6_leastPrice_69 : decode cX6_leastPrice 69 = .ok (.getfield 63, 3) := by decide +kernel
theorem dX6_leastPrice_72 : decode cX6_leastPrice 72 = .ok (.if_icmp .ge 54, 3) := by decide +kernel
theorem dX6_leastPrice_75 : decode cX6_leastPrice 75 = .ok (.aload_n 0, 1) := by decide +kernel
theorem dX6_leastPrice_76 : decode cX6_leastPrice 76 = .ok (.getfield 9, 3) := by decide +kernel
theorem dX6_leastPrice_79 : decode cX6_leastPrice 79 = .ok (.iload 5, 2) := by decide +kernel
theorem dX6_leastPrice_81 : decode cX6_leastPrice 81 = .ok (.invokestatic 66, 3) := by decide +kernel
theorem dX6_leastPrice_84 : decode cX6_leastPrice 84 = .ok (.iload 4, 2) := by decide +kernel
theorem dX6_leastPrice_86 : decode cX6_leastPrice 86 = .ok (.if_icmp .ne 34, 3) := by decide +kernel
theorem dX6_leastPrice_89 : decode cX6_leastPrice 89 = .ok (.aload_n 0, 1) := by decide +kernel
theorem dX6_leastPrice_90 : decode cX6_leastPrice 90 = .ok (.getfield 22, 3) := by decide +kernel
theorem dX6_leastPrice_93 : decode cX6_leastPrice 93 = .ok (.getfield 37, 3) := by decide +kernel
theorem dX6_leastPrice_96 : decode cX6_leastPrice 96 = .ok (.iload 5, 2) := by decide +kernel
theorem dX6_leastPrice_98 : decode cX6_leastPrice 98 = .ok (.invokevirtual 43, 3) := by decide +kernel
theorem dX6_leastPrice_101 : decode cX6_leastPrice 101 = .ok (.iload_n 2, 1) := by decide +kernel
theorem dX6_leastPrice_102 : decode cX6_leastPrice 102 = .ok (.invokestatic 49, 3) := by decide +kernel
theorem dX6_leastPrice_105 : decode cX6_leastPrice 105 = .ok (.iload_n 3, 1) := by decide +kernel
theorem dX6_leastPrice_106 : decode cX6_leastPrice 106 = .ok (.if_icmp .ne 6, 3) := by decide +kernel
theorem dX6_leastPrice_109 : decode cX6_leastPrice 109 = .ok (.iload 4, 2) := by decide +kernel
theorem dX6_leastPrice_111 : decode cX6_leastPrice 111 = .ok (.ireturn, 1) := by decide +kernel
theorem dX6_leastPrice_112 : decode cX6_leastPrice 112 = .ok (.aload_n 0, 1) := by decide +kernel
theorem dX6_leastPrice_113 : decode cX6_leastPrice 113 = .ok (.iload 5, 2) := by decide +kernel
theorem dX6_leastPrice_115 : decode cX6_leastPrice 115 = .ok (.iload 4, 2) := by decide +kernel
theorem dX6_leastPrice_117 : decode cX6_leastPrice 117 = .ok (.invokevirtual 70, 3) := by decide +kernel
theorem dX6_leastPrice_120 : decode cX6_leastPrice 120 = .ok (.iinc 5 1, 3) := by decide +kernel
theorem dX6_leastPrice_123 : decode cX6_leastPrice 123 = .ok (.goto (-63), 3) := by decide +kernel
theorem dX6_leastPrice_126 : decode cX6_leastPrice 126 = .ok (.iinc 4 1, 3) := by decide +kernel
theorem dX6_leastPrice_129 : decode cX6_leastPrice 129 = .ok (.goto (-87), 3) := by decide +kernel
theorem dX6_leastPrice_132 : decode cX6_leastPrice 132 = .ok (.aload_n 0, 1) := by decide +kernel
theorem dX6_leastPrice_133 : decode cX6_leastPrice 133 = .ok (.getfield 22, 3) := by decide +kernel
theorem dX6_leastPrice_136 : decode cX6_leastPrice 136 = .ok (.getfield 53, 3) := by decide +kernel
theorem dX6_leastPrice_139 : decode cX6_leastPrice 139 = .ok (.getfield 57, 3) := by decide +kernel
theorem dX6_leastPrice_142 : decode cX6_leastPrice 142 = .ok (.ireturn, 1) := by decide +kernel
theorem dX6_spreadPrice_0 : decode cX6_spreadPrice 0 = .ok (.iconst 0, 1) := by decide +kernel
theorem dX6_spreadPrice_1 : decode cX6_spreadPrice 1 = .ok (.istore_n 3, 1) := by decide +kernel
theorem dX6_spreadPrice_2 : decode cX6_spreadPrice 2 = .ok (.iload_n 3, 1) := by decide +kernel
theorem dX6_spreadPrice_3 : decode cX6_spreadPrice 3 = .ok (.aload_n 0, 1) := by decide +kernel
theorem dX6_spreadPrice_4 : decode cX6_spreadPrice 4 = .ok (.getfield 22, 3) := by decide +kernel
theorem dX6_spreadPrice_7 : decode cX6_spreadPrice 7 = .ok (.getfield 53, 3) := by decide +kernel
theorem dX6_spreadPrice_10 : decode cX6_spreadPrice 10 = .ok (.getfield 74, 3) := by decide +kernel
