theorem dX10_beginsList_61 : decode cX10_beginsList 61 = .ok (.iinc 1 1, 3) := by decide +kernel
theorem dX10_beginsList_64 : decode cX10_beginsList 64 = .ok (.goto (-42), 3) := by decide +kernel
theorem dX10_beginsList_67 : decode cX10_beginsList 67 = .ok (.aload_n 0, 1) := by decide +kernel
theorem dX10_beginsList_68 : decode cX10_beginsList 68 = .ok (.aload_n 0, 1) := by decide +kernel
theorem dX10_beginsList_69 : decode cX10_beginsList 69 = .ok (.invokevirtual 253, 3) := by decide +kernel
theorem dX10_beginsList_72 : decode cX10_beginsList 72 = .ok (.iconst 0, 1) := by decide +kernel
theorem dX10_beginsList_73 : decode cX10_beginsList 73 = .ok (.iconst 0, 1) := by decide +kernel
theorem dX10_beginsList_74 : decode cX10_beginsList 74 = .ok (.invokevirtual 256, 3) := by decide +kernel
theorem dX10_beginsList_77 : decode cX10_beginsList 77 = .ok (.return_, 1) := by decide +kernel
theorem dX10_findAll_0 : decode cX10_findAll 0 = .ok (.aload_n 0, 1) := by decide +kernel
theorem dX10_findAll_1 : decode cX10_findAll 1 = .ok (.invokevirtual 260, 3) := by decide +kernel
theorem dX10_findAll_4 : decode cX10_findAll 4 = .ok (.iconst 0, 1) := by decide +kernel
theorem dX10_findAll_5 : decode cX10_findAll 5 = .ok (.istore_n 1, 1) := by decide +kernel
theorem dX10_findAll_6 : decode cX10_findAll 6 = .ok (.iload_n 1, 1) := by decide +kernel
theorem dX10_findAll_7 : decode cX10_findAll 7 = .ok (.aload_n 0, 1) := by decide +kernel
theorem dX10_findAll_8 : decode cX10_findAll 8 = .ok (.getfield 250, 3) := by decide +kernel
theorem dX10_findAll_11 : decode cX10_findAll 11 = .ok (.if_icmp .ge 113, 3) := by decide +kernel
theorem dX10_findAll_14 : decode cX10_findAll 14 = .ok (.iconst 0, 1) := by decide +kernel
theorem dX10_findAll_15 : decode cX10_findAll 15 = .ok (.istore_n 2, 1) := by decide +kernel
theorem dX10_findAll_16 : decode cX10_findAll 16 = .ok (.iload_n 2, 1) := by decide +kernel
theorem dX10_findAll_17 : decode cX10_findAll 17 = .ok (.aload_n 0, 1) := by decide +kernel
theorem dX10_findAll_18 : decode cX10_findAll 18 = .ok (.getfield 116, 3) := by decide +kernel
theorem dX10_findAll_21 : decode cX10_findAll 21 = .ok (.aload_n 0, 1) := by decide +kernel
theorem dX10_findAll_22 : decode cX10_findAll 22 = .ok (.getfield 116, 3) := by decide +kernel
theorem dX10_findAll_25 : decode cX10_findAll 25 = .ok (.imul, 1) := by decide +kernel
theorem dX10_findAll_26 : decode cX10_findAll 26 = .ok (.if_icmp .ge 92, 3) := by decide +kernel
theorem dX10_findAll_29 : decode cX10_findAll 29 = .ok (.aload_n 0, 1) := by decide +kernel
theorem dX10_findAll_30 : decode cX10_findAll 30 = .ok (.aload_n 0, 1) := by decide +kernel
theorem dX10_findAll_31 : decode cX10_findAll 31 = .ok (.getfield 77, 3) := by decide +kernel
theorem dX10_findAll_34 : decode cX10_findAll 34 = .ok (.iload_n 1, 1) := by decide +kernel
theorem dX10_findAll_35 : decode cX10_findAll 35 = .ok (.iaload, 1) := by decide +kernel
theorem dX10_findAll_36 : decode cX10_findAll 36 = .ok (.invokevirtual 263, 3) := by decide +kernel
theorem dX10_findAll_39 : decode cX10_findAll 39 = .ok (.iload_n 2, 1) := by decide +kernel
theorem dX10_findAll_40 : decode cX10_findAll 40 = .ok (.aload_n 0, 1) := by decide +kernel
theorem dX10_findAll_41 : decode cX10_findAll 41 = .ok (.getfield 116, 3) := by decide +kernel
theorem dX10_findAll_44 : decode cX10_findAll 44 = .ok (.idiv, 1) := by decide +kernel
theorem dX10_findAll_45 : decode cX10_findAll 45 = .ok (.istore_n 3, 1) := by decide +kernel
theorem dX10_findAll_46 : decode cX10_findAll 46 = .ok (.iload_n 2, 1) := by decide +kernel
theorem dX10_findAll_47 : decode cX10_findAll 47 = .ok (.aload_n 0, 1) := by decide +kernel
theorem dX10_findAll_48 : decode cX10_findAll 48 = .ok (.getfield 116, 3) := by decide +kernel
theorem dX10_findAll_51 : decode cX10_findAll 51 = .ok (.irem, 1) := by decide +kernel
theorem dX10_findAll_52 : decode cX10_findAll 52 = .ok (.istore 4, 2) := by decide +kernel
theorem dX10_findAll_54 : decode cX10_findAll 54 = .ok (.aload_n 0, 1) := by decide +kernel
theorem dX10_findAll_55 : decode cX10_findAll 55 = .ok (.iload_n 3, 1) := by decide +kernel
theorem dX10_findAll_56 : decode cX10_findAll 56 = .ok (.iload 4, 2) := by decide +kernel
theorem dX10_findAll_58 : decode cX10_findAll 58 = .ok (.invokevirtual 223, 3) := by decide +kernel
theorem dX10_findAll_61 : decode cX10_findAll 61 = .ok (.ifCond .eq 51, 3) := by decide +kernel
theorem dX10_findAll_64 : decode cX10_findAll 64 = .ok (.aload_n 0, 1) := by decide +kernel
theorem dX10_findAll_65 : decode cX10_findAll 65 = .ok (.iload_n 3, 1) := by decide +kernel
theorem dX10_findAll_66 : decode cX10_findAll 66 = .ok (.iload 4, 2) := by decide +kernel
theorem dX10_findAll_68 : decode cX10_findAll 68 = .ok (.invokevirtual 230, 3) := by decide +kernel
theorem dX10_findAll_71 : decode cX10_findAll 71 = .ok (.aload_n 0, 1) := by decide +kernel
theorem dX10_findAll_72 : decode cX10_findAll 72 = .ok (.aload_n 0, 1) := by decide +kernel
theorem dX10_findAll_73 : decode cX10_findAll 73 = .ok (.invokevirtual 253, 3) := by decide +kernel
theorem dX10_findAll_76 : decode cX10_findAll 76 = .ok (.aload_n 0, 1) := by decide +kernel
theorem dX10_findAll_77 : decode cX10_findAll 77 = .ok (.getfield 80, 3) := by decide +kernel
theorem dX10_findAll_80 : decode cX10_findAll 80 = .ok (.iload_n 1, 1) := by decide +kernel
theorem dX10_findAll_81 : decode cX10_findAll 81 = .ok (.iaload, 1) := by decide +kernel
theorem dX10_findAll_82 : decode cX10_findAll 82 = .ok (.iconst 1, 1) := by decide +kernel
theorem dX10_findAll_83 : decode cX10_findAll 83 = .ok (.iadd, 1) := by decide +kernel
theorem dX10_findAll_84 : decode cX10_findAll 84 = .ok (.aload_n 0, 1) := by decide +kernel
theorem dX10_findAll_85 : decode cX10_findAll 85 = .ok (.getfield 80, 3) := by decide +kernel
theorem dX10_findAll_88 : decode cX10_findAll 88 = .ok (.iload_n 1, 1) := by decide +kernel
theorem dX10_findAll_89 : decode cX10_findAll 89 = .ok (.iaload, 1) := by decide +kernel
theorem dX10_findAll_90 : decode cX10_findAll 90 = .ok (.ifCond .ne 13, 3) := by decide +kernel
theorem dX10_findAll_93 : decode cX10_findAll 93 = .ok (.bipush 10, 2) := by decide +kernel
theorem dX10_findAll_95 : decode cX10_findAll 95 = .ok (.iload_n 3, 1) := by decide +kernel
theorem dX10_findAll_96 : decode cX10_findAll 96 = .ok (.imul, 1) := by decide +kernel
theorem dX10_findAll_97 : decode cX10_findAll 97 = .ok (.iload 4, 2) := by decide +kernel
theorem dX10_findAll_99 : decode cX10_findAll 99 = .ok (.iadd, 1) := by decide +kernel
theorem dX10_findAll_100 : decode cX10_findAll 100 = .ok (.goto 9, 3) := by decide +kernel
theorem dX10_findAll_103 : decode cX10_findAll 103 = .ok (.aload_n 0, 1) := by decide +kernel
theorem dX10_findAll_104 : decode cX10_findAll 104 = .ok (.getfield 83, 3) := by decide +kernel
theorem dX10_findAll_107 : decode cX10_findAll 107 = .ok (.iload_n 1, 1) := by decide +kernel
theorem dX10_findAll_108 : decode cX10_findAll 108 = .ok (.iaload, 1) := by decide +kernel
theorem dX10_findAll_109 : decode cX10_findAll 109 = .ok (.invokevirtual 266, 3) := by decide +kernel
theorem dX10_findAll_112 : decode cX10_findAll 112 = .ok (.iinc 2 1, 3) := by decide +kernel
theorem dX10_findAll_115 : decode cX10_findAll 115 = .ok (.goto (-99), 3) := by decide +kernel
theorem dX10_findAll_118 : decode cX10_findAll 118 = .ok (.iinc 1 1, 3) := by decide +kernel
theorem dX10_findAll_121 : decode cX10_findAll 121 = .ok (.goto (-115), 3) := by decide +kernel
theorem dX10_findAll_124 : decode cX10_findAll 124 = .ok (.return_, 1) := by decide +kernel
theorem dX10_comes_0 : decode cX10_comes 0 = .ok (.aload_n 0, 1) := by decide +kernel
theorem dX10_comes_1 : decode cX10_comes 1 = .ok (.iload_n 1, 1) := by decide +kernel
theorem dX10_comes_2 : decode cX10_comes 2 = .ok (.invokevirtual 269, 3) := by decide +kernel
theorem dX10_comes_5 : decode cX10_comes 5 = .ok (.istore 4, 2) := by decide +kernel
theorem dX10_comes_7 : decode cX10_comes 7 = .ok (.iload 4, 2) := by decide +kernel
theorem dX10_comes_9 : decode cX10_comes 9 = .ok (.ifCond .ge 13, 3) := by decide +kernel
theorem dX10_comes_12 : decode cX10_comes 12 = .ok (.aload_n 0, 1) := by decide +kernel
theorem dX10_comes_13 : decode cX10_comes 13 = .ok (.iload_n 1, 1) := by decide +kernel
theorem dX10_comes_14 : decode cX10_comes 14 = .ok (.iload_n 2, 1) := by decide +kernel
theorem dX10_comes_15 : decode cX10_comes 15 = .ok (.iload_n 3, 1) := by decide +kernel
theorem dX10_comes_16 : decode cX10_comes 16 = .ok (.invokevirtual 256, 3) := by decide +kernel
theorem dX10_comes_19 : decode cX10_comes 19 = .ok (.goto 33, 3) := by decide +kernel
theorem dX10_comes_22 : decode cX10_comes 22 = .ok (.aload_n 0, 1) := by decide +kernel
theorem dX10_comes_23 : decode cX10_comes 23 = .ok (.getfield 80, 3) := by decide +kernel
theorem dX10_comes_26 : decode cX10_comes 26 = .ok (.iload 4, 2) := by decide +kernel
theorem dX10_comes_28 : decode cX10_comes 28 = .ok (.iaload, 1) := by decide +kernel
theorem dX10_comes_29 : decode cX10_comes 29 = .ok (.iload_n 2, 1) := by decide +kernel
theorem dX10_comes_30 : decode cX10_comes 30 = .ok (.if_icmp .ne 22, 3) := by decide +kernel
theorem dX10_comes_33 : decode cX10_comes 33 = .ok (.iload_n 3, 1) := by decide +kernel
theorem dX10_comes_34 : decode cX10_comes 34 = .ok (.aload_n 0, 1) := by decide +kernel
theorem dX10_comes_35 : decode cX10_comes 35 = .ok (.getfield 83, 3) := by decide +kernel
theorem dX10_comes_38 : decode cX10_comes 38 = .ok (.iload 4, 2) := by decide +kernel
theorem dX10_comes_40 : decode cX10_comes 40 = .ok (.iaload, 1) := by decide +kernel
theorem dX10_comes_41 : decode cX10_comes 41 = .ok (.if_icmp .ge 11, 3) := by decide +kernel
theorem dX10_comes_44 : decode cX10_comes 44 = .ok (.aload_n 0, 1) := by decide +kernel
theorem dX10_comes_45 : decode cX10_comes 45 = .ok (.getfield 83, 3) := by decide +kernel
theorem dX10_comes_48 : decode cX10_comes 48 = .ok (.iload 4, 2) := by decide +kernel
theorem dX10_comes_50 : decode cX10_comes 50 = .ok (.iload_n 3, 1) := by decide +kernel
theorem dX10_comes_51 : decode cX10_comes 51 = .ok (.iastore, 1) := by decide +kernel
theorem dX10_comes_52 : decode cX10_comes 52 = .ok (.return_, 1) := by decide +kernel
theorem dX10_needOf_0 : decode cX10_needOf 0 = .ok (.bipush (-4), 2) := by decide +kernel
theorem dX10_needOf_2 : decode cX10_needOf 2 = .ok (.istore_n 3, 1) := by decide +kernel
theorem dX10_needOf_3 : decode cX10_needOf 3 = .ok (.iconst 0, 1) := by decide +kernel
theorem dX10_needOf_4 : decode cX10_needOf 4 = .ok (.istore 4, 2) := by decide +kernel
theorem dX10_needOf_6 : decode cX10_needOf 6 = .ok (.iload 4, 2) := by decide +kernel
theorem dX10_needOf_8 : decode cX10_needOf 8 = .ok (.aload_n 0, 1) := by decide +kernel
theorem dX10_needOf_9 : decode cX10_needOf 9 = .ok (.getfield 250, 3) := by decide +kernel
theorem dX10_needOf_12 : decode cX10_needOf 12 = .ok (.if_icmp .ge 66, 3) := by decide +kernel
theorem dX10_needOf_15 : decode cX10_needOf 15 = .ok (.aload_n 0, 1) := by decide +kernel
theorem dX10_needOf_16 : decode cX10_needOf 16 = .ok (.aload_n 0, 1) := by decide +kernel
theorem dX10_needOf_17 : decode cX10_needOf 17 = .ok (.getfield 77, 3) := by decide +kernel
theorem dX10_needOf_20 : decode cX10_needOf 20 = .ok (.iload 4, 2) := by decide +kernel
theorem dX10_needOf_22 : decode cX10_needOf 22 = .ok (.iaload, 1) := by decide +kernel
theorem dX10_needOf_23 : decode cX10_needOf 23 = .ok (.iload_n 2, 1) := by decide +kernel
theorem dX10_needOf_24 : decode cX10_needOf 24 = .ok (.invokevirtual 244, 3) := by decide +kernel
theorem dX10_needOf_27 : decode cX10_needOf 27 = .ok (.iload_n 1, 1) := by decide +kernel
theorem dX10_needOf_28 : decode cX10_needOf 28 = .ok (.if_icmp .ne 7, 3) := by decide +kernel
theorem dX10_needOf_31 : decode cX10_needOf 31 = .ok (.iconst 1, 1) := by decide +kernel
theorem dX10_needOf_32 : decode cX10_needOf 32 = .ok (.goto 4, 3) := by decide +kernel
theorem dX10_needOf_35 : decode cX10_needOf 35 = .ok (.iconst 0, 1) := by decide +kernel
theorem dX10_needOf_36 : decode cX10_needOf 36 = .ok (.istore 5, 2) := by decide +kernel
theorem dX10_needOf_38 : decode cX10_needOf 38 = .ok (.iload 5, 2) := by decide +kernel
theorem dX10_needOf_40 : decode cX10_needOf 40 = .ok (.ifCond .eq 30, 3) := by decide +kernel
theorem dX10_needOf_43 : decode cX10_needOf 43 = .ok (.iload_n 3, 1) := by decide +kernel
theorem dX10_needOf_44 : decode cX10_needOf 44 = .ok (.bipush (-4), 2) := by decide +kernel
theorem dX10_needOf_46 : decode cX10_needOf 46 = .ok (.if_icmp .eq 14, 3) := by decide +kernel
theorem dX10_needOf_49 : decode cX10_needOf 49 = .ok (.aload_n 0, 1) := by decide +kernel
theorem dX10_needOf_50 : decode cX10_needOf 50 = .ok (.getfield 80, 3) := by decide +kernel
theorem dX10_needOf_53 : decode cX10_needOf 53 = .ok (.iload 4, 2) := by decide +kernel
theorem dX10_needOf_55 : decode cX10_needOf 55 = .ok (.iaload, 1) := by decide +kernel
theorem dX10_needOf_56 : decode cX10_needOf 56 = .ok (.iload_n 3, 1) := by decide +kernel
theorem dX10_needOf_57 : decode cX10_needOf 57 = .ok (.if_icmp .ge 13, 3) := by decide +kernel
theorem dX10_needOf_60 : decode cX10_needOf 60 = .ok (.aload_n 0, 1) := by decide +kernel
theorem dX10_needOf_61 : decode cX10_needOf 61 = .ok (.getfield 80, 3) := by decide +kernel
theorem dX10_needOf_64 : decode cX10_needOf 64 = .ok (.iload 4, 2) := by decide +kernel
theorem dX10_needOf_66 : decode cX10_needOf 66 = .ok (.iaload, 1) := by decide +kernel
theorem dX10_needOf_67 : decode cX10_needOf 67 = .ok (.goto 4, 3) := by decide +kernel
theorem dX10_needOf_70 : decode cX10_needOf 70 = .ok (.iload_n 3, 1) := by decide +kernel
theorem dX10_needOf_71 : decode cX10_needOf 71 = .ok (.istore_n 3, 1) := by decide +kernel
theorem dX10_needOf_72 : decode cX10_needOf 72 = .ok (.iinc 4 1, 3) := by decide +kernel
theorem dX10_needOf_75 : decode cX10_needOf 75 = .ok (.goto (-69), 3) := by decide +kernel
theorem dX10_needOf_78 : decode cX10_needOf 78 = .ok (.iload_n 3, 1) := by decide +kernel
theorem dX10_needOf_79 : decode cX10_needOf 79 = .ok (.ireturn, 1) := by decide +kernel
theorem dX10_need_0 : decode cX10_need 0 = .ok (.aload_n 0, 1) := by decide +kernel
theorem dX10_need_1 : decode cX10_need 1 = .ok (.iload_n 1, 1) := by decide +kernel
theorem dX10_need_2 : decode cX10_need 2 = .ok (.invokevirtual 192, 3) := by decide +kernel
theorem dX10_need_5 : decode cX10_need 5 = .ok (.ifCond .eq 11, 3) := by decide +kernel
theorem dX10_need_8 : decode cX10_need 8 = .ok (.aload_n 0, 1) := by decide +kernel
theorem dX10_need_9 : decode cX10_need 9 = .ok (.iload_n 2, 1) := by decide +kernel
theorem dX10_need_10 : decode cX10_need 10 = .ok (.invokevirtual 195, 3) := by decide +kernel
theorem dX10_need_13 : decode cX10_need 13 = .ok (.ifCond .ne 5, 3) := by decide +kernel
theorem dX10_need_16 : decode cX10_need 16 = .ok (.iconst (-1), 1) := by decide +kernel
theorem dX10_need_17 : decode cX10_need 17 = .ok (.ireturn, 1) := by decide +kernel
theorem dX10_need_18 : decode cX10_need 18 = .ok (.aload_n 0, 1) := by decide +kernel
theorem dX10_need_19 : decode cX10_need 19 = .ok (.invokevirtual 220, 3) := by decide +kernel
theorem dX10_need_22 : decode cX10_need 22 = .ok (.aload_n 0, 1) := by decide +kernel
theorem dX10_need_23 : decode cX10_need 23 = .ok (.invokevirtual 272, 3) := by decide +kernel
theorem dX10_need_26 : decode cX10_need 26 = .ok (.aload_n 0, 1) := by decide +kernel
theorem dX10_need_27 : decode cX10_need 27 = .ok (.iload_n 1, 1) := by decide +kernel
theorem dX10_need_28 : decode cX10_need 28 = .ok (.iload_n 2, 1) := by decide +kernel
theorem dX10_need_29 : decode cX10_need 29 = .ok (.invokevirtual 275, 3) := by decide +kernel
theorem dX10_need_32 : decode cX10_need 32 = .ok (.ireturn, 1) := by decide +kernel
theorem dX10_first_0 : decode cX10_first 0 = .ok (.aload_n 0, 1) := by decide +kernel
theorem dX10_first_1 : decode cX10_first 1 = .ok (.iload_n 1, 1) := by decide +kernel
theorem dX10_first_2 : decode cX10_first 2 = .ok (.invokevirtual 192, 3) := by decide +kernel
theorem dX10_first_5 : decode cX10_first 5 = .ok (.ifCond .eq 11, 3) := by decide +kernel
theorem dX10_first_8 : decode cX10_first 8 = .ok (.aload_n 0, 1) := by decide +kernel
theorem dX10_first_9 : decode cX10_first 9 = .ok (.iload_n 2, 1) := by decide +kernel
theorem dX10_first_10 : decode cX10_first 10 = .ok (.invokevirtual 195, 3) := by decide +kernel
theorem dX10_first_13 : decode cX10_first 13 = .ok (.ifCond .ne 5, 3) := by decide +kernel
theorem dX10_first_16 : decode cX10_first 16 = .ok (.iconst (-1), 1) := by decide +kernel
theorem dX10_first_17 : decode cX10_first 17 = .ok (.ireturn, 1) := by decide +kernel
theorem dX10_first_18 : decode cX10_first 18 = .ok (.aload_n 0, 1) := by decide +kernel
theorem dX10_first_19 : decode cX10_first 19 = .ok (.invokevirtual 220, 3) := by decide +kernel
theorem dX10_first_22 : decode cX10_first 22 = .ok (.aload_n 0, 1) := by decide +kernel
theorem dX10_first_23 : decode cX10_first 23 = .ok (.invokevirtual 272, 3) := by decide +kernel
theorem dX10_first_26 : decode cX10_first 26 = .ok (.aload_n 0, 1) := by decide +kernel
theorem dX10_first_27 : decode cX10_first 27 = .ok (.iload_n 1, 1) := by decide +kernel
theorem dX10_first_28 : decode cX10_first 28 = .ok (.iload_n 2, 1) := by decide +kernel
theorem dX10_first_29 : decode cX10_first 29 = .ok (.invokevirtual 275, 3) := by decide +kernel
theorem dX10_first_32 : decode cX10_first 32 = .ok (.istore_n 3, 1) := by decide +kernel
theorem dX10_first_33 : decode cX10_first 33 = .ok (.bipush (-4), 2) := by decide +kernel
theorem dX10_first_35 : decode cX10_first 35 = .ok (.istore 4, 2) := by decide +kernel
theorem dX10_first_37 : decode cX10_first 37 = .ok (.iconst 0, 1) := by decide +kernel
theorem dX10_first_38 : decode cX10_first 38 = .ok (.istore 5, 2) := by decide +kernel
theorem dX10_first_40 : decode cX10_first 40 = .ok (.iload 5, 2) := by decide +kernel
theorem dX10_first_42 : decode cX10_first 42 = .ok (.aload_n 0, 1) := by decide +kernel
theorem dX10_first_43 : decode cX10_first 43 = .ok (.getfield 250, 3) := by decide +kernel
theorem dX10_first_46 : decode cX10_first 46 = .ok (.if_icmp .ge 85, 3) := by decide +kernel
theorem dX10_first_49 : decode cX10_first 49 = .ok (.iload_n 3, 1) := by decide +kernel
theorem dX10_first_50 : decode cX10_first 50 = .ok (.ifCond .le 81, 3) := by decide +kernel
theorem dX10_first_53 : decode cX10_first 53 = .ok (.aload_n 0, 1) := by decide +kernel
theorem dX10_first_54 : decode cX10_first 54 = .ok (.aload_n 0, 1) := by decide +kernel
theorem dX10_first_55 : decode cX10_first 55 = .ok (.getfield 77, 3) := by decide +kernel
theorem dX10_first_58 : decode cX10_first 58 = .ok (.iload 5, 2) := by decide +kernel
theorem dX10_first_60 : decode cX10_first 60 = .ok (.iaload, 1) := by decide +kernel
theorem dX10_first_61 : decode cX10_first 61 = .ok (.iload_n 2, 1) := by decide +kernel
theorem dX10_first_62 : decode cX10_first 62 = .ok (.invokevirtual 244, 3) := by decide +kernel
theorem dX10_first_65 : decode cX10_first 65 = .ok (.iload_n 1, 1) := by decide +kernel
theorem dX10_first_66 : decode cX10_first 66 = .ok (.if_icmp .ne 18, 3) := by decide +kernel
theorem dX10_first_69 : decode cX10_first 69 = .ok (.aload_n 0, 1) := by decide +kernel
theorem dX10_first_70 : decode cX10_first 70 = .ok (.getfield 80, 3) := by decide +kernel
theorem dX10_first_73 : decode cX10_first 73 = .ok (.iload 5, 2) := by decide +kernel
theorem dX10_first_75 : decode cX10_first 75 = .ok (.iaload, 1) := by decide +kernel
theorem dX10_first_76 : decode cX10_first 76 = .ok (.iload_n 3, 1) := by decide +kernel
theorem dX10_first_77 : decode cX10_first 77 = .ok (.if_icmp .ne 7, 3) := by decide +kernel
theorem dX10_first_80 : decode cX10_first 80 = .ok (.iconst 1, 1) := by decide +kernel
theorem dX10_first_81 : decode cX10_first 81 = .ok (.goto 4, 3) := by decide +kernel
theorem dX10_first_84 : decode cX10_first 84 = .ok (.iconst 0, 1) := by decide +kernel
theorem dX10_first_85 : decode cX10_first 85 = .ok (.istore 6, 2) := by decide +kernel
theorem dX10_first_87 : decode cX10_first 87 = .ok (.iload 6, 2) := by decide +kernel
theorem dX10_first_89 : decode cX10_first 89 = .ok (.ifCond .eq 32, 3) := by decide +kernel
theorem dX10_first_92 : decode cX10_first 92 = .ok (.iload 4, 2) := by decide +kernel
theorem dX10_first_94 : decode cX10_first 94 = .ok (.bipush (-4), 2) := by decide +kernel
theorem dX10_first_96 : decode cX10_first 96 = .ok (.if_icmp .eq 15, 3) := by decide +kernel
theorem dX10_first_99 : decode cX10_first 99 = .ok (.aload_n 0, 1) := by decide +kernel
theorem dX10_first_100 : decode cX10_first 100 = .ok (.getfield 83, 3) := by decide +kernel
theorem dX10_first_103 : decode cX10_first 103 = .ok (.iload 5, 2) := by decide +kernel
theorem dX10_first_105 : decode cX10_first 105 = .ok (.iaload, 1) := by decide +kernel
theorem dX10_first_106 : decode cX10_first 106 = .ok (.iload 4, 2) := by decide +kernel
theorem dX10_first_108 : decode cX10_first 108 = .ok (.if_icmp .ge 13, 3) := by decide +kernel
theorem dX10_first_111 : decode cX10_first 111 = .ok (.aload_n 0, 1) := by decide +kernel
theorem dX10_first_112 : decode cX10_first 112 = .ok (.getfield 83, 3) := by decide +kernel
theorem dX10_first_115 : decode cX10_first 115 = .ok (.iload 5, 2) := by decide +kernel
theorem dX10_first_117 : decode cX10_first 117 = .ok (.iaload, 1) := by decide +kernel
theorem dX10_first_118 : decode cX10_first 118 = .ok (.goto 5, 3) := by decide +kernel
theorem dX10_first_121 : decode cX10_first 121 = .ok (.iload 4, 2) := by decide +kernel
theorem dX10_first_123 : decode cX10_first 123 = .ok (.istore 4, 2) := by decide +kernel
theorem dX10_first_125 : decode cX10_first 125 = .ok (.iinc 5 1, 3) := by decide +kernel
theorem dX10_first_128 : decode cX10_first 128 = .ok (.goto (-88), 3) := by decide +kernel
theorem dX10_first_131 : decode cX10_first 131 = .ok (.iload 4, 2) := by decide +kernel
theorem dX10_first_133 : decode cX10_first 133 = .ok (.ireturn, 1) := by decide +kernel
theorem dX10_never_0 : decode cX10_never 0 = .ok (.aload_n 0, 1) := by decide +kernel
theorem dX10_never_1 : decode cX10_never 1 = .ok (.iload_n 1, 1) := by decide +kernel
theorem dX10_never_2 : decode cX10_never 2 = .ok (.invokevirtual 192, 3) := by decide +kernel
theorem dX10_never_5 : decode cX10_never 5 = .ok (.ifCond .ne 5, 3) := by decide +kernel
theorem dX10_never_8 : decode cX10_never 8 = .ok (.iconst (-1), 1) := by decide +kernel
theorem dX10_never_9 : decode cX10_never 9 = .ok (.ireturn, 1) := by decide +kernel
theorem dX10_never_10 : decode cX10_never 10 = .ok (.aload_n 0, 1) := by decide +kernel
theorem dX10_never_11 : decode cX10_never 11 = .ok (.invokevirtual 220, 3) := by decide +kernel
theorem dX10_never_14 : decode cX10_never 14 = .ok (.aload_n 0, 1) := by decide +kernel
theorem dX10_never_15 : decode cX10_never 15 = .ok (.invokevirtual 272, 3) := by decide +kernel
theorem dX10_never_18 : decode cX10_never 18 = .ok (.iconst 0, 1) := by decide +kernel
theorem dX10_never_19 : decode cX10_never 19 = .ok (.istore_n 2, 1) := by decide +kernel
theorem dX10_never_20 : decode cX10_never 20 = .ok (.iconst 0, 1) := by decide +kernel
theorem dX10_never_21 : decode cX10_never 21 = .ok (.istore_n 3, 1) := by decide +kernel
theorem dX10_never_22 : decode cX10_never 22 = .ok (.iload_n 3, 1) := by decide +kernel
theorem dX10_never_23 : decode cX10_never 23 = .ok (.aload_n 0, 1) := by decide +kernel
theorem dX10_never_24 : decode cX10_never 24 = .ok (.getfield 123, 3) := by decide +kernel
theorem dX10_never_27 : decode cX10_never 27 = .ok (.if_icmp .ge 30, 3) := by decide +kernel
theorem dX10_never_30 : decode cX10_never 30 = .ok (.iload_n 2, 1) := by decide +kernel
theorem dX10_never_31 : decode cX10_never 31 = .ok (.aload_n 0, 1) := by decide +kernel
theorem dX10_never_32 : decode cX10_never 32 = .ok (.iload_n 1, 1) := by decide +kernel
theorem dX10_never_33 : decode cX10_never 33 = .ok (.iload_n 3, 1) := by decide +kernel
theorem dX10_never_34 : decode cX10_never 34 = .ok (.invokevirtual 275, 3) := by decide +kernel
theorem dX10_never_37 : decode cX10_never 37 = .ok (.bipush (-4), 2) := by decide +kernel
theorem dX10_never_39 : decode cX10_never 39 = .ok (.if_icmp .ne 9, 3) := by decide +kernel
theorem dX10_never_42 : decode cX10_never 42 = .ok (.iconst 1, 1) := by decide +kernel
theorem dX10_never_43 : decode cX10_never 43 = .ok (.iload_n 3, 1) := by decide +kernel
theorem dX10_never_44 : decode cX10_never 44 = .ok (.ishl, 1) := by decide +kernel
theorem dX10_never_45 : decode cX10_never 45 = .ok (.goto 4, 3) := by decide +kernel
theorem dX10_never_48 : decode cX10_never 48 = .ok (.iconst 0, 1) := by decide +kernel
theorem dX10_never_49 : decode cX10_never 49 = .ok (.ior, 1) := by decide +kernel
theorem dX10_never_50 : decode cX10_never 50 = .ok (.istore_n 2, 1) := by decide +kernel
theorem dX10_never_51 : decode cX10_never 51 = .ok (.iinc 3 1, 3) := by decide +kernel
theorem dX10_never_54 : decode cX10_never 54 = .ok (.goto (-32), 3) := by decide +kernel
theorem dX10_never_57 : decode cX10_never 57 = .ok (.iload_n 2, 1) := by decide +kernel
theorem dX10_never_58 : decode cX10_never 58 = .ok (.ireturn, 1) := by decide +kernel
theorem dX10_stuck_0 : decode cX10_stuck 0 = .ok (.aload_n 0, 1) := by decide +kernel
theorem dX10_stuck_1 : decode cX10_stuck 1 = .ok (.invokevirtual 220, 3) := by decide +kernel
theorem dX10_stuck_4 : decode cX10_stuck 4 = .ok (.aload_n 0, 1) := by decide +kernel
theorem dX10_stuck_5 : decode cX10_stuck 5 = .ok (.invokevirtual 272, 3) := by decide +kernel
theorem dX10_stuck_8 : decode cX10_stuck 8 = .ok (.aload_n 0, 1) := by decide +kernel
theorem dX10_stuck_9 : decode cX10_stuck 9 = .ok (.getfield 250, 3) := by decide +kernel
theorem dX10_stuck_12 : decode cX10_stuck 12 = .ok (.iconst 1, 1) := by decide +kernel
theorem dX10_stuck_13 : decode cX10_stuck 13 = .ok (.if_icmp .ne 7, 3) := by decide +kernel
theorem dX10_stuck_16 : decode cX10_stuck 16 = .ok (.iconst 1, 1) := by decide +kernel
theorem dX10_stuck_17 : decode cX10_stuck 17 = .ok (.goto 4, 3) := by decide +kernel
theorem dX10_stuck_20 : decode cX10_stuck 20 = .ok (.iconst 0, 1) := by decide +kernel
theorem dX10_stuck_21 : decode cX10_stuck 21 = .ok (.ireturn, 1) := by decide +kernel
theorem dX10_isAtRest_0 : decode cX10_isAtRest 0 = .ok (.aload_n 0, 1) := by decide +kernel
theorem dX10_isAtRest_1 : decode cX10_isAtRest 1 = .ok (.iload_n 1, 1) := by decide +kernel
theorem dX10_isAtRest_2 : decode cX10_isAtRest 2 = .ok (.invokevirtual 263, 3) := by decide +kernel
theorem dX10_isAtRest_5 : decode cX10_isAtRest 5 = .ok (.iconst 1, 1) := by decide +kernel
theorem dX10_isAtRest_6 : decode cX10_isAtRest 6 = .ok (.istore_n 2, 1) := by decide +kernel
theorem dX10_isAtRest_7 : decode cX10_isAtRest 7 = .ok (.iconst 0, 1) := by decide +kernel
theorem dX10_isAtRest_8 : decode cX10_isAtRest 8 = .ok (.istore_n 3, 1) := by decide +kernel
theorem dX10_isAtRest_9 : decode cX10_isAtRest 9 = .ok (.iload_n 3, 1) := by decide +kernel
theorem dX10_isAtRest_10 : decode cX10_isAtRest 10 = .ok (.aload_n 0, 1) := by decide +kernel
theorem dX10_isAtRest_11 : decode cX10_isAtRest 11 = .ok (.getfield 116, 3) := by decide +kernel
theorem dX10_isAtRest_14 : decode cX10_isAtRest 14 = .ok (.if_icmp .ge 57, 3) := by decide +kernel
theorem dX10_isAtRest_17 : decode cX10_isAtRest 17 = .ok (.iload_n 2, 1) := by decide +kernel
theorem dX10_isAtRest_18 : decode cX10_isAtRest 18 = .ok (.ifCond .eq 45, 3) := by decide +kernel
theorem dX10_isAtRest_21 : decode cX10_isAtRest 21 = .ok (.aload_n 0, 1) := by decide +kernel
theorem dX10_isAtRest_22 : decode cX10_isAtRest 22 = .ok (.getfield 67, 3) := by decide +kernel
theorem dX10_isAtRest_25 : decode cX10_isAtRest 25 = .ok (.iload_n 3, 1) := by decide +kernel
theorem dX10_isAtRest_26 : decode cX10_isAtRest 26 = .ok (.iaload, 1) := by decide +kernel
theorem dX10_isAtRest_27 : decode cX10_isAtRest 27 = .ok (.ifCond .eq 32, 3) := by decide +kernel
theorem dX10_isAtRest_30 : decode cX10_isAtRest 30 = .ok (.aload_n 0, 1) := by decide +kernel
theorem dX10_isAtRest_31 : decode cX10_isAtRest 31 = .ok (.getfield 61, 3) := by decide +kernel
theorem dX10_isAtRest_34 : decode cX10_isAtRest 34 = .ok (.iload_n 3, 1) := by decide +kernel
theorem dX10_isAtRest_35 : decode cX10_isAtRest 35 = .ok (.iaload, 1) := by decide +kernel
theorem dX10_isAtRest_36 : decode cX10_isAtRest 36 = .ok (.iconst (-1), 1) := by decide +kernel
theorem dX10_isAtRest_37 : decode cX10_isAtRest 37 = .ok (.if_icmp .eq 26, 3) := by decide +kernel
theorem dX10_isAtRest_40 : decode cX10_isAtRest 40 = .ok (.aload_n 0, 1) := by decide +kernel
theorem dX10_isAtRest_41 : decode cX10_isAtRest 41 = .ok (.getfield 67, 3) := by decide +kernel
theorem dX10_isAtRest_44 : decode cX10_isAtRest 44 = .ok (.iload_n 3, 1) := by decide +kernel
theorem dX10_isAtRest_45 : decode cX10_isAtRest 45 = .ok (.iaload, 1) := by decide +kernel
theorem dX10_isAtRest_46 : decode cX10_isAtRest 46 = .ok (.aload_n 0, 1) := by decide +kernel
theorem dX10_isAtRest_47 : decode cX10_isAtRest 47 = .ok (.getfield 61, 3) := by decide +kernel
theorem dX10_isAtRest_50 : decode cX10_isAtRest 50 = .ok (.iload_n 3, 1) := by decide +kernel
theorem dX10_isAtRest_51 : decode cX10_isAtRest 51 = .ok (.iaload, 1) := by decide +kernel
theorem dX10_isAtRest_52 : decode cX10_isAtRest 52 = .ok (.ishr, 1) := by decide +kernel
theorem dX10_isAtRest_53 : decode cX10_isAtRest 53 = .ok (.iconst 1, 1) := by decide +kernel
theorem dX10_isAtRest_54 : decode cX10_isAtRest 54 = .ok (.iand, 1) := by decide +kernel
theorem dX10_isAtRest_55 : decode cX10_isAtRest 55 = .ok (.iconst 1, 1) := by decide +kernel
theorem dX10_isAtRest_56 : decode cX10_isAtRest 56 = .ok (.if_icmp .ne 7, 3) := by decide +kernel
theorem dX10_isAtRest_59 : decode cX10_isAtRest 59 = .ok (.iconst 1, 1) := by decide +kernel
theorem dX10_isAtRest_60 : decode cX10_isAtRest 60 = .ok (.goto 4, 3) := by decide +kernel
theorem dX10_isAtRest_63 : decode cX10_isAtRest 63 = .ok (.iconst 0, 1) := by decide +kernel
theorem dX10_isAtRest_64 : decode cX10_isAtRest 64 = .ok (.istore_n 2, 1) := by decide +kernel
theorem dX10_isAtRest_65 : decode cX10_isAtRest 65 = .ok (.iinc 3 1, 3) := by decide +kernel
theorem dX10_isAtRest_68 : decode cX10_isAtRest 68 = .ok (.goto (-59), 3) := by decide +kernel
theorem dX10_isAtRest_71 : decode cX10_isAtRest 71 = .ok (.iload_n 2, 1) := by decide +kernel
theorem dX10_isAtRest_72 : decode cX10_isAtRest 72 = .ok (.ireturn, 1) := by decide +kernel
theorem dX10_restOf_0 : decode cX10_restOf 0 = .ok (.aload_n 0, 1) := by decide +kernel
theorem dX10_restOf_1 : decode cX10_restOf 1 = .ok (.invokevirtual 272, 3) := by decide +kernel
theorem dX10_restOf_4 : decode cX10_restOf 4 = .ok (.bipush (-4), 2) := by decide +kernel
theorem dX10_restOf_6 : decode cX10_restOf 6 = .ok (.istore_n 1, 1) := by decide +kernel
theorem dX10_restOf_7 : decode cX10_restOf 7 = .ok (.iconst 0, 1) := by decide +kernel
theorem dX10_restOf_8 : decode cX10_restOf 8 = .ok (.istore_n 2, 1) := by decide +kernel
theorem dX10_restOf_9 : decode cX10_restOf 9 = .ok (.iload_n 2, 1) := by decide +kernel
theorem dX10_restOf_10 : decode cX10_restOf 10 = .ok (.aload_n 0, 1) := by decide +kernel
theorem dX10_restOf_11 : decode cX10_restOf 11 = .ok (.getfield 250, 3) := by decide +kernel
theorem dX10_restOf_14 : decode cX10_restOf 14 = .ok (.if_icmp .ge 49, 3) := by decide +kernel
theorem dX10_restOf_17 : decode cX10_restOf 17 = .ok (.aload_n 0, 1) := by decide +kernel
theorem dX10_restOf_18 : decode cX10_restOf 18 = .ok (.aload_n 0, 1) := by decide +kernel
theorem dX10_restOf_19 : decode cX10_restOf 19 = .ok (.getfield 77, 3) := by decide +kernel
theorem dX10_restOf_22 : decode cX10_restOf 22 = .ok (.iload_n 2, 1) := by decide +kernel
theorem dX10_restOf_23 : decode cX10_restOf 23 = .ok (.iaload, 1) := by decide +kernel
theorem dX10_restOf_24 : decode cX10_restOf 24 = .ok (.invokevirtual 278, 3) := by decide +kernel
theorem dX10_restOf_27 : decode cX10_restOf 27 = .ok (.ifCond .eq 28, 3) := by decide +kernel
theorem dX10_restOf_30 : decode cX10_restOf 30 = .ok (.iload_n 1, 1) := by decide +kernel
theorem dX10_restOf_31 : decode cX10_restOf 31 = .ok (.bipush (-4), 2) := by decide +kernel
theorem dX10_restOf_33 : decode cX10_restOf 33 = .ok (.if_icmp .eq 13, 3) := by decide +kernel
theorem dX10_restOf_36 : decode cX10_restOf 36 = .ok (.aload_n 0, 1) := by decide +kernel
theorem dX10_restOf_37 : decode cX10_restOf 37 = .ok (.getfield 80, 3) := by decide +kernel
theorem dX10_restOf_40 : decode cX10_restOf 40 = .ok (.iload_n 2, 1) := by decide +kernel
theorem dX10_restOf_41 : decode cX10_restOf 41 = .ok (.iaload, 1) := by decide +kernel
theorem dX10_restOf_42 : decode cX10_restOf 42 = .ok (.iload_n 1, 1) := by decide +kernel
theorem dX10_restOf_43 : decode cX10_restOf 43 = .ok (.if_icmp .ge 12, 3) := by decide +kernel
theorem dX10_restOf_46 : decode cX10_restOf 46 = .ok (.aload_n 0, 1) := by decide +kernel
theorem dX10_restOf_47 : decode cX10_restOf 47 = .ok (.getfield 80, 3) := by decide +kernel
theorem dX10_restOf_50 : decode cX10_restOf 50 = .ok (.iload_n 2, 1) := by decide +kernel
theorem dX10_restOf_51 : decode cX10_restOf 51 = .ok (.iaload, 1) := by decide +kernel
theorem dX10_restOf_52 : decode cX10_restOf 52 = .ok (.goto 4, 3) := by decide +kernel
theorem dX10_restOf_55 : decode cX10_restOf 55 = .ok (.iload_n 1, 1) := by decide +kernel
theorem dX10_restOf_56 : decode cX10_restOf 56 = .ok (.istore_n 1, 1) := by decide +kernel
theorem dX10_restOf_57 : decode cX10_restOf 57 = .ok (.iinc 2 1, 3) := by decide +kernel
theorem dX10_restOf_60 : decode cX10_restOf 60 = .ok (.goto (-51), 3) := by decide +kernel
theorem dX10_restOf_63 : decode cX10_restOf 63 = .ok (.iload_n 1, 1) := by decide +kernel
theorem dX10_restOf_64 : decode cX10_restOf 64 = .ok (.ireturn, 1) := by decide +kernel
theorem dX10_rest_0 : decode cX10_rest 0 = .ok (.aload_n 0, 1) := by decide +kernel
theorem dX10_rest_1 : decode cX10_rest 1 = .ok (.invokevirtual 220, 3) := by decide +kernel
theorem dX10_rest_4 : decode cX10_rest 4 = .ok (.aload_n 0, 1) := by decide +kernel
theorem dX10_rest_5 : decode cX10_rest 5 = .ok (.invokevirtual 281, 3) := by decide +kernel
theorem dX10_rest_8 : decode cX10_rest 8 = .ok (.ireturn, 1) := by decide +kernel
theorem dX10_heldBy_0 : decode cX10_heldBy 0 = .ok (.aload_n 0, 1) := by decide +kernel
theorem dX10_heldBy_1 : decode cX10_heldBy 1 = .ok (.invokevirtual 220, 3) := by decide +kernel
theorem dX10_heldBy_4 : decode cX10_heldBy 4 = .ok (.aload_n 0, 1) := by decide +kernel
theorem dX10_heldBy_5 : decode cX10_heldBy 5 = .ok (.getfield 64, 3) := by decide +kernel
theorem dX10_heldBy_8 : decode cX10_heldBy 8 = .ok (.iload_n 1, 1) := by decide +kernel
theorem dX10_heldBy_9 : decode cX10_heldBy 9 = .ok (.iconst 2, 1) := by decide +kernel
theorem dX10_heldBy_10 : decode cX10_heldBy 10 = .ok (.iastore, 1) := by decide +kernel
theorem dX10_heldBy_11 : decode cX10_heldBy 11 = .ok (.aload_n 0, 1) := by decide +kernel
theorem dX10_heldBy_12 : decode cX10_heldBy 12 = .ok (.invokevirtual 272, 3) := by decide +kernel
theorem dX10_heldBy_15 : decode cX10_heldBy 15 = .ok (.iconst 0, 1) := by decide +kernel
theorem dX10_heldBy_16 : decode cX10_heldBy 16 = .ok (.istore_n 2, 1) := by decide +kernel
theorem dX10_heldBy_17 : decode cX10_heldBy 17 = .ok (.iconst 0, 1) := by decide +kernel
theorem dX10_heldBy_18 : decode cX10_heldBy 18 = .ok (.istore_n 3, 1) := by decide +kernel
theorem dX10_heldBy_19 : decode cX10_heldBy 19 = .ok (.iload_n 3, 1) := by decide +kernel
theorem dX10_heldBy_20 : decode cX10_heldBy 20 = .ok (.aload_n 0, 1) := by decide +kernel
theorem dX10_heldBy_21 : decode cX10_heldBy 21 = .ok (.getfield 116, 3) := by decide +kernel
theorem dX10_heldBy_24 : decode cX10_heldBy 24 = .ok (.if_icmp .ge 77, 3) := by decide +kernel
theorem dX10_heldBy_27 : decode cX10_heldBy 27 = .ok (.iconst 0, 1) := by decide +kernel
theorem dX10_heldBy_28 : decode cX10_heldBy 28 = .ok (.istore 4, 2) := by decide +kernel
theorem dX10_heldBy_30 : decode cX10_heldBy 30 = .ok (.iload 4, 2) := by decide +kernel
theorem dX10_heldBy_32 : decode cX10_heldBy 32 = .ok (.aload_n 0, 1) := by decide +kernel
theorem dX10_heldBy_33 : decode cX10_heldBy 33 = .ok (.getfield 123, 3) := by decide +kernel
theorem dX10_heldBy_36 : decode cX10_heldBy 36 = .ok (.if_icmp .ge 59, 3) := by decide +kernel
theorem dX10_heldBy_39 : decode cX10_heldBy 39 = .ok (.iload_n 2, 1) := by decide +kernel
theorem dX10_heldBy_40 : decode cX10_heldBy 40 = .ok (.aload_n 0, 1) := by decide +kernel
theorem dX10_heldBy_41 : decode cX10_heldBy 41 = .ok (.getfield 13, 3) := by decide +kernel
theorem dX10_heldBy_44 : decode cX10_heldBy 44 = .ok (.iload_n 3, 1) := by decide +kernel
theorem dX10_heldBy_45 : decode cX10_heldBy 45 = .ok (.iaload, 1) := by decide +kernel
theorem dX10_heldBy_46 : decode cX10_heldBy 46 = .ok (.iload 4, 2) := by decide +kernel
theorem dX10_heldBy_48 : decode cX10_heldBy 48 = .ok (.ishr, 1) := by decide +kernel
theorem dX10_heldBy_49 : decode cX10_heldBy 49 = .ok (.iconst 1, 1) := by decide +kernel
theorem dX10_heldBy_50 : decode cX10_heldBy 50 = .ok (.iand, 1) := by decide +kernel
theorem dX10_heldBy_51 : decode cX10_heldBy 51 = .ok (.iconst 1, 1) := by decide +kernel
theorem dX10_heldBy_52 : decode cX10_heldBy 52 = .ok (.if_icmp .ne 34, 3) := by decide +kernel
theorem dX10_heldBy_55 : decode cX10_heldBy 55 = .ok (.aload_n 0, 1) := by decide +kernel
theorem dX10_heldBy_56 : decode cX10_heldBy 56 = .ok (.getfield 86, 3) := by decide +kernel
theorem dX10_heldBy_59 : decode cX10_heldBy 59 = .ok (.bipush 6, 2) := by decide +kernel
theorem dX10_heldBy_61 : decode cX10_heldBy 61 = .ok (.iload_n 3, 1) := by decide +kernel
theorem dX10_heldBy_62 : decode cX10_heldBy 62 = .ok (.imul, 1) := by decide +kernel
theorem dX10_heldBy_63 : decode cX10_heldBy 63 = .ok (.iload 4, 2) := by decide +kernel
theorem dX10_heldBy_65 : decode cX10_heldBy 65 = .ok (.iadd, 1) := by decide +kernel
theorem dX10_heldBy_66 : decode cX10_heldBy 66 = .ok (.baload, 1) := by decide +kernel
theorem dX10_heldBy_67 : decode cX10_heldBy 67 = .ok (.ifCond .eq 19, 3) := by decide +kernel
theorem dX10_heldBy_70 : decode cX10_heldBy 70 = .ok (.aload_n 0, 1) := by decide +kernel
theorem dX10_heldBy_71 : decode cX10_heldBy 71 = .ok (.iload_n 3, 1) := by decide +kernel
theorem dX10_heldBy_72 : decode cX10_heldBy 72 = .ok (.iload 4, 2) := by decide +kernel
theorem dX10_heldBy_74 : decode cX10_heldBy 74 = .ok (.invokevirtual 275, 3) := by decide +kernel
theorem dX10_heldBy_77 : decode cX10_heldBy 77 = .ok (.bipush (-4), 2) := by decide +kernel
theorem dX10_heldBy_79 : decode cX10_heldBy 79 = .ok (.if_icmp .ne 7, 3) := by decide +kernel
theorem dX10_heldBy_82 : decode cX10_heldBy 82 = .ok (.iconst 1, 1) := by decide +kernel
theorem dX10_heldBy_83 : decode cX10_heldBy 83 = .ok (.goto 4, 3) := by decide +kernel
theorem dX10_heldBy_86 : decode cX10_heldBy 86 = .ok (.iconst 0, 1) := by decide +kernel
theorem dX10_heldBy_87 : decode cX10_heldBy 87 = .ok (.iadd, 1) := by decide +kernel
theorem dX10_heldBy_88 : decode cX10_heldBy 88 = .ok (.istore_n 2, 1) := by decide +kernel
theorem dX10_heldBy_89 : decode cX10_heldBy 89 = .ok (.iinc 4 1, 3) := by decide +kernel
theorem dX10_heldBy_92 : decode cX10_heldBy 92 = .ok (.goto (-62), 3) := by decide +kernel
theorem dX10_heldBy_95 : decode cX10_heldBy 95 = .ok (.iinc 3 1, 3) := by decide +kernel
theorem dX10_heldBy_98 : decode cX10_heldBy 98 = .ok (.goto (-79), 3) := by decide +kernel
theorem dX10_heldBy_101 : decode cX10_heldBy 101 = .ok (.iload_n 2, 1) := by decide +kernel
theorem dX10_heldBy_102 : decode cX10_heldBy 102 = .ok (.ireturn, 1) := by decide +kernel
theorem dX10_holdsUp_0 : decode cX10_holdsUp 0 = .ok (.iload_n 1, 1) := by decide +kernel
theorem dX10_holdsUp_1 : decode cX10_holdsUp 1 = .ok (.iconst 0, 1) := by decide +kernel
theorem dX10_holdsUp_2 : decode cX10_holdsUp 2 = .ok (.iconst 1, 1) := by decide +kernel
theorem dX10_holdsUp_3 : decode cX10_holdsUp 3 = .ok (.invokestatic 119, 3) := by decide +kernel
theorem dX10_holdsUp_6 : decode cX10_holdsUp 6 = .ok (.ifCond .ne 5, 3) := by decide +kernel
theorem dX10_holdsUp_9 : decode cX10_holdsUp 9 = .ok (.iconst (-1), 1) := by decide +kernel
theorem dX10_holdsUp_10 : decode cX10_holdsUp 10 = .ok (.ireturn, 1) := by decide +kernel
theorem dX10_holdsUp_11 : decode cX10_holdsUp 11 = .ok (.aload_n 0, 1) := by decide +kernel
theorem dX10_holdsUp_12 : decode cX10_holdsUp 12 = .ok (.invokevirtual 220, 3) := by decide +kernel
theorem dX10_holdsUp_15 : decode cX10_holdsUp 15 = .ok (.aload_n 0, 1) := by decide +kernel
theorem dX10_holdsUp_16 : decode cX10_holdsUp 16 = .ok (.invokevirtual 272, 3) := by decide +kernel
theorem dX10_holdsUp_19 : decode cX10_holdsUp 19 = .ok (.iconst 0, 1) := by decide +kernel
theorem dX10_holdsUp_20 : decode cX10_holdsUp 20 = .ok (.istore_n 2, 1) := by decide +kernel
theorem dX10_holdsUp_21 : decode cX10_holdsUp 21 = .ok (.iload_n 2, 1) := by decide +kernel
theorem dX10_holdsUp_22 : decode cX10_holdsUp 22 = .ok (.aload_n 0, 1) := by decide +kernel
theorem dX10_holdsUp_23 : decode cX10_holdsUp 23 = .ok (.getfield 116, 3) := by decide +kernel
theorem dX10_holdsUp_26 : decode cX10_holdsUp 26 = .ok (.if_icmp .ge 52, 3) := by decide +kernel
theorem dX10_holdsUp_29 : decode cX10_holdsUp 29 = .ok (.iconst 0, 1) := by decide +kernel
theorem dX10_holdsUp_30 : decode cX10_holdsUp 30 = .ok (.istore_n 3, 1) := by decide +kernel
theorem dX10_holdsUp_31 : decode cX10_holdsUp 31 = .ok (.iload_n 3, 1) := by decide +kernel
theorem dX10_holdsUp_32 : decode cX10_holdsUp 32 = .ok (.aload_n 0, 1) := by decide +kernel
theorem dX10_holdsUp_33 : decode cX10_holdsUp 33 = .ok (.getfield 123, 3) := by decide +kernel
theorem dX10_holdsUp_36 : decode cX10_holdsUp 36 = .ok (.if_icmp .ge 36, 3) := by decide +kernel
theorem dX10_holdsUp_39 : decode cX10_holdsUp 39 = .ok (.aload_n 0, 1) := by decide +kernel
theorem dX10_holdsUp_40 : decode cX10_holdsUp 40 = .ok (.getfield 86, 3) := by decide +kernel
theorem dX10_holdsUp_43 : decode cX10_holdsUp 43 = .ok (.bipush 6, 2) := by decide +kernel
theorem dX10_holdsUp_45 : decode cX10_holdsUp 45 = .ok (.iload_n 2, 1) := by decide +kernel
theorem dX10_holdsUp_46 : decode cX10_holdsUp 46 = .ok (.imul, 1) := by decide +kernel
theorem dX10_holdsUp_47 : decode cX10_holdsUp 47 = .ok (.iload_n 3, 1) := by decide +kernel
theorem dX10_holdsUp_48 : decode cX10_holdsUp 48 = .ok (.iadd, 1) := by decide +kernel
theorem dX10_holdsUp_49 : decode cX10_holdsUp 49 = .ok (.aload_n 0, 1) := by decide +kernel
theorem dX10_holdsUp_50 : decode cX10_holdsUp 50 = .ok (.iload_n 2, 1) := by decide +kernel
theorem dX10_holdsUp_51 : decode cX10_holdsUp 51 = .ok (.iload_n 3, 1) := by decide +kernel
theorem dX10_holdsUp_52 : decode cX10_holdsUp 52 = .ok (.invokevirtual 275, 3) := by decide +kernel
theorem dX10_holdsUp_55 : decode cX10_holdsUp 55 = .ok (.bipush (-4), 2) := by decide +kernel
theorem dX10_holdsUp_57 : decode cX10_holdsUp 57 = .ok (.if_icmp .eq 7, 3) := by decide +kernel
theorem dX10_holdsUp_60 : decode cX10_holdsUp 60 = .ok (.iconst 1, 1) := by decide +kernel
theorem dX10_holdsUp_61 : decode cX10_holdsUp 61 = .ok (.goto 4, 3) := by decide +kernel
theorem dX10_holdsUp_64 : decode cX10_holdsUp 64 = .ok (.iconst 0, 1) := by decide +kernel
theorem dX10_holdsUp_65 : decode cX10_holdsUp 65 = .ok (.bastore, 1) := by decide +kernel
theorem dX10_holdsUp_66 : decode cX10_holdsUp 66 = .ok (.iinc 3 1, 3) := by decide +kernel
theorem dX10_holdsUp_69 : decode cX10_holdsUp 69 = .ok (.goto (-38), 3) := by decide +kernel
theorem dX10_holdsUp_72 : decode cX10_holdsUp 72 = .ok (.iinc 2 1, 3) := by decide +kernel
theorem dX10_holdsUp_75 : decode cX10_holdsUp 75 = .ok (.goto (-54), 3) := by decide +kernel
theorem dX10_holdsUp_78 : decode cX10_holdsUp 78 = .ok (.iconst 0, 1) := by decide +kernel
theorem dX10_holdsUp_79 : decode cX10_holdsUp 79 = .ok (.istore_n 2, 1) := by decide +kernel
theorem dX10_holdsUp_80 : decode cX10_holdsUp 80 = .ok (.iconst (-1), 1) := by decide +kernel
theorem dX10_holdsUp_81 : decode cX10_holdsUp 81 = .ok (.istore_n 3, 1) := by decide +kernel
theorem dX10_holdsUp_82 : decode cX10_holdsUp 82 = .ok (.iconst 0, 1) := by decide +kernel
theorem dX10_holdsUp_83 : decode cX10_holdsUp 83 = .ok (.istore 4, 2) := by decide +kernel
theorem dX10_holdsUp_85 : decode cX10_holdsUp 85 = .ok (.iload 4, 2) := by decide +kernel
theorem dX10_holdsUp_87 : decode cX10_holdsUp 87 = .ok (.aload_n 0, 1) := by decide +kernel
theorem dX10_holdsUp_88 : decode cX10_holdsUp 88 = .ok (.getfield 116, 3) := by decide +kernel
theorem dX10_holdsUp_91 : decode cX10_holdsUp 91 = .ok (.if_icmp .ge 43, 3) := by decide +kernel
theorem dX10_holdsUp_94 : decode cX10_holdsUp 94 = .ok (.aload_n 0, 1) := by decide +kernel
theorem dX10_holdsUp_95 : decode cX10_holdsUp 95 = .ok (.iload 4, 2) := by decide +kernel
theorem dX10_holdsUp_97 : decode cX10_holdsUp 97 = .ok (.invokevirtual 284, 3) := by decide +kernel
theorem dX10_holdsUp_100 : decode cX10_holdsUp 100 = .ok (.istore 5, 2) := by decide +kernel
theorem dX10_holdsUp_102 : decode cX10_holdsUp 102 = .ok (.iload 5, 2) := by decide +kernel
theorem dX10_holdsUp_104 : decode cX10_holdsUp 104 = .ok (.iload_n 3, 1) := by decide +kernel
theorem dX10_holdsUp_105 : decode cX10_holdsUp 105 = .ok (.if_icmp .le 8, 3) := by decide +kernel
theorem dX10_holdsUp_108 : decode cX10_holdsUp 108 = .ok (.iload 4, 2) := by decide +kernel
theorem dX10_holdsUp_110 : decode cX10_holdsUp 110 = .ok (.goto 4, 3) := by decide +kernel
theorem dX10_holdsUp_113 : decode cX10_holdsUp 113 = .ok (.iload_n 2, 1) := by decide +kernel
theorem dX10_holdsUp_114 : decode cX10_holdsUp 114 = .ok (.istore_n 2, 1) := by decide +kernel
theorem dX10_holdsUp_115 : decode cX10_holdsUp 115 = .ok (.iload 5, 2) := by decide +kernel
theorem dX10_holdsUp_117 : decode cX10_holdsUp 117 = .ok (.iload_n 3, 1) := by decide +kernel
theorem dX10_holdsUp_118 : decode cX10_holdsUp 118 = .ok (.if_icmp .le 8, 3) := by decide +kernel
theorem dX10_holdsUp_121 : decode cX10_holdsUp 121 = .ok (.iload 5, 2) := by decide +kernel
theorem dX10_holdsUp_123 : decode cX10_holdsUp 123 = .ok (.goto 4, 3) := by decide +kernel
theorem dX10_holdsUp_126 : decode cX10_holdsUp 126 = .ok (.iload_n 3, 1) := by decide +kernel
theorem dX10_holdsUp_127 : decode cX10_holdsUp 127 = .ok (.istore_n 3, 1) := by decide +kernel
theorem dX10_holdsUp_128 : decode cX10_holdsUp 128 = .ok (.iinc 4 1, 3) := by decide +kernel
theorem dX10_holdsUp_131 : decode cX10_holdsUp 131 = .ok (.goto (-46), 3) := by decide +kernel
theorem dX10_holdsUp_134 : decode cX10_holdsUp 134 = .ok (.iload_n 1, 1) := by decide +kernel
theorem dX10_holdsUp_135 : decode cX10_holdsUp 135 = .ok (.ifCond .ne 7, 3) := by decide +kernel
theorem dX10_holdsUp_138 : decode cX10_holdsUp 138 = .ok (.iload_n 2, 1) := by decide +kernel
theorem dX10_holdsUp_139 : decode cX10_holdsUp 139 = .ok (.goto 4, 3) := by decide +kernel
theorem dX10_holdsUp_142 : decode cX10_holdsUp 142 = .ok (.iload_n 3, 1) := by decide +kernel
theorem dX10_holdsUp_143 : decode cX10_holdsUp 143 = .ok (.ireturn, 1) := by decide +kernel
theorem dX10_cheapest_0 : decode cX10_cheapest 0 = .ok (.iconst (-1), 1) := by decide +kernel
theorem dX10_cheapest_1 : decode cX10_cheapest 1 = .ok (.istore_n 1, 1) := by decide +kernel
theorem dX10_cheapest_2 : decode cX10_cheapest 2 = .ok (.iconst 0, 1) := by decide +kernel
theorem dX10_cheapest_3 : decode cX10_cheapest 3 = .ok (.istore_n 2, 1) := by decide +kernel
theorem dX10_cheapest_4 : decode cX10_cheapest 4 = .ok (.iload_n 2, 1) := by decide +kernel
theorem dX10_cheapest_5 : decode cX10_cheapest 5 = .ok (.aload_n 0, 1) := by decide +kernel
theorem dX10_cheapest_6 : decode cX10_cheapest 6 = .ok (.getfield 250, 3) := by decide +kernel
theorem dX10_cheapest_9 : decode cX10_cheapest 9 = .ok (.if_icmp .ge 43, 3) := by decide +kernel
theorem dX10_cheapest_12 : decode cX10_cheapest 12 = .ok (.aload_n 0, 1) := by decide +kernel
theorem dX10_cheapest_13 : decode cX10_cheapest 13 = .ok (.getfield 90, 3) := by decide +kernel
theorem dX10_cheapest_16 : decode cX10_cheapest 16 = .ok (.iload_n 2, 1) := by decide +kernel
theorem dX10_cheapest_17 : decode cX10_cheapest 17 = .ok (.baload, 1) := by decide +kernel
theorem dX10_cheapest_18 : decode cX10_cheapest 18 = .ok (.ifCond .ne 26, 3) := by decide +kernel
theorem dX10_cheapest_21 : decode cX10_cheapest 21 = .ok (.iload_n 1, 1) := by decide +kernel
theorem dX10_cheapest_22 : decode cX10_cheapest 22 = .ok (.ifCond .lt 18, 3) := by decide +kernel
theorem dX10_cheapest_25 : decode cX10_cheapest 25 = .ok (.aload_n 0, 1) := by decide +kernel
theorem dX10_cheapest_26 : decode cX10_cheapest 26 = .ok (.getfield 80, 3) := by decide +kernel
theorem dX10_cheapest_29 : decode cX10_cheapest 29 = .ok (.iload_n 2, 1) := by decide +kernel
theorem dX10_cheapest_30 : decode cX10_cheapest 30 = .ok (.iaload, 1) := by decide +kernel
theorem dX10_cheapest_31 : decode cX10_cheapest 31 = .ok (.aload_n 0, 1) := by decide +kernel
theorem dX10_cheapest_32 : decode cX10_cheapest 32 = .ok (.getfield 80, 3) := by decide +kernel
theorem dX10_cheapest_35 : decode cX10_cheapest 35 = .ok (.iload_n 1, 1) := by decide +kernel
theorem dX10_cheapest_36 : decode cX10_cheapest 36 = .ok (.iaload, 1) := by decide +kernel
theorem dX10_cheapest_37 : decode cX10_cheapest 37 = .ok (.if_icmp .ge 7, 3) := by decide +kernel
theorem dX10_cheapest_40 : decode cX10_cheapest 40 = .ok (.iload_n 2, 1) := by decide +kernel
theorem dX10_cheapest_41 : decode cX10_cheapest 41 = .ok (.goto 4, 3) := by decide +kernel
theorem dX10_cheapest_44 : decode cX10_cheapest 44 = .ok (.iload_n 1, 1) := by decide +kernel
theorem dX10_cheapest_45 : decode cX10_cheapest 45 = .ok (.istore_n 1, 1) := by decide +kernel
theorem dX10_cheapest_46 : decode cX10_cheapest 46 = .ok (.iinc 2 1, 3) := by decide +kernel
theorem dX10_cheapest_49 : decode cX10_cheapest 49 = .ok (.goto (-45), 3) := by decide +kernel
theorem dX10_cheapest_52 : decode cX10_cheapest 52 = .ok (.iload_n 1, 1) := by decide +kernel
theorem dX10_cheapest_53 : decode cX10_cheapest 53 = .ok (.ireturn, 1) := by decide +kernel
theorem dX10_costs_0 : decode cX10_costs 0 = .ok (.aload_n 0, 1) := by decide +kernel
theorem dX10_costs_1 : decode cX10_costs 1 = .ok (.aload_n 0, 1) := by decide +kernel
theorem dX10_costs_2 : decode cX10_costs 2 = .ok (.invokevirtual 253, 3) := by decide +kernel
theorem dX10_costs_5 : decode cX10_costs 5 = .ok (.invokevirtual 269, 3) := by decide +kernel
theorem dX10_costs_8 : decode cX10_costs 8 = .ok (.istore_n 2, 1) := by decide +kernel
theorem dX10_costs_9 : decode cX10_costs 9 = .ok (.iload_n 2, 1) := by decide +kernel
theorem dX10_costs_10 : decode cX10_costs 10 = .ok (.ifCond .ge 26, 3) := by decide +kernel
theorem dX10_costs_13 : decode cX10_costs 13 = .ok (.aload_n 0, 1) := by decide +kernel
theorem dX10_costs_14 : decode cX10_costs 14 = .ok (.getfield 90, 3) := by decide +kernel
theorem dX10_costs_17 : decode cX10_costs 17 = .ok (.aload_n 0, 1) := by decide +kernel
theorem dX10_costs_18 : decode cX10_costs 18 = .ok (.getfield 250, 3) := by decide +kernel
theorem dX10_costs_21 : decode cX10_costs 21 = .ok (.iconst 0, 1) := by decide +kernel
theorem dX10_costs_22 : decode cX10_costs 22 = .ok (.bastore, 1) := by decide +kernel
theorem dX10_costs_23 : decode cX10_costs 23 = .ok (.aload_n 0, 1) := by decide +kernel
theorem dX10_costs_24 : decode cX10_costs 24 = .ok (.aload_n 0, 1) := by decide +kernel
theorem dX10_costs_25 : decode cX10_costs 25 = .ok (.invokevirtual 253, 3) := by decide +kernel
theorem dX10_costs_28 : decode cX10_costs 28 = .ok (.iload_n 1, 1) := by decide +kernel
theorem dX10_costs_29 : decode cX10_costs 29 = .ok (.iconst 0, 1) := by decide +kernel
theorem dX10_costs_30 : decode cX10_costs 30 = .ok (.invokevirtual 256, 3) := by decide +kernel
theorem dX10_costs_33 : decode cX10_costs 33 = .ok (.goto 20, 3) := by decide +kernel
theorem dX10_costs_36 : decode cX10_costs 36 = .ok (.iload_n 1, 1) := by decide +kernel
theorem dX10_costs_37 : decode cX10_costs 37 = .ok (.aload_n 0, 1) := by decide +kernel
theorem dX10_costs_38 : decode cX10_costs 38 = .ok (.getfield 80, 3) := by decide +kernel
theorem dX10_costs_41 : decode cX10_costs 41 = .ok (.iload_n 2, 1) := by decide +kernel
theorem dX10_costs_42 : decode cX10_costs 42 = .ok (.iaload, 1) := by decide +kernel
theorem dX10_costs_43 : decode cX10_costs 43 = .ok (.if_icmp .ge 10, 3) := by decide +kernel
theorem dX10_costs_46 : decode cX10_costs 46 = .ok (.aload_n 0, 1) := by decide +kernel
theorem dX10_costs_47 : decode cX10_costs 47 = .ok (.getfield 80, 3) := by decide +kernel
theorem dX10_costs_50 : decode cX10_costs 50 = .ok (.iload_n 2, 1) := by decide +kernel
theorem dX10_costs_51 : decode cX10_costs 51 = .ok (.iload_n 1, 1) := by decide +kernel
theorem dX10_costs_52 : decode cX10_costs 52 = .ok (.iastore, 1) := by decide +kernel
theorem dX10_costs_53 : decode cX10_costs 53 = .ok (.return_, 1) := by decide +kernel
theorem dX10_findPrices_0 : decode cX10_findPrices 0 = .ok (.aload_n 0, 1) := by decide +kernel
theorem dX10_findPrices_1 : decode cX10_findPrices 1 = .ok (.invokevirtual 260, 3) := by decide +kernel
theorem dX10_findPrices_4 : decode cX10_findPrices 4 = .ok (.aload_n 0, 1) := by decide +kernel
theorem dX10_findPrices_5 : decode cX10_findPrices 5 = .ok (.getfield 90, 3) := by decide +kernel
theorem dX10_findPrices_8 : decode cX10_findPrices 8 = .ok (.iconst 0, 1) := by decide +kernel
theorem dX10_findPrices_9 : decode cX10_findPrices 9 = .ok (.iconst 0, 1) := by decide +kernel
theorem dX10_findPrices_10 : decode cX10_findPrices 10 = .ok (.bastore, 1) := by decide +kernel
theorem dX10_findPrices_11 : decode cX10_findPrices 11 = .ok (.iconst 0, 1) := by decide +kernel
theorem dX10_findPrices_12 : decode cX10_findPrices 12 = .ok (.istore_n 1, 1) := by decide +kernel
theorem dX10_findPrices_13 : decode cX10_findPrices 13 = .ok (.iload_n 1, 1) := by decide +kernel
theorem dX10_findPrices_14 : decode cX10_findPrices 14 = .ok (.ifCond .lt 160, 3) := by decide +kernel
theorem dX10_findPrices_17 : decode cX10_findPrices 17 = .ok (.aload_n 0, 1) := by decide +kernel
theorem dX10_findPrices_18 : decode cX10_findPrices 18 = .ok (.getfield 90, 3) := by decide +kernel
theorem dX10_findPrices_21 : decode cX10_findPrices 21 = .ok (.iload_n 1, 1) := by decide +kernel
theorem dX10_findPrices_22 : decode cX10_findPrices 22 = .ok (.iconst 1, 1) := by decide +kernel
theorem dX10_findPrices_23 : decode cX10_findPrices 23 = .ok (.bastore, 1) := by decide +kernel
theorem dX10_findPrices_24 : decode cX10_findPrices 24 = .ok (.iconst 0, 1) := by decide +kernel
theorem dX10_findPrices_25 : decode cX10_findPrices 25 = .ok (.istore_n 2, 1) := by decide +kernel
theorem dX10_findPrices_26 : decode cX10_findPrices 26 = .ok (.iload_n 2, 1) := by decide +kernel
theorem dX10_findPrices_27 : decode cX10_findPrices 27 = .ok (.aload_n 0, 1) := by decide +kernel
theorem dX10_findPrices_28 : decode cX10_findPrices 28 = .ok (.getfield 116, 3) := by decide +kernel
theorem dX10_findPrices_31 : decode cX10_findPrices 31 = .ok (.aload_n 0, 1) := by decide +kernel
theorem dX10_findPrices_32 : decode cX10_findPrices 32 = .ok (.getfield 116, 3) := by decide +kernel
theorem dX10_findPrices_35 : decode cX10_findPrices 35 = .ok (.imul, 1) := by decide +kernel
theorem dX10_findPrices_36 : decode cX10_findPrices 36 = .ok (.if_icmp .ge 130, 3) := by decide +kernel
theorem dX10_findPrices_39 : decode cX10_findPrices 39 = .ok (.iload_n 2, 1) := by decide +kernel
theorem dX10_findPrices_40 : decode cX10_findPrices 40 = .ok (.aload_n 0, 1) := by decide +kernel
theorem dX10_findPrices_41 : decode cX10_findPrices 41 = .ok (.getfield 116, 3) := by decide +kernel
theorem dX10_findPrices_44 : decode cX10_findPrices 44 = .ok (.idiv, 1) := by decide +kernel
theorem dX10_findPrices_45 : decode cX10_findPrices 45 = .ok (.istore_n 3, 1) := by decide +kernel
theorem dX10_findPrices_46 : decode cX10_findPrices 46 = .ok (.iload_n 2, 1) := by decide +kernel
theorem dX10_findPrices_47 : decode cX10_findPrices 47 = .ok (.aload_n 0, 1) := by decide +kernel
theorem dX10_findPrices_48 : decode cX10_findPrices 48 = .ok (.getfield 116, 3) := by decide +kernel
theorem dX10_findPrices_51 : decode cX10_findPrices 51 = .ok (.irem, 1) := by decide +kernel
theorem dX10_findPrices_52 : decode cX10_findPrices 52 = .ok (.istore 4, 2) := by decide +kernel
theorem dX10_findPrices_54 : decode cX10_findPrices 54 = .ok (.aload_n 0, 1) := by decide +kernel
theorem dX10_findPrices_55 : decode cX10_findPrices 55 = .ok (.aload_n 0, 1) := by decide +kernel
theorem dX10_findPrices_56 : decode cX10_findPrices 56 = .ok (.getfield 77, 3) := by decide +kernel
theorem dX10_findPrices_59 : decode cX10_findPrices 59 = .ok (.iload_n 1, 1) := by decide +kernel
theorem dX10_findPrices_60 : decode cX10_findPrices 60 = .ok (.iaload, 1) := by decide +kernel
theorem dX10_findPrices_61 : decode cX10_findPrices 61 = .ok (.invokevirtual 263, 3) := by decide +kernel
theorem dX10_findPrices_64 : decode cX10_findPrices 64 = .ok (.aload_n 0, 1) := by decide +kernel
theorem dX10_findPrices_65 : decode cX10_findPrices 65 = .ok (.iload_n 3, 1) := by decide +kernel
theorem dX10_findPrices_66 : decode cX10_findPrices 66 = .ok (.iload 4, 2) := by decide +kernel
theorem dX10_findPrices_68 : decode cX10_findPrices 68 = .ok (.invokevirtual 223, 3) := by decide +kernel
theorem dX10_findPrices_71 : decode cX10_findPrices 71 = .ok (.ifCond .eq 28, 3) := by decide +kernel
theorem dX10_findPrices_74 : decode cX10_findPrices 74 = .ok (.aload_n 0, 1) := by decide +kernel
theorem dX10_findPrices_75 : decode cX10_findPrices 75 = .ok (.iload_n 3, 1) := by decide +kernel
theorem dX10_findPrices_76 : decode cX10_findPrices 76 = .ok (.iload 4, 2) := by decide +kernel
theorem dX10_findPrices_78 : decode cX10_findPrices 78 = .ok (.invokevirtual 230, 3) := by decide +kernel
theorem dX10_findPrices_81 : decode cX10_findPrices 81 = .ok (.aload_n 0, 1) := by decide +kernel
theorem dX10_findPrices_82 : decode cX10_findPrices 82 = .ok (.aload_n 0, 1) := by decide +kernel
theorem dX10_findPrices_83 : decode cX10_findPrices 83 = .ok (.getfield 80, 3) := by decide +kernel
theorem dX10_findPrices_86 : decode cX10_findPrices 86 = .ok (.iload_n 1, 1) := by decide +kernel
theorem dX10_findPrices_87 : decode cX10_findPrices 87 = .ok (.iaload, 1) := by decide +kernel
theorem dX10_findPrices_88 : decode cX10_findPrices 88 = .ok (.aload_n 0, 1) := by decide +kernel
theorem dX10_findPrices_89 : decode cX10_findPrices 89 = .ok (.iload_n 3, 1) := by decide +kernel
theorem dX10_findPrices_90 : decode cX10_findPrices 90 = .ok (.iload 4, 2) := by decide +kernel
theorem dX10_findPrices_92 : decode cX10_findPrices 92 = .ok (.invokevirtual 206, 3) := by decide +kernel
theorem dX10_findPrices_95 : decode cX10_findPrices 95 = .ok (.iadd, 1) := by decide +kernel
theorem dX10_findPrices_96 : decode cX10_findPrices 96 = .ok (.invokevirtual 287, 3) := by decide +kernel
theorem dX10_findPrices_99 : decode cX10_findPrices 99 = .ok (.iload_n 3, 1) := by decide +kernel
theorem dX10_findPrices_100 : decode cX10_findPrices 100 = .ok (.iload 4, 2) := by decide +kernel
theorem dX10_findPrices_102 : decode cX10_findPrices 102 = .ok (.if_icmp .ge 58, 3) := by decide +kernel
theorem dX10_findPrices_105 : decode cX10_findPrices 105 = .ok (.aload_n 0, 1) := by decide +kernel
theorem dX10_findPrices_106 : decode cX10_findPrices 106 = .ok (.aload_n 0, 1) := by decide +kernel
theorem dX10_findPrices_107 : decode cX10_findPrices 107 = .ok (.getfield 77, 3) := by decide +kernel
theorem dX10_findPrices_110 : decode cX10_findPrices 110 = .ok (.iload_n 1, 1) := by decide +kernel
theorem dX10_findPrices_111 : decode cX10_findPrices 111 = .ok (.iaload, 1) := by decide +kernel
theorem dX10_findPrices_112 : decode cX10_findPrices 112 = .ok (.invokevirtual 263, 3) := by decide +kernel
theorem dX10_findPrices_115 : decode cX10_findPrices 115 = .ok (.aload_n 0, 1) := by decide +kernel
theorem dX10_findPrices_116 : decode cX10_findPrices 116 = .ok (.getfield 61, 3) := by decide +kernel
theorem dX10_findPrices_119 : decode cX10_findPrices 119 = .ok (.iload_n 3, 1) := by decide +kernel
theorem dX10_findPrices_120 : decode cX10_findPrices 120 = .ok (.iaload, 1) := by decide +kernel
theorem dX10_findPrices_121 : decode cX10_findPrices 121 = .ok (.istore 5, 2) := by decide +kernel
theorem dX10_findPrices_123 : decode cX10_findPrices 123 = .ok (.aload_n 0, 1) := by decide +kernel
theorem dX10_findPrices_124 : decode cX10_findPrices 124 = .ok (.getfield 61, 3) := by decide +kernel
theorem dX10_findPrices_127 : decode cX10_findPrices 127 = .ok (.iload_n 3, 1) := by decide +kernel
theorem dX10_findPrices_128 : decode cX10_findPrices 128 = .ok (.aload_n 0, 1) := by decide +kernel
theorem dX10_findPrices_129 : decode cX10_findPrices 129 = .ok (.getfield 61, 3) := by decide +kernel
theorem dX10_findPrices_132 : decode cX10_findPrices 132 = .ok (.iload 4, 2) := by decide +kernel
theorem dX10_findPrices_134 : decode cX10_findPrices 134 = .ok (.iaload, 1) := by decide +kernel
theorem dX10_findPrices_135 : decode cX10_findPrices 135 = .ok (.iastore, 1) := by decide +kernel
theorem dX10_findPrices_136 : decode cX10_findPrices 136 = .ok (.aload_n 0, 1) := by decide +kernel
theorem dX10_findPrices_137 : decode cX10_findPrices 137 = .ok (.getfield 61, 3) := by decide +kernel
theorem dX10_findPrices_140 : decode cX10_findPrices 140 = .ok (.iload 4, 2) := by decide +kernel
theorem dX10_findPrices_142 : decode cX10_findPrices 142 = .ok (.iload 5, 2) := by decide +kernel
theorem dX10_findPrices_144 : decode cX10_findPrices 144 = .ok (.iastore, 1) := by decide +kernel
theorem dX10_findPrices_145 : decode cX10_findPrices 145 = .ok (.aload_n 0, 1) := by decide +kernel
theorem dX10_findPrices_146 : decode cX10_findPrices 146 = .ok (.aload_n 0, 1) := by decide +kernel
theorem dX10_findPrices_147 : decode cX10_findPrices 147 = .ok (.getfield 80, 3) := by decide +kernel
theorem dX10_findPrices_150 : decode cX10_findPrices 150 = .ok (.iload_n 1, 1) := by decide +kernel
theorem dX10_findPrices_151 : decode cX10_findPrices 151 = .ok (.iaload, 1) := by decide +kernel
theorem dX10_findPrices_152 : decode cX10_findPrices 152 = .ok (.aload_n 0, 1) := by decide +kernel
theorem dX10_findPrices_153 : decode cX10_findPrices 153 = .ok (.getfield 177, 3) := by decide +kernel
theorem dX10_findPrices_156 : decode cX10_findPrices 156 = .ok (.iadd, 1) := by decide +kernel
theorem dX10_findPrices_157 : decode cX10_findPrices 157 = .ok (.invokevirtual 287, 3) := by decide +kernel
theorem dX10_findPrices_160 : decode cX10_findPrices 160 = .ok (.iinc 2 1, 3) := by decide +kernel
theorem dX10_findPrices_163 : decode cX10_findPrices 163 = .ok (.goto (-137), 3) := by decide +kernel
theorem dX10_findPrices_166 : decode cX10_findPrices 166 = .ok (.aload_n 0, 1) := by decide +kernel
theorem dX10_findPrices_167 : decode cX10_findPrices 167 = .ok (.invokevirtual 290, 3) := by decide +kernel
theorem dX10_findPrices_170 : decode cX10_findPrices 170 = .ok (.istore_n 1, 1) := by decide +kernel
theorem dX10_findPrices_171 : decode cX10_findPrices 171 = .ok (.goto (-158), 3) := by decide +kernel
theorem dX10_findPrices_174 : decode cX10_findPrices 174 = .ok (.return_, 1) := by decide +kernel
theorem dX10_price_0 : decode cX10_price 0 = .ok (.aload_n 0, 1) := by decide +kernel
theorem dX10_price_1 : decode cX10_price 1 = .ok (.iload_n 1, 1) := by decide +kernel
theorem dX10_price_2 : decode cX10_price 2 = .ok (.invokevirtual 192, 3) := by decide +kernel
theorem dX10_price_5 : decode cX10_price 5 = .ok (.ifCond .eq 11, 3) := by decide +kernel
theorem dX10_price_8 : decode cX10_price 8 = .ok (.aload_n 0, 1) := by decide +kernel
theorem dX10_price_9 : decode cX10_price 9 = .ok (.iload_n 2, 1) := by decide +kernel
theorem dX10_price_10 : decode cX10_price 10 = .ok (.invokevirtual 195, 3) := by decide +kernel
theorem dX10_price_13 : decode cX10_price 13 = .ok (.ifCond .ne 5, 3) := by decide +kernel
theorem dX10_price_16 : decode cX10_price 16 = .ok (.iconst (-1), 1) := by decide +kernel
theorem dX10_price_17 : decode cX10_price 17 = .ok (.ireturn, 1) := by decide +kernel
theorem dX10_price_18 : decode cX10_price 18 = .ok (.aload_n 0, 1) := by decide +kernel
theorem dX10_price_19 : decode cX10_price 19 = .ok (.invokevirtual 220, 3) := by decide +kernel
theorem dX10_price_22 : decode cX10_price 22 = .ok (.aload_n 0, 1) := by decide +kernel
theorem dX10_price_23 : decode cX10_price 23 = .ok (.invokevirtual 293, 3) := by decide +kernel
theorem dX10_price_26 : decode cX10_price 26 = .ok (.aload_n 0, 1) := by decide +kernel
theorem dX10_price_27 : decode cX10_price 27 = .ok (.iload_n 1, 1) := by decide +kernel
theorem dX10_price_28 : decode cX10_price 28 = .ok (.iload_n 2, 1) := by decide +kernel
theorem dX10_price_29 : decode cX10_price 29 = .ok (.invokevirtual 275, 3) := by decide +kernel
theorem dX10_price_32 : decode cX10_price 32 = .ok (.ireturn, 1) := by decide +kernel
theorem dX10_areGlad_0 : decode cX10_areGlad 0 = .ok (.aload_n 0, 1) := by decide +kernel
theorem dX10_areGlad_1 : decode cX10_areGlad 1 = .ok (.iload_n 1, 1) := by decide +kernel
theorem dX10_areGlad_2 : decode cX10_areGlad 2 = .ok (.aload_n 0, 1) := by decide +kernel
theorem dX10_areGlad_3 : decode cX10_areGlad 3 = .ok (.getfield 61, 3) := by decide +kernel
theorem dX10_areGlad_6 : decode cX10_areGlad 6 = .ok (.iload_n 2, 1) := by decide +kernel
theorem dX10_areGlad_7 : decode cX10_areGlad 7 = .ok (.iaload, 1) := by decide +kernel
theorem dX10_areGlad_8 : decode cX10_areGlad 8 = .ok (.invokevirtual 209, 3) := by decide +kernel
theorem dX10_areGlad_11 : decode cX10_areGlad 11 = .ok (.aload_n 0, 1) := by decide +kernel
theorem dX10_areGlad_12 : decode cX10_areGlad 12 = .ok (.iload_n 1, 1) := by decide +kernel
theorem dX10_areGlad_13 : decode cX10_areGlad 13 = .ok (.aload_n 0, 1) := by decide +kernel
theorem dX10_areGlad_14 : decode cX10_areGlad 14 = .ok (.getfield 61, 3) := by decide +kernel
theorem dX10_areGlad_17 : decode cX10_areGlad 17 = .ok (.iload_n 1, 1) := by decide +kernel
theorem dX10_areGlad_18 : decode cX10_areGlad 18 = .ok (.iaload, 1) := by decide +kernel
theorem dX10_areGlad_19 : decode cX10_areGlad 19 = .ok (.invokevirtual 209, 3) := by decide +kernel
theorem dX10_areGlad_22 : decode cX10_areGlad 22 = .ok (.if_icmp .le 32, 3) := by decide +kernel
theorem dX10_areGlad_25 : decode cX10_areGlad 25 = .ok (.aload_n 0, 1) := by decide +kernel
theorem dX10_areGlad_26 : decode cX10_areGlad 26 = .ok (.iload_n 2, 1) := by decide +kernel
theorem dX10_areGlad_27 : decode cX10_areGlad 27 = .ok (.aload_n 0, 1) := by decide +kernel
theorem dX10_areGlad_28 : decode cX10_areGlad 28 = .ok (.getfield 61, 3) := by decide +kernel
theorem dX10_areGlad_31 : decode cX10_areGlad 31 = .ok (.iload_n 1, 1) := by decide +kernel
theorem dX10_areGlad_32 : decode cX10_areGlad 32 = .ok (.iaload, 1) := by decide +kernel
theorem dX10_areGlad_33 : decode cX10_areGlad 33 = .ok (.invokevirtual 209, 3) := by decide +kernel
theorem dX10_areGlad_36 : decode cX10_areGlad 36 = .ok (.aload_n 0, 1) := by decide +kernel
theorem dX10_areGlad_37 : decode cX10_areGlad 37 = .ok (.iload_n 2, 1) := by decide +kernel
theorem dX10_areGlad_38 : decode cX10_areGlad 38 = .ok (.aload_n 0, 1) := by decide +kernel
theorem dX10_areGlad_39 : decode cX10_areGlad 39 = .ok (.getfield 61, 3) := by decide +kernel
theorem dX10_areGlad_42 : decode cX10_areGlad 42 = .ok (.iload_n 2, 1) := by decide +kernel
theorem dX10_areGlad_43 : decode cX10_areGlad 43 = .ok (.iaload, 1) := by decide +kernel
theorem dX10_areGlad_44 : decode cX10_areGlad 44 = .ok (.invokevirtual 209, 3) := by decide +kernel
theorem dX10_areGlad_47 : decode cX10_areGlad 47 = .ok (.if_icmp .le 7, 3) := by decide +kernel
theorem dX10_areGlad_50 : decode cX10_areGlad 50 = .ok (.iconst 1, 1) := by decide +kernel
theorem dX10_areGlad_51 : decode cX10_areGlad 51 = .ok (.goto 4, 3) := by decide +kernel
theorem dX10_areGlad_54 : decode cX10_areGlad 54 = .ok (.iconst 0, 1) := by decide +kernel
theorem dX10_areGlad_55 : decode cX10_areGlad 55 = .ok (.ireturn, 1) := by decide +kernel
theorem dX10_liked_0 : decode cX10_liked 0 = .ok (.iload_n 1, 1) := by decide +kernel
theorem dX10_liked_1 : decode cX10_liked 1 = .ok (.iconst 0, 1) := by decide +kernel
theorem dX10_liked_2 : decode cX10_liked 2 = .ok (.iconst 1, 1) := by decide +kernel
theorem dX10_liked_3 : decode cX10_liked 3 = .ok (.invokestatic 119, 3) := by decide +kernel
theorem dX10_liked_6 : decode cX10_liked 6 = .ok (.ifCond .ne 5, 3) := by decide +kernel
theorem dX10_liked_9 : decode cX10_liked 9 = .ok (.iconst (-1), 1) := by decide +kernel
theorem dX10_liked_10 : decode cX10_liked 10 = .ok (.ireturn, 1) := by decide +kernel
theorem dX10_liked_11 : decode cX10_liked 11 = .ok (.aload_n 0, 1) := by decide +kernel
theorem dX10_liked_12 : decode cX10_liked 12 = .ok (.invokevirtual 220, 3) := by decide +kernel
theorem dX10_liked_15 : decode cX10_liked 15 = .ok (.iconst 0, 1) := by decide +kernel
theorem dX10_liked_16 : decode cX10_liked 16 = .ok (.istore_n 2, 1) := by decide +kernel
theorem dX10_liked_17 : decode cX10_liked 17 = .ok (.bipush (-4), 2) := by decide +kernel
theorem dX10_liked_19 : decode cX10_liked 19 = .ok (.istore_n 3, 1) := by decide +kernel
theorem dX10_liked_20 : decode cX10_liked 20 = .ok (.iconst 0, 1) := by decide +kernel
theorem dX10_liked_21 : decode cX10_liked 21 = .ok (.istore 4, 2) := by decide +kernel
theorem dX10_liked_23 : decode cX10_liked 23 = .ok (.iload 4, 2) := by decide +kernel
theorem dX10_liked_25 : decode cX10_liked 25 = .ok (.aload_n 0, 1) := by decide +kernel
theorem dX10_liked_26 : decode cX10_liked 26 = .ok (.getfield 116, 3) := by decide +kernel
theorem dX10_liked_29 : decode cX10_liked 29 = .ok (.if_icmp .ge 61, 3) := by decide +kernel
theorem dX10_liked_32 : decode cX10_liked 32 = .ok (.iload 4, 2) := by decide +kernel
theorem dX10_liked_34 : decode cX10_liked 34 = .ok (.iconst 1, 1) := by decide +kernel
theorem dX10_liked_35 : decode cX10_liked 35 = .ok (.iadd, 1) := by decide +kernel
theorem dX10_liked_36 : decode cX10_liked 36 = .ok (.istore 5, 2) := by decide +kernel
theorem dX10_liked_38 : decode cX10_liked 38 = .ok (.iload 5, 2) := by decide +kernel
theorem dX10_liked_40 : decode cX10_liked 40 = .ok (.aload_n 0, 1) := by decide +kernel
theorem dX10_liked_41 : decode cX10_liked 41 = .ok (.getfield 116, 3) := by decide +kernel
theorem dX10_liked_44 : decode cX10_liked 44 = .ok (.if_icmp .ge 40, 3) := by decide +kernel
theorem dX10_liked_47 : decode cX10_liked 47 = .ok (.aload_n 0, 1) := by decide +kernel
theorem dX10_liked_48 : decode cX10_liked 48 = .ok (.iload 4, 2) := by decide +kernel
theorem dX10_liked_50 : decode cX10_liked 50 = .ok (.iload 5, 2) := by decide +kernel
theorem dX10_liked_52 : decode cX10_liked 52 = .ok (.invokevirtual 296, 3) := by decide +kernel
theorem dX10_liked_55 : decode cX10_liked 55 = .ok (.ifCond .eq 23, 3) := by decide +kernel
theorem dX10_liked_58 : decode cX10_liked 58 = .ok (.iload_n 2, 1) := by decide +kernel
theorem dX10_liked_59 : decode cX10_liked 59 = .ok (.ifCond .ne 14, 3) := by decide +kernel
theorem dX10_liked_62 : decode cX10_liked 62 = .ok (.bipush 10, 2) := by decide +kernel
theorem dX10_liked_64 : decode cX10_liked 64 = .ok (.iload 4, 2) := by decide +kernel
theorem dX10_liked_66 : decode cX10_liked 66 = .ok (.imul, 1) := by decide +kernel
theorem dX10_liked_67 : decode cX10_liked 67 = .ok (.iload 5, 2) := by decide +kernel
theorem dX10_liked_69 : decode cX10_liked 69 = .ok (.iadd, 1) := by decide +kernel
theorem dX10_liked_70 : decode cX10_liked 70 = .ok (.goto 4, 3) := by decide +kernel
theorem dX10_liked_73 : decode cX10_liked 73 = .ok (.iload_n 3, 1) := by decide +kernel
theorem dX10_liked_74 : decode cX10_liked 74 = .ok (.istore_n 3, 1) := by decide +kernel
theorem dX10_liked_75 : decode cX10_liked 75 = .ok (.iinc 2 1, 3) := by decide +kernel
theorem dX10_liked_78 : decode cX10_liked 78 = .ok (.iinc 5 1, 3) := by decide +kernel
theorem dX10_liked_81 : decode cX10_liked 81 = .ok (.goto (-43), 3) := by decide +kernel
theorem dX10_liked_84 : decode cX10_liked 84 = .ok (.iinc 4 1, 3) := by decide +kernel
theorem dX10_liked_87 : decode cX10_liked 87 = .ok (.goto (-64), 3) := by decide +kernel
theorem dX10_liked_90 : decode cX10_liked 90 = .ok (.iload_n 1, 1) := by decide +kernel
theorem dX10_liked_91 : decode cX10_liked 91 = .ok (.ifCond .ne 7, 3) := by decide +kernel
theorem dX10_liked_94 : decode cX10_liked 94 = .ok (.iload_n 2, 1) := by decide +kernel
theorem dX10_liked_95 : decode cX10_liked 95 = .ok (.goto 4, 3) := by decide +kernel
theorem dX10_liked_98 : decode cX10_liked 98 = .ok (.iload_n 3, 1) := by decide +kernel
theorem dX10_liked_99 : decode cX10_liked 99 = .ok (.ireturn, 1) := by decide +kernel
theorem dX10_most_0 : decode cX10_most 0 = .ok (.aload_n 0, 1) := by decide +kernel
theorem dX10_most_1 : decode cX10_most 1 = .ok (.invokevirtual 220, 3) := by decide +kernel
theorem dX10_most_4 : decode cX10_most 4 = .ok (.iconst 0, 1) := by decide +kernel
theorem dX10_most_5 : decode cX10_most 5 = .ok (.istore_n 1, 1) := by decide +kernel
theorem dX10_most_6 : decode cX10_most 6 = .ok (.iconst 0, 1) := by decide +kernel
theorem dX10_most_7 : decode cX10_most 7 = .ok (.istore_n 2, 1) := by decide +kernel
theorem dX10_most_8 : decode cX10_most 8 = .ok (.iload_n 2, 1) := by decide +kernel
theorem dX10_most_9 : decode cX10_most 9 = .ok (.aload_n 0, 1) := by decide +kernel
theorem dX10_most_10 : decode cX10_most 10 = .ok (.getfield 116, 3) := by decide +kernel
theorem dX10_most_13 : decode cX10_most 13 = .ok (.if_icmp .ge 34, 3) := by decide +kernel
theorem dX10_most_16 : decode cX10_most 16 = .ok (.iload_n 1, 1) := by decide +kernel
theorem dX10_most_17 : decode cX10_most 17 = .ok (.aload_n 0, 1) := by decide +kernel
theorem dX10_most_18 : decode cX10_most 18 = .ok (.getfield 61, 3) := by decide +kernel
theorem dX10_most_21 : decode cX10_most 21 = .ok (.iload_n 2, 1) := by decide +kernel
theorem dX10_most_22 : decode cX10_most 22 = .ok (.iaload, 1) := by decide +kernel
theorem dX10_most_23 : decode cX10_most 23 = .ok (.iconst (-1), 1) := by decide +kernel
theorem dX10_most_24 : decode cX10_most 24 = .ok (.if_icmp .ne 7, 3) := by decide +kernel
theorem dX10_most_27 : decode cX10_most 27 = .ok (.iconst 0, 1) := by decide +kernel
theorem dX10_most_28 : decode cX10_most 28 = .ok (.goto 11, 3) := by decide +kernel
theorem dX10_most_31 : decode cX10_most 31 = .ok (.iconst 1, 1) := by decide +kernel
theorem dX10_most_32 : decode cX10_most 32 = .ok (.aload_n 0, 1) := by decide +kernel
theorem dX10_most_33 : decode cX10_most 33 = .ok (.getfield 61, 3) := by decide +kernel
theorem dX10_most_36 : decode cX10_most 36 = .ok (.iload_n 2, 1) := by decide +kernel
theorem dX10_most_37 : decode cX10_most 37 = .ok (.iaload, 1) := by decide +kernel
theorem dX10_most_38 : decode cX10_most 38 = .ok (.ishl, 1) := by decide +kernel
theorem dX10_most_39 : decode cX10_most 39 = .ok (.ior, 1) := by decide +kernel
theorem dX10_most_40 : decode cX10_most 40 = .ok (.istore_n 1, 1) := by decide +kernel
theorem dX10_most_41 : decode cX10_most 41 = .ok (.iinc 2 1, 3) := by decide +kernel
theorem dX10_most_44 : decode cX10_most 44 = .ok (.goto (-36), 3) := by decide +kernel
theorem dX10_most_47 : decode cX10_most 47 = .ok (.iconst 0, 1) := by decide +kernel
theorem dX10_most_48 : decode cX10_most 48 = .ok (.istore_n 2, 1) := by decide +kernel
theorem dX10_most_49 : decode cX10_most 49 = .ok (.iload_n 2, 1) := by decide +kernel
theorem dX10_most_50 : decode cX10_most 50 = .ok (.bipush 64, 2) := by decide +kernel
theorem dX10_most_52 : decode cX10_most 52 = .ok (.if_icmp .ge 24, 3) := by decide +kernel
theorem dX10_most_55 : decode cX10_most 55 = .ok (.aload_n 0, 1) := by decide +kernel
theorem dX10_most_56 : decode cX10_most 56 = .ok (.getfield 93, 3) := by decide +kernel
theorem dX10_most_59 : decode cX10_most 59 = .ok (.iload_n 2, 1) := by decide +kernel
theorem dX10_most_60 : decode cX10_most 60 = .ok (.iload_n 2, 1) := by decide +kernel
theorem dX10_most_61 : decode cX10_most 61 = .ok (.ifCond .ne 7, 3) := by decide +kernel
theorem dX10_most_64 : decode cX10_most 64 = .ok (.iconst 0, 1) := by decide +kernel
theorem dX10_most_65 : decode cX10_most 65 = .ok (.goto 4, 3) := by decide +kernel
theorem dX10_most_68 : decode cX10_most 68 = .ok (.iconst (-1), 1) := by decide +kernel
theorem dX10_most_69 : decode cX10_most 69 = .ok (.iastore, 1) := by decide +kernel
theorem dX10_most_70 : decode cX10_most 70 = .ok (.iinc 2 1, 3) := by decide +kernel
theorem dX10_most_73 : decode cX10_most 73 = .ok (.goto (-24), 3) := by decide +kernel
theorem dX10_most_76 : decode cX10_most 76 = .ok (.iconst 0, 1) := by decide +kernel
theorem dX10_most_77 : decode cX10_most 77 = .ok (.istore_n 2, 1) := by decide +kernel
theorem dX10_most_78 : decode cX10_most 78 = .ok (.iload_n 2, 1) := by decide +kernel
theorem dX10_most_79 : decode cX10_most 79 = .ok (.aload_n 0, 1) := by decide +kernel
theorem dX10_most_80 : decode cX10_most 80 = .ok (.getfield 116, 3) := by decide +kernel
theorem dX10_most_83 : decode cX10_most 83 = .ok (.if_icmp .ge 154, 3) := by decide +kernel
theorem dX10_most_86 : decode cX10_most 86 = .ok (.iconst 0, 1) := by decide +kernel
theorem dX10_most_87 : decode cX10_most 87 = .ok (.istore_n 3, 1) := by decide +kernel
theorem dX10_most_88 : decode cX10_most 88 = .ok (.iload_n 3, 1) := by decide +kernel
theorem dX10_most_89 : decode cX10_most 89 = .ok (.bipush 64, 2) := by decide +kernel
theorem dX10_most_91 : decode cX10_most 91 = .ok (.if_icmp .ge 114, 3) := by decide +kernel
theorem dX10_most_94 : decode cX10_most 94 = .ok (.aload_n 0, 1) := by decide +kernel
theorem dX10_most_95 : decode cX10_most 95 = .ok (.getfield 96, 3) := by decide +kernel
theorem dX10_most_98 : decode cX10_most 98 = .ok (.iload_n 3, 1) := by decide +kernel
theorem dX10_most_99 : decode cX10_most 99 = .ok (.aload_n 0, 1) := by decide +kernel
theorem dX10_most_100 : decode cX10_most 100 = .ok (.getfield 93, 3) := by decide +kernel
theorem dX10_most_103 : decode cX10_most 103 = .ok (.iload_n 3, 1) := by decide +kernel
theorem dX10_most_104 : decode cX10_most 104 = .ok (.iaload, 1) := by decide +kernel
theorem dX10_most_105 : decode cX10_most 105 = .ok (.iastore, 1) := by decide +kernel
theorem dX10_most_106 : decode cX10_most 106 = .ok (.iconst 0, 1) := by decide +kernel
theorem dX10_most_107 : decode cX10_most 107 = .ok (.istore 4, 2) := by decide +kernel
theorem dX10_most_109 : decode cX10_most 109 = .ok (.iload 4, 2) := by decide +kernel
theorem dX10_most_111 : decode cX10_most 111 = .ok (.aload_n 0, 1) := by decide +kernel
theorem dX10_most_112 : decode cX10_most 112 = .ok (.getfield 123, 3) := by decide +kernel
theorem dX10_most_115 : decode cX10_most 115 = .ok (.if_icmp .ge 84, 3) := by decide +kernel
theorem dX10_most_118 : decode cX10_most 118 = .ok (.iload_n 3, 1) := by decide +kernel
theorem dX10_most_119 : decode cX10_most 119 = .ok (.iconst 1, 1) := by decide +kernel
theorem dX10_most_120 : decode cX10_most 120 = .ok (.iload 4, 2) := by decide +kernel
theorem dX10_most_122 : decode cX10_most 122 = .ok (.ishl, 1) := by decide +kernel
theorem dX10_most_123 : decode cX10_most 123 = .ok (.iconst (-1), 1) := by decide +kernel
theorem dX10_most_124 : decode cX10_most 124 = .ok (.ixor, 1) := by decide +kernel
theorem dX10_most_125 : decode cX10_most 125 = .ok (.iand, 1) := by decide +kernel
theorem dX10_most_126 : decode cX10_most 126 = .ok (.istore 5, 2) := by decide +kernel
theorem dX10_most_128 : decode cX10_most 128 = .ok (.iload 5, 2) := by decide +kernel
theorem dX10_most_130 : decode cX10_most 130 = .ok (.iload_n 3, 1) := by decide +kernel
theorem dX10_most_131 : decode cX10_most 131 = .ok (.if_icmp .eq 13, 3) := by decide +kernel
theorem dX10_most_134 : decode cX10_most 134 = .ok (.aload_n 0, 1) := by decide +kernel
theorem dX10_most_135 : decode cX10_most 135 = .ok (.getfield 93, 3) := by decide +kernel
theorem dX10_most_138 : decode cX10_most 138 = .ok (.iload 5, 2) := by decide +kernel
theorem dX10_most_140 : decode cX10_most 140 = .ok (.iaload, 1) := by decide +kernel
theorem dX10_most_141 : decode cX10_most 141 = .ok (.ifCond .ge 7, 3) := by decide +kernel
theorem dX10_most_144 : decode cX10_most 144 = .ok (.iconst (-1), 1) := by decide +kernel
theorem dX10_most_145 : decode cX10_most 145 = .ok (.goto 18, 3) := by decide +kernel
theorem dX10_most_148 : decode cX10_most 148 = .ok (.aload_n 0, 1) := by decide +kernel
theorem dX10_most_149 : decode cX10_most 149 = .ok (.getfield 93, 3) := by decide +kernel
theorem dX10_most_152 : decode cX10_most 152 = .ok (.iload 5, 2) := by decide +kernel
theorem dX10_most_154 : decode cX10_most 154 = .ok (.iaload, 1) := by decide +kernel
theorem dX10_most_155 : decode cX10_most 155 = .ok (.aload_n 0, 1) := by decide +kernel
theorem dX10_most_156 : decode cX10_most 156 = .ok (.iload_n 2, 1) := by decide +kernel
theorem dX10_most_157 : decode cX10_most 157 = .ok (.iload 4, 2) := by decide +kernel
theorem dX10_most_159 : decode cX10_most 159 = .ok (.invokevirtual 209, 3) := by decide +kernel
theorem dX10_most_162 : decode cX10_most 162 = .ok (.iadd, 1) := by decide +kernel
theorem dX10_most_163 : decode cX10_most 163 = .ok (.istore 6, 2) := by decide +kernel
theorem dX10_most_165 : decode cX10_most 165 = .ok (.aload_n 0, 1) := by decide +kernel
theorem dX10_most_166 : decode cX10_most 166 = .ok (.getfield 96, 3) := by decide +kernel
theorem dX10_most_169 : decode cX10_most 169 = .ok (.iload_n 3, 1) := by decide +kernel
theorem dX10_most_170 : decode cX10_most 170 = .ok (.iload 6, 2) := by decide +kernel
theorem dX10_most_172 : decode cX10_most 172 = .ok (.aload_n 0, 1) := by decide +kernel
theorem dX10_most_173 : decode cX10_most 173 = .ok (.getfield 96, 3) := by decide +kernel
theorem dX10_most_176 : decode cX10_most 176 = .ok (.iload_n 3, 1) := by decide +kernel
theorem dX10_most_177 : decode cX10_most 177 = .ok (.iaload, 1) := by decide +kernel
theorem dX10_most_178 : decode cX10_most 178 = .ok (.if_icmp .le 8, 3) := by decide +kernel
theorem dX10_most_181 : decode cX10_most 181 = .ok (.iload 6, 2) := by decide +kernel
theorem dX10_most_183 : decode cX10_most 183 = .ok (.goto 9, 3) := by decide +kernel
theorem dX10_most_186 : decode cX10_most 186 = .ok (.aload_n 0, 1) := by decide +kernel
theorem dX10_most_187 : decode cX10_most 187 = .ok (.getfield 96, 3) := by decide +kernel
theorem dX10_most_190 : decode cX10_most 190 = .ok (.iload_n 3, 1) := by decide +kernel
theorem dX10_most_191 : decode cX10_most 191 = .ok (.iaload, 1) := by decide +kernel
theorem dX10_most_192 : decode cX10_most 192 = .ok (.iastore, 1) := by decide +kernel
theorem dX10_most_193 : decode cX10_most 193 = .ok (.iinc 4 1, 3) := by decide +kernel
theorem dX10_most_196 : decode cX10_most 196 = .ok (.goto (-87), 3) := by decide +kernel
theorem dX10_most_199 : decode cX10_most 199 = .ok (.iinc 3 1, 3) := by decide +kernel
theorem dX10_most_202 : decode cX10_most 202 = .ok (.goto (-114), 3) := by decide +kernel
theorem dX10_most_205 : decode cX10_most 205 = .ok (.iconst 0, 1) := by decide +kernel
theorem dX10_most_206 : decode cX10_most 206 = .ok (.istore_n 3, 1) := by decide +kernel
theorem dX10_most_207 : decode cX10_most 207 = .ok (.iload_n 3, 1) := by decide +kernel
theorem dX10_most_208 : decode cX10_most 208 = .ok (.bipush 64, 2) := by decide +kernel
theorem dX10_most_210 : decode cX10_most 210 = .ok (.if_icmp .ge 21, 3) := by decide +kernel
theorem dX10_most_213 : decode cX10_most 213 = .ok (.aload_n 0, 1) := by decide +kernel
theorem dX10_most_214 : decode cX10_most 214 = .ok (.getfield 93, 3) := by decide +kernel
theorem dX10_most_217 : decode cX10_most 217 = .ok (.iload_n 3, 1) := by decide +kernel
theorem dX10_most_218 : decode cX10_most 218 = .ok (.aload_n 0, 1) := by decide +kernel
theorem dX10_most_219 : decode cX10_most 219 = .ok (.getfield 96, 3) := by decide +kernel
theorem dX10_most_222 : decode cX10_most 222 = .ok (.iload_n 3, 1) := by decide +kernel
theorem dX10_most_223 : decode cX10_most 223 = .ok (.iaload, 1) := by decide +kernel
theorem dX10_most_224 : decode cX10_most 224 = .ok (.iastore, 1) := by decide +kernel
theorem dX10_most_225 : decode cX10_most 225 = .ok (.iinc 3 1, 3) := by decide +kernel
theorem dX10_most_228 : decode cX10_most 228 = .ok (.goto (-21), 3) := by decide +kernel
theorem dX10_most_231 : decode cX10_most 231 = .ok (.iinc 2 1, 3) := by decide +kernel
theorem dX10_most_234 : decode cX10_most 234 = .ok (.goto (-156), 3) := by decide +kernel
theorem dX10_most_237 : decode cX10_most 237 = .ok (.aload_n 0, 1) := by decide +kernel
theorem dX10_most_238 : decode cX10_most 238 = .ok (.getfield 93, 3) := by decide +kernel
theorem dX10_most_241 : decode cX10_most 241 = .ok (.iload_n 1, 1) := by decide +kernel
theorem dX10_most_242 : decode cX10_most 242 = .ok (.iaload, 1) := by decide +kernel
theorem dX10_most_243 : decode cX10_most 243 = .ok (.ireturn, 1) := by decide +kernel
theorem dX10_swapSits_0 : decode cX10_swapSits 0 = .ok (.aload_n 0, 1) := by decide +kernel
theorem dX10_swapSits_1 : decode cX10_swapSits 1 = .ok (.getfield 64, 3) := by decide +kernel
theorem dX10_swapSits_4 : decode cX10_swapSits 4 = .ok (.iload_n 1, 1) := by decide +kernel
theorem dX10_swapSits_5 : decode cX10_swapSits 5 = .ok (.iaload, 1) := by decide +kernel
theorem dX10_swapSits_6 : decode cX10_swapSits 6 = .ok (.istore_n 3, 1) := by decide +kernel
theorem dX10_swapSits_7 : decode cX10_swapSits 7 = .ok (.aload_n 0, 1) := by decide +kernel
theorem dX10_swapSits_8 : decode cX10_swapSits 8 = .ok (.getfield 64, 3) := by decide +kernel
theorem dX10_swapSits_11 : decode cX10_swapSits 11 = .ok (.iload_n 1, 1) := by decide +kernel
theorem dX10_swapSits_12 : decode cX10_swapSits 12 = .ok (.aload_n 0, 1) := by decide +kernel
theorem dX10_swapSits_13 : decode cX10_swapSits 13 = .ok (.getfield 64, 3) := by decide +kernel
theorem dX10_swapSits_16 : decode cX10_swapSits 16 = .ok (.iload_n 2, 1) := by decide +kernel
theorem dX10_swapSits_17 : decode cX10_swapSits 17 = .ok (.iaload, 1) := by decide +kernel
theorem dX10_swapSits_18 : decode cX10_swapSits 18 = .ok (.iastore, 1) := by decide +kernel
theorem dX10_swapSits_19 : decode cX10_swapSits 19 = .ok (.aload_n 0, 1) := by decide +kernel
theorem dX10_swapSits_20 : decode cX10_swapSits 20 = .ok (.getfield 64, 3) := by decide +kernel
theorem dX10_swapSits_23 : decode cX10_swapSits 23 = .ok (.iload_n 2, 1) := by decide +kernel
theorem dX10_swapSits_24 : decode cX10_swapSits 24 = .ok (.iload_n 3, 1) := by decide +kernel
theorem dX10_swapSits_25 : decode cX10_swapSits 25 = .ok (.iastore, 1) := by decide +kernel
theorem dX10_swapSits_26 : decode cX10_swapSits 26 = .ok (.aload_n 0, 1) := by decide +kernel
theorem dX10_swapSits_27 : decode cX10_swapSits 27 = .ok (.getfield 67, 3) := by decide +kernel
theorem dX10_swapSits_30 : decode cX10_swapSits 30 = .ok (.iload_n 1, 1) := by decide +kernel
theorem dX10_swapSits_31 : decode cX10_swapSits 31 = .ok (.iaload, 1) := by decide +kernel
theorem dX10_swapSits_32 : decode cX10_swapSits 32 = .ok (.istore 4, 2) := by decide +kernel
theorem dX10_swapSits_34 : decode cX10_swapSits 34 = .ok (.aload_n 0, 1) := by decide +kernel
theorem dX10_swapSits_35 : decode cX10_swapSits 35 = .ok (.getfield 67, 3) := by decide +kernel
theorem dX10_swapSits_38 : decode cX10_swapSits 38 = .ok (.iload_n 1, 1) := by decide +kernel
theorem dX10_swapSits_39 : decode cX10_swapSits 39 = .ok (.aload_n 0, 1) := by decide +kernel
theorem dX10_swapSits_40 : decode cX10_swapSits 40 = .ok (.getfield 67, 3) := by decide +kernel
theorem dX10_swapSits_43 : decode cX10_swapSits 43 = .ok (.iload_n 2, 1) := by decide +kernel
theorem dX10_swapSits_44 : decode cX10_swapSits 44 = .ok (.iaload, 1) := by decide +kernel
theorem dX10_swapSits_45 : decode cX10_swapSits 45 = .ok (.iastore, 1) := by decide +kernel
theorem dX10_swapSits_46 : decode cX10_swapSits 46 = .ok (.aload_n 0, 1) := by decide +kernel
theorem dX10_swapSits_47 : decode cX10_swapSits 47 = .ok (.getfield 67, 3) := by decide +kernel
theorem dX10_swapSits_50 : decode cX10_swapSits 50 = .ok (.iload_n 2, 1) := by decide +kernel
theorem dX10_swapSits_51 : decode cX10_swapSits 51 = .ok (.iload 4, 2) := by decide +kernel
theorem dX10_swapSits_53 : decode cX10_swapSits 53 = .ok (.iastore, 1) := by decide +kernel
theorem dX10_swapSits_54 : decode cX10_swapSits 54 = .ok (.iconst 0, 1) := by decide +kernel
theorem dX10_swapSits_55 : decode cX10_swapSits 55 = .ok (.istore 5, 2) := by decide +kernel
theorem dX10_swapSits_57 : decode cX10_swapSits 57 = .ok (.iload 5, 2) := by decide +kernel
theorem dX10_swapSits_59 : decode cX10_swapSits 59 = .ok (.bipush 6, 2) := by decide +kernel
theorem dX10_swapSits_61 : decode cX10_swapSits 61 = .ok (.if_icmp .ge 61, 3) := by decide +kernel
theorem dX10_swapSits_64 : decode cX10_swapSits 64 = .ok (.aload_n 0, 1) := by decide +kernel
theorem dX10_swapSits_65 : decode cX10_swapSits 65 = .ok (.getfield 70, 3) := by decide +kernel
theorem dX10_swapSits_68 : decode cX10_swapSits 68 = .ok (.bipush 6, 2) := by decide +kernel
theorem dX10_swapSits_70 : decode cX10_swapSits 70 = .ok (.iload_n 1, 1) := by decide +kernel
theorem dX10_swapSits_71 : decode cX10_swapSits 71 = .ok (.imul, 1) := by decide +kernel
theorem dX10_swapSits_72 : decode cX10_swapSits 72 = .ok (.iload 5, 2) := by decide +kernel
theorem dX10_swapSits_74 : decode cX10_swapSits 74 = .ok (.iadd, 1) := by decide +kernel
theorem dX10_swapSits_75 : decode cX10_swapSits 75 = .ok (.iaload, 1) := by decide +kernel
theorem dX10_swapSits_76 : decode cX10_swapSits 76 = .ok (.istore 6, 2) := by decide +kernel
theorem dX10_swapSits_78 : decode cX10_swapSits 78 = .ok (.aload_n 0, 1) := by decide +kernel
theorem dX10_swapSits_79 : decode cX10_swapSits 79 = .ok (.getfield 70, 3) := by decide +kernel
theorem dX10_swapSits_82 : decode cX10_swapSits 82 = .ok (.bipush 6, 2) := by decide +kernel
theorem dX10_swapSits_84 : decode cX10_swapSits 84 = .ok (.iload_n 1, 1) := by decide +kernel
theorem dX10_swapSits_85 : decode cX10_swapSits 85 = .ok (.imul, 1) := by decide +kernel
theorem dX10_swapSits_86 : decode cX10_swapSits 86 = .ok (.iload 5, 2) := by decide +kernel
theorem dX10_swapSits_88 : decode cX10_swapSits 88 = .ok (.iadd, 1) := by decide +kernel
theorem dX10_swapSits_89 : decode cX10_swapSits 89 = .ok (.aload_n 0, 1) := by decide +kernel
theorem dX10_swapSits_90 : decode cX10_swapSits 90 = .ok (.getfield 70, 3) := by decide +kernel
theorem dX10_swapSits_93 : decode cX10_swapSits 93 = .ok (.bipush 6, 2) := by decide +kernel
theorem dX10_swapSits_95 : decode cX10_swapSits 95 = .ok (.iload_n 2, 1) := by decide +kernel
theorem dX10_swapSits_96 : decode cX10_swapSits 96 = .ok (.imul, 1) := by decide +kernel
theorem dX10_swapSits_97 : decode cX10_swapSits 97 = .ok (.iload 5, 2) := by decide +kernel
theorem dX10_swapSits_99 : decode cX10_swapSits 99 = .ok (.iadd, 1) := by decide +kernel
theorem dX10_swapSits_100 : decode cX10_swapSits 100 = .ok (.iaload, 1) := by decide +kernel
theorem dX10_swapSits_101 : decode cX10_swapSits 101 = .ok (.iastore, 1) := by decide +kernel
theorem dX10_swapSits_102 : decode cX10_swapSits 102 = .ok (.aload_n 0, 1) := by decide +kernel
theorem dX10_swapSits_103 : decode cX10_swapSits 103 = .ok (.getfield 70, 3) := by decide +kernel
theorem dX10_swapSits_106 : decode cX10_swapSits 106 = .ok (.bipush 6, 2) := by decide +kernel
theorem dX10_swapSits_108 : decode cX10_swapSits 108 = .ok (.iload_n 2, 1) := by decide +kernel
theorem dX10_swapSits_109 : decode cX10_swapSits 109 = .ok (.imul, 1) := by decide +kernel
theorem dX10_swapSits_110 : decode cX10_swapSits 110 = .ok (.iload 5, 2) := by decide +kernel
theorem dX10_swapSits_112 : decode cX10_swapSits 112 = .ok (.iadd, 1) := by decide +kernel
theorem dX10_swapSits_113 : decode cX10_swapSits 113 = .ok (.iload 6, 2) := by decide +kernel
theorem dX10_swapSits_115 : decode cX10_swapSits 115 = .ok (.iastore, 1) := by decide +kernel
theorem dX10_swapSits_116 : decode cX10_swapSits 116 = .ok (.iinc 5 1, 3) := by decide +kernel
theorem dX10_swapSits_119 : decode cX10_swapSits 119 = .ok (.goto (-62), 3) := by decide +kernel
theorem dX10_swapSits_122 : decode cX10_swapSits 122 = .ok (.return_, 1) := by decide +kernel
theorem dX10_seats_0 : decode cX10_seats 0 = .ok (.aload_n 0, 1) := by decide +kernel
theorem dX10_seats_1 : decode cX10_seats 1 = .ok (.invokevirtual 220, 3) := by decide +kernel
theorem dX10_seats_4 : decode cX10_seats 4 = .ok (.aload_n 0, 1) := by decide +kernel
theorem dX10_seats_5 : decode cX10_seats 5 = .ok (.invokevirtual 281, 3) := by decide +kernel
theorem dX10_seats_8 : decode cX10_seats 8 = .ok (.istore_n 1, 1) := by decide +kernel
theorem dX10_seats_9 : decode cX10_seats 9 = .ok (.bipush (-4), 2) := by decide +kernel
theorem dX10_seats_11 : decode cX10_seats 11 = .ok (.istore_n 2, 1) := by decide +kernel
theorem dX10_seats_12 : decode cX10_seats 12 = .ok (.iconst 0, 1) := by decide +kernel
theorem dX10_seats_13 : decode cX10_seats 13 = .ok (.istore_n 3, 1) := by decide +kernel
theorem dX10_seats_14 : decode cX10_seats 14 = .ok (.iload_n 3, 1) := by decide +kernel
theorem dX10_seats_15 : decode cX10_seats 15 = .ok (.aload_n 0, 1) := by decide +kernel
theorem dX10_seats_16 : decode cX10_seats 16 = .ok (.getfield 116, 3) := by decide +kernel
theorem dX10_seats_19 : decode cX10_seats 19 = .ok (.if_icmp .ge 76, 3) := by decide +kernel
theorem dX10_seats_22 : decode cX10_seats 22 = .ok (.iload_n 3, 1) := by decide +kernel
theorem dX10_seats_23 : decode cX10_seats 23 = .ok (.iconst 1, 1) := by decide +kernel
theorem dX10_seats_24 : decode cX10_seats 24 = .ok (.iadd, 1) := by decide +kernel
theorem dX10_seats_25 : decode cX10_seats 25 = .ok (.istore 4, 2) := by decide +kernel
theorem dX10_seats_27 : decode cX10_seats 27 = .ok (.iload 4, 2) := by decide +kernel
theorem dX10_seats_29 : decode cX10_seats 29 = .ok (.aload_n 0, 1) := by decide +kernel
theorem dX10_seats_30 : decode cX10_seats 30 = .ok (.getfield 116, 3) := by decide +kernel
theorem dX10_seats_33 : decode cX10_seats 33 = .ok (.if_icmp .ge 56, 3) := by decide +kernel
theorem dX10_seats_36 : decode cX10_seats 36 = .ok (.aload_n 0, 1) := by decide +kernel
theorem dX10_seats_37 : decode cX10_seats 37 = .ok (.invokevirtual 220, 3) := by decide +kernel
theorem dX10_seats_40 : decode cX10_seats 40 = .ok (.aload_n 0, 1) := by decide +kernel
theorem dX10_seats_41 : decode cX10_seats 41 = .ok (.iload_n 3, 1) := by decide +kernel
theorem dX10_seats_42 : decode cX10_seats 42 = .ok (.iload 4, 2) := by decide +kernel
theorem dX10_seats_44 : decode cX10_seats 44 = .ok (.invokevirtual 299, 3) := by decide +kernel
theorem dX10_seats_47 : decode cX10_seats 47 = .ok (.aload_n 0, 1) := by decide +kernel
theorem dX10_seats_48 : decode cX10_seats 48 = .ok (.invokevirtual 281, 3) := by decide +kernel
theorem dX10_seats_51 : decode cX10_seats 51 = .ok (.istore 5, 2) := by decide +kernel
theorem dX10_seats_53 : decode cX10_seats 53 = .ok (.iload 5, 2) := by decide +kernel
theorem dX10_seats_55 : decode cX10_seats 55 = .ok (.bipush (-4), 2) := by decide +kernel
theorem dX10_seats_57 : decode cX10_seats 57 = .ok (.if_icmp .eq 26, 3) := by decide +kernel
theorem dX10_seats_60 : decode cX10_seats 60 = .ok (.iload_n 1, 1) := by decide +kernel
theorem dX10_seats_61 : decode cX10_seats 61 = .ok (.bipush (-4), 2) := by decide +kernel
theorem dX10_seats_63 : decode cX10_seats 63 = .ok (.if_icmp .eq 9, 3) := by decide +kernel
theorem dX10_seats_66 : decode cX10_seats 66 = .ok (.iload 5, 2) := by decide +kernel
theorem dX10_seats_68 : decode cX10_seats 68 = .ok (.iload_n 1, 1) := by decide +kernel
theorem dX10_seats_69 : decode cX10_seats 69 = .ok (.if_icmp .ge 14, 3) := by decide +kernel
theorem dX10_seats_72 : decode cX10_seats 72 = .ok (.iload 5, 2) := by decide +kernel
theorem dX10_seats_74 : decode cX10_seats 74 = .ok (.istore_n 1, 1) := by decide +kernel
theorem dX10_seats_75 : decode cX10_seats 75 = .ok (.bipush 10, 2) := by decide +kernel
theorem dX10_seats_77 : decode cX10_seats 77 = .ok (.iload_n 3, 1) := by decide +kernel
theorem dX10_seats_78 : decode cX10_seats 78 = .ok (.imul, 1) := by decide +kernel
theorem dX10_seats_79 : decode cX10_seats 79 = .ok (.iload 4, 2) := by decide +kernel
theorem dX10_seats_81 : decode cX10_seats 81 = .ok (.iadd, 1) := by decide +kernel
theorem dX10_seats_82 : decode cX10_seats 82 = .ok (.istore_n 2, 1) := by decide +kernel
theorem dX10_seats_83 : decode cX10_seats 83 = .ok (.iinc 4 1, 3) := by decide +kernel
theorem dX10_seats_86 : decode cX10_seats 86 = .ok (.goto (-59), 3) := by decide +kernel
theorem dX10_seats_89 : decode cX10_seats 89 = .ok (.iinc 3 1, 3) := by decide +kernel
theorem dX10_seats_92 : decode cX10_seats 92 = .ok (.goto (-78), 3) := by decide +kernel
theorem dX10_seats_95 : decode cX10_seats 95 = .ok (.iload_n 2, 1) := by decide +kernel
theorem dX10_seats_96 : decode cX10_seats 96 = .ok (.ireturn, 1) := by decide +kernel
theorem dX10_waysOn_0 : decode cX10_waysOn 0 = .ok (.iconst 0, 1) := by decide +kernel
theorem dX10_waysOn_1 : decode cX10_waysOn 1 = .ok (.istore_n 1, 1) := by decide +kernel
theorem dX10_waysOn_2 : decode cX10_waysOn 2 = .ok (.iload_n 1, 1) := by decide +kernel
theorem dX10_waysOn_3 : decode cX10_waysOn 3 = .ok (.aload_n 0, 1) := by decide +kernel
theorem dX10_waysOn_4 : decode cX10_waysOn 4 = .ok (.getfield 250, 3) := by decide +kernel
theorem dX10_waysOn_7 : decode cX10_waysOn 7 = .ok (.if_icmp .ge 16, 3) := by decide +kernel
theorem dX10_waysOn_10 : decode cX10_waysOn 10 = .ok (.aload_n 0, 1) := by decide +kernel
theorem dX10_waysOn_11 : decode cX10_waysOn 11 = .ok (.getfield 103, 3) := by decide +kernel
theorem dX10_waysOn_14 : decode cX10_waysOn 14 = .ok (.iload_n 1, 1) := by decide +kernel
theorem dX10_waysOn_15 : decode cX10_waysOn 15 = .ok (.lconst 0, 1) := by decide +kernel
theorem dX10_waysOn_16 : decode cX10_waysOn 16 = .ok (.lastore, 1) := by decide +kernel
theorem dX10_waysOn_17 : decode cX10_waysOn 17 = .ok (.iinc 1 1, 3) := by decide +kernel
theorem dX10_waysOn_20 : decode cX10_waysOn 20 = .ok (.goto (-18), 3) := by decide +kernel
theorem dX10_waysOn_23 : decode cX10_waysOn 23 = .ok (.iconst 0, 1) := by decide +kernel
theorem dX10_waysOn_24 : decode cX10_waysOn 24 = .ok (.istore_n 1, 1) := by decide +kernel
theorem dX10_waysOn_25 : decode cX10_waysOn 25 = .ok (.iload_n 1, 1) := by decide +kernel
theorem dX10_waysOn_26 : decode cX10_waysOn 26 = .ok (.aload_n 0, 1) := by decide +kernel
theorem dX10_waysOn_27 : decode cX10_waysOn 27 = .ok (.getfield 250, 3) := by decide +kernel
theorem dX10_waysOn_30 : decode cX10_waysOn 30 = .ok (.if_icmp .ge 97, 3) := by decide +kernel
theorem dX10_waysOn_33 : decode cX10_waysOn 33 = .ok (.iconst 0, 1) := by decide +kernel
theorem dX10_waysOn_34 : decode cX10_waysOn 34 = .ok (.istore_n 2, 1) := by decide +kernel
theorem dX10_waysOn_35 : decode cX10_waysOn 35 = .ok (.iload_n 2, 1) := by decide +kernel
theorem dX10_waysOn_36 : decode cX10_waysOn 36 = .ok (.aload_n 0, 1) := by decide +kernel
theorem dX10_waysOn_37 : decode cX10_waysOn 37 = .ok (.getfield 116, 3) := by decide +kernel
theorem dX10_waysOn_40 : decode cX10_waysOn 40 = .ok (.aload_n 0, 1) := by decide +kernel
theorem dX10_waysOn_41 : decode cX10_waysOn 41 = .ok (.getfield 116, 3) := by decide +kernel
theorem dX10_waysOn_44 : decode cX10_waysOn 44 = .ok (.imul, 1) := by decide +kernel
theorem dX10_waysOn_45 : decode cX10_waysOn 45 = .ok (.if_icmp .ge 76, 3) := by decide +kernel
theorem dX10_waysOn_48 : decode cX10_waysOn 48 = .ok (.aload_n 0, 1) := by decide +kernel
theorem dX10_waysOn_49 : decode cX10_waysOn 49 = .ok (.aload_n 0, 1) := by decide +kernel
theorem dX10_waysOn_50 : decode cX10_waysOn 50 = .ok (.getfield 77, 3) := by decide +kernel
theorem dX10_waysOn_53 : decode cX10_waysOn 53 = .ok (.iload_n 1, 1) := by decide +kernel
theorem dX10_waysOn_54 : decode cX10_waysOn 54 = .ok (.iaload, 1) := by decide +kernel
theorem dX10_waysOn_55 : decode cX10_waysOn 55 = .ok (.invokevirtual 263, 3) := by decide +kernel
theorem dX10_waysOn_58 : decode cX10_waysOn 58 = .ok (.aload_n 0, 1) := by decide +kernel
theorem dX10_waysOn_59 : decode cX10_waysOn 59 = .ok (.iload_n 2, 1) := by decide +kernel
theorem dX10_waysOn_60 : decode cX10_waysOn 60 = .ok (.aload_n 0, 1) := by decide +kernel
theorem dX10_waysOn_61 : decode cX10_waysOn 61 = .ok (.getfield 116, 3) := by decide +kernel
theorem dX10_waysOn_64 : decode cX10_waysOn 64 = .ok (.idiv, 1) := by decide +kernel
theorem dX10_waysOn_65 : decode cX10_waysOn 65 = .ok (.iload_n 2, 1) := by decide +kernel
theorem dX10_waysOn_66 : decode cX10_waysOn 66 = .ok (.aload_n 0, 1) := by decide +kernel
theorem dX10_waysOn_67 : decode cX10_waysOn 67 = .ok (.getfield 116, 3) := by decide +kernel
theorem dX10_waysOn_70 : decode cX10_waysOn 70 = .ok (.irem, 1) := by decide +kernel
theorem dX10_waysOn_71 : decode cX10_waysOn 71 = .ok (.invokevirtual 223, 3) := by decide +kernel
theorem dX10_waysOn_74 : decode cX10_waysOn 74 = .ok (.ifCond .eq 41, 3) := by decide +kernel
theorem dX10_waysOn_77 : decode cX10_waysOn 77 = .ok (.aload_n 0, 1) := by decide +kernel
theorem dX10_waysOn_78 : decode cX10_waysOn 78 = .ok (.iload_n 2, 1) := by decide +kernel
theorem dX10_waysOn_79 : decode cX10_waysOn 79 = .ok (.aload_n 0, 1) := by decide +kernel
theorem dX10_waysOn_80 : decode cX10_waysOn 80 = .ok (.getfield 116, 3) := by decide +kernel
theorem dX10_waysOn_83 : decode cX10_waysOn 83 = .ok (.idiv, 1) := by decide +kernel
theorem dX10_waysOn_84 : decode cX10_waysOn 84 = .ok (.iload_n 2, 1) := by decide +kernel
theorem dX10_waysOn_85 : decode cX10_waysOn 85 = .ok (.aload_n 0, 1) := by decide +kernel
theorem dX10_waysOn_86 : decode cX10_waysOn 86 = .ok (.getfield 116, 3) := by decide +kernel
theorem dX10_waysOn_89 : decode cX10_waysOn 89 = .ok (.irem, 1) := by decide +kernel
theorem dX10_waysOn_90 : decode cX10_waysOn 90 = .ok (.invokevirtual 230, 3) := by decide +kernel
theorem dX10_waysOn_93 : decode cX10_waysOn 93 = .ok (.aload_n 0, 1) := by decide +kernel
theorem dX10_waysOn_94 : decode cX10_waysOn 94 = .ok (.getfield 103, 3) := by decide +kernel
theorem dX10_waysOn_97 : decode cX10_waysOn 97 = .ok (.aload_n 0, 1) := by decide +kernel
theorem dX10_waysOn_98 : decode cX10_waysOn 98 = .ok (.aload_n 0, 1) := by decide +kernel
theorem dX10_waysOn_99 : decode cX10_waysOn 99 = .ok (.invokevirtual 253, 3) := by decide +kernel
theorem dX10_waysOn_102 : decode cX10_waysOn 102 = .ok (.invokevirtual 269, 3) := by decide +kernel
theorem dX10_waysOn_105 : decode cX10_waysOn 105 = .ok (.dup2, 1) := by decide +kernel
theorem dX10_waysOn_106 : decode cX10_waysOn 106 = .ok (.laload, 1) := by decide +kernel
theorem dX10_waysOn_107 : decode cX10_waysOn 107 = .ok (.aload_n 0, 1) := by decide +kernel
theorem dX10_waysOn_108 : decode cX10_waysOn 108 = .ok (.getfield 99, 3) := by decide +kernel
theorem dX10_waysOn_111 : decode cX10_waysOn 111 = .ok (.iload_n 1, 1) := by decide +kernel
theorem dX10_waysOn_112 : decode cX10_waysOn 112 = .ok (.laload, 1) := by decide +kernel
theorem dX10_waysOn_113 : decode cX10_waysOn 113 = .ok (.ladd, 1) := by decide +kernel
theorem dX10_waysOn_114 : decode cX10_waysOn 114 = .ok (.lastore, 1) := by decide +kernel
theorem dX10_waysOn_115 : decode cX10_waysOn 115 = .ok (.iinc 2 1, 3) := by decide +kernel
theorem dX10_waysOn_118 : decode cX10_waysOn 118 = .ok (.goto (-83), 3) := by decide +kernel
theorem dX10_waysOn_121 : decode cX10_waysOn 121 = .ok (.iinc 1 1, 3) := by decide +kernel
theorem dX10_waysOn_124 : decode cX10_waysOn 124 = .ok (.goto (-99), 3) := by decide +kernel
theorem dX10_waysOn_127 : decode cX10_waysOn 127 = .ok (.iconst 0, 1) := by decide +kernel
theorem dX10_waysOn_128 : decode cX10_waysOn 128 = .ok (.istore_n 1, 1) := by decide +kernel
theorem dX10_waysOn_129 : decode cX10_waysOn 129 = .ok (.iload_n 1, 1) := by decide +kernel
theorem dX10_waysOn_130 : decode cX10_waysOn 130 = .ok (.aload_n 0, 1) := by decide +kernel
theorem dX10_waysOn_131 : decode cX10_waysOn 131 = .ok (.getfield 250, 3) := by decide +kernel
theorem dX10_waysOn_134 : decode cX10_waysOn 134 = .ok (.if_icmp .ge 21, 3) := by decide +kernel
theorem dX10_waysOn_137 : decode cX10_waysOn 137 = .ok (.aload_n 0, 1) := by decide +kernel
theorem dX10_waysOn_138 : decode cX10_waysOn 138 = .ok (.getfield 99, 3) := by decide +kernel
theorem dX10_waysOn_141 : decode cX10_waysOn 141 = .ok (.iload_n 1, 1) := by decide +kernel
theorem dX10_waysOn_142 : decode cX10_waysOn 142 = .ok (.aload_n 0, 1) := by decide +kernel
theorem dX10_waysOn_143 : decode cX10_waysOn 143 = .ok (.getfield 103, 3) := by decide +kernel
theorem dX10_waysOn_146 : decode cX10_waysOn 146 = .ok (.iload_n 1, 1) := by decide +kernel
theorem dX10_waysOn_147 : decode cX10_waysOn 147 = .ok (.laload, 1) := by decide +kernel
theorem dX10_waysOn_148 : decode cX10_waysOn 148 = .ok (.lastore, 1) := by decide +kernel
theorem dX10_waysOn_149 : decode cX10_waysOn 149 = .ok (.iinc 1 1, 3) := by decide +kernel
theorem dX10_waysOn_152 : decode cX10_waysOn 152 = .ok (.goto (-23), 3) := by decide +kernel
theorem dX10_waysOn_155 : decode cX10_waysOn 155 = .ok (.return_, 1) := by decide +kernel
theorem dX10_went_0 : decode cX10_went 0 = .ok (.iload_n 1, 1) := by decide +kernel
theorem dX10_went_1 : decode cX10_went 1 = .ok (.iconst 0, 1) := by decide +kernel
theorem dX10_went_2 : decode cX10_went 2 = .ok (.bipush 8, 2) := by decide +kernel
theorem dX10_went_4 : decode cX10_went 4 = .ok (.invokestatic 119, 3) := by decide +kernel
theorem dX10_went_7 : decode cX10_went 7 = .ok (.ifCond .ne 7, 3) := by decide +kernel
theorem dX10_went_10 : decode cX10_went 10 = .ok (.ldc2_w 302, 3) := by decide +kernel
theorem dX10_went_13 : decode cX10_went 13 = .ok (.lreturn, 1) := by decide +kernel
theorem dX10_went_14 : decode cX10_went 14 = .ok (.aload_n 0, 1) := by decide +kernel
theorem dX10_went_15 : decode cX10_went 15 = .ok (.invokevirtual 220, 3) := by decide +kernel
theorem dX10_went_18 : decode cX10_went 18 = .ok (.aload_n 0, 1) := by decide +kernel
theorem dX10_went_19 : decode cX10_went 19 = .ok (.invokevirtual 253, 3) := by decide +kernel
theorem dX10_went_22 : decode cX10_went 22 = .ok (.istore_n 2, 1) := by decide +kernel
theorem dX10_went_23 : decode cX10_went 23 = .ok (.iconst 0, 1) := by decide +kernel
theorem dX10_went_24 : decode cX10_went 24 = .ok (.istore_n 3, 1) := by decide +kernel
theorem dX10_went_25 : decode cX10_went 25 = .ok (.iload_n 3, 1) := by decide +kernel
theorem dX10_went_26 : decode cX10_went 26 = .ok (.aload_n 0, 1) := by decide +kernel
theorem dX10_went_27 : decode cX10_went 27 = .ok (.getfield 116, 3) := by decide +kernel
theorem dX10_went_30 : decode cX10_went 30 = .ok (.if_icmp .ge 21, 3) := by decide +kernel
theorem dX10_went_33 : decode cX10_went 33 = .ok (.aload_n 0, 1) := by decide +kernel
theorem dX10_went_34 : decode cX10_went 34 = .ok (.getfield 61, 3) := by decide +kernel
theorem dX10_went_37 : decode cX10_went 37 = .ok (.iload_n 3, 1) := by decide +kernel
theorem dX10_went_38 : decode cX10_went 38 = .ok (.aload_n 0, 1) := by decide +kernel
theorem dX10_went_39 : decode cX10_went 39 = .ok (.getfield 19, 3) := by decide +kernel
theorem dX10_went_42 : decode cX10_went 42 = .ok (.iload_n 3, 1) := by decide +kernel
theorem dX10_went_43 : decode cX10_went 43 = .ok (.iaload, 1) := by decide +kernel
theorem dX10_went_44 : decode cX10_went 44 = .ok (.iastore, 1) := by decide +kernel
theorem dX10_went_45 : decode cX10_went 45 = .ok (.iinc 3 1, 3) := by decide +kernel
theorem dX10_went_48 : decode cX10_went 48 = .ok (.goto (-23), 3) := by decide +kernel
theorem dX10_went_51 : decode cX10_went 51 = .ok (.aload_n 0, 1) := by decide +kernel
theorem dX10_went_52 : decode cX10_went 52 = .ok (.invokevirtual 272, 3) := by decide +kernel
theorem dX10_went_55 : decode cX10_went 55 = .ok (.iconst 0, 1) := by decide +kernel
theorem dX10_went_56 : decode cX10_went 56 = .ok (.istore_n 3, 1) := by decide +kernel
theorem dX10_went_57 : decode cX10_went 57 = .ok (.iload_n 3, 1) := by decide +kernel
theorem dX10_went_58 : decode cX10_went 58 = .ok (.aload_n 0, 1) := by decide +kernel
theorem dX10_went_59 : decode cX10_went 59 = .ok (.getfield 250, 3) := by decide +kernel
theorem dX10_went_62 : decode cX10_went 62 = .ok (.if_icmp .ge 24, 3) := by decide +kernel
theorem dX10_went_65 : decode cX10_went 65 = .ok (.aload_n 0, 1) := by decide +kernel
theorem dX10_went_66 : decode cX10_went 66 = .ok (.getfield 99, 3) := by decide +kernel
theorem dX10_went_69 : decode cX10_went 69 = .ok (.iload_n 3, 1) := by decide +kernel
theorem dX10_went_70 : decode cX10_went 70 = .ok (.iload_n 3, 1) := by decide +kernel
theorem dX10_went_71 : decode cX10_went 71 = .ok (.ifCond .ne 7, 3) := by decide +kernel
theorem dX10_went_74 : decode cX10_went 74 = .ok (.lconst 1, 1) := by decide +kernel
theorem dX10_went_75 : decode cX10_went 75 = .ok (.goto 4, 3) := by decide +kernel
theorem dX10_went_78 : decode cX10_went 78 = .ok (.lconst 0, 1) := by decide +kernel
theorem dX10_went_79 : decode cX10_went 79 = .ok (.lastore, 1) := by decide +kernel
theorem dX10_went_80 : decode cX10_went 80 = .ok (.iinc 3 1, 3) := by decide +kernel
theorem dX10_went_83 : decode cX10_went 83 = .ok (.goto (-26), 3) := by decide +kernel
