theorem dX6_spreadPrice_13 : decode cX6_spreadPrice 13 = .ok (.if_icmp .ge 103, 3) := by decide +kernel
theorem dX6_spreadPrice_16 : decode cX6_spreadPrice 16 = .ok (.aload_n 0, 1) := by decide +kernel
theorem dX6_spreadPrice_17 : decode cX6_spreadPrice 17 = .ok (.getfield 22, 3) := by decide +kernel
theorem dX6_spreadPrice_20 : decode cX6_spreadPrice 20 = .ok (.iload_n 1, 1) := by decide +kernel
theorem dX6_spreadPrice_21 : decode cX6_spreadPrice 21 = .ok (.iload_n 3, 1) := by decide +kernel
theorem dX6_spreadPrice_22 : decode cX6_spreadPrice 22 = .ok (.invokevirtual 77, 3) := by decide +kernel
theorem dX6_spreadPrice_25 : decode cX6_spreadPrice 25 = .ok (.lstore 4, 2) := by decide +kernel
theorem dX6_spreadPrice_27 : decode cX6_spreadPrice 27 = .ok (.iconst 0, 1) := by decide +kernel
theorem dX6_spreadPrice_28 : decode cX6_spreadPrice 28 = .ok (.istore 6, 2) := by decide +kernel
theorem dX6_spreadPrice_30 : decode cX6_spreadPrice 30 = .ok (.iload 6, 2) := by decide +kernel
theorem dX6_spreadPrice_32 : decode cX6_spreadPrice 32 = .ok (.aload_n 0, 1) := by decide +kernel
theorem dX6_spreadPrice_33 : decode cX6_spreadPrice 33 = .ok (.getfield 22, 3) := by decide +kernel
theorem dX6_spreadPrice_36 : decode cX6_spreadPrice 36 = .ok (.getfield 53, 3) := by decide +kernel
theorem dX6_spreadPrice_39 : decode cX6_spreadPrice 39 = .ok (.getfield 74, 3) := by decide +kernel
theorem dX6_spreadPrice_42 : decode cX6_spreadPrice 42 = .ok (.if_icmp .ge 68, 3) := by decide +kernel
theorem dX6_spreadPrice_45 : decode cX6_spreadPrice 45 = .ok (.lload 4, 2) := by decide +kernel
theorem dX6_spreadPrice_47 : decode cX6_spreadPrice 47 = .ok (.iload 6, 2) := by decide +kernel
theorem dX6_spreadPrice_49 : decode cX6_spreadPrice 49 = .ok (.invokestatic 81, 3) := by decide +kernel
theorem dX6_spreadPrice_52 : decode cX6_spreadPrice 52 = .ok (.istore 7, 2) := by decide +kernel
theorem dX6_spreadPrice_54 : decode cX6_spreadPrice 54 = .ok (.iload_n 2, 1) := by decide +kernel
theorem dX6_spreadPrice_55 : decode cX6_spreadPrice 55 = .ok (.aload_n 0, 1) := by decide +kernel
theorem dX6_spreadPrice_56 : decode cX6_spreadPrice 56 = .ok (.getfield 22, 3) := by decide +kernel
theorem dX6_spreadPrice_59 : decode cX6_spreadPrice 59 = .ok (.getfield 53, 3) := by decide +kernel
theorem dX6_spreadPrice_62 : decode cX6_spreadPrice 62 = .ok (.iload_n 3, 1) := by decide +kernel
theorem dX6_spreadPrice_63 : decode cX6_spreadPrice 63 = .ok (.iload 6, 2) := by decide +kernel
theorem dX6_spreadPrice_65 : decode cX6_spreadPrice 65 = .ok (.invokevirtual 85, 3) := by decide +kernel
theorem dX6_spreadPrice_68 : decode cX6_spreadPrice 68 = .ok (.iadd, 1) := by decide +kernel
theorem dX6_spreadPrice_69 : decode cX6_spreadPrice 69 = .ok (.istore 8, 2) := by decide +kernel
theorem dX6_spreadPrice_71 : decode cX6_spreadPrice 71 = .ok (.iload 7, 2) := by decide +kernel
theorem dX6_spreadPrice_73 : decode cX6_spreadPrice 73 = .ok (.sipush 1023, 3) := by decide +kernel
theorem dX6_spreadPrice_76 : decode cX6_spreadPrice 76 = .ok (.if_icmp .eq 28, 3) := by decide +kernel
theorem dX6_spreadPrice_79 : decode cX6_spreadPrice 79 = .ok (.iload 8, 2) := by decide +kernel
theorem dX6_spreadPrice_81 : decode cX6_spreadPrice 81 = .ok (.aload_n 0, 1) := by decide +kernel
theorem dX6_spreadPrice_82 : decode cX6_spreadPrice 82 = .ok (.getfield 9, 3) := by decide +kernel
theorem dX6_spreadPrice_85 : decode cX6_spreadPrice 85 = .ok (.iload 7, 2) := by decide +kernel
theorem dX6_spreadPrice_87 : decode cX6_spreadPrice 87 = .ok (.invokestatic 66, 3) := by decide +kernel
theorem dX6_spreadPrice_90 : decode cX6_spreadPrice 90 = .ok (.if_icmp .ge 14, 3) := by decide +kernel
theorem dX6_spreadPrice_93 : decode cX6_spreadPrice 93 = .ok (.aload_n 0, 1) := by decide +kernel
theorem dX6_spreadPrice_94 : decode cX6_spreadPrice 94 = .ok (.getfield 9, 3) := by decide +kernel
theorem dX6_spreadPrice_97 : decode cX6_spreadPrice 97 = .ok (.iload 7, 2) := by decide +kernel
theorem dX6_spreadPrice_99 : decode cX6_spreadPrice 99 = .ok (.iload 8, 2) := by decide +kernel
theorem dX6_spreadPrice_101 : decode cX6_spreadPrice 101 = .ok (.invokestatic 33, 3) := by decide +kernel
theorem dX6_spreadPrice_104 : decode cX6_spreadPrice 104 = .ok (.iinc 6 1, 3) := by decide +kernel
theorem dX6_spreadPrice_107 : decode cX6_spreadPrice 107 = .ok (.goto (-77), 3) := by decide +kernel
theorem dX6_spreadPrice_110 : decode cX6_spreadPrice 110 = .ok (.iinc 3 1, 3) := by decide +kernel
theorem dX6_spreadPrice_113 : decode cX6_spreadPrice 113 = .ok (.goto (-111), 3) := by decide +kernel
theorem dX6_spreadPrice_116 : decode cX6_spreadPrice 116 = .ok (.return_, 1) := by decide +kernel
theorem dX6_rowsBetween_0 : decode cX6_rowsBetween 0 = .ok (.iload_n 1, 1) := by decide +kernel
theorem dX6_rowsBetween_1 : decode cX6_rowsBetween 1 = .ok (.ifCond .lt 21, 3) := by decide +kernel
theorem dX6_rowsBetween_4 : decode cX6_rowsBetween 4 = .ok (.iload_n 1, 1) := by decide +kernel
theorem dX6_rowsBetween_5 : decode cX6_rowsBetween 5 = .ok (.sipush 720, 3) := by decide +kernel
theorem dX6_rowsBetween_8 : decode cX6_rowsBetween 8 = .ok (.if_icmp .ge 14, 3) := by decide +kernel
theorem dX6_rowsBetween_11 : decode cX6_rowsBetween 11 = .ok (.iload_n 2, 1) := by decide +kernel
theorem dX6_rowsBetween_12 : decode cX6_rowsBetween 12 = .ok (.ifCond .lt 10, 3) := by decide +kernel
theorem dX6_rowsBetween_15 : decode cX6_rowsBetween 15 = .ok (.iload_n 2, 1) := by decide +kernel
theorem dX6_rowsBetween_16 : decode cX6_rowsBetween 16 = .ok (.sipush 720, 3) := by decide +kernel
theorem dX6_rowsBetween_19 : decode cX6_rowsBetween 19 = .ok (.if_icmp .lt 5, 3) := by decide +kernel
theorem dX6_rowsBetween_22 : decode cX6_rowsBetween 22 = .ok (.lconst 0, 1) := by decide +kernel
theorem dX6_rowsBetween_23 : decode cX6_rowsBetween 23 = .ok (.lreturn, 1) := by decide +kernel
theorem dX6_rowsBetween_24 : decode cX6_rowsBetween 24 = .ok (.aload_n 0, 1) := by decide +kernel
theorem dX6_rowsBetween_25 : decode cX6_rowsBetween 25 = .ok (.getfield 15, 3) := by decide +kernel
theorem dX6_rowsBetween_28 : decode cX6_rowsBetween 28 = .ok (.lconst 0, 1) := by decide +kernel
theorem dX6_rowsBetween_29 : decode cX6_rowsBetween 29 = .ok (.invokestatic 88, 3) := by decide +kernel
theorem dX6_rowsBetween_32 : decode cX6_rowsBetween 32 = .ok (.aload_n 0, 1) := by decide +kernel
theorem dX6_rowsBetween_33 : decode cX6_rowsBetween 33 = .ok (.getfield 15, 3) := by decide +kernel
theorem dX6_rowsBetween_36 : decode cX6_rowsBetween 36 = .ok (.iload_n 1, 1) := by decide +kernel
theorem dX6_rowsBetween_37 : decode cX6_rowsBetween 37 = .ok (.lconst 1, 1) := by decide +kernel
theorem dX6_rowsBetween_38 : decode cX6_rowsBetween 38 = .ok (.lastore, 1) := by decide +kernel
theorem dX6_rowsBetween_39 : decode cX6_rowsBetween 39 = .ok (.iconst 0, 1) := by decide +kernel
theorem dX6_rowsBetween_40 : decode cX6_rowsBetween 40 = .ok (.istore 4, 2) := by decide +kernel
theorem dX6_rowsBetween_42 : decode cX6_rowsBetween 42 = .ok (.iload 4, 2) := by decide +kernel
theorem dX6_rowsBetween_44 : decode cX6_rowsBetween 44 = .ok (.iload_n 3, 1) := by decide +kernel
theorem dX6_rowsBetween_45 : decode cX6_rowsBetween 45 = .ok (.if_icmp .ge 79, 3) := by decide +kernel
theorem dX6_rowsBetween_48 : decode cX6_rowsBetween 48 = .ok (.aload_n 0, 1) := by decide +kernel
theorem dX6_rowsBetween_49 : decode cX6_rowsBetween 49 = .ok (.getfield 19, 3) := by decide +kernel
theorem dX6_rowsBetween_52 : decode cX6_rowsBetween 52 = .ok (.lconst 0, 1) := by decide +kernel
theorem dX6_rowsBetween_53 : decode cX6_rowsBetween 53 = .ok (.invokestatic 88, 3) := by decide +kernel
theorem dX6_rowsBetween_56 : decode cX6_rowsBetween 56 = .ok (.iconst 0, 1) := by decide +kernel
theorem dX6_rowsBetween_57 : decode cX6_rowsBetween 57 = .ok (.istore 5, 2) := by decide +kernel
theorem dX6_rowsBetween_59 : decode cX6_rowsBetween 59 = .ok (.iload 5, 2) := by decide +kernel
theorem dX6_rowsBetween_61 : decode cX6_rowsBetween 61 = .ok (.sipush 720, 3) := by decide +kernel
theorem dX6_rowsBetween_64 : decode cX6_rowsBetween 64 = .ok (.if_icmp .ge 34, 3) := by decide +kernel
theorem dX6_rowsBetween_67 : decode cX6_rowsBetween 67 = .ok (.aload_n 0, 1) := by decide +kernel
theorem dX6_rowsBetween_68 : decode cX6_rowsBetween 68 = .ok (.getfield 15, 3) := by decide +kernel
theorem dX6_rowsBetween_71 : decode cX6_rowsBetween 71 = .ok (.iload 5, 2) := by decide +kernel
theorem dX6_rowsBetween_73 : decode cX6_rowsBetween 73 = .ok (.laload, 1) := by decide +kernel
theorem dX6_rowsBetween_74 : decode cX6_rowsBetween 74 = .ok (.lconst 0, 1) := by decide +kernel
theorem dX6_rowsBetween_75 : decode cX6_rowsBetween 75 = .ok (.lcmp, 1) := by decide +kernel
theorem dX6_rowsBetween_76 : decode cX6_rowsBetween 76 = .ok (.ifCond .eq 16, 3) := by decide +kernel
theorem dX6_rowsBetween_79 : decode cX6_rowsBetween 79 = .ok (.aload_n 0, 1) := by decide +kernel
theorem dX6_rowsBetween_80 : decode cX6_rowsBetween 80 = .ok (.iload 5, 2) := by decide +kernel
theorem dX6_rowsBetween_82 : decode cX6_rowsBetween 82 = .ok (.aload_n 0, 1) := by decide +kernel
theorem dX6_rowsBetween_83 : decode cX6_rowsBetween 83 = .ok (.getfield 15, 3) := by decide +kernel
theorem dX6_rowsBetween_86 : decode cX6_rowsBetween 86 = .ok (.iload 5, 2) := by decide +kernel
theorem dX6_rowsBetween_88 : decode cX6_rowsBetween 88 = .ok (.laload, 1) := by decide +kernel
theorem dX6_rowsBetween_89 : decode cX6_rowsBetween 89 = .ok (.invokevirtual 91, 3) := by decide +kernel
theorem dX6_rowsBetween_92 : decode cX6_rowsBetween 92 = .ok (.iinc 5 1, 3) := by decide +kernel
theorem dX6_rowsBetween_95 : decode cX6_rowsBetween 95 = .ok (.goto (-36), 3) := by decide +kernel
theorem dX6_rowsBetween_98 : decode cX6_rowsBetween 98 = .ok (.aload_n 0, 1) := by decide +kernel
theorem dX6_rowsBetween_99 : decode cX6_rowsBetween 99 = .ok (.getfield 15, 3) := by decide +kernel
theorem dX6_rowsBetween_102 : decode cX6_rowsBetween 102 = .ok (.astore 5, 2) := by decide +kernel
theorem dX6_rowsBetween_104 : decode cX6_rowsBetween 104 = .ok (.aload_n 0, 1) := by decide +kernel
theorem dX6_rowsBetween_105 : decode cX6_rowsBetween 105 = .ok (.aload_n 0, 1) := by decide +kernel
theorem dX6_rowsBetween_106 : decode cX6_rowsBetween 106 = .ok (.getfield 19, 3) := by decide +kernel
theorem dX6_rowsBetween_109 : decode cX6_rowsBetween 109 = .ok (.putfield 15, 3) := by decide +kernel
theorem dX6_rowsBetween_112 : decode cX6_rowsBetween 112 = .ok (.aload_n 0, 1) := by decide +kernel
theorem dX6_rowsBetween_113 : decode cX6_rowsBetween 113 = .ok (.aload 5, 2) := by decide +kernel
theorem dX6_rowsBetween_115 : decode cX6_rowsBetween 115 = .ok (.putfield 19, 3) := by decide +kernel
theorem dX6_rowsBetween_118 : decode cX6_rowsBetween 118 = .ok (.iinc 4 1, 3) := by decide +kernel
theorem dX6_rowsBetween_121 : decode cX6_rowsBetween 121 = .ok (.goto (-79), 3) := by decide +kernel
theorem dX6_rowsBetween_124 : decode cX6_rowsBetween 124 = .ok (.aload_n 0, 1) := by decide +kernel
theorem dX6_rowsBetween_125 : decode cX6_rowsBetween 125 = .ok (.getfield 15, 3) := by decide +kernel
theorem dX6_rowsBetween_128 : decode cX6_rowsBetween 128 = .ok (.iload_n 2, 1) := by decide +kernel
theorem dX6_rowsBetween_129 : decode cX6_rowsBetween 129 = .ok (.laload, 1) := by decide +kernel
theorem dX6_rowsBetween_130 : decode cX6_rowsBetween 130 = .ok (.lreturn, 1) := by decide +kernel
theorem dX6_spreadWays_0 : decode cX6_spreadWays 0 = .ok (.iconst 0, 1) := by decide +kernel
theorem dX6_spreadWays_1 : decode cX6_spreadWays 1 = .ok (.istore 4, 2) := by decide +kernel
theorem dX6_spreadWays_3 : decode cX6_spreadWays 3 = .ok (.iload 4, 2) := by decide +kernel
theorem dX6_spreadWays_5 : decode cX6_spreadWays 5 = .ok (.aload_n 0, 1) := by decide +kernel
theorem dX6_spreadWays_6 : decode cX6_spreadWays 6 = .ok (.getfield 22, 3) := by decide +kernel
theorem dX6_spreadWays_9 : decode cX6_spreadWays 9 = .ok (.getfield 53, 3) := by decide +kernel
theorem dX6_spreadWays_12 : decode cX6_spreadWays 12 = .ok (.getfield 74, 3) := by decide +kernel
theorem dX6_spreadWays_15 : decode cX6_spreadWays 15 = .ok (.if_icmp .ge 73, 3) := by decide +kernel
theorem dX6_spreadWays_18 : decode cX6_spreadWays 18 = .ok (.aload_n 0, 1) := by decide +kernel
theorem dX6_spreadWays_19 : decode cX6_spreadWays 19 = .ok (.getfield 22, 3) := by decide +kernel
theorem dX6_spreadWays_22 : decode cX6_spreadWays 22 = .ok (.iload_n 1, 1) := by decide +kernel
theorem dX6_spreadWays_23 : decode cX6_spreadWays 23 = .ok (.iload 4, 2) := by decide +kernel
theorem dX6_spreadWays_25 : decode cX6_spreadWays 25 = .ok (.invokevirtual 77, 3) := by decide +kernel
theorem dX6_spreadWays_28 : decode cX6_spreadWays 28 = .ok (.lstore 5, 2) := by decide +kernel
theorem dX6_spreadWays_30 : decode cX6_spreadWays 30 = .ok (.iconst 0, 1) := by decide +kernel
theorem dX6_spreadWays_31 : decode cX6_spreadWays 31 = .ok (.istore 7, 2) := by decide +kernel
theorem dX6_spreadWays_33 : decode cX6_spreadWays 33 = .ok (.iload 7, 2) := by decide +kernel
theorem dX6_spreadWays_35 : decode cX6_spreadWays 35 = .ok (.aload_n 0, 1) := by decide +kernel
theorem dX6_spreadWays_36 : decode cX6_spreadWays 36 = .ok (.getfield 22, 3) := by decide +kernel
theorem dX6_spreadWays_39 : decode cX6_spreadWays 39 = .ok (.getfield 53, 3) := by decide +kernel
theorem dX6_spreadWays_42 : decode cX6_spreadWays 42 = .ok (.getfield 74, 3) := by decide +kernel
theorem dX6_spreadWays_45 : decode cX6_spreadWays 45 = .ok (.if_icmp .ge 37, 3) := by decide +kernel
theorem dX6_spreadWays_48 : decode cX6_spreadWays 48 = .ok (.lload 5, 2) := by decide +kernel
theorem dX6_spreadWays_50 : decode cX6_spreadWays 50 = .ok (.iload 7, 2) := by decide +kernel
theorem dX6_spreadWays_52 : decode cX6_spreadWays 52 = .ok (.invokestatic 81, 3) := by decide +kernel
theorem dX6_spreadWays_55 : decode cX6_spreadWays 55 = .ok (.istore 8, 2) := by decide +kernel
theorem dX6_spreadWays_57 : decode cX6_spreadWays 57 = .ok (.iload 8, 2) := by decide +kernel
theorem dX6_spreadWays_59 : decode cX6_spreadWays 59 = .ok (.sipush 720, 3) := by decide +kernel
theorem dX6_spreadWays_62 : decode cX6_spreadWays 62 = .ok (.if_icmp .ge 14, 3) := by decide +kernel
theorem dX6_spreadWays_65 : decode cX6_spreadWays 65 = .ok (.aload_n 0, 1) := by decide +kernel
theorem dX6_spreadWays_66 : decode cX6_spreadWays 66 = .ok (.getfield 19, 3) := by decide +kernel
theorem dX6_spreadWays_69 : decode cX6_spreadWays 69 = .ok (.iload 8, 2) := by decide +kernel
theorem dX6_spreadWays_71 : decode cX6_spreadWays 71 = .ok (.dup2, 1) := by decide +kernel
theorem dX6_spreadWays_72 : decode cX6_spreadWays 72 = .ok (.laload, 1) := by decide +kernel
theorem dX6_spreadWays_73 : decode cX6_spreadWays 73 = .ok (.lload_n 2, 1) := by decide +kernel
theorem dX6_spreadWays_74 : decode cX6_spreadWays 74 = .ok (.ladd, 1) := by decide +kernel
theorem dX6_spreadWays_75 : decode cX6_spreadWays 75 = .ok (.lastore, 1) := by decide +kernel
theorem dX6_spreadWays_76 : decode cX6_spreadWays 76 = .ok (.iinc 7 1, 3) := by decide +kernel
theorem dX6_spreadWays_79 : decode cX6_spreadWays 79 = .ok (.goto (-46), 3) := by decide +kernel
theorem dX6_spreadWays_82 : decode cX6_spreadWays 82 = .ok (.iinc 4 1, 3) := by decide +kernel
theorem dX6_spreadWays_85 : decode cX6_spreadWays 85 = .ok (.goto (-82), 3) := by decide +kernel
theorem dX6_spreadWays_88 : decode cX6_spreadWays 88 = .ok (.return_, 1) := by decide +kernel
theorem dX7_init_0 : decode cX7_init 0 = .ok (.aload_n 0, 1) := by decide +kernel
theorem dX7_init_1 : decode cX7_init 1 = .ok (.invokespecial 3, 3) := by decide +kernel
theorem dX7_init_4 : decode cX7_init 4 = .ok (.aload_n 0, 1) := by decide +kernel
theorem dX7_init_5 : decode cX7_init 5 = .ok (.bipush 6, 2) := by decide +kernel
theorem dX7_init_7 : decode cX7_init 7 = .ok (.newarray .int, 2) := by decide +kernel
theorem dX7_init_9 : decode cX7_init 9 = .ok (.putfield 9, 3) := by decide +kernel
theorem dX7_init_12 : decode cX7_init 12 = .ok (.aload_n 0, 1) := by decide +kernel
theorem dX7_init_13 : decode cX7_init 13 = .ok (.bipush 6, 2) := by decide +kernel
theorem dX7_init_15 : decode cX7_init 15 = .ok (.newarray .int, 2) := by decide +kernel
theorem dX7_init_17 : decode cX7_init 17 = .ok (.putfield 15, 3) := by decide +kernel
theorem dX7_init_20 : decode cX7_init 20 = .ok (.aload_n 0, 1) := by decide +kernel
theorem dX7_init_21 : decode cX7_init 21 = .ok (.bipush 36, 2) := by decide +kernel
theorem dX7_init_23 : decode cX7_init 23 = .ok (.newarray .int, 2) := by decide +kernel
theorem dX7_init_25 : decode cX7_init 25 = .ok (.putfield 18, 3) := by decide +kernel
theorem dX7_init_28 : decode cX7_init 28 = .ok (.return_, 1) := by decide +kernel
theorem dX7_clear_0 : decode cX7_clear 0 = .ok (.aload_n 0, 1) := by decide +kernel
theorem dX7_clear_1 : decode cX7_clear 1 = .ok (.iconst 0, 1) := by decide +kernel
theorem dX7_clear_2 : decode cX7_clear 2 = .ok (.putfield 21, 3) := by decide +kernel
theorem dX7_clear_5 : decode cX7_clear 5 = .ok (.aload_n 0, 1) := by decide +kernel
theorem dX7_clear_6 : decode cX7_clear 6 = .ok (.iconst 3, 1) := by decide +kernel
theorem dX7_clear_7 : decode cX7_clear 7 = .ok (.putfield 25, 3) := by decide +kernel
theorem dX7_clear_10 : decode cX7_clear 10 = .ok (.aload_n 0, 1) := by decide +kernel
theorem dX7_clear_11 : decode cX7_clear 11 = .ok (.iconst 0, 1) := by decide +kernel
theorem dX7_clear_12 : decode cX7_clear 12 = .ok (.putfield 28, 3) := by decide +kernel
theorem dX7_clear_15 : decode cX7_clear 15 = .ok (.aload_n 0, 1) := by decide +kernel
theorem dX7_clear_16 : decode cX7_clear 16 = .ok (.bipush 9, 2) := by decide +kernel
theorem dX7_clear_18 : decode cX7_clear 18 = .ok (.putfield 31, 3) := by decide +kernel
theorem dX7_clear_21 : decode cX7_clear 21 = .ok (.aload_n 0, 1) := by decide +kernel
theorem dX7_clear_22 : decode cX7_clear 22 = .ok (.iconst 1, 1) := by decide +kernel
theorem dX7_clear_23 : decode cX7_clear 23 = .ok (.putfield 34, 3) := by decide +kernel
theorem dX7_clear_26 : decode cX7_clear 26 = .ok (.aload_n 0, 1) := by decide +kernel
theorem dX7_clear_27 : decode cX7_clear 27 = .ok (.ldc 37, 2) := by decide +kernel
theorem dX7_clear_29 : decode cX7_clear 29 = .ok (.putfield 38, 3) := by decide +kernel
theorem dX7_clear_32 : decode cX7_clear 32 = .ok (.return_, 1) := by decide +kernel
theorem dX7_become_0 : decode cX7_become 0 = .ok (.aload_n 0, 1) := by decide +kernel
theorem dX7_become_1 : decode cX7_become 1 = .ok (.aload_n 1, 1) := by decide +kernel
theorem dX7_become_2 : decode cX7_become 2 = .ok (.getfield 21, 3) := by decide +kernel
theorem dX7_become_5 : decode cX7_become 5 = .ok (.putfield 21, 3) := by decide +kernel
theorem dX7_become_8 : decode cX7_become 8 = .ok (.aload_n 0, 1) := by decide +kernel
theorem dX7_become_9 : decode cX7_become 9 = .ok (.aload_n 1, 1) := by decide +kernel
theorem dX7_become_10 : decode cX7_become 10 = .ok (.getfield 25, 3) := by decide +kernel
theorem dX7_become_13 : decode cX7_become 13 = .ok (.putfield 25, 3) := by decide +kernel
theorem dX7_become_16 : decode cX7_become 16 = .ok (.aload_n 0, 1) := by decide +kernel
theorem dX7_become_17 : decode cX7_become 17 = .ok (.aload_n 1, 1) := by decide +kernel
theorem dX7_become_18 : decode cX7_become 18 = .ok (.getfield 28, 3) := by decide +kernel
theorem dX7_become_21 : decode cX7_become 21 = .ok (.putfield 28, 3) := by decide +kernel
theorem dX7_become_24 : decode cX7_become 24 = .ok (.aload_n 0, 1) := by decide +kernel
theorem dX7_become_25 : decode cX7_become 25 = .ok (.aload_n 1, 1) := by decide +kernel
theorem dX7_become_26 : decode cX7_become 26 = .ok (.getfield 31, 3) := by decide +kernel
theorem dX7_become_29 : decode cX7_become 29 = .ok (.putfield 31, 3) := by decide +kernel
theorem dX7_become_32 : decode cX7_become 32 = .ok (.aload_n 0, 1) := by decide +kernel
theorem dX7_become_33 : decode cX7_become 33 = .ok (.aload_n 1, 1) := by decide +kernel
theorem dX7_become_34 : decode cX7_become 34 = .ok (.getfield 34, 3) := by decide +kernel
theorem dX7_become_37 : decode cX7_become 37 = .ok (.putfield 34, 3) := by decide +kernel
theorem dX7_become_40 : decode cX7_become 40 = .ok (.aload_n 0, 1) := by decide +kernel
theorem dX7_become_41 : decode cX7_become 41 = .ok (.aload_n 1, 1) := by decide +kernel
theorem dX7_become_42 : decode cX7_become 42 = .ok (.getfield 38, 3) := by decide +kernel
theorem dX7_become_45 : decode cX7_become 45 = .ok (.putfield 38, 3) := by decide +kernel
theorem dX7_become_48 : decode cX7_become 48 = .ok (.iconst 0, 1) := by decide +kernel
theorem dX7_become_49 : decode cX7_become 49 = .ok (.istore_n 2, 1) := by decide +kernel
theorem dX7_become_50 : decode cX7_become 50 = .ok (.iload_n 2, 1) := by decide +kernel
theorem dX7_become_51 : decode cX7_become 51 = .ok (.bipush 6, 2) := by decide +kernel
theorem dX7_become_53 : decode cX7_become 53 = .ok (.if_icmp .ge 16, 3) := by decide +kernel
theorem dX7_become_56 : decode cX7_become 56 = .ok (.aload_n 0, 1) := by decide +kernel
theorem dX7_become_57 : decode cX7_become 57 = .ok (.iload_n 2, 1) := by decide +kernel
theorem dX7_become_58 : decode cX7_become 58 = .ok (.aload_n 1, 1) := by decide +kernel
theorem dX7_become_59 : decode cX7_become 59 = .ok (.iload_n 2, 1) := by decide +kernel
theorem dX7_become_60 : decode cX7_become 60 = .ok (.invokevirtual 41, 3) := by decide +kernel
theorem dX7_become_63 : decode cX7_become 63 = .ok (.iinc 2 1, 3) := by decide +kernel
theorem dX7_become_66 : decode cX7_become 66 = .ok (.goto (-16), 3) := by decide +kernel
theorem dX7_become_69 : decode cX7_become 69 = .ok (.return_, 1) := by decide +kernel
theorem dX7_takeGuest_0 : decode cX7_takeGuest 0 = .ok (.aload_n 0, 1) := by decide +kernel
theorem dX7_takeGuest_1 : decode cX7_takeGuest 1 = .ok (.getfield 9, 3) := by decide +kernel
theorem dX7_takeGuest_4 : decode cX7_takeGuest 4 = .ok (.iload_n 1, 1) := by decide +kernel
theorem dX7_takeGuest_5 : decode cX7_takeGuest 5 = .ok (.aload_n 2, 1) := by decide +kernel
theorem dX7_takeGuest_6 : decode cX7_takeGuest 6 = .ok (.iload_n 3, 1) := by decide +kernel
theorem dX7_takeGuest_7 : decode cX7_takeGuest 7 = .ok (.invokevirtual 45, 3) := by decide +kernel
theorem dX7_takeGuest_10 : decode cX7_takeGuest 10 = .ok (.invokestatic 49, 3) := by decide +kernel
theorem dX7_takeGuest_13 : decode cX7_takeGuest 13 = .ok (.aload_n 0, 1) := by decide +kernel
theorem dX7_takeGuest_14 : decode cX7_takeGuest 14 = .ok (.getfield 15, 3) := by decide +kernel
theorem dX7_takeGuest_17 : decode cX7_takeGuest 17 = .ok (.iload_n 1, 1) := by decide +kernel
theorem dX7_takeGuest_18 : decode cX7_takeGuest 18 = .ok (.aload_n 2, 1) := by decide +kernel
theorem dX7_takeGuest_19 : decode cX7_takeGuest 19 = .ok (.iload_n 3, 1) := by decide +kernel
theorem dX7_takeGuest_20 : decode cX7_takeGuest 20 = .ok (.invokevirtual 53, 3) := by decide +kernel
theorem dX7_takeGuest_23 : decode cX7_takeGuest 23 = .ok (.invokestatic 49, 3) := by decide +kernel
theorem dX7_takeGuest_26 : decode cX7_takeGuest 26 = .ok (.iconst 0, 1) := by decide +kernel
theorem dX7_takeGuest_27 : decode cX7_takeGuest 27 = .ok (.istore 4, 2) := by decide +kernel
theorem dX7_takeGuest_29 : decode cX7_takeGuest 29 = .ok (.iload 4, 2) := by decide +kernel
theorem dX7_takeGuest_31 : decode cX7_takeGuest 31 = .ok (.bipush 6, 2) := by decide +kernel
theorem dX7_takeGuest_33 : decode cX7_takeGuest 33 = .ok (.if_icmp .ge 23, 3) := by decide +kernel
theorem dX7_takeGuest_36 : decode cX7_takeGuest 36 = .ok (.aload_n 0, 1) := by decide +kernel
theorem dX7_takeGuest_37 : decode cX7_takeGuest 37 = .ok (.iload_n 1, 1) := by decide +kernel
theorem dX7_takeGuest_38 : decode cX7_takeGuest 38 = .ok (.iload 4, 2) := by decide +kernel
theorem dX7_takeGuest_40 : decode cX7_takeGuest 40 = .ok (.aload_n 2, 1) := by decide +kernel
theorem dX7_takeGuest_41 : decode cX7_takeGuest 41 = .ok (.iload_n 3, 1) := by decide +kernel
theorem dX7_takeGuest_42 : decode cX7_takeGuest 42 = .ok (.iload 4, 2) := by decide +kernel
theorem dX7_takeGuest_44 : decode cX7_takeGuest 44 = .ok (.invokevirtual 56, 3) := by decide +kernel
theorem dX7_takeGuest_47 : decode cX7_takeGuest 47 = .ok (.invokevirtual 60, 3) := by decide +kernel
theorem dX7_takeGuest_50 : decode cX7_takeGuest 50 = .ok (.iinc 4 1, 3) := by decide +kernel
theorem dX7_takeGuest_53 : decode cX7_takeGuest 53 = .ok (.goto (-24), 3) := by decide +kernel
theorem dX7_takeGuest_56 : decode cX7_takeGuest 56 = .ok (.return_, 1) := by decide +kernel
theorem dX7_addGuest_0 : decode cX7_addGuest 0 = .ok (.aload_n 0, 1) := by decide +kernel
theorem dX7_addGuest_1 : decode cX7_addGuest 1 = .ok (.getfield 9, 3) := by decide +kernel
theorem dX7_addGuest_4 : decode cX7_addGuest 4 = .ok (.aload_n 0, 1) := by decide +kernel
theorem dX7_addGuest_5 : decode cX7_addGuest 5 = .ok (.getfield 21, 3) := by decide +kernel
theorem dX7_addGuest_8 : decode cX7_addGuest 8 = .ok (.iload_n 1, 1) := by decide +kernel
theorem dX7_addGuest_9 : decode cX7_addGuest 9 = .ok (.invokestatic 49, 3) := by decide +kernel
theorem dX7_addGuest_12 : decode cX7_addGuest 12 = .ok (.aload_n 0, 1) := by decide +kernel
theorem dX7_addGuest_13 : decode cX7_addGuest 13 = .ok (.getfield 15, 3) := by decide +kernel
theorem dX7_addGuest_16 : decode cX7_addGuest 16 = .ok (.aload_n 0, 1) := by decide +kernel
theorem dX7_addGuest_17 : decode cX7_addGuest 17 = .ok (.getfield 21, 3) := by decide +kernel
theorem dX7_addGuest_20 : decode cX7_addGuest 20 = .ok (.iload_n 3, 1) := by decide +kernel
theorem dX7_addGuest_21 : decode cX7_addGuest 21 = .ok (.invokestatic 49, 3) := by decide +kernel
theorem dX7_addGuest_24 : decode cX7_addGuest 24 = .ok (.iconst 0, 1) := by decide +kernel
theorem dX7_addGuest_25 : decode cX7_addGuest 25 = .ok (.istore 4, 2) := by decide +kernel
theorem dX7_addGuest_27 : decode cX7_addGuest 27 = .ok (.iload 4, 2) := by decide +kernel
theorem dX7_addGuest_29 : decode cX7_addGuest 29 = .ok (.bipush 6, 2) := by decide +kernel
theorem dX7_addGuest_31 : decode cX7_addGuest 31 = .ok (.if_icmp .ge 20, 3) := by decide +kernel
theorem dX7_addGuest_34 : decode cX7_addGuest 34 = .ok (.aload_n 0, 1) := by decide +kernel
theorem dX7_addGuest_35 : decode cX7_addGuest 35 = .ok (.aload_n 0, 1) := by decide +kernel
theorem dX7_addGuest_36 : decode cX7_addGuest 36 = .ok (.getfield 21, 3) := by decide +kernel
theorem dX7_addGuest_39 : decode cX7_addGuest 39 = .ok (.iload 4, 2) := by decide +kernel
theorem dX7_addGuest_41 : decode cX7_addGuest 41 = .ok (.iconst 1, 1) := by decide +kernel
theorem dX7_addGuest_42 : decode cX7_addGuest 42 = .ok (.invokevirtual 60, 3) := by decide +kernel
theorem dX7_addGuest_45 : decode cX7_addGuest 45 = .ok (.iinc 4 1, 3) := by decide +kernel
theorem dX7_addGuest_48 : decode cX7_addGuest 48 = .ok (.goto (-21), 3) := by decide +kernel
theorem dX7_addGuest_51 : decode cX7_addGuest 51 = .ok (.aload_n 0, 1) := by decide +kernel
theorem dX7_addGuest_52 : decode cX7_addGuest 52 = .ok (.aload_n 0, 1) := by decide +kernel
theorem dX7_addGuest_53 : decode cX7_addGuest 53 = .ok (.getfield 38, 3) := by decide +kernel
theorem dX7_addGuest_56 : decode cX7_addGuest 56 = .ok (.aload_n 0, 1) := by decide +kernel
theorem dX7_addGuest_57 : decode cX7_addGuest 57 = .ok (.getfield 21, 3) := by decide +kernel
theorem dX7_addGuest_60 : decode cX7_addGuest 60 = .ok (.iload_n 2, 1) := by decide +kernel
theorem dX7_addGuest_61 : decode cX7_addGuest 61 = .ok (.invokestatic 64, 3) := by decide +kernel
theorem dX7_addGuest_64 : decode cX7_addGuest 64 = .ok (.putfield 38, 3) := by decide +kernel
theorem dX7_addGuest_67 : decode cX7_addGuest 67 = .ok (.aload_n 0, 1) := by decide +kernel
theorem dX7_addGuest_68 : decode cX7_addGuest 68 = .ok (.dup, 1) := by decide +kernel
theorem dX7_addGuest_69 : decode cX7_addGuest 69 = .ok (.getfield 21, 3) := by decide +kernel
theorem dX7_addGuest_72 : decode cX7_addGuest 72 = .ok (.iconst 1, 1) := by decide +kernel
theorem dX7_addGuest_73 : decode cX7_addGuest 73 = .ok (.iadd, 1) := by decide +kernel
theorem dX7_addGuest_74 : decode cX7_addGuest 74 = .ok (.putfield 21, 3) := by decide +kernel
theorem dX7_addGuest_77 : decode cX7_addGuest 77 = .ok (.return_, 1) := by decide +kernel
theorem dX7_setKind_0 : decode cX7_setKind 0 = .ok (.aload_n 0, 1) := by decide +kernel
theorem dX7_setKind_1 : decode cX7_setKind 1 = .ok (.getfield 9, 3) := by decide +kernel
theorem dX7_setKind_4 : decode cX7_setKind 4 = .ok (.iload_n 1, 1) := by decide +kernel
theorem dX7_setKind_5 : decode cX7_setKind 5 = .ok (.iload_n 2, 1) := by decide +kernel
theorem dX7_setKind_6 : decode cX7_setKind 6 = .ok (.invokestatic 49, 3) := by decide +kernel
theorem dX7_setKind_9 : decode cX7_setKind 9 = .ok (.return_, 1) := by decide +kernel
theorem dX7_setWorth_0 : decode cX7_setWorth 0 = .ok (.aload_n 0, 1) := by decide +kernel
theorem dX7_setWorth_1 : decode cX7_setWorth 1 = .ok (.getfield 18, 3) := by decide +kernel
theorem dX7_setWorth_4 : decode cX7_setWorth 4 = .ok (.iload_n 1, 1) := by decide +kernel
theorem dX7_setWorth_5 : decode cX7_setWorth 5 = .ok (.bipush 6, 2) := by decide +kernel
theorem dX7_setWorth_7 : decode cX7_setWorth 7 = .ok (.imul, 1) := by decide +kernel
theorem dX7_setWorth_8 : decode cX7_setWorth 8 = .ok (.iload_n 2, 1) := by decide +kernel
theorem dX7_setWorth_9 : decode cX7_setWorth 9 = .ok (.iadd, 1) := by decide +kernel
theorem dX7_setWorth_10 : decode cX7_setWorth 10 = .ok (.iload_n 3, 1) := by decide +kernel
theorem dX7_setWorth_11 : decode cX7_setWorth 11 = .ok (.invokestatic 49, 3) := by decide +kernel
theorem dX7_setWorth_14 : decode cX7_setWorth 14 = .ok (.return_, 1) := by decide +kernel
theorem dX7_kindOf_0 : decode cX7_kindOf 0 = .ok (.iload_n 1, 1) := by decide +kernel
theorem dX7_kindOf_1 : decode cX7_kindOf 1 = .ok (.ifCond .lt 18, 3) := by decide +kernel
theorem dX7_kindOf_4 : decode cX7_kindOf 4 = .ok (.iload_n 1, 1) := by decide +kernel
theorem dX7_kindOf_5 : decode cX7_kindOf 5 = .ok (.bipush 6, 2) := by decide +kernel
theorem dX7_kindOf_7 : decode cX7_kindOf 7 = .ok (.if_icmp .ge 12, 3) := by decide +kernel
theorem dX7_kindOf_10 : decode cX7_kindOf 10 = .ok (.aload_n 0, 1) := by decide +kernel
theorem dX7_kindOf_11 : decode cX7_kindOf 11 = .ok (.getfield 9, 3) := by decide +kernel
theorem dX7_kindOf_14 : decode cX7_kindOf 14 = .ok (.iload_n 1, 1) := by decide +kernel
theorem dX7_kindOf_15 : decode cX7_kindOf 15 = .ok (.iaload, 1) := by decide +kernel
theorem dX7_kindOf_16 : decode cX7_kindOf 16 = .ok (.goto 4, 3) := by decide +kernel
theorem dX7_kindOf_19 : decode cX7_kindOf 19 = .ok (.iconst 0, 1) := by decide +kernel
theorem dX7_kindOf_20 : decode cX7_kindOf 20 = .ok (.ireturn, 1) := by decide +kernel
theorem dX7_wantsOf_0 : decode cX7_wantsOf 0 = .ok (.aload_n 0, 1) := by decide +kernel
theorem dX7_wantsOf_1 : decode cX7_wantsOf 1 = .ok (.getfield 15, 3) := by decide +kernel
theorem dX7_wantsOf_4 : decode cX7_wantsOf 4 = .ok (.iload_n 1, 1) := by decide +kernel
theorem dX7_wantsOf_5 : decode cX7_wantsOf 5 = .ok (.invokestatic 68, 3) := by decide +kernel
theorem dX7_wantsOf_8 : decode cX7_wantsOf 8 = .ok (.ireturn, 1) := by decide +kernel
theorem dX7_allDishes_0 : decode cX7_allDishes 0 = .ok (.iconst 1, 1) := by decide +kernel
theorem dX7_allDishes_1 : decode cX7_allDishes 1 = .ok (.aload_n 0, 1) := by decide +kernel
theorem dX7_allDishes_2 : decode cX7_allDishes 2 = .ok (.getfield 25, 3) := by decide +kernel
theorem dX7_allDishes_5 : decode cX7_allDishes 5 = .ok (.ishl, 1) := by decide +kernel
theorem dX7_allDishes_6 : decode cX7_allDishes 6 = .ok (.iconst 1, 1) := by decide +kernel
theorem dX7_allDishes_7 : decode cX7_allDishes 7 = .ok (.isub, 1) := by decide +kernel
theorem dX7_allDishes_8 : decode cX7_allDishes 8 = .ok (.ireturn, 1) := by decide +kernel
theorem dX7_worthOf_0 : decode cX7_worthOf 0 = .ok (.iload_n 1, 1) := by decide +kernel
theorem dX7_worthOf_1 : decode cX7_worthOf 1 = .ok (.ifCond .lt 19, 3) := by decide +kernel
theorem dX7_worthOf_4 : decode cX7_worthOf 4 = .ok (.iload_n 1, 1) := by decide +kernel
theorem dX7_worthOf_5 : decode cX7_worthOf 5 = .ok (.bipush 6, 2) := by decide +kernel
theorem dX7_worthOf_7 : decode cX7_worthOf 7 = .ok (.if_icmp .ge 13, 3) := by decide +kernel
theorem dX7_worthOf_10 : decode cX7_worthOf 10 = .ok (.iload_n 2, 1) := by decide +kernel
theorem dX7_worthOf_11 : decode cX7_worthOf 11 = .ok (.ifCond .lt 9, 3) := by decide +kernel
theorem dX7_worthOf_14 : decode cX7_worthOf 14 = .ok (.iload_n 2, 1) := by decide +kernel
theorem dX7_worthOf_15 : decode cX7_worthOf 15 = .ok (.bipush 6, 2) := by decide +kernel
theorem dX7_worthOf_17 : decode cX7_worthOf 17 = .ok (.if_icmp .lt 5, 3) := by decide +kernel
theorem dX7_worthOf_20 : decode cX7_worthOf 20 = .ok (.iconst 0, 1) := by decide +kernel
theorem dX7_worthOf_21 : decode cX7_worthOf 21 = .ok (.ireturn, 1) := by decide +kernel
theorem dX7_worthOf_22 : decode cX7_worthOf 22 = .ok (.aload_n 0, 1) := by decide +kernel
theorem dX7_worthOf_23 : decode cX7_worthOf 23 = .ok (.getfield 18, 3) := by decide +kernel
theorem dX7_worthOf_26 : decode cX7_worthOf 26 = .ok (.iload_n 1, 1) := by decide +kernel
theorem dX7_worthOf_27 : decode cX7_worthOf 27 = .ok (.bipush 6, 2) := by decide +kernel
theorem dX7_worthOf_29 : decode cX7_worthOf 29 = .ok (.imul, 1) := by decide +kernel
theorem dX7_worthOf_30 : decode cX7_worthOf 30 = .ok (.iload_n 2, 1) := by decide +kernel
theorem dX7_worthOf_31 : decode cX7_worthOf 31 = .ok (.iadd, 1) := by decide +kernel
theorem dX7_worthOf_32 : decode cX7_worthOf 32 = .ok (.iaload, 1) := by decide +kernel
theorem dX7_worthOf_33 : decode cX7_worthOf 33 = .ok (.ireturn, 1) := by decide +kernel
theorem dX7_worthAt_0 : decode cX7_worthAt 0 = .ok (.aload_n 0, 1) := by decide +kernel
theorem dX7_worthAt_1 : decode cX7_worthAt 1 = .ok (.iload_n 1, 1) := by decide +kernel
theorem dX7_worthAt_2 : decode cX7_worthAt 2 = .ok (.iload_n 2, 1) := by decide +kernel
theorem dX7_worthAt_3 : decode cX7_worthAt 3 = .ok (.invokevirtual 56, 3) := by decide +kernel
theorem dX7_worthAt_6 : decode cX7_worthAt 6 = .ok (.iconst 0, 1) := by decide +kernel
theorem dX7_worthAt_7 : decode cX7_worthAt 7 = .ok (.bipush 10, 2) := by decide +kernel
theorem dX7_worthAt_9 : decode cX7_worthAt 9 = .ok (.aload_n 0, 1) := by decide +kernel
theorem dX7_worthAt_10 : decode cX7_worthAt 10 = .ok (.getfield 34, 3) := by decide +kernel
theorem dX7_worthAt_13 : decode cX7_worthAt 13 = .ok (.iload_n 3, 1) := by decide +kernel
theorem dX7_worthAt_14 : decode cX7_worthAt 14 = .ok (.imul, 1) := by decide +kernel
theorem dX7_worthAt_15 : decode cX7_worthAt 15 = .ok (.isub, 1) := by decide +kernel
theorem dX7_worthAt_16 : decode cX7_worthAt 16 = .ok (.invokestatic 72, 3) := by decide +kernel
theorem dX7_worthAt_19 : decode cX7_worthAt 19 = .ok (.imul, 1) := by decide +kernel
theorem dX7_worthAt_20 : decode cX7_worthAt 20 = .ok (.bipush 10, 2) := by decide +kernel
theorem dX7_worthAt_22 : decode cX7_worthAt 22 = .ok (.idiv, 1) := by decide +kernel
theorem dX7_worthAt_23 : decode cX7_worthAt 23 = .ok (.ireturn, 1) := by decide +kernel
theorem dX7_worthTogether_0 : decode cX7_worthTogether 0 = .ok (.iconst 0, 1) := by decide +kernel
theorem dX7_worthTogether_1 : decode cX7_worthTogether 1 = .ok (.istore_n 3, 1) := by decide +kernel
theorem dX7_worthTogether_2 : decode cX7_worthTogether 2 = .ok (.iconst 0, 1) := by decide +kernel
theorem dX7_worthTogether_3 : decode cX7_worthTogether 3 = .ok (.istore 4, 2) := by decide +kernel
theorem dX7_worthTogether_5 : decode cX7_worthTogether 5 = .ok (.iload 4, 2) := by decide +kernel
theorem dX7_worthTogether_7 : decode cX7_worthTogether 7 = .ok (.aload_n 0, 1) := by decide +kernel
theorem dX7_worthTogether_8 : decode cX7_worthTogether 8 = .ok (.getfield 21, 3) := by decide +kernel
theorem dX7_worthTogether_11 : decode cX7_worthTogether 11 = .ok (.if_icmp .ge 25, 3) := by decide +kernel
theorem dX7_worthTogether_14 : decode cX7_worthTogether 14 = .ok (.iload_n 3, 1) := by decide +kernel
theorem dX7_worthTogether_15 : decode cX7_worthTogether 15 = .ok (.aload_n 0, 1) := by decide +kernel
theorem dX7_worthTogether_16 : decode cX7_worthTogether 16 = .ok (.iload 4, 2) := by decide +kernel
theorem dX7_worthTogether_18 : decode cX7_worthTogether 18 = .ok (.iload_n 1, 1) := by decide +kernel
theorem dX7_worthTogether_19 : decode cX7_worthTogether 19 = .ok (.iload 4, 2) := by decide +kernel
theorem dX7_worthTogether_21 : decode cX7_worthTogether 21 = .ok (.invokestatic 77, 3) := by decide +kernel
theorem dX7_worthTogether_24 : decode cX7_worthTogether 24 = .ok (.iload_n 2, 1) := by decide +kernel
theorem dX7_worthTogether_25 : decode cX7_worthTogether 25 = .ok (.invokevirtual 80, 3) := by decide +kernel
theorem dX7_worthTogether_28 : decode cX7_worthTogether 28 = .ok (.iadd, 1) := by decide +kernel
theorem dX7_worthTogether_29 : decode cX7_worthTogether 29 = .ok (.istore_n 3, 1) := by decide +kernel
theorem dX7_worthTogether_30 : decode cX7_worthTogether 30 = .ok (.iinc 4 1, 3) := by decide +kernel
theorem dX7_worthTogether_33 : decode cX7_worthTogether 33 = .ok (.goto (-28), 3) := by decide +kernel
theorem dX7_worthTogether_36 : decode cX7_worthTogether 36 = .ok (.iload_n 3, 1) := by decide +kernel
theorem dX7_worthTogether_37 : decode cX7_worthTogether 37 = .ok (.ireturn, 1) := by decide +kernel
theorem dX7_guestBy_0 : decode cX7_guestBy 0 = .ok (.aload_n 0, 1) := by decide +kernel
theorem dX7_guestBy_1 : decode cX7_guestBy 1 = .ok (.getfield 21, 3) := by decide +kernel
theorem dX7_guestBy_4 : decode cX7_guestBy 4 = .ok (.ifCond .le 12, 3) := by decide +kernel
theorem dX7_guestBy_7 : decode cX7_guestBy 7 = .ok (.iload_n 1, 1) := by decide +kernel
theorem dX7_guestBy_8 : decode cX7_guestBy 8 = .ok (.aload_n 0, 1) := by decide +kernel
theorem dX7_guestBy_9 : decode cX7_guestBy 9 = .ok (.getfield 21, 3) := by decide +kernel
theorem dX7_guestBy_12 : decode cX7_guestBy 12 = .ok (.irem, 1) := by decide +kernel
theorem dX7_guestBy_13 : decode cX7_guestBy 13 = .ok (.goto 4, 3) := by decide +kernel
theorem dX7_guestBy_16 : decode cX7_guestBy 16 = .ok (.iconst 0, 1) := by decide +kernel
theorem dX7_guestBy_17 : decode cX7_guestBy 17 = .ok (.ireturn, 1) := by decide +kernel
theorem dX7_stepsBetween_0 : decode cX7_stepsBetween 0 = .ok (.aload_n 0, 1) := by decide +kernel
theorem dX7_stepsBetween_1 : decode cX7_stepsBetween 1 = .ok (.getfield 28, 3) := by decide +kernel
theorem dX7_stepsBetween_4 : decode cX7_stepsBetween 4 = .ok (.ifCond .ne 10, 3) := by decide +kernel
theorem dX7_stepsBetween_7 : decode cX7_stepsBetween 7 = .ok (.iload_n 1, 1) := by decide +kernel
theorem dX7_stepsBetween_8 : decode cX7_stepsBetween 8 = .ok (.iload_n 2, 1) := by decide +kernel
theorem dX7_stepsBetween_9 : decode cX7_stepsBetween 9 = .ok (.isub, 1) := by decide +kernel
theorem dX7_stepsBetween_10 : decode cX7_stepsBetween 10 = .ok (.invokestatic 83, 3) := by decide +kernel
theorem dX7_stepsBetween_13 : decode cX7_stepsBetween 13 = .ok (.ireturn, 1) := by decide +kernel
theorem dX7_stepsBetween_14 : decode cX7_stepsBetween 14 = .ok (.aload_n 0, 1) := by decide +kernel
theorem dX7_stepsBetween_15 : decode cX7_stepsBetween 15 = .ok (.iload_n 1, 1) := by decide +kernel
theorem dX7_stepsBetween_16 : decode cX7_stepsBetween 16 = .ok (.iload_n 2, 1) := by decide +kernel
theorem dX7_stepsBetween_17 : decode cX7_stepsBetween 17 = .ok (.invokevirtual 86, 3) := by decide +kernel
theorem dX7_stepsBetween_20 : decode cX7_stepsBetween 20 = .ok (.istore_n 3, 1) := by decide +kernel
theorem dX7_stepsBetween_21 : decode cX7_stepsBetween 21 = .ok (.iload_n 3, 1) := by decide +kernel
theorem dX7_stepsBetween_22 : decode cX7_stepsBetween 22 = .ok (.aload_n 0, 1) := by decide +kernel
theorem dX7_stepsBetween_23 : decode cX7_stepsBetween 23 = .ok (.getfield 21, 3) := by decide +kernel
theorem dX7_stepsBetween_26 : decode cX7_stepsBetween 26 = .ok (.iload_n 3, 1) := by decide +kernel
theorem dX7_stepsBetween_27 : decode cX7_stepsBetween 27 = .ok (.isub, 1) := by decide +kernel
theorem dX7_stepsBetween_28 : decode cX7_stepsBetween 28 = .ok (.invokestatic 89, 3) := by decide +kernel
theorem dX7_stepsBetween_31 : decode cX7_stepsBetween 31 = .ok (.ireturn, 1) := by decide +kernel
theorem dX7_stepsRight_0 : decode cX7_stepsRight 0 = .ok (.iload_n 2, 1) := by decide +kernel
theorem dX7_stepsRight_1 : decode cX7_stepsRight 1 = .ok (.iload_n 1, 1) := by decide +kernel
theorem dX7_stepsRight_2 : decode cX7_stepsRight 2 = .ok (.if_icmp .lt 9, 3) := by decide +kernel
theorem dX7_stepsRight_5 : decode cX7_stepsRight 5 = .ok (.iload_n 2, 1) := by decide +kernel
theorem dX7_stepsRight_6 : decode cX7_stepsRight 6 = .ok (.iload_n 1, 1) := by decide +kernel
theorem dX7_stepsRight_7 : decode cX7_stepsRight 7 = .ok (.isub, 1) := by decide +kernel
theorem dX7_stepsRight_8 : decode cX7_stepsRight 8 = .ok (.goto 11, 3) := by decide +kernel
theorem dX7_stepsRight_11 : decode cX7_stepsRight 11 = .ok (.iload_n 2, 1) := by decide +kernel
theorem dX7_stepsRight_12 : decode cX7_stepsRight 12 = .ok (.iload_n 1, 1) := by decide +kernel
theorem dX7_stepsRight_13 : decode cX7_stepsRight 13 = .ok (.isub, 1) := by decide +kernel
theorem dX7_stepsRight_14 : decode cX7_stepsRight 14 = .ok (.aload_n 0, 1) := by decide +kernel
theorem dX7_stepsRight_15 : decode cX7_stepsRight 15 = .ok (.getfield 21, 3) := by decide +kernel
theorem dX7_stepsRight_18 : decode cX7_stepsRight 18 = .ok (.iadd, 1) := by decide +kernel
theorem dX7_stepsRight_19 : decode cX7_stepsRight 19 = .ok (.ireturn, 1) := by decide +kernel
theorem dX7_stepTowards_0 : decode cX7_stepTowards 0 = .ok (.aload_n 0, 1) := by decide +kernel
theorem dX7_stepTowards_1 : decode cX7_stepTowards 1 = .ok (.getfield 28, 3) := by decide +kernel
theorem dX7_stepTowards_4 : decode cX7_stepTowards 4 = .ok (.ifCond .ne 14, 3) := by decide +kernel
theorem dX7_stepTowards_7 : decode cX7_stepTowards 7 = .ok (.iload_n 2, 1) := by decide +kernel
theorem dX7_stepTowards_8 : decode cX7_stepTowards 8 = .ok (.iload_n 1, 1) := by decide +kernel
theorem dX7_stepTowards_9 : decode cX7_stepTowards 9 = .ok (.if_icmp .le 7, 3) := by decide +kernel
theorem dX7_stepTowards_12 : decode cX7_stepTowards 12 = .ok (.iconst 1, 1) := by decide +kernel
theorem dX7_stepTowards_13 : decode cX7_stepTowards 13 = .ok (.goto 4, 3) := by decide +kernel
theorem dX7_stepTowards_16 : decode cX7_stepTowards 16 = .ok (.iconst (-1), 1) := by decide +kernel
theorem dX7_stepTowards_17 : decode cX7_stepTowards 17 = .ok (.ireturn, 1) := by decide +kernel
theorem dX7_stepTowards_18 : decode cX7_stepTowards 18 = .ok (.aload_n 0, 1) := by decide +kernel
theorem dX7_stepTowards_19 : decode cX7_stepTowards 19 = .ok (.iload_n 1, 1) := by decide +kernel
theorem dX7_stepTowards_20 : decode cX7_stepTowards 20 = .ok (.iload_n 2, 1) := by decide +kernel
theorem dX7_stepTowards_21 : decode cX7_stepTowards 21 = .ok (.invokevirtual 86, 3) := by decide +kernel
theorem dX7_stepTowards_24 : decode cX7_stepTowards 24 = .ok (.istore_n 3, 1) := by decide +kernel
theorem dX7_stepTowards_25 : decode cX7_stepTowards 25 = .ok (.iload_n 3, 1) := by decide +kernel
theorem dX7_stepTowards_26 : decode cX7_stepTowards 26 = .ok (.aload_n 0, 1) := by decide +kernel
theorem dX7_stepTowards_27 : decode cX7_stepTowards 27 = .ok (.getfield 21, 3) := by decide +kernel
theorem dX7_stepTowards_30 : decode cX7_stepTowards 30 = .ok (.iload_n 3, 1) := by decide +kernel
theorem dX7_stepTowards_31 : decode cX7_stepTowards 31 = .ok (.isub, 1) := by decide +kernel
theorem dX7_stepTowards_32 : decode cX7_stepTowards 32 = .ok (.if_icmp .gt 7, 3) := by decide +kernel
theorem dX7_stepTowards_35 : decode cX7_stepTowards 35 = .ok (.iconst 1, 1) := by decide +kernel
theorem dX7_stepTowards_36 : decode cX7_stepTowards 36 = .ok (.goto 4, 3) := by decide +kernel
theorem dX7_stepTowards_39 : decode cX7_stepTowards 39 = .ok (.iconst (-1), 1) := by decide +kernel
theorem dX7_stepTowards_40 : decode cX7_stepTowards 40 = .ok (.ireturn, 1) := by decide +kernel
theorem dX7_nextSeat_0 : decode cX7_nextSeat 0 = .ok (.iload_n 1, 1) := by decide +kernel
theorem dX7_nextSeat_1 : decode cX7_nextSeat 1 = .ok (.iload_n 2, 1) := by decide +kernel
theorem dX7_nextSeat_2 : decode cX7_nextSeat 2 = .ok (.iadd, 1) := by decide +kernel
theorem dX7_nextSeat_3 : decode cX7_nextSeat 3 = .ok (.istore_n 3, 1) := by decide +kernel
theorem dX7_nextSeat_4 : decode cX7_nextSeat 4 = .ok (.iload_n 3, 1) := by decide +kernel
theorem dX7_nextSeat_5 : decode cX7_nextSeat 5 = .ok (.ifCond .ge 10, 3) := by decide +kernel
theorem dX7_nextSeat_8 : decode cX7_nextSeat 8 = .ok (.aload_n 0, 1) := by decide +kernel
theorem dX7_nextSeat_9 : decode cX7_nextSeat 9 = .ok (.getfield 21, 3) := by decide +kernel
theorem dX7_nextSeat_12 : decode cX7_nextSeat 12 = .ok (.iconst 1, 1) := by decide +kernel
theorem dX7_nextSeat_13 : decode cX7_nextSeat 13 = .ok (.isub, 1) := by decide +kernel
theorem dX7_nextSeat_14 : decode cX7_nextSeat 14 = .ok (.ireturn, 1) := by decide +kernel
theorem dX7_nextSeat_15 : decode cX7_nextSeat 15 = .ok (.iload_n 3, 1) := by decide +kernel
theorem dX7_nextSeat_16 : decode cX7_nextSeat 16 = .ok (.aload_n 0, 1) := by decide +kernel
theorem dX7_nextSeat_17 : decode cX7_nextSeat 17 = .ok (.getfield 21, 3) := by decide +kernel
theorem dX7_nextSeat_20 : decode cX7_nextSeat 20 = .ok (.if_icmp .lt 7, 3) := by decide +kernel
theorem dX7_nextSeat_23 : decode cX7_nextSeat 23 = .ok (.iconst 0, 1) := by decide +kernel
theorem dX7_nextSeat_24 : decode cX7_nextSeat 24 = .ok (.goto 4, 3) := by decide +kernel
theorem dX7_nextSeat_27 : decode cX7_nextSeat 27 = .ok (.iload_n 3, 1) := by decide +kernel
theorem dX7_nextSeat_28 : decode cX7_nextSeat 28 = .ok (.ireturn, 1) := by decide +kernel
theorem dX7_canBeAsked_0 : decode cX7_canBeAsked 0 = .ok (.iload_n 2, 1) := by decide +kernel
theorem dX7_canBeAsked_1 : decode cX7_canBeAsked 1 = .ok (.iload_n 3, 1) := by decide +kernel
theorem dX7_canBeAsked_2 : decode cX7_canBeAsked 2 = .ok (.if_icmp .eq 60, 3) := by decide +kernel
theorem dX7_canBeAsked_5 : decode cX7_canBeAsked 5 = .ok (.iload_n 2, 1) := by decide +kernel
theorem dX7_canBeAsked_6 : decode cX7_canBeAsked 6 = .ok (.ifCond .lt 56, 3) := by decide +kernel
theorem dX7_canBeAsked_9 : decode cX7_canBeAsked 9 = .ok (.iload_n 2, 1) := by decide +kernel
theorem dX7_canBeAsked_10 : decode cX7_canBeAsked 10 = .ok (.aload_n 0, 1) := by decide +kernel
theorem dX7_canBeAsked_11 : decode cX7_canBeAsked 11 = .ok (.getfield 21, 3) := by decide +kernel
theorem dX7_canBeAsked_14 : decode cX7_canBeAsked 14 = .ok (.if_icmp .ge 48, 3) := by decide +kernel
theorem dX7_canBeAsked_17 : decode cX7_canBeAsked 17 = .ok (.iload_n 3, 1) := by decide +kernel
theorem dX7_canBeAsked_18 : decode cX7_canBeAsked 18 = .ok (.ifCond .lt 44, 3) := by decide +kernel
theorem dX7_canBeAsked_21 : decode cX7_canBeAsked 21 = .ok (.iload_n 3, 1) := by decide +kernel
theorem dX7_canBeAsked_22 : decode cX7_canBeAsked 22 = .ok (.aload_n 0, 1) := by decide +kernel
theorem dX7_canBeAsked_23 : decode cX7_canBeAsked 23 = .ok (.getfield 21, 3) := by decide +kernel
theorem dX7_canBeAsked_26 : decode cX7_canBeAsked 26 = .ok (.if_icmp .ge 36, 3) := by decide +kernel
theorem dX7_canBeAsked_29 : decode cX7_canBeAsked 29 = .ok (.aload_n 0, 1) := by decide +kernel
theorem dX7_canBeAsked_30 : decode cX7_canBeAsked 30 = .ok (.iload_n 3, 1) := by decide +kernel
theorem dX7_canBeAsked_31 : decode cX7_canBeAsked 31 = .ok (.invokevirtual 45, 3) := by decide +kernel
theorem dX7_canBeAsked_34 : decode cX7_canBeAsked 34 = .ok (.iconst 2, 1) := by decide +kernel
theorem dX7_canBeAsked_35 : decode cX7_canBeAsked 35 = .ok (.if_icmp .eq 27, 3) := by decide +kernel
theorem dX7_canBeAsked_38 : decode cX7_canBeAsked 38 = .ok (.iload_n 1, 1) := by decide +kernel
theorem dX7_canBeAsked_39 : decode cX7_canBeAsked 39 = .ok (.iload_n 2, 1) := by decide +kernel
theorem dX7_canBeAsked_40 : decode cX7_canBeAsked 40 = .ok (.invokestatic 77, 3) := by decide +kernel
theorem dX7_canBeAsked_43 : decode cX7_canBeAsked 43 = .ok (.bipush 7, 2) := by decide +kernel
theorem dX7_canBeAsked_45 : decode cX7_canBeAsked 45 = .ok (.if_icmp .eq 17, 3) := by decide +kernel
theorem dX7_canBeAsked_48 : decode cX7_canBeAsked 48 = .ok (.iload_n 1, 1) := by decide +kernel
theorem dX7_canBeAsked_49 : decode cX7_canBeAsked 49 = .ok (.iload_n 3, 1) := by decide +kernel
theorem dX7_canBeAsked_50 : decode cX7_canBeAsked 50 = .ok (.invokestatic 77, 3) := by decide +kernel
theorem dX7_canBeAsked_53 : decode cX7_canBeAsked 53 = .ok (.bipush 7, 2) := by decide +kernel
theorem dX7_canBeAsked_55 : decode cX7_canBeAsked 55 = .ok (.if_icmp .eq 7, 3) := by decide +kernel
theorem dX7_canBeAsked_58 : decode cX7_canBeAsked 58 = .ok (.iconst 1, 1) := by decide +kernel
theorem dX7_canBeAsked_59 : decode cX7_canBeAsked 59 = .ok (.goto 4, 3) := by decide +kernel
theorem dX7_canBeAsked_62 : decode cX7_canBeAsked 62 = .ok (.iconst 0, 1) := by decide +kernel
theorem dX7_canBeAsked_63 : decode cX7_canBeAsked 63 = .ok (.ireturn, 1) := by decide +kernel
theorem dX7_lieAfter_0 : decode cX7_lieAfter 0 = .ok (.aload_n 0, 1) := by decide +kernel
theorem dX7_lieAfter_1 : decode cX7_lieAfter 1 = .ok (.iload_n 2, 1) := by decide +kernel
theorem dX7_lieAfter_2 : decode cX7_lieAfter 2 = .ok (.iload_n 3, 1) := by decide +kernel
theorem dX7_lieAfter_3 : decode cX7_lieAfter 3 = .ok (.invokevirtual 92, 3) := by decide +kernel
theorem dX7_lieAfter_6 : decode cX7_lieAfter 6 = .ok (.istore 4, 2) := by decide +kernel
theorem dX7_lieAfter_8 : decode cX7_lieAfter 8 = .ok (.iload_n 1, 1) := by decide +kernel
theorem dX7_lieAfter_9 : decode cX7_lieAfter 9 = .ok (.iload_n 2, 1) := by decide +kernel
theorem dX7_lieAfter_10 : decode cX7_lieAfter 10 = .ok (.bipush 7, 2) := by decide +kernel
theorem dX7_lieAfter_12 : decode cX7_lieAfter 12 = .ok (.invokestatic 64, 3) := by decide +kernel
theorem dX7_lieAfter_15 : decode cX7_lieAfter 15 = .ok (.iload_n 3, 1) := by decide +kernel
theorem dX7_lieAfter_16 : decode cX7_lieAfter 16 = .ok (.bipush 7, 2) := by decide +kernel
theorem dX7_lieAfter_18 : decode cX7_lieAfter 18 = .ok (.invokestatic 64, 3) := by decide +kernel
theorem dX7_lieAfter_21 : decode cX7_lieAfter 21 = .ok (.istore 5, 2) := by decide +kernel
theorem dX7_lieAfter_23 : decode cX7_lieAfter 23 = .ok (.aload_n 0, 1) := by decide +kernel
theorem dX7_lieAfter_24 : decode cX7_lieAfter 24 = .ok (.iload 5, 2) := by decide +kernel
theorem dX7_lieAfter_26 : decode cX7_lieAfter 26 = .ok (.iload_n 1, 1) := by decide +kernel
theorem dX7_lieAfter_27 : decode cX7_lieAfter 27 = .ok (.iload_n 2, 1) := by decide +kernel
theorem dX7_lieAfter_28 : decode cX7_lieAfter 28 = .ok (.invokestatic 77, 3) := by decide +kernel
theorem dX7_lieAfter_31 : decode cX7_lieAfter 31 = .ok (.iload_n 2, 1) := by decide +kernel
theorem dX7_lieAfter_32 : decode cX7_lieAfter 32 = .ok (.iload_n 3, 1) := by decide +kernel
theorem dX7_lieAfter_33 : decode cX7_lieAfter 33 = .ok (.iload 4, 2) := by decide +kernel
theorem dX7_lieAfter_35 : decode cX7_lieAfter 35 = .ok (.invokevirtual 95, 3) := by decide +kernel
theorem dX7_lieAfter_38 : decode cX7_lieAfter 38 = .ok (.istore 5, 2) := by decide +kernel
theorem dX7_lieAfter_40 : decode cX7_lieAfter 40 = .ok (.aload_n 0, 1) := by decide +kernel
theorem dX7_lieAfter_41 : decode cX7_lieAfter 41 = .ok (.iload 5, 2) := by decide +kernel
theorem dX7_lieAfter_43 : decode cX7_lieAfter 43 = .ok (.iload_n 1, 1) := by decide +kernel
theorem dX7_lieAfter_44 : decode cX7_lieAfter 44 = .ok (.iload_n 3, 1) := by decide +kernel
theorem dX7_lieAfter_45 : decode cX7_lieAfter 45 = .ok (.invokestatic 77, 3) := by decide +kernel
theorem dX7_lieAfter_48 : decode cX7_lieAfter 48 = .ok (.iload_n 3, 1) := by decide +kernel
theorem dX7_lieAfter_49 : decode cX7_lieAfter 49 = .ok (.iload_n 2, 1) := by decide +kernel
theorem dX7_lieAfter_50 : decode cX7_lieAfter 50 = .ok (.iload 4, 2) := by decide +kernel
theorem dX7_lieAfter_52 : decode cX7_lieAfter 52 = .ok (.ineg, 1) := by decide +kernel
theorem dX7_lieAfter_53 : decode cX7_lieAfter 53 = .ok (.invokevirtual 95, 3) := by decide +kernel
theorem dX7_lieAfter_56 : decode cX7_lieAfter 56 = .ok (.istore 5, 2) := by decide +kernel
theorem dX7_lieAfter_58 : decode cX7_lieAfter 58 = .ok (.aload_n 0, 1) := by decide +kernel
theorem dX7_lieAfter_59 : decode cX7_lieAfter 59 = .ok (.aload_n 0, 1) := by decide +kernel
theorem dX7_lieAfter_60 : decode cX7_lieAfter 60 = .ok (.iload 5, 2) := by decide +kernel
theorem dX7_lieAfter_62 : decode cX7_lieAfter 62 = .ok (.iload_n 2, 1) := by decide +kernel
theorem dX7_lieAfter_63 : decode cX7_lieAfter 63 = .ok (.invokevirtual 99, 3) := by decide +kernel
theorem dX7_lieAfter_66 : decode cX7_lieAfter 66 = .ok (.iload_n 3, 1) := by decide +kernel
theorem dX7_lieAfter_67 : decode cX7_lieAfter 67 = .ok (.invokevirtual 99, 3) := by decide +kernel
theorem dX7_lieAfter_70 : decode cX7_lieAfter 70 = .ok (.ireturn, 1) := by decide +kernel
theorem dX7_carried_0 : decode cX7_carried 0 = .ok (.iload_n 1, 1) := by decide +kernel
theorem dX7_carried_1 : decode cX7_carried 1 = .ok (.istore 6, 2) := by decide +kernel
theorem dX7_carried_3 : decode cX7_carried 3 = .ok (.iload_n 2, 1) := by decide +kernel
theorem dX7_carried_4 : decode cX7_carried 4 = .ok (.istore 7, 2) := by decide +kernel
theorem dX7_carried_6 : decode cX7_carried 6 = .ok (.aload_n 0, 1) := by decide +kernel
theorem dX7_carried_7 : decode cX7_carried 7 = .ok (.iload_n 3, 1) := by decide +kernel
theorem dX7_carried_8 : decode cX7_carried 8 = .ok (.iload 5, 2) := by decide +kernel
theorem dX7_carried_10 : decode cX7_carried 10 = .ok (.invokevirtual 102, 3) := by decide +kernel
theorem dX7_carried_13 : decode cX7_carried 13 = .ok (.istore 8, 2) := by decide +kernel
theorem dX7_carried_15 : decode cX7_carried 15 = .ok (.iconst 0, 1) := by decide +kernel
theorem dX7_carried_16 : decode cX7_carried 16 = .ok (.istore 9, 2) := by decide +kernel
theorem dX7_carried_18 : decode cX7_carried 18 = .ok (.iload 9, 2) := by decide +kernel
theorem dX7_carried_20 : decode cX7_carried 20 = .ok (.bipush 6, 2) := by decide +kernel
theorem dX7_carried_22 : decode cX7_carried 22 = .ok (.if_icmp .ge 79, 3) := by decide +kernel
theorem dX7_carried_25 : decode cX7_carried 25 = .ok (.iload 8, 2) := by decide +kernel
theorem dX7_carried_27 : decode cX7_carried 27 = .ok (.iload 4, 2) := by decide +kernel
theorem dX7_carried_29 : decode cX7_carried 29 = .ok (.if_icmp .eq 72, 3) := by decide +kernel
theorem dX7_carried_32 : decode cX7_carried 32 = .ok (.iload 6, 2) := by decide +kernel
theorem dX7_carried_34 : decode cX7_carried 34 = .ok (.iload 8, 2) := by decide +kernel
theorem dX7_carried_36 : decode cX7_carried 36 = .ok (.invokestatic 77, 3) := by decide +kernel
theorem dX7_carried_39 : decode cX7_carried 39 = .ok (.istore 10, 2) := by decide +kernel
theorem dX7_carried_41 : decode cX7_carried 41 = .ok (.aload_n 0, 1) := by decide +kernel
theorem dX7_carried_42 : decode cX7_carried 42 = .ok (.iload 8, 2) := by decide +kernel
theorem dX7_carried_44 : decode cX7_carried 44 = .ok (.invokevirtual 45, 3) := by decide +kernel
theorem dX7_carried_47 : decode cX7_carried 47 = .ok (.iconst 1, 1) := by decide +kernel
theorem dX7_carried_48 : decode cX7_carried 48 = .ok (.if_icmp .ne 37, 3) := by decide +kernel
theorem dX7_carried_51 : decode cX7_carried 51 = .ok (.aload_n 0, 1) := by decide +kernel
theorem dX7_carried_52 : decode cX7_carried 52 = .ok (.iload 8, 2) := by decide +kernel
theorem dX7_carried_54 : decode cX7_carried 54 = .ok (.iload 7, 2) := by decide +kernel
theorem dX7_carried_56 : decode cX7_carried 56 = .ok (.invokevirtual 56, 3) := by decide +kernel
theorem dX7_carried_59 : decode cX7_carried 59 = .ok (.aload_n 0, 1) := by decide +kernel
theorem dX7_carried_60 : decode cX7_carried 60 = .ok (.iload 8, 2) := by decide +kernel
theorem dX7_carried_62 : decode cX7_carried 62 = .ok (.iload 10, 2) := by decide +kernel
theorem dX7_carried_64 : decode cX7_carried 64 = .ok (.invokevirtual 56, 3) := by decide +kernel
theorem dX7_carried_67 : decode cX7_carried 67 = .ok (.if_icmp .le 18, 3) := by decide +kernel
theorem dX7_carried_70 : decode cX7_carried 70 = .ok (.iload 6, 2) := by decide +kernel
theorem dX7_carried_72 : decode cX7_carried 72 = .ok (.iload 8, 2) := by decide +kernel
theorem dX7_carried_74 : decode cX7_carried 74 = .ok (.iload 7, 2) := by decide +kernel
theorem dX7_carried_76 : decode cX7_carried 76 = .ok (.invokestatic 64, 3) := by decide +kernel
theorem dX7_carried_79 : decode cX7_carried 79 = .ok (.istore 6, 2) := by decide +kernel
theorem dX7_carried_81 : decode cX7_carried 81 = .ok (.iload 10, 2) := by decide +kernel
theorem dX7_carried_83 : decode cX7_carried 83 = .ok (.istore 7, 2) := by decide +kernel
theorem dX7_carried_85 : decode cX7_carried 85 = .ok (.aload_n 0, 1) := by decide +kernel
theorem dX7_carried_86 : decode cX7_carried 86 = .ok (.iload 8, 2) := by decide +kernel
theorem dX7_carried_88 : decode cX7_carried 88 = .ok (.iload 5, 2) := by decide +kernel
theorem dX7_carried_90 : decode cX7_carried 90 = .ok (.invokevirtual 102, 3) := by decide +kernel
theorem dX7_carried_93 : decode cX7_carried 93 = .ok (.istore 8, 2) := by decide +kernel
theorem dX7_carried_95 : decode cX7_carried 95 = .ok (.iinc 9 1, 3) := by decide +kernel
theorem dX7_carried_98 : decode cX7_carried 98 = .ok (.goto (-80), 3) := by decide +kernel
theorem dX7_carried_101 : decode cX7_carried 101 = .ok (.iload 6, 2) := by decide +kernel
theorem dX7_carried_103 : decode cX7_carried 103 = .ok (.iload 4, 2) := by decide +kernel
theorem dX7_carried_105 : decode cX7_carried 105 = .ok (.iload 7, 2) := by decide +kernel
theorem dX7_carried_107 : decode cX7_carried 107 = .ok (.invokestatic 64, 3) := by decide +kernel
theorem dX7_carried_110 : decode cX7_carried 110 = .ok (.ireturn, 1) := by decide +kernel
theorem dX7_childChanged_0 : decode cX7_childChanged 0 = .ok (.aload_n 0, 1) := by decide +kernel
theorem dX7_childChanged_1 : decode cX7_childChanged 1 = .ok (.getfield 28, 3) := by decide +kernel
theorem dX7_childChanged_4 : decode cX7_childChanged 4 = .ok (.ifCond .ne 17, 3) := by decide +kernel
theorem dX7_childChanged_7 : decode cX7_childChanged 7 = .ok (.iload_n 2, 1) := by decide +kernel
theorem dX7_childChanged_8 : decode cX7_childChanged 8 = .ok (.aload_n 0, 1) := by decide +kernel
theorem dX7_childChanged_9 : decode cX7_childChanged 9 = .ok (.getfield 21, 3) := by decide +kernel
theorem dX7_childChanged_12 : decode cX7_childChanged 12 = .ok (.iconst 1, 1) := by decide +kernel
theorem dX7_childChanged_13 : decode cX7_childChanged 13 = .ok (.isub, 1) := by decide +kernel
theorem dX7_childChanged_14 : decode cX7_childChanged 14 = .ok (.if_icmp .ne 7, 3) := by decide +kernel
theorem dX7_childChanged_17 : decode cX7_childChanged 17 = .ok (.iconst 1, 1) := by decide +kernel
theorem dX7_childChanged_18 : decode cX7_childChanged 18 = .ok (.goto 4, 3) := by decide +kernel
theorem dX7_childChanged_21 : decode cX7_childChanged 21 = .ok (.iconst 0, 1) := by decide +kernel
theorem dX7_childChanged_22 : decode cX7_childChanged 22 = .ok (.istore_n 3, 1) := by decide +kernel
theorem dX7_childChanged_23 : decode cX7_childChanged 23 = .ok (.aload_n 0, 1) := by decide +kernel
theorem dX7_childChanged_24 : decode cX7_childChanged 24 = .ok (.iload_n 2, 1) := by decide +kernel
theorem dX7_childChanged_25 : decode cX7_childChanged 25 = .ok (.invokevirtual 45, 3) := by decide +kernel
theorem dX7_childChanged_28 : decode cX7_childChanged 28 = .ok (.iconst 3, 1) := by decide +kernel
theorem dX7_childChanged_29 : decode cX7_childChanged 29 = .ok (.if_icmp .ne 17, 3) := by decide +kernel
theorem dX7_childChanged_32 : decode cX7_childChanged 32 = .ok (.iload_n 1, 1) := by decide +kernel
theorem dX7_childChanged_33 : decode cX7_childChanged 33 = .ok (.iload_n 2, 1) := by decide +kernel
theorem dX7_childChanged_34 : decode cX7_childChanged 34 = .ok (.invokestatic 77, 3) := by decide +kernel
theorem dX7_childChanged_37 : decode cX7_childChanged 37 = .ok (.bipush 7, 2) := by decide +kernel
theorem dX7_childChanged_39 : decode cX7_childChanged 39 = .ok (.if_icmp .eq 7, 3) := by decide +kernel
theorem dX7_childChanged_42 : decode cX7_childChanged 42 = .ok (.iload_n 3, 1) := by decide +kernel
theorem dX7_childChanged_43 : decode cX7_childChanged 43 = .ok (.ifCond .eq 5, 3) := by decide +kernel
theorem dX7_childChanged_46 : decode cX7_childChanged 46 = .ok (.iload_n 1, 1) := by decide +kernel
theorem dX7_childChanged_47 : decode cX7_childChanged 47 = .ok (.ireturn, 1) := by decide +kernel
theorem dX7_childChanged_48 : decode cX7_childChanged 48 = .ok (.iload_n 1, 1) := by decide +kernel
theorem dX7_childChanged_49 : decode cX7_childChanged 49 = .ok (.iload_n 2, 1) := by decide +kernel
theorem dX7_childChanged_50 : decode cX7_childChanged 50 = .ok (.aload_n 0, 1) := by decide +kernel
theorem dX7_childChanged_51 : decode cX7_childChanged 51 = .ok (.iload_n 2, 1) := by decide +kernel
theorem dX7_childChanged_52 : decode cX7_childChanged 52 = .ok (.iconst 1, 1) := by decide +kernel
theorem dX7_childChanged_53 : decode cX7_childChanged 53 = .ok (.invokevirtual 102, 3) := by decide +kernel
theorem dX7_childChanged_56 : decode cX7_childChanged 56 = .ok (.invokestatic 105, 3) := by decide +kernel
theorem dX7_childChanged_59 : decode cX7_childChanged 59 = .ok (.ireturn, 1) := by decide +kernel
theorem dX7_bothWouldLike_0 : decode cX7_bothWouldLike 0 = .ok (.iload_n 1, 1) := by decide +kernel
theorem dX7_bothWouldLike_1 : decode cX7_bothWouldLike 1 = .ok (.iload_n 2, 1) := by decide +kernel
theorem dX7_bothWouldLike_2 : decode cX7_bothWouldLike 2 = .ok (.invokestatic 77, 3) := by decide +kernel
theorem dX7_bothWouldLike_5 : decode cX7_bothWouldLike 5 = .ok (.istore 4, 2) := by decide +kernel
theorem dX7_bothWouldLike_7 : decode cX7_bothWouldLike 7 = .ok (.iload_n 1, 1) := by decide +kernel
theorem dX7_bothWouldLike_8 : decode cX7_bothWouldLike 8 = .ok (.iload_n 3, 1) := by decide +kernel
theorem dX7_bothWouldLike_9 : decode cX7_bothWouldLike 9 = .ok (.invokestatic 77, 3) := by decide +kernel
theorem dX7_bothWouldLike_12 : decode cX7_bothWouldLike 12 = .ok (.istore 5, 2) := by decide +kernel
theorem dX7_bothWouldLike_14 : decode cX7_bothWouldLike 14 = .ok (.aload_n 0, 1) := by decide +kernel
theorem dX7_bothWouldLike_15 : decode cX7_bothWouldLike 15 = .ok (.iload_n 2, 1) := by decide +kernel
theorem dX7_bothWouldLike_16 : decode cX7_bothWouldLike 16 = .ok (.iload 5, 2) := by decide +kernel
theorem dX7_bothWouldLike_18 : decode cX7_bothWouldLike 18 = .ok (.invokevirtual 56, 3) := by decide +kernel
theorem dX7_bothWouldLike_21 : decode cX7_bothWouldLike 21 = .ok (.aload_n 0, 1) := by decide +kernel
theorem dX7_bothWouldLike_22 : decode cX7_bothWouldLike 22 = .ok (.iload_n 2, 1) := by decide +kernel
theorem dX7_bothWouldLike_23 : decode cX7_bothWouldLike 23 = .ok (.iload 4, 2) := by decide +kernel
theorem dX7_bothWouldLike_25 : decode cX7_bothWouldLike 25 = .ok (.invokevirtual 56, 3) := by decide +kernel
theorem dX7_bothWouldLike_28 : decode cX7_bothWouldLike 28 = .ok (.if_icmp .le 24, 3) := by decide +kernel
theorem dX7_bothWouldLike_31 : decode cX7_bothWouldLike 31 = .ok (.aload_n 0, 1) := by decide +kernel
theorem dX7_bothWouldLike_32 : decode cX7_bothWouldLike 32 = .ok (.iload_n 3, 1) := by decide +kernel
theorem dX7_bothWouldLike_33 : decode cX7_bothWouldLike 33 = .ok (.iload 4, 2) := by decide +kernel
theorem dX7_bothWouldLike_35 : decode cX7_bothWouldLike 35 = .ok (.invokevirtual 56, 3) := by decide +kernel
theorem dX7_bothWouldLike_38 : decode cX7_bothWouldLike 38 = .ok (.aload_n 0, 1) := by decide +kernel
theorem dX7_bothWouldLike_39 : decode cX7_bothWouldLike 39 = .ok (.iload_n 3, 1) := by decide +kernel
theorem dX7_bothWouldLike_40 : decode cX7_bothWouldLike 40 = .ok (.iload 5, 2) := by decide +kernel
theorem dX7_bothWouldLike_42 : decode cX7_bothWouldLike 42 = .ok (.invokevirtual 56, 3) := by decide +kernel
theorem dX7_bothWouldLike_45 : decode cX7_bothWouldLike 45 = .ok (.if_icmp .le 7, 3) := by decide +kernel
theorem dX7_bothWouldLike_48 : decode cX7_bothWouldLike 48 = .ok (.iconst 1, 1) := by decide +kernel
theorem dX7_bothWouldLike_49 : decode cX7_bothWouldLike 49 = .ok (.goto 4, 3) := by decide +kernel
theorem dX7_bothWouldLike_52 : decode cX7_bothWouldLike 52 = .ok (.iconst 0, 1) := by decide +kernel
theorem dX7_bothWouldLike_53 : decode cX7_bothWouldLike 53 = .ok (.ireturn, 1) := by decide +kernel
theorem dX7_isAtRest_0 : decode cX7_isAtRest 0 = .ok (.iconst 0, 1) := by decide +kernel
theorem dX7_isAtRest_1 : decode cX7_isAtRest 1 = .ok (.istore_n 2, 1) := by decide +kernel
theorem dX7_isAtRest_2 : decode cX7_isAtRest 2 = .ok (.iload_n 2, 1) := by decide +kernel
theorem dX7_isAtRest_3 : decode cX7_isAtRest 3 = .ok (.aload_n 0, 1) := by decide +kernel
theorem dX7_isAtRest_4 : decode cX7_isAtRest 4 = .ok (.getfield 21, 3) := by decide +kernel
theorem dX7_isAtRest_7 : decode cX7_isAtRest 7 = .ok (.if_icmp .ge 35, 3) := by decide +kernel
theorem dX7_isAtRest_10 : decode cX7_isAtRest 10 = .ok (.aload_n 0, 1) := by decide +kernel
theorem dX7_isAtRest_11 : decode cX7_isAtRest 11 = .ok (.iload_n 2, 1) := by decide +kernel
theorem dX7_isAtRest_12 : decode cX7_isAtRest 12 = .ok (.invokevirtual 53, 3) := by decide +kernel
theorem dX7_isAtRest_15 : decode cX7_isAtRest 15 = .ok (.ifCond .eq 21, 3) := by decide +kernel
theorem dX7_isAtRest_18 : decode cX7_isAtRest 18 = .ok (.aload_n 0, 1) := by decide +kernel
theorem dX7_isAtRest_19 : decode cX7_isAtRest 19 = .ok (.iload_n 2, 1) := by decide +kernel
theorem dX7_isAtRest_20 : decode cX7_isAtRest 20 = .ok (.invokevirtual 53, 3) := by decide +kernel
theorem dX7_isAtRest_23 : decode cX7_isAtRest 23 = .ok (.iconst 1, 1) := by decide +kernel
theorem dX7_isAtRest_24 : decode cX7_isAtRest 24 = .ok (.iload_n 1, 1) := by decide +kernel
theorem dX7_isAtRest_25 : decode cX7_isAtRest 25 = .ok (.iload_n 2, 1) := by decide +kernel
theorem dX7_isAtRest_26 : decode cX7_isAtRest 26 = .ok (.invokestatic 77, 3) := by decide +kernel
theorem dX7_isAtRest_29 : decode cX7_isAtRest 29 = .ok (.ishl, 1) := by decide +kernel
theorem dX7_isAtRest_30 : decode cX7_isAtRest 30 = .ok (.iand, 1) := by decide +kernel
theorem dX7_isAtRest_31 : decode cX7_isAtRest 31 = .ok (.ifCond .ne 5, 3) := by decide +kernel
theorem dX7_isAtRest_34 : decode cX7_isAtRest 34 = .ok (.iconst 0, 1) := by decide +kernel
theorem dX7_isAtRest_35 : decode cX7_isAtRest 35 = .ok (.ireturn, 1) := by decide +kernel
theorem dX7_isAtRest_36 : decode cX7_isAtRest 36 = .ok (.iinc 2 1, 3) := by decide +kernel
theorem dX7_isAtRest_39 : decode cX7_isAtRest 39 = .ok (.goto (-37), 3) := by decide +kernel
theorem dX7_isAtRest_42 : decode cX7_isAtRest 42 = .ok (.iconst 1, 1) := by decide +kernel
theorem dX7_isAtRest_43 : decode cX7_isAtRest 43 = .ok (.ireturn, 1) := by decide +kernel
theorem dX7_wantedPairs_0 : decode cX7_wantedPairs 0 = .ok (.lconst 0, 1) := by decide +kernel
theorem dX7_wantedPairs_1 : decode cX7_wantedPairs 1 = .ok (.lstore_n 1, 1) := by decide +kernel
theorem dX7_wantedPairs_2 : decode cX7_wantedPairs 2 = .ok (.iconst 0, 1) := by decide +kernel
theorem dX7_wantedPairs_3 : decode cX7_wantedPairs 3 = .ok (.istore_n 3, 1) := by decide +kernel
theorem dX7_wantedPairs_4 : decode cX7_wantedPairs 4 = .ok (.iload_n 3, 1) := by decide +kernel
theorem dX7_wantedPairs_5 : decode cX7_wantedPairs 5 = .ok (.aload_n 0, 1) := by decide +kernel
theorem dX7_wantedPairs_6 : decode cX7_wantedPairs 6 = .ok (.getfield 21, 3) := by decide +kernel
theorem dX7_wantedPairs_9 : decode cX7_wantedPairs 9 = .ok (.if_icmp .ge 21, 3) := by decide +kernel
theorem dX7_wantedPairs_12 : decode cX7_wantedPairs 12 = .ok (.lload_n 1, 1) := by decide +kernel
theorem dX7_wantedPairs_13 : decode cX7_wantedPairs 13 = .ok (.aload_n 0, 1) := by decide +kernel
theorem dX7_wantedPairs_14 : decode cX7_wantedPairs 14 = .ok (.iload_n 3, 1) := by decide +kernel
theorem dX7_wantedPairs_15 : decode cX7_wantedPairs 15 = .ok (.invokevirtual 53, 3) := by decide +kernel
theorem dX7_wantedPairs_18 : decode cX7_wantedPairs 18 = .ok (.iload_n 3, 1) := by decide +kernel
theorem dX7_wantedPairs_19 : decode cX7_wantedPairs 19 = .ok (.invokestatic 108, 3) := by decide +kernel
theorem dX7_wantedPairs_22 : decode cX7_wantedPairs 22 = .ok (.lor, 1) := by decide +kernel
theorem dX7_wantedPairs_23 : decode cX7_wantedPairs 23 = .ok (.lstore_n 1, 1) := by decide +kernel
theorem dX7_wantedPairs_24 : decode cX7_wantedPairs 24 = .ok (.iinc 3 1, 3) := by decide +kernel
theorem dX7_wantedPairs_27 : decode cX7_wantedPairs 27 = .ok (.goto (-23), 3) := by decide +kernel
theorem dX7_wantedPairs_30 : decode cX7_wantedPairs 30 = .ok (.lload_n 1, 1) := by decide +kernel
theorem dX7_wantedPairs_31 : decode cX7_wantedPairs 31 = .ok (.lreturn, 1) := by decide +kernel
theorem dX8_init_0 : decode cX8_init 0 = .ok (.aload_n 0, 1) := by decide +kernel
theorem dX8_init_1 : decode cX8_init 1 = .ok (.invokespecial 3, 3) := by decide +kernel
theorem dX8_init_4 : decode cX8_init 4 = .ok (.aload_n 0, 1) := by decide +kernel
theorem dX8_init_5 : decode cX8_init 5 = .ok (.sipush 1023, 3) := by decide +kernel
theorem dX8_init_8 : decode cX8_init 8 = .ok (.putfield 9, 3) := by decide +kernel
theorem dX8_init_11 : decode cX8_init 11 = .ok (.aload_n 0, 1) := by decide +kernel
theorem dX8_init_12 : decode cX8_init 12 = .ok (.sipush 1023, 3) := by decide +kernel
theorem dX8_init_15 : decode cX8_init 15 = .ok (.putfield 15, 3) := by decide +kernel
theorem dX8_init_18 : decode cX8_init 18 = .ok (.aload_n 0, 1) := by decide +kernel
theorem dX8_init_19 : decode cX8_init 19 = .ok (.aload_n 1, 1) := by decide +kernel
theorem dX8_init_20 : decode cX8_init 20 = .ok (.putfield 18, 3) := by decide +kernel
theorem dX8_init_23 : decode cX8_init 23 = .ok (.aload_n 0, 1) := by decide +kernel
theorem dX8_init_24 : decode cX8_init 24 = .ok (.aload_n 2, 1) := by decide +kernel
theorem dX8_init_25 : decode cX8_init 25 = .ok (.putfield 22, 3) := by decide +kernel
theorem dX8_init_28 : decode cX8_init 28 = .ok (.aload_n 0, 1) := by decide +kernel
theorem dX8_init_29 : decode cX8_init 29 = .ok (.new 26, 3) := by decide +kernel
theorem dX8_init_32 : decode cX8_init 32 = .ok (.dup, 1) := by decide +kernel
theorem dX8_init_33 : decode cX8_init 33 = .ok (.invokespecial 28, 3) := by decide +kernel
theorem dX8_init_36 : decode cX8_init 36 = .ok (.putfield 29, 3) := by decide +kernel
theorem dX8_init_39 : decode cX8_init 39 = .ok (.aload_n 0, 1) := by decide +kernel
theorem dX8_init_40 : decode cX8_init 40 = .ok (.new 32, 3) := by decide +kernel
theorem dX8_init_43 : decode cX8_init 43 = .ok (.dup, 1) := by decide +kernel
theorem dX8_init_44 : decode cX8_init 44 = .ok (.new 34, 3) := by decide +kernel
theorem dX8_init_47 : decode cX8_init 47 = .ok (.dup, 1) := by decide +kernel
theorem dX8_init_48 : decode cX8_init 48 = .ok (.aload_n 0, 1) := by decide +kernel
theorem dX8_init_49 : decode cX8_init 49 = .ok (.getfield 29, 3) := by decide +kernel
theorem dX8_init_52 : decode cX8_init 52 = .ok (.aload_n 2, 1) := by decide +kernel
theorem dX8_init_53 : decode cX8_init 53 = .ok (.getfield 36, 3) := by decide +kernel
theorem dX8_init_56 : decode cX8_init 56 = .ok (.getfield 40, 3) := by decide +kernel
theorem dX8_init_59 : decode cX8_init 59 = .ok (.iconst 0, 1) := by decide +kernel
theorem dX8_init_60 : decode cX8_init 60 = .ok (.invokespecial 44, 3) := by decide +kernel
theorem dX8_init_63 : decode cX8_init 63 = .ok (.invokespecial 47, 3) := by decide +kernel
theorem dX8_init_66 : decode cX8_init 66 = .ok (.putfield 50, 3) := by decide +kernel
theorem dX8_init_69 : decode cX8_init 69 = .ok (.return_, 1) := by decide +kernel
theorem dX8_forget_0 : decode cX8_forget 0 = .ok (.aload_n 0, 1) := by decide +kernel
theorem dX8_forget_1 : decode cX8_forget 1 = .ok (.sipush 1023, 3) := by decide +kernel
theorem dX8_forget_4 : decode cX8_forget 4 = .ok (.putfield 9, 3) := by decide +kernel
theorem dX8_forget_7 : decode cX8_forget 7 = .ok (.aload_n 0, 1) := by decide +kernel
theorem dX8_forget_8 : decode cX8_forget 8 = .ok (.sipush 1023, 3) := by decide +kernel
theorem dX8_forget_11 : decode cX8_forget 11 = .ok (.putfield 15, 3) := by decide +kernel
theorem dX8_forget_14 : decode cX8_forget 14 = .ok (.return_, 1) := by decide +kernel
theorem dX8_findHolder_0 : decode cX8_findHolder 0 = .ok (.aload_n 0, 1) := by decide +kernel
theorem dX8_findHolder_1 : decode cX8_findHolder 1 = .ok (.getfield 9, 3) := by decide +kernel
theorem dX8_findHolder_4 : decode cX8_findHolder 4 = .ok (.aload_n 0, 1) := by decide +kernel
theorem dX8_findHolder_5 : decode cX8_findHolder 5 = .ok (.getfield 22, 3) := by decide +kernel
theorem dX8_findHolder_8 : decode cX8_findHolder 8 = .ok (.getfield 53, 3) := by decide +kernel
theorem dX8_findHolder_11 : decode cX8_findHolder 11 = .ok (.if_icmp .ne 4, 3) := by decide +kernel
theorem dX8_findHolder_14 : decode cX8_findHolder 14 = .ok (.return_, 1) := by decide +kernel
theorem dX8_findHolder_15 : decode cX8_findHolder 15 = .ok (.aload_n 0, 1) := by decide +kernel
theorem dX8_findHolder_16 : decode cX8_findHolder 16 = .ok (.aload_n 0, 1) := by decide +kernel
theorem dX8_findHolder_17 : decode cX8_findHolder 17 = .ok (.getfield 22, 3) := by decide +kernel
theorem dX8_findHolder_20 : decode cX8_findHolder 20 = .ok (.getfield 53, 3) := by decide +kernel
theorem dX8_findHolder_23 : decode cX8_findHolder 23 = .ok (.putfield 9, 3) := by decide +kernel
theorem dX8_findHolder_26 : decode cX8_findHolder 26 = .ok (.aload_n 0, 1) := by decide +kernel
theorem dX8_findHolder_27 : decode cX8_findHolder 27 = .ok (.iconst 0, 1) := by decide +kernel
theorem dX8_findHolder_28 : decode cX8_findHolder 28 = .ok (.putfield 56, 3) := by decide +kernel
theorem dX8_findHolder_31 : decode cX8_findHolder 31 = .ok (.aload_n 0, 1) := by decide +kernel
theorem dX8_findHolder_32 : decode cX8_findHolder 32 = .ok (.iconst 0, 1) := by decide +kernel
theorem dX8_findHolder_33 : decode cX8_findHolder 33 = .ok (.putfield 59, 3) := by decide +kernel
theorem dX8_findHolder_36 : decode cX8_findHolder 36 = .ok (.aload_n 0, 1) := by decide +kernel
theorem dX8_findHolder_37 : decode cX8_findHolder 37 = .ok (.getfield 22, 3) := by decide +kernel
theorem dX8_findHolder_40 : decode cX8_findHolder 40 = .ok (.aload_n 0, 1) := by decide +kernel
theorem dX8_findHolder_41 : decode cX8_findHolder 41 = .ok (.getfield 18, 3) := by decide +kernel
theorem dX8_findHolder_44 : decode cX8_findHolder 44 = .ok (.invokevirtual 62, 3) := by decide +kernel
theorem dX8_findHolder_47 : decode cX8_findHolder 47 = .ok (.invokevirtual 66, 3) := by decide +kernel
theorem dX8_findHolder_50 : decode cX8_findHolder 50 = .ok (.lstore_n 1, 1) := by decide +kernel
theorem dX8_findHolder_51 : decode cX8_findHolder 51 = .ok (.iconst 0, 1) := by decide +kernel
theorem dX8_findHolder_52 : decode cX8_findHolder 52 = .ok (.istore_n 3, 1) := by decide +kernel
theorem dX8_findHolder_53 : decode cX8_findHolder 53 = .ok (.iload_n 3, 1) := by decide +kernel
theorem dX8_findHolder_54 : decode cX8_findHolder 54 = .ok (.aload_n 0, 1) := by decide +kernel
theorem dX8_findHolder_55 : decode cX8_findHolder 55 = .ok (.getfield 18, 3) := by decide +kernel
theorem dX8_findHolder_58 : decode cX8_findHolder 58 = .ok (.getfield 70, 3) := by decide +kernel
theorem dX8_findHolder_61 : decode cX8_findHolder 61 = .ok (.if_icmp .ge 53, 3) := by decide +kernel
theorem dX8_findHolder_64 : decode cX8_findHolder 64 = .ok (.aload_n 0, 1) := by decide +kernel
theorem dX8_findHolder_65 : decode cX8_findHolder 65 = .ok (.iload_n 3, 1) := by decide +kernel
theorem dX8_findHolder_66 : decode cX8_findHolder 66 = .ok (.invokevirtual 73, 3) := by decide +kernel
theorem dX8_findHolder_69 : decode cX8_findHolder 69 = .ok (.lload_n 1, 1) := by decide +kernel
theorem dX8_findHolder_70 : decode cX8_findHolder 70 = .ok (.aload_n 0, 1) := by decide +kernel
theorem dX8_findHolder_71 : decode cX8_findHolder 71 = .ok (.getfield 50, 3) := by decide +kernel
theorem dX8_findHolder_74 : decode cX8_findHolder 74 = .ok (.lload_n 1, 1) := by decide +kernel
theorem dX8_findHolder_75 : decode cX8_findHolder 75 = .ok (.invokevirtual 66, 3) := by decide +kernel
theorem dX8_findHolder_78 : decode cX8_findHolder 78 = .ok (.ldc2_w 77, 3) := by decide +kernel
theorem dX8_findHolder_81 : decode cX8_findHolder 81 = .ok (.lxor, 1) := by decide +kernel
theorem dX8_findHolder_82 : decode cX8_findHolder 82 = .ok (.land, 1) := by decide +kernel
theorem dX8_findHolder_83 : decode cX8_findHolder 83 = .ok (.invokestatic 79, 3) := by decide +kernel
theorem dX8_findHolder_86 : decode cX8_findHolder 86 = .ok (.istore 4, 2) := by decide +kernel
theorem dX8_findHolder_88 : decode cX8_findHolder 88 = .ok (.iload 4, 2) := by decide +kernel
theorem dX8_findHolder_90 : decode cX8_findHolder 90 = .ok (.aload_n 0, 1) := by decide +kernel
theorem dX8_findHolder_91 : decode cX8_findHolder 91 = .ok (.getfield 59, 3) := by decide +kernel
theorem dX8_findHolder_94 : decode cX8_findHolder 94 = .ok (.if_icmp .le 14, 3) := by decide +kernel
theorem dX8_findHolder_97 : decode cX8_findHolder 97 = .ok (.aload_n 0, 1) := by decide +kernel
theorem dX8_findHolder_98 : decode cX8_findHolder 98 = .ok (.iload_n 3, 1) := by decide +kernel
theorem dX8_findHolder_99 : decode cX8_findHolder 99 = .ok (.putfield 56, 3) := by decide +kernel
theorem dX8_findHolder_102 : decode cX8_findHolder 102 = .ok (.aload_n 0, 1) := by decide +kernel
theorem dX8_findHolder_103 : decode cX8_findHolder 103 = .ok (.iload 4, 2) := by decide +kernel
theorem dX8_findHolder_105 : decode cX8_findHolder 105 = .ok (.putfield 59, 3) := by decide +kernel
theorem dX8_findHolder_108 : decode cX8_findHolder 108 = .ok (.iinc 3 1, 3) := by decide +kernel
theorem dX8_findHolder_111 : decode cX8_findHolder 111 = .ok (.goto (-58), 3) := by decide +kernel
theorem dX8_findHolder_114 : decode cX8_findHolder 114 = .ok (.return_, 1) := by decide +kernel
theorem dX8_bestSeats_0 : decode cX8_bestSeats 0 = .ok (.aload_n 0, 1) := by decide +kernel
theorem dX8_bestSeats_1 : decode cX8_bestSeats 1 = .ok (.getfield 15, 3) := by decide +kernel
theorem dX8_bestSeats_4 : decode cX8_bestSeats 4 = .ok (.aload_n 0, 1) := by decide +kernel
theorem dX8_bestSeats_5 : decode cX8_bestSeats 5 = .ok (.getfield 22, 3) := by decide +kernel
theorem dX8_bestSeats_8 : decode cX8_bestSeats 8 = .ok (.getfield 53, 3) := by decide +kernel
theorem dX8_bestSeats_11 : decode cX8_bestSeats 11 = .ok (.if_icmp .ne 8, 3) := by decide +kernel
theorem dX8_bestSeats_14 : decode cX8_bestSeats 14 = .ok (.aload_n 0, 1) := by decide +kernel
theorem dX8_bestSeats_15 : decode cX8_bestSeats 15 = .ok (.getfield 85, 3) := by decide +kernel
theorem dX8_bestSeats_18 : decode cX8_bestSeats 18 = .ok (.ireturn, 1) := by decide +kernel
theorem dX8_bestSeats_19 : decode cX8_bestSeats 19 = .ok (.aload_n 0, 1) := by decide +kernel
theorem dX8_bestSeats_20 : decode cX8_bestSeats 20 = .ok (.aload_n 0, 1) := by decide +kernel
theorem dX8_bestSeats_21 : decode cX8_bestSeats 21 = .ok (.getfield 22, 3) := by decide +kernel
theorem dX8_bestSeats_24 : decode cX8_bestSeats 24 = .ok (.getfield 53, 3) := by decide +kernel
theorem dX8_bestSeats_27 : decode cX8_bestSeats 27 = .ok (.putfield 15, 3) := by decide +kernel
theorem dX8_bestSeats_30 : decode cX8_bestSeats 30 = .ok (.aload_n 0, 1) := by decide +kernel
theorem dX8_bestSeats_31 : decode cX8_bestSeats 31 = .ok (.bipush (-4), 2) := by decide +kernel
theorem dX8_bestSeats_33 : decode cX8_bestSeats 33 = .ok (.putfield 85, 3) := by decide +kernel
theorem dX8_bestSeats_36 : decode cX8_bestSeats 36 = .ok (.aload_n 0, 1) := by decide +kernel
theorem dX8_bestSeats_37 : decode cX8_bestSeats 37 = .ok (.getfield 22, 3) := by decide +kernel
theorem dX8_bestSeats_40 : decode cX8_bestSeats 40 = .ok (.ldc 88, 2) := by decide +kernel
theorem dX8_bestSeats_42 : decode cX8_bestSeats 42 = .ok (.invokevirtual 89, 3) := by decide +kernel
theorem dX8_bestSeats_45 : decode cX8_bestSeats 45 = .ok (.istore_n 1, 1) := by decide +kernel
theorem dX8_bestSeats_46 : decode cX8_bestSeats 46 = .ok (.iload_n 1, 1) := by decide +kernel
theorem dX8_bestSeats_47 : decode cX8_bestSeats 47 = .ok (.bipush (-4), 2) := by decide +kernel
theorem dX8_bestSeats_49 : decode cX8_bestSeats 49 = .ok (.if_icmp .ne 13, 3) := by decide +kernel
theorem dX8_bestSeats_52 : decode cX8_bestSeats 52 = .ok (.aload_n 0, 1) := by decide +kernel
theorem dX8_bestSeats_53 : decode cX8_bestSeats 53 = .ok (.invokevirtual 93, 3) := by decide +kernel
theorem dX8_bestSeats_56 : decode cX8_bestSeats 56 = .ok (.ifCond .eq 6, 3) := by decide +kernel
theorem dX8_bestSeats_59 : decode cX8_bestSeats 59 = .ok (.ldc 88, 2) := by decide +kernel
theorem dX8_bestSeats_61 : decode cX8_bestSeats 61 = .ok (.istore_n 1, 1) := by decide +kernel
theorem dX8_bestSeats_62 : decode cX8_bestSeats 62 = .ok (.iconst 0, 1) := by decide +kernel
theorem dX8_bestSeats_63 : decode cX8_bestSeats 63 = .ok (.istore_n 2, 1) := by decide +kernel
theorem dX8_bestSeats_64 : decode cX8_bestSeats 64 = .ok (.iload_n 2, 1) := by decide +kernel
theorem dX8_bestSeats_65 : decode cX8_bestSeats 65 = .ok (.aload_n 0, 1) := by decide +kernel
theorem dX8_bestSeats_66 : decode cX8_bestSeats 66 = .ok (.getfield 18, 3) := by decide +kernel
theorem dX8_bestSeats_69 : decode cX8_bestSeats 69 = .ok (.getfield 70, 3) := by decide +kernel
theorem dX8_bestSeats_72 : decode cX8_bestSeats 72 = .ok (.if_icmp .ge 70, 3) := by decide +kernel
theorem dX8_bestSeats_75 : decode cX8_bestSeats 75 = .ok (.iload_n 2, 1) := by decide +kernel
theorem dX8_bestSeats_76 : decode cX8_bestSeats 76 = .ok (.iconst 1, 1) := by decide +kernel
theorem dX8_bestSeats_77 : decode cX8_bestSeats 77 = .ok (.iadd, 1) := by decide +kernel
theorem dX8_bestSeats_78 : decode cX8_bestSeats 78 = .ok (.istore_n 3, 1) := by decide +kernel
theorem dX8_bestSeats_79 : decode cX8_bestSeats 79 = .ok (.iload_n 3, 1) := by decide +kernel
theorem dX8_bestSeats_80 : decode cX8_bestSeats 80 = .ok (.aload_n 0, 1) := by decide +kernel
theorem dX8_bestSeats_81 : decode cX8_bestSeats 81 = .ok (.getfield 18, 3) := by decide +kernel
theorem dX8_bestSeats_84 : decode cX8_bestSeats 84 = .ok (.getfield 70, 3) := by decide +kernel
theorem dX8_bestSeats_87 : decode cX8_bestSeats 87 = .ok (.if_icmp .ge 49, 3) := by decide +kernel
theorem dX8_bestSeats_90 : decode cX8_bestSeats 90 = .ok (.iload_n 1, 1) := by decide +kernel
theorem dX8_bestSeats_91 : decode cX8_bestSeats 91 = .ok (.ifCond .le 45, 3) := by decide +kernel
theorem dX8_bestSeats_94 : decode cX8_bestSeats 94 = .ok (.aload_n 0, 1) := by decide +kernel
theorem dX8_bestSeats_95 : decode cX8_bestSeats 95 = .ok (.iload_n 2, 1) := by decide +kernel
theorem dX8_bestSeats_96 : decode cX8_bestSeats 96 = .ok (.iload_n 3, 1) := by decide +kernel
theorem dX8_bestSeats_97 : decode cX8_bestSeats 97 = .ok (.invokevirtual 97, 3) := by decide +kernel
theorem dX8_bestSeats_100 : decode cX8_bestSeats 100 = .ok (.aload_n 0, 1) := by decide +kernel
theorem dX8_bestSeats_101 : decode cX8_bestSeats 101 = .ok (.getfield 50, 3) := by decide +kernel
theorem dX8_bestSeats_104 : decode cX8_bestSeats 104 = .ok (.iload_n 1, 1) := by decide +kernel
theorem dX8_bestSeats_105 : decode cX8_bestSeats 105 = .ok (.invokevirtual 89, 3) := by decide +kernel
theorem dX8_bestSeats_108 : decode cX8_bestSeats 108 = .ok (.istore 4, 2) := by decide +kernel
theorem dX8_bestSeats_110 : decode cX8_bestSeats 110 = .ok (.iload 4, 2) := by decide +kernel
theorem dX8_bestSeats_112 : decode cX8_bestSeats 112 = .ok (.bipush (-4), 2) := by decide +kernel
theorem dX8_bestSeats_114 : decode cX8_bestSeats 114 = .ok (.if_icmp .eq 16, 3) := by decide +kernel
theorem dX8_bestSeats_117 : decode cX8_bestSeats 117 = .ok (.iload 4, 2) := by decide +kernel
theorem dX8_bestSeats_119 : decode cX8_bestSeats 119 = .ok (.istore_n 1, 1) := by decide +kernel
theorem dX8_bestSeats_120 : decode cX8_bestSeats 120 = .ok (.aload_n 0, 1) := by decide +kernel
theorem dX8_bestSeats_121 : decode cX8_bestSeats 121 = .ok (.bipush 10, 2) := by decide +kernel
theorem dX8_bestSeats_123 : decode cX8_bestSeats 123 = .ok (.iload_n 2, 1) := by decide +kernel
theorem dX8_bestSeats_124 : decode cX8_bestSeats 124 = .ok (.imul, 1) := by decide +kernel
theorem dX8_bestSeats_125 : decode cX8_bestSeats 125 = .ok (.iload_n 3, 1) := by decide +kernel
theorem dX8_bestSeats_126 : decode cX8_bestSeats 126 = .ok (.iadd, 1) := by decide +kernel
theorem dX8_bestSeats_127 : decode cX8_bestSeats 127 = .ok (.putfield 85, 3) := by decide +kernel
theorem dX8_bestSeats_130 : decode cX8_bestSeats 130 = .ok (.iinc 3 1, 3) := by decide +kernel
theorem dX8_bestSeats_133 : decode cX8_bestSeats 133 = .ok (.goto (-54), 3) := by decide +kernel
theorem dX8_bestSeats_136 : decode cX8_bestSeats 136 = .ok (.iinc 2 1, 3) := by decide +kernel
theorem dX8_bestSeats_139 : decode cX8_bestSeats 139 = .ok (.goto (-75), 3) := by decide +kernel
theorem dX8_bestSeats_142 : decode cX8_bestSeats 142 = .ok (.aload_n 0, 1) := by decide +kernel
theorem dX8_bestSeats_143 : decode cX8_bestSeats 143 = .ok (.getfield 85, 3) := by decide +kernel
theorem dX8_bestSeats_146 : decode cX8_bestSeats 146 = .ok (.ireturn, 1) := by decide +kernel
theorem dX8_canBeAtRest_0 : decode cX8_canBeAtRest 0 = .ok (.aload_n 0, 1) := by decide +kernel
theorem dX8_canBeAtRest_1 : decode cX8_canBeAtRest 1 = .ok (.getfield 22, 3) := by decide +kernel
theorem dX8_canBeAtRest_4 : decode cX8_canBeAtRest 4 = .ok (.getfield 36, 3) := by decide +kernel
theorem dX8_canBeAtRest_7 : decode cX8_canBeAtRest 7 = .ok (.getfield 40, 3) := by decide +kernel
theorem dX8_canBeAtRest_10 : decode cX8_canBeAtRest 10 = .ok (.astore_n 1, 1) := by decide +kernel
theorem dX8_canBeAtRest_11 : decode cX8_canBeAtRest 11 = .ok (.iconst 0, 1) := by decide +kernel
theorem dX8_canBeAtRest_12 : decode cX8_canBeAtRest 12 = .ok (.istore_n 2, 1) := by decide +kernel
theorem dX8_canBeAtRest_13 : decode cX8_canBeAtRest 13 = .ok (.iload_n 2, 1) := by decide +kernel
theorem dX8_canBeAtRest_14 : decode cX8_canBeAtRest 14 = .ok (.aload_n 1, 1) := by decide +kernel
theorem dX8_canBeAtRest_15 : decode cX8_canBeAtRest 15 = .ok (.getfield 101, 3) := by decide +kernel
theorem dX8_canBeAtRest_18 : decode cX8_canBeAtRest 18 = .ok (.if_icmp .ge 26, 3) := by decide +kernel
theorem dX8_canBeAtRest_21 : decode cX8_canBeAtRest 21 = .ok (.aload_n 0, 1) := by decide +kernel
theorem dX8_canBeAtRest_22 : decode cX8_canBeAtRest 22 = .ok (.getfield 18, 3) := by decide +kernel
theorem dX8_canBeAtRest_25 : decode cX8_canBeAtRest 25 = .ok (.aload_n 1, 1) := by decide +kernel
theorem dX8_canBeAtRest_26 : decode cX8_canBeAtRest 26 = .ok (.iload_n 2, 1) := by decide +kernel
theorem dX8_canBeAtRest_27 : decode cX8_canBeAtRest 27 = .ok (.invokevirtual 106, 3) := by decide +kernel
theorem dX8_canBeAtRest_30 : decode cX8_canBeAtRest 30 = .ok (.invokevirtual 109, 3) := by decide +kernel
theorem dX8_canBeAtRest_33 : decode cX8_canBeAtRest 33 = .ok (.ifCond .eq 5, 3) := by decide +kernel
theorem dX8_canBeAtRest_36 : decode cX8_canBeAtRest 36 = .ok (.iconst 1, 1) := by decide +kernel
theorem dX8_canBeAtRest_37 : decode cX8_canBeAtRest 37 = .ok (.ireturn, 1) := by decide +kernel
theorem dX8_canBeAtRest_38 : decode cX8_canBeAtRest 38 = .ok (.iinc 2 1, 3) := by decide +kernel
theorem dX8_canBeAtRest_41 : decode cX8_canBeAtRest 41 = .ok (.goto (-28), 3) := by decide +kernel
theorem dX8_canBeAtRest_44 : decode cX8_canBeAtRest 44 = .ok (.iconst 0, 1) := by decide +kernel
theorem dX8_canBeAtRest_45 : decode cX8_canBeAtRest 45 = .ok (.ireturn, 1) := by decide +kernel
theorem dX8_makeHold_0 : decode cX8_makeHold 0 = .ok (.aload_n 0, 1) := by decide +kernel
theorem dX8_makeHold_1 : decode cX8_makeHold 1 = .ok (.getfield 29, 3) := by decide +kernel
theorem dX8_makeHold_4 : decode cX8_makeHold 4 = .ok (.aload_n 0, 1) := by decide +kernel
theorem dX8_makeHold_5 : decode cX8_makeHold 5 = .ok (.getfield 18, 3) := by decide +kernel
theorem dX8_makeHold_8 : decode cX8_makeHold 8 = .ok (.invokevirtual 113, 3) := by decide +kernel
theorem dX8_makeHold_11 : decode cX8_makeHold 11 = .ok (.aload_n 0, 1) := by decide +kernel
theorem dX8_makeHold_12 : decode cX8_makeHold 12 = .ok (.getfield 29, 3) := by decide +kernel
theorem dX8_makeHold_15 : decode cX8_makeHold 15 = .ok (.iload_n 1, 1) := by decide +kernel
theorem dX8_makeHold_16 : decode cX8_makeHold 16 = .ok (.iconst 2, 1) := by decide +kernel
theorem dX8_makeHold_17 : decode cX8_makeHold 17 = .ok (.invokevirtual 117, 3) := by decide +kernel
theorem dX8_makeHold_20 : decode cX8_makeHold 20 = .ok (.aload_n 0, 1) := by decide +kernel
theorem dX8_makeHold_21 : decode cX8_makeHold 21 = .ok (.invokevirtual 120, 3) := by decide +kernel
theorem dX8_makeHold_24 : decode cX8_makeHold 24 = .ok (.return_, 1) := by decide +kernel
theorem dX8_changeSeats_0 : decode cX8_changeSeats 0 = .ok (.aload_n 0, 1) := by decide +kernel
theorem dX8_changeSeats_1 : decode cX8_changeSeats 1 = .ok (.getfield 29, 3) := by decide +kernel
theorem dX8_changeSeats_4 : decode cX8_changeSeats 4 = .ok (.aload_n 0, 1) := by decide +kernel
theorem dX8_changeSeats_5 : decode cX8_changeSeats 5 = .ok (.getfield 18, 3) := by decide +kernel
theorem dX8_changeSeats_8 : decode cX8_changeSeats 8 = .ok (.invokevirtual 113, 3) := by decide +kernel
theorem dX8_changeSeats_11 : decode cX8_changeSeats 11 = .ok (.aload_n 0, 1) := by decide +kernel
theorem dX8_changeSeats_12 : decode cX8_changeSeats 12 = .ok (.getfield 29, 3) := by decide +kernel
theorem dX8_changeSeats_15 : decode cX8_changeSeats 15 = .ok (.iload_n 1, 1) := by decide +kernel
theorem dX8_changeSeats_16 : decode cX8_changeSeats 16 = .ok (.aload_n 0, 1) := by decide +kernel
theorem dX8_changeSeats_17 : decode cX8_changeSeats 17 = .ok (.getfield 18, 3) := by decide +kernel
theorem dX8_changeSeats_20 : decode cX8_changeSeats 20 = .ok (.iload_n 2, 1) := by decide +kernel
theorem dX8_changeSeats_21 : decode cX8_changeSeats 21 = .ok (.invokevirtual 123, 3) := by decide +kernel
theorem dX8_changeSeats_24 : decode cX8_changeSeats 24 = .ok (.aload_n 0, 1) := by decide +kernel
theorem dX8_changeSeats_25 : decode cX8_changeSeats 25 = .ok (.getfield 29, 3) := by decide +kernel
theorem dX8_changeSeats_28 : decode cX8_changeSeats 28 = .ok (.iload_n 2, 1) := by decide +kernel
theorem dX8_changeSeats_29 : decode cX8_changeSeats 29 = .ok (.aload_n 0, 1) := by decide +kernel
theorem dX8_changeSeats_30 : decode cX8_changeSeats 30 = .ok (.getfield 18, 3) := by decide +kernel
theorem dX8_changeSeats_33 : decode cX8_changeSeats 33 = .ok (.iload_n 1, 1) := by decide +kernel
theorem dX8_changeSeats_34 : decode cX8_changeSeats 34 = .ok (.invokevirtual 123, 3) := by decide +kernel
theorem dX8_changeSeats_37 : decode cX8_changeSeats 37 = .ok (.aload_n 0, 1) := by decide +kernel
theorem dX8_changeSeats_38 : decode cX8_changeSeats 38 = .ok (.invokevirtual 120, 3) := by decide +kernel
theorem dX8_changeSeats_41 : decode cX8_changeSeats 41 = .ok (.return_, 1) := by decide +kernel
theorem dX8_startOther_0 : decode cX8_startOther 0 = .ok (.aload_n 0, 1) := by decide +kernel
theorem dX8_startOther_1 : decode cX8_startOther 1 = .ok (.getfield 50, 3) := by decide +kernel
theorem dX8_startOther_4 : decode cX8_startOther 4 = .ok (.invokevirtual 127, 3) := by decide +kernel
theorem dX8_startOther_7 : decode cX8_startOther 7 = .ok (.aload_n 0, 1) := by decide +kernel
theorem dX8_startOther_8 : decode cX8_startOther 8 = .ok (.getfield 50, 3) := by decide +kernel
theorem dX8_startOther_11 : decode cX8_startOther 11 = .ok (.aload_n 0, 1) := by decide +kernel
theorem dX8_startOther_12 : decode cX8_startOther 12 = .ok (.getfield 22, 3) := by decide +kernel
theorem dX8_startOther_15 : decode cX8_startOther 15 = .ok (.getfield 53, 3) := by decide +kernel
theorem dX8_startOther_18 : decode cX8_startOther 18 = .ok (.invokevirtual 130, 3) := by decide +kernel
theorem dX8_startOther_21 : decode cX8_startOther 21 = .ok (.return_, 1) := by decide +kernel
theorem dX9_init_0 : decode cX9_init 0 = .ok (.aload_n 0, 1) := by decide +kernel
theorem dX9_init_1 : decode cX9_init 1 = .ok (.invokespecial 3, 3) := by decide +kernel
theorem dX9_init_4 : decode cX9_init 4 = .ok (.aload_n 0, 1) := by decide +kernel
theorem dX9_init_5 : decode cX9_init 5 = .ok (.sipush 300, 3) := by decide +kernel
theorem dX9_init_8 : decode cX9_init 8 = .ok (.newarray .int, 2) := by decide +kernel
theorem dX9_init_10 : decode cX9_init 10 = .ok (.putfield 9, 3) := by decide +kernel
theorem dX9_init_13 : decode cX9_init 13 = .ok (.aload_n 0, 1) := by decide +kernel
theorem dX9_init_14 : decode cX9_init 14 = .ok (.new 13, 3) := by decide +kernel
theorem dX9_init_17 : decode cX9_init 17 = .ok (.dup, 1) := by decide +kernel
theorem dX9_init_18 : decode cX9_init 18 = .ok (.invokespecial 15, 3) := by decide +kernel
theorem dX9_init_21 : decode cX9_init 21 = .ok (.putfield 16, 3) := by decide +kernel
theorem dX9_init_24 : decode cX9_init 24 = .ok (.aload_n 0, 1) := by decide +kernel
theorem dX9_init_25 : decode cX9_init 25 = .ok (.new 20, 3) := by decide +kernel
theorem dX9_init_28 : decode cX9_init 28 = .ok (.dup, 1) := by decide +kernel
theorem dX9_init_29 : decode cX9_init 29 = .ok (.aload_n 0, 1) := by decide +kernel
theorem dX9_init_30 : decode cX9_init 30 = .ok (.getfield 9, 3) := by decide +kernel
theorem dX9_init_33 : decode cX9_init 33 = .ok (.aload_n 0, 1) := by decide +kernel
theorem dX9_init_34 : decode cX9_init 34 = .ok (.getfield 16, 3) := by decide +kernel
theorem dX9_init_37 : decode cX9_init 37 = .ok (.invokespecial 22, 3) := by decide +kernel
theorem dX9_init_40 : decode cX9_init 40 = .ok (.putfield 25, 3) := by decide +kernel
theorem dX9_init_43 : decode cX9_init 43 = .ok (.aload_n 0, 1) := by decide +kernel
theorem dX9_init_44 : decode cX9_init 44 = .ok (.new 13, 3) := by decide +kernel
theorem dX9_init_47 : decode cX9_init 47 = .ok (.dup, 1) := by decide +kernel
theorem dX9_init_48 : decode cX9_init 48 = .ok (.invokespecial 15, 3) := by decide +kernel
theorem dX9_init_51 : decode cX9_init 51 = .ok (.putfield 29, 3) := by decide +kernel
theorem dX9_init_54 : decode cX9_init 54 = .ok (.aload_n 0, 1) := by decide +kernel
theorem dX9_init_55 : decode cX9_init 55 = .ok (.new 32, 3) := by decide +kernel
theorem dX9_init_58 : decode cX9_init 58 = .ok (.dup, 1) := by decide +kernel
theorem dX9_init_59 : decode cX9_init 59 = .ok (.invokespecial 34, 3) := by decide +kernel
theorem dX9_init_62 : decode cX9_init 62 = .ok (.putfield 35, 3) := by decide +kernel
theorem dX9_init_65 : decode cX9_init 65 = .ok (.aload_n 0, 1) := by decide +kernel
theorem dX9_init_66 : decode cX9_init 66 = .ok (.new 39, 3) := by decide +kernel
theorem dX9_init_69 : decode cX9_init 69 = .ok (.dup, 1) := by decide +kernel
theorem dX9_init_70 : decode cX9_init 70 = .ok (.aload_n 0, 1) := by decide +kernel
theorem dX9_init_71 : decode cX9_init 71 = .ok (.getfield 29, 3) := by decide +kernel
theorem dX9_init_74 : decode cX9_init 74 = .ok (.aload_n 0, 1) := by decide +kernel
theorem dX9_init_75 : decode cX9_init 75 = .ok (.getfield 35, 3) := by decide +kernel
theorem dX9_init_78 : decode cX9_init 78 = .ok (.sipush 4320, 3) := by decide +kernel
theorem dX9_init_81 : decode cX9_init 81 = .ok (.invokespecial 41, 3) := by decide +kernel
theorem dX9_init_84 : decode cX9_init 84 = .ok (.putfield 44, 3) := by decide +kernel
theorem dX9_init_87 : decode cX9_init 87 = .ok (.aload_n 0, 1) := by decide +kernel
theorem dX9_init_88 : decode cX9_init 88 = .ok (.new 48, 3) := by decide +kernel
theorem dX9_init_91 : decode cX9_init 91 = .ok (.dup, 1) := by decide +kernel
theorem dX9_init_92 : decode cX9_init 92 = .ok (.aload_n 0, 1) := by decide +kernel
theorem dX9_init_93 : decode cX9_init 93 = .ok (.getfield 44, 3) := by decide +kernel
theorem dX9_init_96 : decode cX9_init 96 = .ok (.invokespecial 50, 3) := by decide +kernel
theorem dX9_init_99 : decode cX9_init 99 = .ok (.putfield 53, 3) := by decide +kernel
theorem dX9_init_102 : decode cX9_init 102 = .ok (.aload_n 0, 1) := by decide +kernel
theorem dX9_init_103 : decode cX9_init 103 = .ok (.new 57, 3) := by decide +kernel
theorem dX9_init_106 : decode cX9_init 106 = .ok (.dup, 1) := by decide +kernel
theorem dX9_init_107 : decode cX9_init 107 = .ok (.aload_n 0, 1) := by decide +kernel
theorem dX9_init_108 : decode cX9_init 108 = .ok (.getfield 44, 3) := by decide +kernel
theorem dX9_init_111 : decode cX9_init 111 = .ok (.invokespecial 59, 3) := by decide +kernel
theorem dX9_init_114 : decode cX9_init 114 = .ok (.putfield 60, 3) := by decide +kernel
theorem dX9_init_117 : decode cX9_init 117 = .ok (.aload_n 0, 1) := by decide +kernel
theorem dX9_init_118 : decode cX9_init 118 = .ok (.new 64, 3) := by decide +kernel
theorem dX9_init_121 : decode cX9_init 121 = .ok (.dup, 1) := by decide +kernel
theorem dX9_init_122 : decode cX9_init 122 = .ok (.aload_n 0, 1) := by decide +kernel
theorem dX9_init_123 : decode cX9_init 123 = .ok (.getfield 29, 3) := by decide +kernel
theorem dX9_init_126 : decode cX9_init 126 = .ok (.aload_n 0, 1) := by decide +kernel
theorem dX9_init_127 : decode cX9_init 127 = .ok (.getfield 53, 3) := by decide +kernel
theorem dX9_init_130 : decode cX9_init 130 = .ok (.invokespecial 66, 3) := by decide +kernel
theorem dX9_init_133 : decode cX9_init 133 = .ok (.putfield 69, 3) := by decide +kernel
theorem dX9_init_136 : decode cX9_init 136 = .ok (.aload_n 0, 1) := by decide +kernel
theorem dX9_init_137 : decode cX9_init 137 = .ok (.new 73, 3) := by decide +kernel
theorem dX9_init_140 : decode cX9_init 140 = .ok (.dup, 1) := by decide +kernel
theorem dX9_init_141 : decode cX9_init 141 = .ok (.invokespecial 75, 3) := by decide +kernel
theorem dX9_init_144 : decode cX9_init 144 = .ok (.putfield 76, 3) := by decide +kernel
theorem dX9_init_147 : decode cX9_init 147 = .ok (.aload_n 0, 1) := by decide +kernel
theorem dX9_init_148 : decode cX9_init 148 = .ok (.new 80, 3) := by decide +kernel
theorem dX9_init_151 : decode cX9_init 151 = .ok (.dup, 1) := by decide +kernel
theorem dX9_init_152 : decode cX9_init 152 = .ok (.bipush 8, 2) := by decide +kernel
theorem dX9_init_154 : decode cX9_init 154 = .ok (.invokespecial 82, 3) := by decide +kernel
theorem dX9_init_157 : decode cX9_init 157 = .ok (.putfield 85, 3) := by decide +kernel
theorem dX9_init_160 : decode cX9_init 160 = .ok (.aload_n 0, 1) := by decide +kernel
theorem dX9_init_161 : decode cX9_init 161 = .ok (.new 80, 3) := by decide +kernel
theorem dX9_init_164 : decode cX9_init 164 = .ok (.dup, 1) := by decide +kernel
theorem dX9_init_165 : decode cX9_init 165 = .ok (.iconst 2, 1) := by decide +kernel
theorem dX9_init_166 : decode cX9_init 166 = .ok (.invokespecial 82, 3) := by decide +kernel
theorem dX9_init_169 : decode cX9_init 169 = .ok (.putfield 89, 3) := by decide +kernel
theorem dX9_init_172 : decode cX9_init 172 = .ok (.iconst 0, 1) := by decide +kernel
theorem dX9_init_173 : decode cX9_init 173 = .ok (.istore_n 1, 1) := by decide +kernel
theorem dX9_init_174 : decode cX9_init 174 = .ok (.iload_n 1, 1) := by decide +kernel
theorem dX9_init_175 : decode cX9_init 175 = .ok (.ldc 92, 2) := by decide +kernel
theorem dX9_init_177 : decode cX9_init 177 = .ok (.invokevirtual 94, 3) := by decide +kernel
theorem dX9_init_180 : decode cX9_init 180 = .ok (.if_icmp .ge 35, 3) := by decide +kernel
theorem dX9_init_183 : decode cX9_init 183 = .ok (.iload_n 1, 1) := by decide +kernel
theorem dX9_init_184 : decode cX9_init 184 = .ok (.sipush 300, 3) := by decide +kernel
theorem dX9_init_187 : decode cX9_init 187 = .ok (.if_icmp .ge 28, 3) := by decide +kernel
theorem dX9_init_190 : decode cX9_init 190 = .ok (.aload_n 0, 1) := by decide +kernel
theorem dX9_init_191 : decode cX9_init 191 = .ok (.getfield 9, 3) := by decide +kernel
theorem dX9_init_194 : decode cX9_init 194 = .ok (.iload_n 1, 1) := by decide +kernel
theorem dX9_init_195 : decode cX9_init 195 = .ok (.ldc 92, 2) := by decide +kernel
theorem dX9_init_197 : decode cX9_init 197 = .ok (.iload_n 1, 1) := by decide +kernel
theorem dX9_init_198 : decode cX9_init 198 = .ok (.invokevirtual 100, 3) := by decide +kernel
theorem dX9_init_201 : decode cX9_init 201 = .ok (.iastore, 1) := by decide +kernel
theorem dX9_init_202 : decode cX9_init 202 = .ok (.aload_n 0, 1) := by decide +kernel
theorem dX9_init_203 : decode cX9_init 203 = .ok (.iload_n 1, 1) := by decide +kernel
theorem dX9_init_204 : decode cX9_init 204 = .ok (.iconst 1, 1) := by decide +kernel
theorem dX9_init_205 : decode cX9_init 205 = .ok (.iadd, 1) := by decide +kernel
theorem dX9_init_206 : decode cX9_init 206 = .ok (.putfield 104, 3) := by decide +kernel
theorem dX9_init_209 : decode cX9_init 209 = .ok (.iinc 1 1, 3) := by decide +kernel
theorem dX9_init_212 : decode cX9_init 212 = .ok (.goto (-38), 3) := by decide +kernel
theorem dX9_init_215 : decode cX9_init 215 = .ok (.aload_n 0, 1) := by decide +kernel
theorem dX9_init_216 : decode cX9_init 216 = .ok (.invokevirtual 107, 3) := by decide +kernel
theorem dX9_init_219 : decode cX9_init 219 = .ok (.pop, 1) := by decide +kernel
theorem dX9_init_220 : decode cX9_init 220 = .ok (.aload_n 0, 1) := by decide +kernel
theorem dX9_init_221 : decode cX9_init 221 = .ok (.iconst 0, 1) := by decide +kernel
theorem dX9_init_222 : decode cX9_init 222 = .ok (.putfield 104, 3) := by decide +kernel
theorem dX9_init_225 : decode cX9_init 225 = .ok (.return_, 1) := by decide +kernel
theorem dX9_write_0 : decode cX9_write 0 = .ok (.iload_n 1, 1) := by decide +kernel
theorem dX9_write_1 : decode cX9_write 1 = .ok (.iconst 1, 1) := by decide +kernel
theorem dX9_write_2 : decode cX9_write 2 = .ok (.if_icmp .lt 9, 3) := by decide +kernel
theorem dX9_write_5 : decode cX9_write 5 = .ok (.iload_n 1, 1) := by decide +kernel
theorem dX9_write_6 : decode cX9_write 6 = .ok (.bipush 8, 2) := by decide +kernel
theorem dX9_write_8 : decode cX9_write 8 = .ok (.if_icmp .le 5, 3) := by decide +kernel
theorem dX9_write_11 : decode cX9_write 11 = .ok (.iconst (-1), 1) := by decide +kernel
theorem dX9_write_12 : decode cX9_write 12 = .ok (.ireturn, 1) := by decide +kernel
theorem dX9_write_13 : decode cX9_write 13 = .ok (.aload_n 0, 1) := by decide +kernel
theorem dX9_write_14 : decode cX9_write 14 = .ok (.getfield 104, 3) := by decide +kernel
theorem dX9_write_17 : decode cX9_write 17 = .ok (.iload_n 1, 1) := by decide +kernel
theorem dX9_write_18 : decode cX9_write 18 = .ok (.iadd, 1) := by decide +kernel
theorem dX9_write_19 : decode cX9_write 19 = .ok (.sipush 300, 3) := by decide +kernel
theorem dX9_write_22 : decode cX9_write 22 = .ok (.if_icmp .le 6, 3) := by decide +kernel
theorem dX9_write_25 : decode cX9_write 25 = .ok (.bipush (-3), 2) := by decide +kernel
theorem dX9_write_27 : decode cX9_write 27 = .ok (.ireturn, 1) := by decide +kernel
theorem dX9_write_28 : decode cX9_write 28 = .ok (.iload_n 1, 1) := by decide +kernel
theorem dX9_write_29 : decode cX9_write 29 = .ok (.iconst 1, 1) := by decide +kernel
theorem dX9_write_30 : decode cX9_write 30 = .ok (.isub, 1) := by decide +kernel
theorem dX9_write_31 : decode cX9_write 31 = .ok (.istore 4, 2) := by decide +kernel
theorem dX9_write_33 : decode cX9_write 33 = .ok (.iload 4, 2) := by decide +kernel
theorem dX9_write_35 : decode cX9_write 35 = .ok (.ifCond .lt 42, 3) := by decide +kernel
theorem dX9_write_38 : decode cX9_write 38 = .ok (.aload_n 0, 1) := by decide +kernel
theorem dX9_write_39 : decode cX9_write 39 = .ok (.getfield 9, 3) := by decide +kernel
theorem dX9_write_42 : decode cX9_write 42 = .ok (.aload_n 0, 1) := by decide +kernel
theorem dX9_write_43 : decode cX9_write 43 = .ok (.getfield 104, 3) := by decide +kernel
theorem dX9_write_46 : decode cX9_write 46 = .ok (.lload_n 2, 1) := by decide +kernel
theorem dX9_write_47 : decode cX9_write 47 = .ok (.bipush 8, 2) := by decide +kernel
theorem dX9_write_49 : decode cX9_write 49 = .ok (.iload 4, 2) := by decide +kernel
theorem dX9_write_51 : decode cX9_write 51 = .ok (.imul, 1) := by decide +kernel
theorem dX9_write_52 : decode cX9_write 52 = .ok (.lshr, 1) := by decide +kernel
theorem dX9_write_53 : decode cX9_write 53 = .ok (.l2i, 1) := by decide +kernel
theorem dX9_write_54 : decode cX9_write 54 = .ok (.sipush 255, 3) := by decide +kernel
theorem dX9_write_57 : decode cX9_write 57 = .ok (.iand, 1) := by decide +kernel
theorem dX9_write_58 : decode cX9_write 58 = .ok (.invokestatic 110, 3) := by decide +kernel
theorem dX9_write_61 : decode cX9_write 61 = .ok (.aload_n 0, 1) := by decide +kernel
theorem dX9_write_62 : decode cX9_write 62 = .ok (.dup, 1) := by decide +kernel
theorem dX9_write_63 : decode cX9_write 63 = .ok (.getfield 104, 3) := by decide +kernel
theorem dX9_write_66 : decode cX9_write 66 = .ok (.iconst 1, 1) := by decide +kernel
theorem dX9_write_67 : decode cX9_write 67 = .ok (.iadd, 1) := by decide +kernel
theorem dX9_write_68 : decode cX9_write 68 = .ok (.putfield 104, 3) := by decide +kernel
theorem dX9_write_71 : decode cX9_write 71 = .ok (.iinc 4 (-1), 3) := by decide +kernel
theorem dX9_write_74 : decode cX9_write 74 = .ok (.goto (-41), 3) := by decide +kernel
theorem dX9_write_77 : decode cX9_write 77 = .ok (.aload_n 0, 1) := by decide +kernel
theorem dX9_write_78 : decode cX9_write 78 = .ok (.getfield 104, 3) := by decide +kernel
theorem dX9_write_81 : decode cX9_write 81 = .ok (.ireturn, 1) := by decide +kernel
theorem dX9_wipe_0 : decode cX9_wipe 0 = .ok (.aload_n 0, 1) := by decide +kernel
theorem dX9_wipe_1 : decode cX9_wipe 1 = .ok (.getfield 104, 3) := by decide +kernel
theorem dX9_wipe_4 : decode cX9_wipe 4 = .ok (.istore_n 1, 1) := by decide +kernel
theorem dX9_wipe_5 : decode cX9_wipe 5 = .ok (.aload_n 0, 1) := by decide +kernel
theorem dX9_wipe_6 : decode cX9_wipe 6 = .ok (.iconst 0, 1) := by decide +kernel
theorem dX9_wipe_7 : decode cX9_wipe 7 = .ok (.putfield 104, 3) := by decide +kernel
theorem dX9_wipe_10 : decode cX9_wipe 10 = .ok (.iload_n 1, 1) := by decide +kernel
theorem dX9_wipe_11 : decode cX9_wipe 11 = .ok (.ireturn, 1) := by decide +kernel
theorem dX9_fault_0 : decode cX9_fault 0 = .ok (.aload_n 0, 1) := by decide +kernel
theorem dX9_fault_1 : decode cX9_fault 1 = .ok (.getfield 25, 3) := by decide +kernel
theorem dX9_fault_4 : decode cX9_fault 4 = .ok (.aload_n 0, 1) := by decide +kernel
theorem dX9_fault_5 : decode cX9_fault 5 = .ok (.getfield 104, 3) := by decide +kernel
theorem dX9_fault_8 : decode cX9_fault 8 = .ok (.invokevirtual 114, 3) := by decide +kernel
theorem dX9_fault_11 : decode cX9_fault 11 = .ok (.ireturn, 1) := by decide +kernel
theorem dX9_lay_0 : decode cX9_lay 0 = .ok (.aload_n 0, 1) := by decide +kernel
theorem dX9_lay_1 : decode cX9_lay 1 = .ok (.getfield 25, 3) := by decide +kernel
theorem dX9_lay_4 : decode cX9_lay 4 = .ok (.aload_n 0, 1) := by decide +kernel
theorem dX9_lay_5 : decode cX9_lay 5 = .ok (.getfield 104, 3) := by decide +kernel
theorem dX9_lay_8 : decode cX9_lay 8 = .ok (.invokevirtual 114, 3) := by decide +kernel
theorem dX9_lay_11 : decode cX9_lay 11 = .ok (.bipush (-4), 2) := by decide +kernel
theorem dX9_lay_13 : decode cX9_lay 13 = .ok (.if_icmp .ne 14, 3) := by decide +kernel
theorem dX9_lay_16 : decode cX9_lay 16 = .ok (.aload_n 0, 1) := by decide +kernel
theorem dX9_lay_17 : decode cX9_lay 17 = .ok (.getfield 16, 3) := by decide +kernel
theorem dX9_lay_20 : decode cX9_lay 20 = .ok (.getfield 118, 3) := by decide +kernel
theorem dX9_lay_23 : decode cX9_lay 23 = .ok (.iconst 2, 1) := by decide +kernel
theorem dX9_lay_24 : decode cX9_lay 24 = .ok (.if_icmp .ge 6, 3) := by decide +kernel
theorem dX9_lay_27 : decode cX9_lay 27 = .ok (.bipush (-2), 2) := by decide +kernel
theorem dX9_lay_29 : decode cX9_lay 29 = .ok (.ireturn, 1) := by decide +kernel
theorem dX9_lay_30 : decode cX9_lay 30 = .ok (.aload_n 0, 1) := by decide +kernel
theorem dX9_lay_31 : decode cX9_lay 31 = .ok (.getfield 29, 3) := by decide +kernel
theorem dX9_lay_34 : decode cX9_lay 34 = .ok (.aload_n 0, 1) := by decide +kernel
theorem dX9_lay_35 : decode cX9_lay 35 = .ok (.getfield 16, 3) := by decide +kernel
theorem dX9_lay_38 : decode cX9_lay 38 = .ok (.invokevirtual 121, 3) := by decide +kernel
theorem dX9_lay_41 : decode cX9_lay 41 = .ok (.aload_n 0, 1) := by decide +kernel
theorem dX9_lay_42 : decode cX9_lay 42 = .ok (.getfield 35, 3) := by decide +kernel
theorem dX9_lay_45 : decode cX9_lay 45 = .ok (.aload_n 0, 1) := by decide +kernel
theorem dX9_lay_46 : decode cX9_lay 46 = .ok (.getfield 29, 3) := by decide +kernel
theorem dX9_lay_49 : decode cX9_lay 49 = .ok (.getfield 125, 3) := by decide +kernel
theorem dX9_lay_52 : decode cX9_lay 52 = .ok (.aload_n 0, 1) := by decide +kernel
theorem dX9_lay_53 : decode cX9_lay 53 = .ok (.getfield 29, 3) := by decide +kernel
theorem dX9_lay_56 : decode cX9_lay 56 = .ok (.getfield 118, 3) := by decide +kernel
theorem dX9_lay_59 : decode cX9_lay 59 = .ok (.invokevirtual 128, 3) := by decide +kernel
theorem dX9_lay_62 : decode cX9_lay 62 = .ok (.aload_n 0, 1) := by decide +kernel
theorem dX9_lay_63 : decode cX9_lay 63 = .ok (.getfield 44, 3) := by decide +kernel
theorem dX9_lay_66 : decode cX9_lay 66 = .ok (.invokevirtual 132, 3) := by decide +kernel
theorem dX9_lay_69 : decode cX9_lay 69 = .ok (.aload_n 0, 1) := by decide +kernel
theorem dX9_lay_70 : decode cX9_lay 70 = .ok (.getfield 53, 3) := by decide +kernel
theorem dX9_lay_73 : decode cX9_lay 73 = .ok (.invokevirtual 135, 3) := by decide +kernel
theorem dX9_lay_76 : decode cX9_lay 76 = .ok (.aload_n 0, 1) := by decide +kernel
theorem dX9_lay_77 : decode cX9_lay 77 = .ok (.getfield 69, 3) := by decide +kernel
theorem dX9_lay_80 : decode cX9_lay 80 = .ok (.invokevirtual 136, 3) := by decide +kernel
theorem dX9_lay_83 : decode cX9_lay 83 = .ok (.aload_n 0, 1) := by decide +kernel
theorem dX9_lay_84 : decode cX9_lay 84 = .ok (.getfield 76, 3) := by decide +kernel
theorem dX9_lay_87 : decode cX9_lay 87 = .ok (.aload_n 0, 1) := by decide +kernel
theorem dX9_lay_88 : decode cX9_lay 88 = .ok (.getfield 29, 3) := by decide +kernel
theorem dX9_lay_91 : decode cX9_lay 91 = .ok (.getfield 125, 3) := by decide +kernel
theorem dX9_lay_94 : decode cX9_lay 94 = .ok (.putfield 137, 3) := by decide +kernel
theorem dX9_lay_97 : decode cX9_lay 97 = .ok (.aload_n 0, 1) := by decide +kernel
theorem dX9_lay_98 : decode cX9_lay 98 = .ok (.getfield 76, 3) := by decide +kernel
theorem dX9_lay_101 : decode cX9_lay 101 = .ok (.aload_n 0, 1) := by decide +kernel
theorem dX9_lay_102 : decode cX9_lay 102 = .ok (.getfield 29, 3) := by decide +kernel
theorem dX9_lay_105 : decode cX9_lay 105 = .ok (.getfield 125, 3) := by decide +kernel
theorem dX9_lay_108 : decode cX9_lay 108 = .ok (.invokestatic 140, 3) := by decide +kernel
theorem dX9_lay_111 : decode cX9_lay 111 = .ok (.putfield 144, 3) := by decide +kernel
theorem dX9_lay_114 : decode cX9_lay 114 = .ok (.aload_n 0, 1) := by decide +kernel
theorem dX9_lay_115 : decode cX9_lay 115 = .ok (.getfield 76, 3) := by decide +kernel
theorem dX9_lay_118 : decode cX9_lay 118 = .ok (.iconst 0, 1) := by decide +kernel
theorem dX9_lay_119 : decode cX9_lay 119 = .ok (.putfield 148, 3) := by decide +kernel
theorem dX9_lay_122 : decode cX9_lay 122 = .ok (.aload_n 0, 1) := by decide +kernel
theorem dX9_lay_123 : decode cX9_lay 123 = .ok (.getfield 85, 3) := by decide +kernel
theorem dX9_lay_126 : decode cX9_lay 126 = .ok (.iconst 0, 1) := by decide +kernel
theorem dX9_lay_127 : decode cX9_lay 127 = .ok (.putfield 151, 3) := by decide +kernel
theorem dX9_lay_130 : decode cX9_lay 130 = .ok (.aload_n 0, 1) := by decide +kernel
theorem dX9_lay_131 : decode cX9_lay 131 = .ok (.getfield 89, 3) := by decide +kernel
