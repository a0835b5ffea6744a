theorem dX9_lay_134 : decode cX9_lay 134 = .ok (.iconst 0, 1) := by decide +kernel
theorem dX9_lay_135 : decode cX9_lay 135 = .ok (.putfield 151, 3) := by decide +kernel
theorem dX9_lay_138 : decode cX9_lay 138 = .ok (.aload_n 0, 1) := by decide +kernel
theorem dX9_lay_139 : decode cX9_lay 139 = .ok (.getfield 29, 3) := by decide +kernel
theorem dX9_lay_142 : decode cX9_lay 142 = .ok (.getfield 118, 3) := by decide +kernel
theorem dX9_lay_145 : decode cX9_lay 145 = .ok (.ireturn, 1) := by decide +kernel
theorem dX9_guest_0 : decode cX9_guest 0 = .ok (.aload_n 0, 1) := by decide +kernel
theorem dX9_guest_1 : decode cX9_guest 1 = .ok (.iload_n 1, 1) := by decide +kernel
theorem dX9_guest_2 : decode cX9_guest 2 = .ok (.invokevirtual 154, 3) := by decide +kernel
theorem dX9_guest_5 : decode cX9_guest 5 = .ok (.ifCond .ne 5, 3) := by decide +kernel
theorem dX9_guest_8 : decode cX9_guest 8 = .ok (.iconst (-1), 1) := by decide +kernel
theorem dX9_guest_9 : decode cX9_guest 9 = .ok (.ireturn, 1) := by decide +kernel
theorem dX9_guest_10 : decode cX9_guest 10 = .ok (.iload_n 2, 1) := by decide +kernel
theorem dX9_guest_11 : decode cX9_guest 11 = .ok (.tableswitch 65 0 3 #[29, 38, 44, 53], 29) := by decide +kernel
theorem dX9_guest_40 : decode cX9_guest 40 = .ok (.aload_n 0, 1) := by decide +kernel
theorem dX9_guest_41 : decode cX9_guest 41 = .ok (.getfield 29, 3) := by decide +kernel
theorem dX9_guest_44 : decode cX9_guest 44 = .ok (.iload_n 1, 1) := by decide +kernel
theorem dX9_guest_45 : decode cX9_guest 45 = .ok (.invokevirtual 158, 3) := by decide +kernel
theorem dX9_guest_48 : decode cX9_guest 48 = .ok (.ireturn, 1) := by decide +kernel
theorem dX9_guest_49 : decode cX9_guest 49 = .ok (.aload_n 0, 1) := by decide +kernel
theorem dX9_guest_50 : decode cX9_guest 50 = .ok (.iload_n 1, 1) := by decide +kernel
theorem dX9_guest_51 : decode cX9_guest 51 = .ok (.invokevirtual 161, 3) := by decide +kernel
theorem dX9_guest_54 : decode cX9_guest 54 = .ok (.ireturn, 1) := by decide +kernel
theorem dX9_guest_55 : decode cX9_guest 55 = .ok (.aload_n 0, 1) := by decide +kernel
theorem dX9_guest_56 : decode cX9_guest 56 = .ok (.getfield 29, 3) := by decide +kernel
theorem dX9_guest_59 : decode cX9_guest 59 = .ok (.iload_n 1, 1) := by decide +kernel
theorem dX9_guest_60 : decode cX9_guest 60 = .ok (.invokevirtual 164, 3) := by decide +kernel
theorem dX9_guest_63 : decode cX9_guest 63 = .ok (.ireturn, 1) := by decide +kernel
theorem dX9_guest_64 : decode cX9_guest 64 = .ok (.aload_n 0, 1) := by decide +kernel
theorem dX9_guest_65 : decode cX9_guest 65 = .ok (.getfield 76, 3) := by decide +kernel
theorem dX9_guest_68 : decode cX9_guest 68 = .ok (.getfield 144, 3) := by decide +kernel
theorem dX9_guest_71 : decode cX9_guest 71 = .ok (.iload_n 1, 1) := by decide +kernel
theorem dX9_guest_72 : decode cX9_guest 72 = .ok (.invokestatic 167, 3) := by decide +kernel
theorem dX9_guest_75 : decode cX9_guest 75 = .ok (.ireturn, 1) := by decide +kernel
theorem dX9_guest_76 : decode cX9_guest 76 = .ok (.iconst (-1), 1) := by decide +kernel
theorem dX9_guest_77 : decode cX9_guest 77 = .ok (.ireturn, 1) := by decide +kernel
theorem dX9_worth_0 : decode cX9_worth 0 = .ok (.aload_n 0, 1) := by decide +kernel
theorem dX9_worth_1 : decode cX9_worth 1 = .ok (.iload_n 1, 1) := by decide +kernel
theorem dX9_worth_2 : decode cX9_worth 2 = .ok (.invokevirtual 154, 3) := by decide +kernel
theorem dX9_worth_5 : decode cX9_worth 5 = .ok (.ifCond .eq 21, 3) := by decide +kernel
theorem dX9_worth_8 : decode cX9_worth 8 = .ok (.aload_n 0, 1) := by decide +kernel
theorem dX9_worth_9 : decode cX9_worth 9 = .ok (.iload_n 2, 1) := by decide +kernel
theorem dX9_worth_10 : decode cX9_worth 10 = .ok (.invokevirtual 171, 3) := by decide +kernel
theorem dX9_worth_13 : decode cX9_worth 13 = .ok (.ifCond .eq 13, 3) := by decide +kernel
theorem dX9_worth_16 : decode cX9_worth 16 = .ok (.iload_n 3, 1) := by decide +kernel
theorem dX9_worth_17 : decode cX9_worth 17 = .ok (.ifCond .lt 9, 3) := by decide +kernel
theorem dX9_worth_20 : decode cX9_worth 20 = .ok (.iload_n 3, 1) := by decide +kernel
theorem dX9_worth_21 : decode cX9_worth 21 = .ok (.bipush 99, 2) := by decide +kernel
theorem dX9_worth_23 : decode cX9_worth 23 = .ok (.if_icmp .le 5, 3) := by decide +kernel
theorem dX9_worth_26 : decode cX9_worth 26 = .ok (.iconst (-1), 1) := by decide +kernel
theorem dX9_worth_27 : decode cX9_worth 27 = .ok (.ireturn, 1) := by decide +kernel
theorem dX9_worth_28 : decode cX9_worth 28 = .ok (.aload_n 0, 1) := by decide +kernel
theorem dX9_worth_29 : decode cX9_worth 29 = .ok (.getfield 29, 3) := by decide +kernel
theorem dX9_worth_32 : decode cX9_worth 32 = .ok (.iload_n 1, 1) := by decide +kernel
theorem dX9_worth_33 : decode cX9_worth 33 = .ok (.iload_n 2, 1) := by decide +kernel
theorem dX9_worth_34 : decode cX9_worth 34 = .ok (.iload_n 3, 1) := by decide +kernel
theorem dX9_worth_35 : decode cX9_worth 35 = .ok (.invokevirtual 174, 3) := by decide +kernel
theorem dX9_worth_38 : decode cX9_worth 38 = .ok (.ireturn, 1) := by decide +kernel
theorem dX9_hands_0 : decode cX9_hands 0 = .ok (.aload_n 0, 1) := by decide +kernel
theorem dX9_hands_1 : decode cX9_hands 1 = .ok (.iload_n 1, 1) := by decide +kernel
theorem dX9_hands_2 : decode cX9_hands 2 = .ok (.invokevirtual 154, 3) := by decide +kernel
theorem dX9_hands_5 : decode cX9_hands 5 = .ok (.ifCond .eq 11, 3) := by decide +kernel
theorem dX9_hands_8 : decode cX9_hands 8 = .ok (.aload_n 0, 1) := by decide +kernel
theorem dX9_hands_9 : decode cX9_hands 9 = .ok (.iload_n 2, 1) := by decide +kernel
theorem dX9_hands_10 : decode cX9_hands 10 = .ok (.invokevirtual 154, 3) := by decide +kernel
theorem dX9_hands_13 : decode cX9_hands 13 = .ok (.ifCond .ne 5, 3) := by decide +kernel
theorem dX9_hands_16 : decode cX9_hands 16 = .ok (.iconst (-1), 1) := by decide +kernel
theorem dX9_hands_17 : decode cX9_hands 17 = .ok (.ireturn, 1) := by decide +kernel
theorem dX9_hands_18 : decode cX9_hands 18 = .ok (.aload_n 0, 1) := by decide +kernel
theorem dX9_hands_19 : decode cX9_hands 19 = .ok (.getfield 29, 3) := by decide +kernel
theorem dX9_hands_22 : decode cX9_hands 22 = .ok (.iload_n 1, 1) := by decide +kernel
theorem dX9_hands_23 : decode cX9_hands 23 = .ok (.iload_n 2, 1) := by decide +kernel
theorem dX9_hands_24 : decode cX9_hands 24 = .ok (.invokevirtual 178, 3) := by decide +kernel
theorem dX9_hands_27 : decode cX9_hands 27 = .ok (.ireturn, 1) := by decide +kernel
theorem dX9_ask_0 : decode cX9_ask 0 = .ok (.aload_n 0, 1) := by decide +kernel
theorem dX9_ask_1 : decode cX9_ask 1 = .ok (.iload_n 1, 1) := by decide +kernel
theorem dX9_ask_2 : decode cX9_ask 2 = .ok (.invokevirtual 154, 3) := by decide +kernel
theorem dX9_ask_5 : decode cX9_ask 5 = .ok (.ifCond .eq 11, 3) := by decide +kernel
theorem dX9_ask_8 : decode cX9_ask 8 = .ok (.aload_n 0, 1) := by decide +kernel
theorem dX9_ask_9 : decode cX9_ask 9 = .ok (.iload_n 2, 1) := by decide +kernel
theorem dX9_ask_10 : decode cX9_ask 10 = .ok (.invokevirtual 154, 3) := by decide +kernel
theorem dX9_ask_13 : decode cX9_ask 13 = .ok (.ifCond .ne 5, 3) := by decide +kernel
theorem dX9_ask_16 : decode cX9_ask 16 = .ok (.iconst (-1), 1) := by decide +kernel
theorem dX9_ask_17 : decode cX9_ask 17 = .ok (.ireturn, 1) := by decide +kernel
theorem dX9_ask_18 : decode cX9_ask 18 = .ok (.aload_n 0, 1) := by decide +kernel
theorem dX9_ask_19 : decode cX9_ask 19 = .ok (.getfield 29, 3) := by decide +kernel
theorem dX9_ask_22 : decode cX9_ask 22 = .ok (.aload_n 0, 1) := by decide +kernel
theorem dX9_ask_23 : decode cX9_ask 23 = .ok (.getfield 76, 3) := by decide +kernel
theorem dX9_ask_26 : decode cX9_ask 26 = .ok (.getfield 137, 3) := by decide +kernel
theorem dX9_ask_29 : decode cX9_ask 29 = .ok (.iload_n 1, 1) := by decide +kernel
theorem dX9_ask_30 : decode cX9_ask 30 = .ok (.iload_n 2, 1) := by decide +kernel
theorem dX9_ask_31 : decode cX9_ask 31 = .ok (.invokevirtual 182, 3) := by decide +kernel
theorem dX9_ask_34 : decode cX9_ask 34 = .ok (.ifCond .ne 6, 3) := by decide +kernel
theorem dX9_ask_37 : decode cX9_ask 37 = .ok (.bipush (-2), 2) := by decide +kernel
theorem dX9_ask_39 : decode cX9_ask 39 = .ok (.ireturn, 1) := by decide +kernel
theorem dX9_ask_40 : decode cX9_ask 40 = .ok (.aload_n 0, 1) := by decide +kernel
theorem dX9_ask_41 : decode cX9_ask 41 = .ok (.getfield 85, 3) := by decide +kernel
theorem dX9_ask_44 : decode cX9_ask 44 = .ok (.aload_n 0, 1) := by decide +kernel
theorem dX9_ask_45 : decode cX9_ask 45 = .ok (.getfield 76, 3) := by decide +kernel
theorem dX9_ask_48 : decode cX9_ask 48 = .ok (.invokevirtual 186, 3) := by decide +kernel
theorem dX9_ask_51 : decode cX9_ask 51 = .ok (.aload_n 0, 1) := by decide +kernel
theorem dX9_ask_52 : decode cX9_ask 52 = .ok (.getfield 76, 3) := by decide +kernel
theorem dX9_ask_55 : decode cX9_ask 55 = .ok (.aload_n 0, 1) := by decide +kernel
theorem dX9_ask_56 : decode cX9_ask 56 = .ok (.getfield 29, 3) := by decide +kernel
theorem dX9_ask_59 : decode cX9_ask 59 = .ok (.aload_n 0, 1) := by decide +kernel
theorem dX9_ask_60 : decode cX9_ask 60 = .ok (.getfield 76, 3) := by decide +kernel
theorem dX9_ask_63 : decode cX9_ask 63 = .ok (.getfield 137, 3) := by decide +kernel
theorem dX9_ask_66 : decode cX9_ask 66 = .ok (.iload_n 1, 1) := by decide +kernel
theorem dX9_ask_67 : decode cX9_ask 67 = .ok (.iload_n 2, 1) := by decide +kernel
theorem dX9_ask_68 : decode cX9_ask 68 = .ok (.invokevirtual 190, 3) := by decide +kernel
theorem dX9_ask_71 : decode cX9_ask 71 = .ok (.putfield 137, 3) := by decide +kernel
theorem dX9_ask_74 : decode cX9_ask 74 = .ok (.aload_n 0, 1) := by decide +kernel
theorem dX9_ask_75 : decode cX9_ask 75 = .ok (.getfield 76, 3) := by decide +kernel
theorem dX9_ask_78 : decode cX9_ask 78 = .ok (.dup, 1) := by decide +kernel
theorem dX9_ask_79 : decode cX9_ask 79 = .ok (.getfield 144, 3) := by decide +kernel
theorem dX9_ask_82 : decode cX9_ask 82 = .ok (.aload_n 0, 1) := by decide +kernel
theorem dX9_ask_83 : decode cX9_ask 83 = .ok (.getfield 76, 3) := by decide +kernel
theorem dX9_ask_86 : decode cX9_ask 86 = .ok (.getfield 137, 3) := by decide +kernel
theorem dX9_ask_89 : decode cX9_ask 89 = .ok (.invokestatic 140, 3) := by decide +kernel
theorem dX9_ask_92 : decode cX9_ask 92 = .ok (.lor, 1) := by decide +kernel
theorem dX9_ask_93 : decode cX9_ask 93 = .ok (.putfield 144, 3) := by decide +kernel
theorem dX9_ask_96 : decode cX9_ask 96 = .ok (.aload_n 0, 1) := by decide +kernel
theorem dX9_ask_97 : decode cX9_ask 97 = .ok (.getfield 76, 3) := by decide +kernel
theorem dX9_ask_100 : decode cX9_ask 100 = .ok (.dup, 1) := by decide +kernel
theorem dX9_ask_101 : decode cX9_ask 101 = .ok (.getfield 148, 3) := by decide +kernel
theorem dX9_ask_104 : decode cX9_ask 104 = .ok (.aload_n 0, 1) := by decide +kernel
theorem dX9_ask_105 : decode cX9_ask 105 = .ok (.getfield 29, 3) := by decide +kernel
theorem dX9_ask_108 : decode cX9_ask 108 = .ok (.iload_n 1, 1) := by decide +kernel
theorem dX9_ask_109 : decode cX9_ask 109 = .ok (.iload_n 2, 1) := by decide +kernel
theorem dX9_ask_110 : decode cX9_ask 110 = .ok (.invokevirtual 178, 3) := by decide +kernel
theorem dX9_ask_113 : decode cX9_ask 113 = .ok (.iadd, 1) := by decide +kernel
theorem dX9_ask_114 : decode cX9_ask 114 = .ok (.putfield 148, 3) := by decide +kernel
theorem dX9_ask_117 : decode cX9_ask 117 = .ok (.aload_n 0, 1) := by decide +kernel
theorem dX9_ask_118 : decode cX9_ask 118 = .ok (.iload_n 1, 1) := by decide +kernel
theorem dX9_ask_119 : decode cX9_ask 119 = .ok (.invokevirtual 161, 3) := by decide +kernel
theorem dX9_ask_122 : decode cX9_ask 122 = .ok (.ireturn, 1) := by decide +kernel
theorem dX9_undo_0 : decode cX9_undo 0 = .ok (.aload_n 0, 1) := by decide +kernel
theorem dX9_undo_1 : decode cX9_undo 1 = .ok (.getfield 85, 3) := by decide +kernel
theorem dX9_undo_4 : decode cX9_undo 4 = .ok (.getfield 151, 3) := by decide +kernel
theorem dX9_undo_7 : decode cX9_undo 7 = .ok (.ifCond .ne 6, 3) := by decide +kernel
theorem dX9_undo_10 : decode cX9_undo 10 = .ok (.bipush (-2), 2) := by decide +kernel
theorem dX9_undo_12 : decode cX9_undo 12 = .ok (.ireturn, 1) := by decide +kernel
theorem dX9_undo_13 : decode cX9_undo 13 = .ok (.aload_n 0, 1) := by decide +kernel
theorem dX9_undo_14 : decode cX9_undo 14 = .ok (.getfield 85, 3) := by decide +kernel
theorem dX9_undo_17 : decode cX9_undo 17 = .ok (.aload_n 0, 1) := by decide +kernel
theorem dX9_undo_18 : decode cX9_undo 18 = .ok (.getfield 76, 3) := by decide +kernel
theorem dX9_undo_21 : decode cX9_undo 21 = .ok (.invokevirtual 193, 3) := by decide +kernel
theorem dX9_undo_24 : decode cX9_undo 24 = .ok (.aload_n 0, 1) := by decide +kernel
theorem dX9_undo_25 : decode cX9_undo 25 = .ok (.getfield 85, 3) := by decide +kernel
theorem dX9_undo_28 : decode cX9_undo 28 = .ok (.getfield 151, 3) := by decide +kernel
theorem dX9_undo_31 : decode cX9_undo 31 = .ok (.ireturn, 1) := by decide +kernel
theorem dX9_evening_0 : decode cX9_evening 0 = .ok (.aload_n 0, 1) := by decide +kernel
theorem dX9_evening_1 : decode cX9_evening 1 = .ok (.getfield 29, 3) := by decide +kernel
theorem dX9_evening_4 : decode cX9_evening 4 = .ok (.aload_n 0, 1) := by decide +kernel
theorem dX9_evening_5 : decode cX9_evening 5 = .ok (.getfield 76, 3) := by decide +kernel
theorem dX9_evening_8 : decode cX9_evening 8 = .ok (.getfield 137, 3) := by decide +kernel
theorem dX9_evening_11 : decode cX9_evening 11 = .ok (.aload_n 0, 1) := by decide +kernel
theorem dX9_evening_12 : decode cX9_evening 12 = .ok (.getfield 76, 3) := by decide +kernel
theorem dX9_evening_15 : decode cX9_evening 15 = .ok (.getfield 148, 3) := by decide +kernel
theorem dX9_evening_18 : decode cX9_evening 18 = .ok (.invokevirtual 196, 3) := by decide +kernel
theorem dX9_evening_21 : decode cX9_evening 21 = .ok (.ireturn, 1) := by decide +kernel
theorem dX9_need_0 : decode cX9_need 0 = .ok (.aload_n 0, 1) := by decide +kernel
theorem dX9_need_1 : decode cX9_need 1 = .ok (.iload_n 1, 1) := by decide +kernel
theorem dX9_need_2 : decode cX9_need 2 = .ok (.invokevirtual 154, 3) := by decide +kernel
theorem dX9_need_5 : decode cX9_need 5 = .ok (.ifCond .eq 11, 3) := by decide +kernel
theorem dX9_need_8 : decode cX9_need 8 = .ok (.aload_n 0, 1) := by decide +kernel
theorem dX9_need_9 : decode cX9_need 9 = .ok (.iload_n 2, 1) := by decide +kernel
theorem dX9_need_10 : decode cX9_need 10 = .ok (.invokevirtual 171, 3) := by decide +kernel
theorem dX9_need_13 : decode cX9_need 13 = .ok (.ifCond .ne 5, 3) := by decide +kernel
theorem dX9_need_16 : decode cX9_need 16 = .ok (.iconst (-1), 1) := by decide +kernel
theorem dX9_need_17 : decode cX9_need 17 = .ok (.ireturn, 1) := by decide +kernel
theorem dX9_need_18 : decode cX9_need 18 = .ok (.aload_n 0, 1) := by decide +kernel
theorem dX9_need_19 : decode cX9_need 19 = .ok (.invokevirtual 199, 3) := by decide +kernel
theorem dX9_need_22 : decode cX9_need 22 = .ok (.aload_n 0, 1) := by decide +kernel
theorem dX9_need_23 : decode cX9_need 23 = .ok (.getfield 53, 3) := by decide +kernel
theorem dX9_need_26 : decode cX9_need 26 = .ok (.iload_n 1, 1) := by decide +kernel
theorem dX9_need_27 : decode cX9_need 27 = .ok (.iload_n 2, 1) := by decide +kernel
theorem dX9_need_28 : decode cX9_need 28 = .ok (.invokevirtual 202, 3) := by decide +kernel
theorem dX9_need_31 : decode cX9_need 31 = .ok (.ireturn, 1) := by decide +kernel
theorem dX9_first_0 : decode cX9_first 0 = .ok (.aload_n 0, 1) := by decide +kernel
theorem dX9_first_1 : decode cX9_first 1 = .ok (.iload_n 1, 1) := by decide +kernel
theorem dX9_first_2 : decode cX9_first 2 = .ok (.invokevirtual 154, 3) := by decide +kernel
theorem dX9_first_5 : decode cX9_first 5 = .ok (.ifCond .eq 11, 3) := by decide +kernel
theorem dX9_first_8 : decode cX9_first 8 = .ok (.aload_n 0, 1) := by decide +kernel
theorem dX9_first_9 : decode cX9_first 9 = .ok (.iload_n 2, 1) := by decide +kernel
theorem dX9_first_10 : decode cX9_first 10 = .ok (.invokevirtual 171, 3) := by decide +kernel
theorem dX9_first_13 : decode cX9_first 13 = .ok (.ifCond .ne 5, 3) := by decide +kernel
theorem dX9_first_16 : decode cX9_first 16 = .ok (.iconst (-1), 1) := by decide +kernel
theorem dX9_first_17 : decode cX9_first 17 = .ok (.ireturn, 1) := by decide +kernel
theorem dX9_first_18 : decode cX9_first 18 = .ok (.aload_n 0, 1) := by decide +kernel
theorem dX9_first_19 : decode cX9_first 19 = .ok (.invokevirtual 199, 3) := by decide +kernel
theorem dX9_first_22 : decode cX9_first 22 = .ok (.aload_n 0, 1) := by decide +kernel
theorem dX9_first_23 : decode cX9_first 23 = .ok (.getfield 53, 3) := by decide +kernel
theorem dX9_first_26 : decode cX9_first 26 = .ok (.iload_n 1, 1) := by decide +kernel
theorem dX9_first_27 : decode cX9_first 27 = .ok (.iload_n 2, 1) := by decide +kernel
theorem dX9_first_28 : decode cX9_first 28 = .ok (.invokevirtual 205, 3) := by decide +kernel
theorem dX9_first_31 : decode cX9_first 31 = .ok (.ireturn, 1) := by decide +kernel
theorem dX9_price_0 : decode cX9_price 0 = .ok (.aload_n 0, 1) := by decide +kernel
theorem dX9_price_1 : decode cX9_price 1 = .ok (.iload_n 1, 1) := by decide +kernel
theorem dX9_price_2 : decode cX9_price 2 = .ok (.invokevirtual 154, 3) := by decide +kernel
theorem dX9_price_5 : decode cX9_price 5 = .ok (.ifCond .eq 11, 3) := by decide +kernel
theorem dX9_price_8 : decode cX9_price 8 = .ok (.aload_n 0, 1) := by decide +kernel
theorem dX9_price_9 : decode cX9_price 9 = .ok (.iload_n 2, 1) := by decide +kernel
theorem dX9_price_10 : decode cX9_price 10 = .ok (.invokevirtual 171, 3) := by decide +kernel
theorem dX9_price_13 : decode cX9_price 13 = .ok (.ifCond .ne 5, 3) := by decide +kernel
theorem dX9_price_16 : decode cX9_price 16 = .ok (.iconst (-1), 1) := by decide +kernel
theorem dX9_price_17 : decode cX9_price 17 = .ok (.ireturn, 1) := by decide +kernel
theorem dX9_price_18 : decode cX9_price 18 = .ok (.aload_n 0, 1) := by decide +kernel
theorem dX9_price_19 : decode cX9_price 19 = .ok (.getfield 76, 3) := by decide +kernel
theorem dX9_price_22 : decode cX9_price 22 = .ok (.getfield 137, 3) := by decide +kernel
theorem dX9_price_25 : decode cX9_price 25 = .ok (.iload_n 2, 1) := by decide +kernel
theorem dX9_price_26 : decode cX9_price 26 = .ok (.invokestatic 208, 3) := by decide +kernel
theorem dX9_price_29 : decode cX9_price 29 = .ok (.ifCond .ge 6, 3) := by decide +kernel
theorem dX9_price_32 : decode cX9_price 32 = .ok (.bipush (-4), 2) := by decide +kernel
theorem dX9_price_34 : decode cX9_price 34 = .ok (.ireturn, 1) := by decide +kernel
theorem dX9_price_35 : decode cX9_price 35 = .ok (.aload_n 0, 1) := by decide +kernel
theorem dX9_price_36 : decode cX9_price 36 = .ok (.getfield 60, 3) := by decide +kernel
theorem dX9_price_39 : decode cX9_price 39 = .ok (.aload_n 0, 1) := by decide +kernel
theorem dX9_price_40 : decode cX9_price 40 = .ok (.getfield 35, 3) := by decide +kernel
theorem dX9_price_43 : decode cX9_price 43 = .ok (.aload_n 0, 1) := by decide +kernel
theorem dX9_price_44 : decode cX9_price 44 = .ok (.getfield 76, 3) := by decide +kernel
theorem dX9_price_47 : decode cX9_price 47 = .ok (.getfield 137, 3) := by decide +kernel
theorem dX9_price_50 : decode cX9_price 50 = .ok (.invokevirtual 211, 3) := by decide +kernel
theorem dX9_price_53 : decode cX9_price 53 = .ok (.iload_n 1, 1) := by decide +kernel
theorem dX9_price_54 : decode cX9_price 54 = .ok (.iload_n 2, 1) := by decide +kernel
theorem dX9_price_55 : decode cX9_price 55 = .ok (.invokevirtual 214, 3) := by decide +kernel
theorem dX9_price_58 : decode cX9_price 58 = .ok (.ireturn, 1) := by decide +kernel
theorem dX9_never_0 : decode cX9_never 0 = .ok (.aload_n 0, 1) := by decide +kernel
theorem dX9_never_1 : decode cX9_never 1 = .ok (.iload_n 1, 1) := by decide +kernel
theorem dX9_never_2 : decode cX9_never 2 = .ok (.invokevirtual 154, 3) := by decide +kernel
theorem dX9_never_5 : decode cX9_never 5 = .ok (.ifCond .ne 5, 3) := by decide +kernel
theorem dX9_never_8 : decode cX9_never 8 = .ok (.iconst (-1), 1) := by decide +kernel
theorem dX9_never_9 : decode cX9_never 9 = .ok (.ireturn, 1) := by decide +kernel
theorem dX9_never_10 : decode cX9_never 10 = .ok (.aload_n 0, 1) := by decide +kernel
theorem dX9_never_11 : decode cX9_never 11 = .ok (.invokevirtual 199, 3) := by decide +kernel
theorem dX9_never_14 : decode cX9_never 14 = .ok (.aload_n 0, 1) := by decide +kernel
theorem dX9_never_15 : decode cX9_never 15 = .ok (.getfield 29, 3) := by decide +kernel
theorem dX9_never_18 : decode cX9_never 18 = .ok (.invokevirtual 217, 3) := by decide +kernel
theorem dX9_never_21 : decode cX9_never 21 = .ok (.iload_n 1, 1) := by decide +kernel
theorem dX9_never_22 : decode cX9_never 22 = .ok (.invokestatic 220, 3) := by decide +kernel
theorem dX9_never_25 : decode cX9_never 25 = .ok (.lstore_n 2, 1) := by decide +kernel
theorem dX9_never_26 : decode cX9_never 26 = .ok (.lload_n 2, 1) := by decide +kernel
theorem dX9_never_27 : decode cX9_never 27 = .ok (.aload_n 0, 1) := by decide +kernel
theorem dX9_never_28 : decode cX9_never 28 = .ok (.getfield 53, 3) := by decide +kernel
theorem dX9_never_31 : decode cX9_never 31 = .ok (.lload_n 2, 1) := by decide +kernel
theorem dX9_never_32 : decode cX9_never 32 = .ok (.invokevirtual 224, 3) := by decide +kernel
theorem dX9_never_35 : decode cX9_never 35 = .ok (.ldc2_w 228, 3) := by decide +kernel
theorem dX9_never_38 : decode cX9_never 38 = .ok (.lxor, 1) := by decide +kernel
theorem dX9_never_39 : decode cX9_never 39 = .ok (.land, 1) := by decide +kernel
theorem dX9_never_40 : decode cX9_never 40 = .ok (.iload_n 1, 1) := by decide +kernel
theorem dX9_never_41 : decode cX9_never 41 = .ok (.invokestatic 167, 3) := by decide +kernel
theorem dX9_never_44 : decode cX9_never 44 = .ok (.ireturn, 1) := by decide +kernel
theorem dX9_stuck_0 : decode cX9_stuck 0 = .ok (.aload_n 0, 1) := by decide +kernel
theorem dX9_stuck_1 : decode cX9_stuck 1 = .ok (.getfield 44, 3) := by decide +kernel
theorem dX9_stuck_4 : decode cX9_stuck 4 = .ok (.aload_n 0, 1) := by decide +kernel
theorem dX9_stuck_5 : decode cX9_stuck 5 = .ok (.getfield 35, 3) := by decide +kernel
theorem dX9_stuck_8 : decode cX9_stuck 8 = .ok (.aload_n 0, 1) := by decide +kernel
theorem dX9_stuck_9 : decode cX9_stuck 9 = .ok (.getfield 76, 3) := by decide +kernel
theorem dX9_stuck_12 : decode cX9_stuck 12 = .ok (.getfield 137, 3) := by decide +kernel
theorem dX9_stuck_15 : decode cX9_stuck 15 = .ok (.invokevirtual 211, 3) := by decide +kernel
theorem dX9_stuck_18 : decode cX9_stuck 18 = .ok (.invokevirtual 230, 3) := by decide +kernel
theorem dX9_stuck_21 : decode cX9_stuck 21 = .ok (.ifCond .eq 7, 3) := by decide +kernel
theorem dX9_stuck_24 : decode cX9_stuck 24 = .ok (.iconst 0, 1) := by decide +kernel
theorem dX9_stuck_25 : decode cX9_stuck 25 = .ok (.goto 4, 3) := by decide +kernel
theorem dX9_stuck_28 : decode cX9_stuck 28 = .ok (.iconst 1, 1) := by decide +kernel
theorem dX9_stuck_29 : decode cX9_stuck 29 = .ok (.ireturn, 1) := by decide +kernel
theorem dX9_rest_0 : decode cX9_rest 0 = .ok (.aload_n 0, 1) := by decide +kernel
theorem dX9_rest_1 : decode cX9_rest 1 = .ok (.invokevirtual 199, 3) := by decide +kernel
theorem dX9_rest_4 : decode cX9_rest 4 = .ok (.aload_n 0, 1) := by decide +kernel
theorem dX9_rest_5 : decode cX9_rest 5 = .ok (.getfield 53, 3) := by decide +kernel
theorem dX9_rest_8 : decode cX9_rest 8 = .ok (.ldc 233, 2) := by decide +kernel
theorem dX9_rest_10 : decode cX9_rest 10 = .ok (.invokevirtual 234, 3) := by decide +kernel
theorem dX9_rest_13 : decode cX9_rest 13 = .ok (.ireturn, 1) := by decide +kernel
theorem dX9_holdsUp_0 : decode cX9_holdsUp 0 = .ok (.iload_n 1, 1) := by decide +kernel
theorem dX9_holdsUp_1 : decode cX9_holdsUp 1 = .ok (.ifCond .lt 8, 3) := by decide +kernel
theorem dX9_holdsUp_4 : decode cX9_holdsUp 4 = .ok (.iload_n 1, 1) := by decide +kernel
theorem dX9_holdsUp_5 : decode cX9_holdsUp 5 = .ok (.iconst 1, 1) := by decide +kernel
theorem dX9_holdsUp_6 : decode cX9_holdsUp 6 = .ok (.if_icmp .le 5, 3) := by decide +kernel
theorem dX9_holdsUp_9 : decode cX9_holdsUp 9 = .ok (.iconst (-1), 1) := by decide +kernel
theorem dX9_holdsUp_10 : decode cX9_holdsUp 10 = .ok (.ireturn, 1) := by decide +kernel
theorem dX9_holdsUp_11 : decode cX9_holdsUp 11 = .ok (.aload_n 0, 1) := by decide +kernel
theorem dX9_holdsUp_12 : decode cX9_holdsUp 12 = .ok (.invokevirtual 199, 3) := by decide +kernel
theorem dX9_holdsUp_15 : decode cX9_holdsUp 15 = .ok (.aload_n 0, 1) := by decide +kernel
theorem dX9_holdsUp_16 : decode cX9_holdsUp 16 = .ok (.getfield 69, 3) := by decide +kernel
theorem dX9_holdsUp_19 : decode cX9_holdsUp 19 = .ok (.invokevirtual 237, 3) := by decide +kernel
theorem dX9_holdsUp_22 : decode cX9_holdsUp 22 = .ok (.iload_n 1, 1) := by decide +kernel
theorem dX9_holdsUp_23 : decode cX9_holdsUp 23 = .ok (.ifCond .ne 13, 3) := by decide +kernel
theorem dX9_holdsUp_26 : decode cX9_holdsUp 26 = .ok (.aload_n 0, 1) := by decide +kernel
theorem dX9_holdsUp_27 : decode cX9_holdsUp 27 = .ok (.getfield 69, 3) := by decide +kernel
theorem dX9_holdsUp_30 : decode cX9_holdsUp 30 = .ok (.getfield 240, 3) := by decide +kernel
theorem dX9_holdsUp_33 : decode cX9_holdsUp 33 = .ok (.goto 10, 3) := by decide +kernel
theorem dX9_holdsUp_36 : decode cX9_holdsUp 36 = .ok (.aload_n 0, 1) := by decide +kernel
theorem dX9_holdsUp_37 : decode cX9_holdsUp 37 = .ok (.getfield 69, 3) := by decide +kernel
theorem dX9_holdsUp_40 : decode cX9_holdsUp 40 = .ok (.getfield 243, 3) := by decide +kernel
theorem dX9_holdsUp_43 : decode cX9_holdsUp 43 = .ok (.ireturn, 1) := by decide +kernel
theorem dX9_liked_0 : decode cX9_liked 0 = .ok (.iload_n 1, 1) := by decide +kernel
theorem dX9_liked_1 : decode cX9_liked 1 = .ok (.ifCond .lt 8, 3) := by decide +kernel
theorem dX9_liked_4 : decode cX9_liked 4 = .ok (.iload_n 1, 1) := by decide +kernel
theorem dX9_liked_5 : decode cX9_liked 5 = .ok (.iconst 1, 1) := by decide +kernel
theorem dX9_liked_6 : decode cX9_liked 6 = .ok (.if_icmp .le 5, 3) := by decide +kernel
theorem dX9_liked_9 : decode cX9_liked 9 = .ok (.iconst (-1), 1) := by decide +kernel
theorem dX9_liked_10 : decode cX9_liked 10 = .ok (.ireturn, 1) := by decide +kernel
theorem dX9_liked_11 : decode cX9_liked 11 = .ok (.iconst 0, 1) := by decide +kernel
theorem dX9_liked_12 : decode cX9_liked 12 = .ok (.istore_n 2, 1) := by decide +kernel
theorem dX9_liked_13 : decode cX9_liked 13 = .ok (.bipush (-4), 2) := by decide +kernel
theorem dX9_liked_15 : decode cX9_liked 15 = .ok (.istore_n 3, 1) := by decide +kernel
theorem dX9_liked_16 : decode cX9_liked 16 = .ok (.iconst 0, 1) := by decide +kernel
theorem dX9_liked_17 : decode cX9_liked 17 = .ok (.istore 4, 2) := by decide +kernel
theorem dX9_liked_19 : decode cX9_liked 19 = .ok (.iload 4, 2) := by decide +kernel
theorem dX9_liked_21 : decode cX9_liked 21 = .ok (.aload_n 0, 1) := by decide +kernel
theorem dX9_liked_22 : decode cX9_liked 22 = .ok (.getfield 29, 3) := by decide +kernel
theorem dX9_liked_25 : decode cX9_liked 25 = .ok (.getfield 118, 3) := by decide +kernel
theorem dX9_liked_28 : decode cX9_liked 28 = .ok (.if_icmp .ge 74, 3) := by decide +kernel
theorem dX9_liked_31 : decode cX9_liked 31 = .ok (.iload 4, 2) := by decide +kernel
theorem dX9_liked_33 : decode cX9_liked 33 = .ok (.iconst 1, 1) := by decide +kernel
theorem dX9_liked_34 : decode cX9_liked 34 = .ok (.iadd, 1) := by decide +kernel
theorem dX9_liked_35 : decode cX9_liked 35 = .ok (.istore 5, 2) := by decide +kernel
theorem dX9_liked_37 : decode cX9_liked 37 = .ok (.iload 5, 2) := by decide +kernel
theorem dX9_liked_39 : decode cX9_liked 39 = .ok (.aload_n 0, 1) := by decide +kernel
theorem dX9_liked_40 : decode cX9_liked 40 = .ok (.getfield 29, 3) := by decide +kernel
theorem dX9_liked_43 : decode cX9_liked 43 = .ok (.getfield 118, 3) := by decide +kernel
theorem dX9_liked_46 : decode cX9_liked 46 = .ok (.if_icmp .ge 50, 3) := by decide +kernel
theorem dX9_liked_49 : decode cX9_liked 49 = .ok (.aload_n 0, 1) := by decide +kernel
theorem dX9_liked_50 : decode cX9_liked 50 = .ok (.getfield 29, 3) := by decide +kernel
theorem dX9_liked_53 : decode cX9_liked 53 = .ok (.aload_n 0, 1) := by decide +kernel
theorem dX9_liked_54 : decode cX9_liked 54 = .ok (.getfield 76, 3) := by decide +kernel
theorem dX9_liked_57 : decode cX9_liked 57 = .ok (.getfield 137, 3) := by decide +kernel
theorem dX9_liked_60 : decode cX9_liked 60 = .ok (.iload 4, 2) := by decide +kernel
theorem dX9_liked_62 : decode cX9_liked 62 = .ok (.iload 5, 2) := by decide +kernel
theorem dX9_liked_64 : decode cX9_liked 64 = .ok (.invokevirtual 246, 3) := by decide +kernel
theorem dX9_liked_67 : decode cX9_liked 67 = .ok (.ifCond .eq 23, 3) := by decide +kernel
theorem dX9_liked_70 : decode cX9_liked 70 = .ok (.iload_n 2, 1) := by decide +kernel
theorem dX9_liked_71 : decode cX9_liked 71 = .ok (.ifCond .ne 14, 3) := by decide +kernel
theorem dX9_liked_74 : decode cX9_liked 74 = .ok (.bipush 10, 2) := by decide +kernel
theorem dX9_liked_76 : decode cX9_liked 76 = .ok (.iload 4, 2) := by decide +kernel
theorem dX9_liked_78 : decode cX9_liked 78 = .ok (.imul, 1) := by decide +kernel
theorem dX9_liked_79 : decode cX9_liked 79 = .ok (.iload 5, 2) := by decide +kernel
theorem dX9_liked_81 : decode cX9_liked 81 = .ok (.iadd, 1) := by decide +kernel
theorem dX9_liked_82 : decode cX9_liked 82 = .ok (.goto 4, 3) := by decide +kernel
theorem dX9_liked_85 : decode cX9_liked 85 = .ok (.iload_n 3, 1) := by decide +kernel
theorem dX9_liked_86 : decode cX9_liked 86 = .ok (.istore_n 3, 1) := by decide +kernel
theorem dX9_liked_87 : decode cX9_liked 87 = .ok (.iinc 2 1, 3) := by decide +kernel
theorem dX9_liked_90 : decode cX9_liked 90 = .ok (.iinc 5 1, 3) := by decide +kernel
theorem dX9_liked_93 : decode cX9_liked 93 = .ok (.goto (-56), 3) := by decide +kernel
theorem dX9_liked_96 : decode cX9_liked 96 = .ok (.iinc 4 1, 3) := by decide +kernel
theorem dX9_liked_99 : decode cX9_liked 99 = .ok (.goto (-80), 3) := by decide +kernel
theorem dX9_liked_102 : decode cX9_liked 102 = .ok (.iload_n 1, 1) := by decide +kernel
theorem dX9_liked_103 : decode cX9_liked 103 = .ok (.ifCond .ne 7, 3) := by decide +kernel
theorem dX9_liked_106 : decode cX9_liked 106 = .ok (.iload_n 2, 1) := by decide +kernel
theorem dX9_liked_107 : decode cX9_liked 107 = .ok (.goto 4, 3) := by decide +kernel
theorem dX9_liked_110 : decode cX9_liked 110 = .ok (.iload_n 3, 1) := by decide +kernel
theorem dX9_liked_111 : decode cX9_liked 111 = .ok (.ireturn, 1) := by decide +kernel
theorem dX9_most_0 : decode cX9_most 0 = .ok (.iconst 0, 1) := by decide +kernel
theorem dX9_most_1 : decode cX9_most 1 = .ok (.istore_n 1, 1) := by decide +kernel
theorem dX9_most_2 : decode cX9_most 2 = .ok (.iconst 0, 1) := by decide +kernel
theorem dX9_most_3 : decode cX9_most 3 = .ok (.istore_n 2, 1) := by decide +kernel
theorem dX9_most_4 : decode cX9_most 4 = .ok (.iload_n 2, 1) := by decide +kernel
theorem dX9_most_5 : decode cX9_most 5 = .ok (.aload_n 0, 1) := by decide +kernel
theorem dX9_most_6 : decode cX9_most 6 = .ok (.getfield 35, 3) := by decide +kernel
theorem dX9_most_9 : decode cX9_most 9 = .ok (.getfield 249, 3) := by decide +kernel
theorem dX9_most_12 : decode cX9_most 12 = .ok (.if_icmp .ge 30, 3) := by decide +kernel
theorem dX9_most_15 : decode cX9_most 15 = .ok (.iload_n 1, 1) := by decide +kernel
theorem dX9_most_16 : decode cX9_most 16 = .ok (.aload_n 0, 1) := by decide +kernel
theorem dX9_most_17 : decode cX9_most 17 = .ok (.getfield 29, 3) := by decide +kernel
theorem dX9_most_20 : decode cX9_most 20 = .ok (.aload_n 0, 1) := by decide +kernel
theorem dX9_most_21 : decode cX9_most 21 = .ok (.getfield 35, 3) := by decide +kernel
theorem dX9_most_24 : decode cX9_most 24 = .ok (.iload_n 2, 1) := by decide +kernel
theorem dX9_most_25 : decode cX9_most 25 = .ok (.invokevirtual 250, 3) := by decide +kernel
theorem dX9_most_28 : decode cX9_most 28 = .ok (.iconst 0, 1) := by decide +kernel
theorem dX9_most_29 : decode cX9_most 29 = .ok (.invokevirtual 196, 3) := by decide +kernel
theorem dX9_most_32 : decode cX9_most 32 = .ok (.invokestatic 253, 3) := by decide +kernel
theorem dX9_most_35 : decode cX9_most 35 = .ok (.istore_n 1, 1) := by decide +kernel
theorem dX9_most_36 : decode cX9_most 36 = .ok (.iinc 2 1, 3) := by decide +kernel
theorem dX9_most_39 : decode cX9_most 39 = .ok (.goto (-35), 3) := by decide +kernel
theorem dX9_most_42 : decode cX9_most 42 = .ok (.iload_n 1, 1) := by decide +kernel
theorem dX9_most_43 : decode cX9_most 43 = .ok (.ireturn, 1) := by decide +kernel
theorem dX9_seats_0 : decode cX9_seats 0 = .ok (.aload_n 0, 1) := by decide +kernel
theorem dX9_seats_1 : decode cX9_seats 1 = .ok (.invokevirtual 199, 3) := by decide +kernel
theorem dX9_seats_4 : decode cX9_seats 4 = .ok (.aload_n 0, 1) := by decide +kernel
theorem dX9_seats_5 : decode cX9_seats 5 = .ok (.getfield 69, 3) := by decide +kernel
theorem dX9_seats_8 : decode cX9_seats 8 = .ok (.invokevirtual 258, 3) := by decide +kernel
theorem dX9_seats_11 : decode cX9_seats 11 = .ok (.ireturn, 1) := by decide +kernel
theorem dX9_went_0 : decode cX9_went 0 = .ok (.iload_n 1, 1) := by decide +kernel
theorem dX9_went_1 : decode cX9_went 1 = .ok (.ifCond .lt 9, 3) := by decide +kernel
theorem dX9_went_4 : decode cX9_went 4 = .ok (.iload_n 1, 1) := by decide +kernel
theorem dX9_went_5 : decode cX9_went 5 = .ok (.bipush 8, 2) := by decide +kernel
theorem dX9_went_7 : decode cX9_went 7 = .ok (.if_icmp .le 7, 3) := by decide +kernel
theorem dX9_went_10 : decode cX9_went 10 = .ok (.ldc2_w 228, 3) := by decide +kernel
theorem dX9_went_13 : decode cX9_went 13 = .ok (.lreturn, 1) := by decide +kernel
theorem dX9_went_14 : decode cX9_went 14 = .ok (.aload_n 0, 1) := by decide +kernel
theorem dX9_went_15 : decode cX9_went 15 = .ok (.getfield 60, 3) := by decide +kernel
theorem dX9_went_18 : decode cX9_went 18 = .ok (.aload_n 0, 1) := by decide +kernel
theorem dX9_went_19 : decode cX9_went 19 = .ok (.getfield 35, 3) := by decide +kernel
theorem dX9_went_22 : decode cX9_went 22 = .ok (.aload_n 0, 1) := by decide +kernel
theorem dX9_went_23 : decode cX9_went 23 = .ok (.getfield 29, 3) := by decide +kernel
theorem dX9_went_26 : decode cX9_went 26 = .ok (.getfield 125, 3) := by decide +kernel
theorem dX9_went_29 : decode cX9_went 29 = .ok (.invokevirtual 211, 3) := by decide +kernel
theorem dX9_went_32 : decode cX9_went 32 = .ok (.aload_n 0, 1) := by decide +kernel
theorem dX9_went_33 : decode cX9_went 33 = .ok (.getfield 35, 3) := by decide +kernel
theorem dX9_went_36 : decode cX9_went 36 = .ok (.aload_n 0, 1) := by decide +kernel
theorem dX9_went_37 : decode cX9_went 37 = .ok (.getfield 76, 3) := by decide +kernel
theorem dX9_went_40 : decode cX9_went 40 = .ok (.getfield 137, 3) := by decide +kernel
theorem dX9_went_43 : decode cX9_went 43 = .ok (.invokevirtual 211, 3) := by decide +kernel
theorem dX9_went_46 : decode cX9_went 46 = .ok (.iload_n 1, 1) := by decide +kernel
theorem dX9_went_47 : decode cX9_went 47 = .ok (.invokevirtual 261, 3) := by decide +kernel
theorem dX9_went_50 : decode cX9_went 50 = .ok (.lreturn, 1) := by decide +kernel
theorem dX9_drawn_0 : decode cX9_drawn 0 = .ok (.iload_n 1, 1) := by decide +kernel
theorem dX9_drawn_1 : decode cX9_drawn 1 = .ok (.ifCond .lt 34, 3) := by decide +kernel
theorem dX9_drawn_4 : decode cX9_drawn 4 = .ok (.iload_n 1, 1) := by decide +kernel
theorem dX9_drawn_5 : decode cX9_drawn 5 = .ok (.sipush 9999, 3) := by decide +kernel
theorem dX9_drawn_8 : decode cX9_drawn 8 = .ok (.if_icmp .gt 27, 3) := by decide +kernel
theorem dX9_drawn_11 : decode cX9_drawn 11 = .ok (.iload_n 2, 1) := by decide +kernel
theorem dX9_drawn_12 : decode cX9_drawn 12 = .ok (.iconst 1, 1) := by decide +kernel
theorem dX9_drawn_13 : decode cX9_drawn 13 = .ok (.if_icmp .lt 22, 3) := by decide +kernel
theorem dX9_drawn_16 : decode cX9_drawn 16 = .ok (.iload_n 2, 1) := by decide +kernel
theorem dX9_drawn_17 : decode cX9_drawn 17 = .ok (.bipush 60, 2) := by decide +kernel
theorem dX9_drawn_19 : decode cX9_drawn 19 = .ok (.if_icmp .gt 16, 3) := by decide +kernel
theorem dX9_drawn_22 : decode cX9_drawn 22 = .ok (.iload_n 3, 1) := by decide +kernel
theorem dX9_drawn_23 : decode cX9_drawn 23 = .ok (.iconst (-1), 1) := by decide +kernel
theorem dX9_drawn_24 : decode cX9_drawn 24 = .ok (.if_icmp .eq 13, 3) := by decide +kernel
theorem dX9_drawn_27 : decode cX9_drawn 27 = .ok (.aload_n 0, 1) := by decide +kernel
theorem dX9_drawn_28 : decode cX9_drawn 28 = .ok (.iload_n 3, 1) := by decide +kernel
theorem dX9_drawn_29 : decode cX9_drawn 29 = .ok (.invokevirtual 171, 3) := by decide +kernel
theorem dX9_drawn_32 : decode cX9_drawn 32 = .ok (.ifCond .ne 5, 3) := by decide +kernel
theorem dX9_drawn_35 : decode cX9_drawn 35 = .ok (.iconst (-1), 1) := by decide +kernel
theorem dX9_drawn_36 : decode cX9_drawn 36 = .ok (.ireturn, 1) := by decide +kernel
theorem dX9_drawn_37 : decode cX9_drawn 37 = .ok (.aload_n 0, 1) := by decide +kernel
theorem dX9_drawn_38 : decode cX9_drawn 38 = .ok (.getfield 76, 3) := by decide +kernel
theorem dX9_drawn_41 : decode cX9_drawn 41 = .ok (.getfield 137, 3) := by decide +kernel
theorem dX9_drawn_44 : decode cX9_drawn 44 = .ok (.istore 4, 2) := by decide +kernel
theorem dX9_drawn_46 : decode cX9_drawn 46 = .ok (.iconst 0, 1) := by decide +kernel
theorem dX9_drawn_47 : decode cX9_drawn 47 = .ok (.istore 5, 2) := by decide +kernel
theorem dX9_drawn_49 : decode cX9_drawn 49 = .ok (.iconst 0, 1) := by decide +kernel
theorem dX9_drawn_50 : decode cX9_drawn 50 = .ok (.istore 6, 2) := by decide +kernel
theorem dX9_drawn_52 : decode cX9_drawn 52 = .ok (.iload 6, 2) := by decide +kernel
theorem dX9_drawn_54 : decode cX9_drawn 54 = .ok (.iload_n 2, 1) := by decide +kernel
theorem dX9_drawn_55 : decode cX9_drawn 55 = .ok (.if_icmp .ge 76, 3) := by decide +kernel
theorem dX9_drawn_58 : decode cX9_drawn 58 = .ok (.iload_n 1, 1) := by decide +kernel
theorem dX9_drawn_59 : decode cX9_drawn 59 = .ok (.iload 6, 2) := by decide +kernel
theorem dX9_drawn_61 : decode cX9_drawn 61 = .ok (.invokestatic 265, 3) := by decide +kernel
theorem dX9_drawn_64 : decode cX9_drawn 64 = .ok (.istore 7, 2) := by decide +kernel
theorem dX9_drawn_66 : decode cX9_drawn 66 = .ok (.aload_n 0, 1) := by decide +kernel
theorem dX9_drawn_67 : decode cX9_drawn 67 = .ok (.getfield 29, 3) := by decide +kernel
theorem dX9_drawn_70 : decode cX9_drawn 70 = .ok (.iload 7, 2) := by decide +kernel
theorem dX9_drawn_72 : decode cX9_drawn 72 = .ok (.invokevirtual 268, 3) := by decide +kernel
theorem dX9_drawn_75 : decode cX9_drawn 75 = .ok (.istore 8, 2) := by decide +kernel
theorem dX9_drawn_77 : decode cX9_drawn 77 = .ok (.aload_n 0, 1) := by decide +kernel
theorem dX9_drawn_78 : decode cX9_drawn 78 = .ok (.getfield 29, 3) := by decide +kernel
theorem dX9_drawn_81 : decode cX9_drawn 81 = .ok (.iload 7, 2) := by decide +kernel
theorem dX9_drawn_83 : decode cX9_drawn 83 = .ok (.bipush 8, 2) := by decide +kernel
theorem dX9_drawn_85 : decode cX9_drawn 85 = .ok (.idiv, 1) := by decide +kernel
theorem dX9_drawn_86 : decode cX9_drawn 86 = .ok (.invokevirtual 268, 3) := by decide +kernel
theorem dX9_drawn_89 : decode cX9_drawn 89 = .ok (.istore 9, 2) := by decide +kernel
theorem dX9_drawn_91 : decode cX9_drawn 91 = .ok (.aload_n 0, 1) := by decide +kernel
theorem dX9_drawn_92 : decode cX9_drawn 92 = .ok (.getfield 29, 3) := by decide +kernel
theorem dX9_drawn_95 : decode cX9_drawn 95 = .ok (.iload 4, 2) := by decide +kernel
theorem dX9_drawn_97 : decode cX9_drawn 97 = .ok (.iload 8, 2) := by decide +kernel
theorem dX9_drawn_99 : decode cX9_drawn 99 = .ok (.iload 9, 2) := by decide +kernel
theorem dX9_drawn_101 : decode cX9_drawn 101 = .ok (.invokevirtual 182, 3) := by decide +kernel
theorem dX9_drawn_104 : decode cX9_drawn 104 = .ok (.ifCond .eq 21, 3) := by decide +kernel
theorem dX9_drawn_107 : decode cX9_drawn 107 = .ok (.aload_n 0, 1) := by decide +kernel
theorem dX9_drawn_108 : decode cX9_drawn 108 = .ok (.getfield 29, 3) := by decide +kernel
theorem dX9_drawn_111 : decode cX9_drawn 111 = .ok (.iload 4, 2) := by decide +kernel
theorem dX9_drawn_113 : decode cX9_drawn 113 = .ok (.iload 8, 2) := by decide +kernel
theorem dX9_drawn_115 : decode cX9_drawn 115 = .ok (.iload 9, 2) := by decide +kernel
theorem dX9_drawn_117 : decode cX9_drawn 117 = .ok (.invokevirtual 190, 3) := by decide +kernel
theorem dX9_drawn_120 : decode cX9_drawn 120 = .ok (.istore 4, 2) := by decide +kernel
theorem dX9_drawn_122 : decode cX9_drawn 122 = .ok (.iinc 5 1, 3) := by decide +kernel
theorem dX9_drawn_125 : decode cX9_drawn 125 = .ok (.iinc 6 1, 3) := by decide +kernel
theorem dX9_drawn_128 : decode cX9_drawn 128 = .ok (.goto (-76), 3) := by decide +kernel
theorem dX9_drawn_131 : decode cX9_drawn 131 = .ok (.iload_n 3, 1) := by decide +kernel
theorem dX9_drawn_132 : decode cX9_drawn 132 = .ok (.iconst (-1), 1) := by decide +kernel
theorem dX9_drawn_133 : decode cX9_drawn 133 = .ok (.if_icmp .ne 6, 3) := by decide +kernel
theorem dX9_drawn_136 : decode cX9_drawn 136 = .ok (.iload 5, 2) := by decide +kernel
theorem dX9_drawn_138 : decode cX9_drawn 138 = .ok (.ireturn, 1) := by decide +kernel
theorem dX9_drawn_139 : decode cX9_drawn 139 = .ok (.iload 4, 2) := by decide +kernel
theorem dX9_drawn_141 : decode cX9_drawn 141 = .ok (.iload_n 3, 1) := by decide +kernel
theorem dX9_drawn_142 : decode cX9_drawn 142 = .ok (.invokestatic 208, 3) := by decide +kernel
theorem dX9_drawn_145 : decode cX9_drawn 145 = .ok (.istore 6, 2) := by decide +kernel
theorem dX9_drawn_147 : decode cX9_drawn 147 = .ok (.iload 6, 2) := by decide +kernel
theorem dX9_drawn_149 : decode cX9_drawn 149 = .ok (.ifCond .ge 8, 3) := by decide +kernel
theorem dX9_drawn_152 : decode cX9_drawn 152 = .ok (.bipush (-4), 2) := by decide +kernel
theorem dX9_drawn_154 : decode cX9_drawn 154 = .ok (.goto 5, 3) := by decide +kernel
theorem dX9_drawn_157 : decode cX9_drawn 157 = .ok (.iload 6, 2) := by decide +kernel
theorem dX9_drawn_159 : decode cX9_drawn 159 = .ok (.ireturn, 1) := by decide +kernel
theorem dX9_keep_0 : decode cX9_keep 0 = .ok (.aload_n 0, 1) := by decide +kernel
theorem dX9_keep_1 : decode cX9_keep 1 = .ok (.getfield 89, 3) := by decide +kernel
theorem dX9_keep_4 : decode cX9_keep 4 = .ok (.getfield 151, 3) := by decide +kernel
theorem dX9_keep_7 : decode cX9_keep 7 = .ok (.iconst 2, 1) := by decide +kernel
theorem dX9_keep_8 : decode cX9_keep 8 = .ok (.if_icmp .lt 6, 3) := by decide +kernel
theorem dX9_keep_11 : decode cX9_keep 11 = .ok (.bipush (-3), 2) := by decide +kernel
theorem dX9_keep_13 : decode cX9_keep 13 = .ok (.ireturn, 1) := by decide +kernel
theorem dX9_keep_14 : decode cX9_keep 14 = .ok (.aload_n 0, 1) := by decide +kernel
theorem dX9_keep_15 : decode cX9_keep 15 = .ok (.getfield 89, 3) := by decide +kernel
theorem dX9_keep_18 : decode cX9_keep 18 = .ok (.aload_n 0, 1) := by decide +kernel
theorem dX9_keep_19 : decode cX9_keep 19 = .ok (.getfield 76, 3) := by decide +kernel
theorem dX9_keep_22 : decode cX9_keep 22 = .ok (.invokevirtual 186, 3) := by decide +kernel
theorem dX9_keep_25 : decode cX9_keep 25 = .ok (.aload_n 0, 1) := by decide +kernel
theorem dX9_keep_26 : decode cX9_keep 26 = .ok (.getfield 89, 3) := by decide +kernel
theorem dX9_keep_29 : decode cX9_keep 29 = .ok (.getfield 151, 3) := by decide +kernel
theorem dX9_keep_32 : decode cX9_keep 32 = .ok (.ireturn, 1) := by decide +kernel
theorem dX9_back_0 : decode cX9_back 0 = .ok (.aload_n 0, 1) := by decide +kernel
theorem dX9_back_1 : decode cX9_back 1 = .ok (.getfield 89, 3) := by decide +kernel
theorem dX9_back_4 : decode cX9_back 4 = .ok (.getfield 151, 3) := by decide +kernel
theorem dX9_back_7 : decode cX9_back 7 = .ok (.ifCond .ne 6, 3) := by decide +kernel
theorem dX9_back_10 : decode cX9_back 10 = .ok (.bipush (-2), 2) := by decide +kernel
theorem dX9_back_12 : decode cX9_back 12 = .ok (.ireturn, 1) := by decide +kernel
theorem dX9_back_13 : decode cX9_back 13 = .ok (.aload_n 0, 1) := by decide +kernel
theorem dX9_back_14 : decode cX9_back 14 = .ok (.getfield 89, 3) := by decide +kernel
theorem dX9_back_17 : decode cX9_back 17 = .ok (.aload_n 0, 1) := by decide +kernel
theorem dX9_back_18 : decode cX9_back 18 = .ok (.getfield 76, 3) := by decide +kernel
theorem dX9_back_21 : decode cX9_back 21 = .ok (.invokevirtual 193, 3) := by decide +kernel
theorem dX9_back_24 : decode cX9_back 24 = .ok (.aload_n 0, 1) := by decide +kernel
theorem dX9_back_25 : decode cX9_back 25 = .ok (.getfield 85, 3) := by decide +kernel
theorem dX9_back_28 : decode cX9_back 28 = .ok (.iconst 0, 1) := by decide +kernel
theorem dX9_back_29 : decode cX9_back 29 = .ok (.putfield 151, 3) := by decide +kernel
theorem dX9_back_32 : decode cX9_back 32 = .ok (.aload_n 0, 1) := by decide +kernel
theorem dX9_back_33 : decode cX9_back 33 = .ok (.getfield 89, 3) := by decide +kernel
theorem dX9_back_36 : decode cX9_back 36 = .ok (.getfield 151, 3) := by decide +kernel
theorem dX9_back_39 : decode cX9_back 39 = .ok (.ireturn, 1) := by decide +kernel
theorem dX9_count_0 : decode cX9_count 0 = .ok (.iload_n 1, 1) := by decide +kernel
theorem dX9_count_1 : decode cX9_count 1 = .ok (.tableswitch 96 0 6 #[43, 51, 59, 67, 75, 83, 88], 43) := by decide +kernel
theorem dX9_count_44 : decode cX9_count 44 = .ok (.aload_n 0, 1) := by decide +kernel
theorem dX9_count_45 : decode cX9_count 45 = .ok (.getfield 29, 3) := by decide +kernel
theorem dX9_count_48 : decode cX9_count 48 = .ok (.getfield 118, 3) := by decide +kernel
theorem dX9_count_51 : decode cX9_count 51 = .ok (.ireturn, 1) := by decide +kernel
theorem dX9_count_52 : decode cX9_count 52 = .ok (.aload_n 0, 1) := by decide +kernel
theorem dX9_count_53 : decode cX9_count 53 = .ok (.getfield 29, 3) := by decide +kernel
theorem dX9_count_56 : decode cX9_count 56 = .ok (.getfield 271, 3) := by decide +kernel
theorem dX9_count_59 : decode cX9_count 59 = .ok (.ireturn, 1) := by decide +kernel
theorem dX9_count_60 : decode cX9_count 60 = .ok (.aload_n 0, 1) := by decide +kernel
theorem dX9_count_61 : decode cX9_count 61 = .ok (.getfield 76, 3) := by decide +kernel
theorem dX9_count_64 : decode cX9_count 64 = .ok (.getfield 148, 3) := by decide +kernel
theorem dX9_count_67 : decode cX9_count 67 = .ok (.ireturn, 1) := by decide +kernel
theorem dX9_count_68 : decode cX9_count 68 = .ok (.aload_n 0, 1) := by decide +kernel
theorem dX9_count_69 : decode cX9_count 69 = .ok (.getfield 85, 3) := by decide +kernel
theorem dX9_count_72 : decode cX9_count 72 = .ok (.getfield 151, 3) := by decide +kernel
theorem dX9_count_75 : decode cX9_count 75 = .ok (.ireturn, 1) := by decide +kernel
theorem dX9_count_76 : decode cX9_count 76 = .ok (.aload_n 0, 1) := by decide +kernel
theorem dX9_count_77 : decode cX9_count 77 = .ok (.getfield 89, 3) := by decide +kernel
theorem dX9_count_80 : decode cX9_count 80 = .ok (.getfield 151, 3) := by decide +kernel
theorem dX9_count_83 : decode cX9_count 83 = .ok (.ireturn, 1) := by decide +kernel
theorem dX9_count_84 : decode cX9_count 84 = .ok (.aload_n 0, 1) := by decide +kernel
theorem dX9_count_85 : decode cX9_count 85 = .ok (.getfield 104, 3) := by decide +kernel
theorem dX9_count_88 : decode cX9_count 88 = .ok (.ireturn, 1) := by decide +kernel
theorem dX9_count_89 : decode cX9_count 89 = .ok (.aload_n 0, 1) := by decide +kernel
theorem dX9_count_90 : decode cX9_count 90 = .ok (.getfield 29, 3) := by decide +kernel
theorem dX9_count_93 : decode cX9_count 93 = .ok (.getfield 274, 3) := by decide +kernel
theorem dX9_count_96 : decode cX9_count 96 = .ok (.ireturn, 1) := by decide +kernel
theorem dX9_count_97 : decode cX9_count 97 = .ok (.iconst (-1), 1) := by decide +kernel
theorem dX9_count_98 : decode cX9_count 98 = .ok (.ireturn, 1) := by decide +kernel
theorem dX9_lookAhead_0 : decode cX9_lookAhead 0 = .ok (.aload_n 0, 1) := by decide +kernel
theorem dX9_lookAhead_1 : decode cX9_lookAhead 1 = .ok (.getfield 53, 3) := by decide +kernel
theorem dX9_lookAhead_4 : decode cX9_lookAhead 4 = .ok (.aload_n 0, 1) := by decide +kernel
theorem dX9_lookAhead_5 : decode cX9_lookAhead 5 = .ok (.getfield 35, 3) := by decide +kernel
theorem dX9_lookAhead_8 : decode cX9_lookAhead 8 = .ok (.aload_n 0, 1) := by decide +kernel
theorem dX9_lookAhead_9 : decode cX9_lookAhead 9 = .ok (.getfield 76, 3) := by decide +kernel
theorem dX9_lookAhead_12 : decode cX9_lookAhead 12 = .ok (.getfield 137, 3) := by decide +kernel
theorem dX9_lookAhead_15 : decode cX9_lookAhead 15 = .ok (.invokevirtual 211, 3) := by decide +kernel
theorem dX9_lookAhead_18 : decode cX9_lookAhead 18 = .ok (.invokevirtual 277, 3) := by decide +kernel
theorem dX9_lookAhead_21 : decode cX9_lookAhead 21 = .ok (.return_, 1) := by decide +kernel
theorem dX9_isGuest_0 : decode cX9_isGuest 0 = .ok (.iload_n 1, 1) := by decide +kernel
theorem dX9_isGuest_1 : decode cX9_isGuest 1 = .ok (.ifCond .lt 18, 3) := by decide +kernel
theorem dX9_isGuest_4 : decode cX9_isGuest 4 = .ok (.iload_n 1, 1) := by decide +kernel
theorem dX9_isGuest_5 : decode cX9_isGuest 5 = .ok (.aload_n 0, 1) := by decide +kernel
theorem dX9_isGuest_6 : decode cX9_isGuest 6 = .ok (.getfield 29, 3) := by decide +kernel
theorem dX9_isGuest_9 : decode cX9_isGuest 9 = .ok (.getfield 118, 3) := by decide +kernel
theorem dX9_isGuest_12 : decode cX9_isGuest 12 = .ok (.if_icmp .ge 7, 3) := by decide +kernel
theorem dX9_isGuest_15 : decode cX9_isGuest 15 = .ok (.iconst 1, 1) := by decide +kernel
theorem dX9_isGuest_16 : decode cX9_isGuest 16 = .ok (.goto 4, 3) := by decide +kernel
theorem dX9_isGuest_19 : decode cX9_isGuest 19 = .ok (.iconst 0, 1) := by decide +kernel
theorem dX9_isGuest_20 : decode cX9_isGuest 20 = .ok (.ireturn, 1) := by decide +kernel
theorem dX9_isDish_0 : decode cX9_isDish 0 = .ok (.iload_n 1, 1) := by decide +kernel
theorem dX9_isDish_1 : decode cX9_isDish 1 = .ok (.ifCond .lt 18, 3) := by decide +kernel
theorem dX9_isDish_4 : decode cX9_isDish 4 = .ok (.iload_n 1, 1) := by decide +kernel
theorem dX9_isDish_5 : decode cX9_isDish 5 = .ok (.aload_n 0, 1) := by decide +kernel
theorem dX9_isDish_6 : decode cX9_isDish 6 = .ok (.getfield 29, 3) := by decide +kernel
theorem dX9_isDish_9 : decode cX9_isDish 9 = .ok (.getfield 271, 3) := by decide +kernel
theorem dX9_isDish_12 : decode cX9_isDish 12 = .ok (.if_icmp .ge 7, 3) := by decide +kernel
theorem dX9_isDish_15 : decode cX9_isDish 15 = .ok (.iconst 1, 1) := by decide +kernel
theorem dX9_isDish_16 : decode cX9_isDish 16 = .ok (.goto 4, 3) := by decide +kernel
theorem dX9_isDish_19 : decode cX9_isDish 19 = .ok (.iconst 0, 1) := by decide +kernel
theorem dX9_isDish_20 : decode cX9_isDish 20 = .ok (.ireturn, 1) := by decide +kernel
theorem dX9_dishOrNone_0 : decode cX9_dishOrNone 0 = .ok (.aload_n 0, 1) := by decide +kernel
theorem dX9_dishOrNone_1 : decode cX9_dishOrNone 1 = .ok (.getfield 76, 3) := by decide +kernel
theorem dX9_dishOrNone_4 : decode cX9_dishOrNone 4 = .ok (.getfield 137, 3) := by decide +kernel
theorem dX9_dishOrNone_7 : decode cX9_dishOrNone 7 = .ok (.iload_n 1, 1) := by decide +kernel
theorem dX9_dishOrNone_8 : decode cX9_dishOrNone 8 = .ok (.invokestatic 280, 3) := by decide +kernel
theorem dX9_dishOrNone_11 : decode cX9_dishOrNone 11 = .ok (.istore_n 2, 1) := by decide +kernel
theorem dX9_dishOrNone_12 : decode cX9_dishOrNone 12 = .ok (.iload_n 2, 1) := by decide +kernel
theorem dX9_dishOrNone_13 : decode cX9_dishOrNone 13 = .ok (.bipush 7, 2) := by decide +kernel
theorem dX9_dishOrNone_15 : decode cX9_dishOrNone 15 = .ok (.if_icmp .ne 8, 3) := by decide +kernel
theorem dX9_dishOrNone_18 : decode cX9_dishOrNone 18 = .ok (.bipush (-4), 2) := by decide +kernel
theorem dX9_dishOrNone_20 : decode cX9_dishOrNone 20 = .ok (.goto 4, 3) := by decide +kernel
theorem dX9_dishOrNone_23 : decode cX9_dishOrNone 23 = .ok (.iload_n 2, 1) := by decide +kernel
theorem dX9_dishOrNone_24 : decode cX9_dishOrNone 24 = .ok (.ireturn, 1) := by decide +kernel
theorem dX9_drawOf_0 : decode cX9_drawOf 0 = .ok (.ldc2_w 283, 3) := by decide +kernel
theorem dX9_drawOf_3 : decode cX9_drawOf 3 = .ok (.iload_n 0, 1) := by decide +kernel
theorem dX9_drawOf_4 : decode cX9_drawOf 4 = .ok (.i2l, 1) := by decide +kernel
theorem dX9_drawOf_5 : decode cX9_drawOf 5 = .ok (.lmul, 1) := by decide +kernel
theorem dX9_drawOf_6 : decode cX9_drawOf 6 = .ok (.ldc2_w 285, 3) := by decide +kernel
theorem dX9_drawOf_9 : decode cX9_drawOf 9 = .ok (.iload_n 1, 1) := by decide +kernel
theorem dX9_drawOf_10 : decode cX9_drawOf 10 = .ok (.i2l, 1) := by decide +kernel
theorem dX9_drawOf_11 : decode cX9_drawOf 11 = .ok (.lmul, 1) := by decide +kernel
theorem dX9_drawOf_12 : decode cX9_drawOf 12 = .ok (.ladd, 1) := by decide +kernel
theorem dX9_drawOf_13 : decode cX9_drawOf 13 = .ok (.lconst 1, 1) := by decide +kernel
theorem dX9_drawOf_14 : decode cX9_drawOf 14 = .ok (.ladd, 1) := by decide +kernel
theorem dX9_drawOf_15 : decode cX9_drawOf 15 = .ok (.lstore_n 2, 1) := by decide +kernel
theorem dX9_drawOf_16 : decode cX9_drawOf 16 = .ok (.lload_n 2, 1) := by decide +kernel
theorem dX9_drawOf_17 : decode cX9_drawOf 17 = .ok (.lload_n 2, 1) := by decide +kernel
theorem dX9_drawOf_18 : decode cX9_drawOf 18 = .ok (.lmul, 1) := by decide +kernel
theorem dX9_drawOf_19 : decode cX9_drawOf 19 = .ok (.ldc2_w 287, 3) := by decide +kernel
theorem dX9_drawOf_22 : decode cX9_drawOf 22 = .ok (.lrem, 1) := by decide +kernel
theorem dX9_drawOf_23 : decode cX9_drawOf 23 = .ok (.l2i, 1) := by decide +kernel
theorem dX9_drawOf_24 : decode cX9_drawOf 24 = .ok (.ireturn, 1) := by decide +kernel
theorem dX9_at_0 : decode cX9_at 0 = .ok (.iload_n 1, 1) := by decide +kernel
theorem dX9_at_1 : decode cX9_at 1 = .ok (.ifCond .lt 15, 3) := by decide +kernel
theorem dX9_at_4 : decode cX9_at 4 = .ok (.iload_n 1, 1) := by decide +kernel
theorem dX9_at_5 : decode cX9_at 5 = .ok (.aload_n 0, 1) := by decide +kernel
theorem dX9_at_6 : decode cX9_at 6 = .ok (.arraylength, 1) := by decide +kernel
theorem dX9_at_7 : decode cX9_at 7 = .ok (.if_icmp .ge 9, 3) := by decide +kernel
theorem dX9_at_10 : decode cX9_at 10 = .ok (.aload_n 0, 1) := by decide +kernel
theorem dX9_at_11 : decode cX9_at 11 = .ok (.iload_n 1, 1) := by decide +kernel
theorem dX9_at_12 : decode cX9_at 12 = .ok (.iaload, 1) := by decide +kernel
theorem dX9_at_13 : decode cX9_at 13 = .ok (.goto 4, 3) := by decide +kernel
theorem dX9_at_16 : decode cX9_at 16 = .ok (.iconst 0, 1) := by decide +kernel
theorem dX9_at_17 : decode cX9_at 17 = .ok (.ireturn, 1) := by decide +kernel
theorem dX9_put_0 : decode cX9_put 0 = .ok (.iload_n 1, 1) := by decide +kernel
theorem dX9_put_1 : decode cX9_put 1 = .ok (.ifCond .lt 13, 3) := by decide +kernel
theorem dX9_put_4 : decode cX9_put 4 = .ok (.iload_n 1, 1) := by decide +kernel
theorem dX9_put_5 : decode cX9_put 5 = .ok (.aload_n 0, 1) := by decide +kernel
theorem dX9_put_6 : decode cX9_put 6 = .ok (.arraylength, 1) := by decide +kernel
theorem dX9_put_7 : decode cX9_put 7 = .ok (.if_icmp .ge 7, 3) := by decide +kernel
theorem dX9_put_10 : decode cX9_put 10 = .ok (.aload_n 0, 1) := by decide +kernel
theorem dX9_put_11 : decode cX9_put 11 = .ok (.iload_n 1, 1) := by decide +kernel
theorem dX9_put_12 : decode cX9_put 12 = .ok (.iload_n 2, 1) := by decide +kernel
theorem dX9_put_13 : decode cX9_put 13 = .ok (.iastore, 1) := by decide +kernel
theorem dX9_put_14 : decode cX9_put 14 = .ok (.return_, 1) := by decide +kernel
theorem dX9_before_0 : decode cX9_before 0 = .ok (.iload_n 0, 1) := by decide +kernel
theorem dX9_before_1 : decode cX9_before 1 = .ok (.iconst 3, 1) := by decide +kernel
theorem dX9_before_2 : decode cX9_before 2 = .ok (.iload_n 1, 1) := by decide +kernel
theorem dX9_before_3 : decode cX9_before 3 = .ok (.imul, 1) := by decide +kernel
theorem dX9_before_4 : decode cX9_before 4 = .ok (.ishr, 1) := by decide +kernel
theorem dX9_before_5 : decode cX9_before 5 = .ok (.bipush 7, 2) := by decide +kernel
theorem dX9_before_7 : decode cX9_before 7 = .ok (.iand, 1) := by decide +kernel
theorem dX9_before_8 : decode cX9_before 8 = .ok (.ireturn, 1) := by decide +kernel
theorem dX9_placed_0 : decode cX9_placed 0 = .ok (.iconst 3, 1) := by decide +kernel
theorem dX9_placed_1 : decode cX9_placed 1 = .ok (.iload_n 1, 1) := by decide +kernel
theorem dX9_placed_2 : decode cX9_placed 2 = .ok (.imul, 1) := by decide +kernel
theorem dX9_placed_3 : decode cX9_placed 3 = .ok (.istore_n 3, 1) := by decide +kernel
theorem dX9_placed_4 : decode cX9_placed 4 = .ok (.iload_n 0, 1) := by decide +kernel
theorem dX9_placed_5 : decode cX9_placed 5 = .ok (.bipush 7, 2) := by decide +kernel
theorem dX9_placed_7 : decode cX9_placed 7 = .ok (.iload_n 3, 1) := by decide +kernel
theorem dX9_placed_8 : decode cX9_placed 8 = .ok (.ishl, 1) := by decide +kernel
theorem dX9_placed_9 : decode cX9_placed 9 = .ok (.iconst (-1), 1) := by decide +kernel
theorem dX9_placed_10 : decode cX9_placed 10 = .ok (.ixor, 1) := by decide +kernel
theorem dX9_placed_11 : decode cX9_placed 11 = .ok (.iand, 1) := by decide +kernel
theorem dX9_placed_12 : decode cX9_placed 12 = .ok (.iload_n 2, 1) := by decide +kernel
theorem dX9_placed_13 : decode cX9_placed 13 = .ok (.iload_n 3, 1) := by decide +kernel
theorem dX9_placed_14 : decode cX9_placed 14 = .ok (.ishl, 1) := by decide +kernel
theorem dX9_placed_15 : decode cX9_placed 15 = .ok (.ior, 1) := by decide +kernel
theorem dX9_placed_16 : decode cX9_placed 16 = .ok (.ireturn, 1) := by decide +kernel
theorem dX9_changed_0 : decode cX9_changed 0 = .ok (.iload_n 0, 1) := by decide +kernel
theorem dX9_changed_1 : decode cX9_changed 1 = .ok (.iconst 3, 1) := by decide +kernel
theorem dX9_changed_2 : decode cX9_changed 2 = .ok (.iload_n 1, 1) := by decide +kernel
theorem dX9_changed_3 : decode cX9_changed 3 = .ok (.imul, 1) := by decide +kernel
theorem dX9_changed_4 : decode cX9_changed 4 = .ok (.ishr, 1) := by decide +kernel
theorem dX9_changed_5 : decode cX9_changed 5 = .ok (.iload_n 0, 1) := by decide +kernel
theorem dX9_changed_6 : decode cX9_changed 6 = .ok (.iconst 3, 1) := by decide +kernel
theorem dX9_changed_7 : decode cX9_changed 7 = .ok (.iload_n 2, 1) := by decide +kernel
theorem dX9_changed_8 : decode cX9_changed 8 = .ok (.imul, 1) := by decide +kernel
theorem dX9_changed_9 : decode cX9_changed 9 = .ok (.ishr, 1) := by decide +kernel
theorem dX9_changed_10 : decode cX9_changed 10 = .ok (.ixor, 1) := by decide +kernel
theorem dX9_changed_11 : decode cX9_changed 11 = .ok (.bipush 7, 2) := by decide +kernel
theorem dX9_changed_13 : decode cX9_changed 13 = .ok (.iand, 1) := by decide +kernel
theorem dX9_changed_14 : decode cX9_changed 14 = .ok (.istore_n 3, 1) := by decide +kernel
theorem dX9_changed_15 : decode cX9_changed 15 = .ok (.iload_n 0, 1) := by decide +kernel
theorem dX9_changed_16 : decode cX9_changed 16 = .ok (.iload_n 3, 1) := by decide +kernel
theorem dX9_changed_17 : decode cX9_changed 17 = .ok (.iconst 3, 1) := by decide +kernel
theorem dX9_changed_18 : decode cX9_changed 18 = .ok (.iload_n 1, 1) := by decide +kernel
theorem dX9_changed_19 : decode cX9_changed 19 = .ok (.imul, 1) := by decide +kernel
theorem dX9_changed_20 : decode cX9_changed 20 = .ok (.ishl, 1) := by decide +kernel
theorem dX9_changed_21 : decode cX9_changed 21 = .ok (.ixor, 1) := by decide +kernel
theorem dX9_changed_22 : decode cX9_changed 22 = .ok (.iload_n 3, 1) := by decide +kernel
theorem dX9_changed_23 : decode cX9_changed 23 = .ok (.iconst 3, 1) := by decide +kernel
theorem dX9_changed_24 : decode cX9_changed 24 = .ok (.iload_n 2, 1) := by decide +kernel
theorem dX9_changed_25 : decode cX9_changed 25 = .ok (.imul, 1) := by decide +kernel
theorem dX9_changed_26 : decode cX9_changed 26 = .ok (.ishl, 1) := by decide +kernel
theorem dX9_changed_27 : decode cX9_changed 27 = .ok (.ixor, 1) := by decide +kernel
theorem dX9_changed_28 : decode cX9_changed 28 = .ok (.ireturn, 1) := by decide +kernel
theorem dX9_seatOf_0 : decode cX9_seatOf 0 = .ok (.iconst 0, 1) := by decide +kernel
theorem dX9_seatOf_1 : decode cX9_seatOf 1 = .ok (.istore_n 2, 1) := by decide +kernel
theorem dX9_seatOf_2 : decode cX9_seatOf 2 = .ok (.iload_n 2, 1) := by decide +kernel
theorem dX9_seatOf_3 : decode cX9_seatOf 3 = .ok (.bipush 6, 2) := by decide +kernel
theorem dX9_seatOf_5 : decode cX9_seatOf 5 = .ok (.if_icmp .ge 20, 3) := by decide +kernel
theorem dX9_seatOf_8 : decode cX9_seatOf 8 = .ok (.iload_n 0, 1) := by decide +kernel
theorem dX9_seatOf_9 : decode cX9_seatOf 9 = .ok (.iload_n 2, 1) := by decide +kernel
theorem dX9_seatOf_10 : decode cX9_seatOf 10 = .ok (.invokestatic 280, 3) := by decide +kernel
theorem dX9_seatOf_13 : decode cX9_seatOf 13 = .ok (.iload_n 1, 1) := by decide +kernel
theorem dX9_seatOf_14 : decode cX9_seatOf 14 = .ok (.if_icmp .ne 5, 3) := by decide +kernel
theorem dX9_seatOf_17 : decode cX9_seatOf 17 = .ok (.iload_n 2, 1) := by decide +kernel
theorem dX9_seatOf_18 : decode cX9_seatOf 18 = .ok (.ireturn, 1) := by decide +kernel
theorem dX9_seatOf_19 : decode cX9_seatOf 19 = .ok (.iinc 2 1, 3) := by decide +kernel
theorem dX9_seatOf_22 : decode cX9_seatOf 22 = .ok (.goto (-20), 3) := by decide +kernel
theorem dX9_seatOf_25 : decode cX9_seatOf 25 = .ok (.iconst (-1), 1) := by decide +kernel
theorem dX9_seatOf_26 : decode cX9_seatOf 26 = .ok (.ireturn, 1) := by decide +kernel
theorem dX9_pairsOf_0 : decode cX9_pairsOf 0 = .ok (.lconst 0, 1) := by decide +kernel
theorem dX9_pairsOf_1 : decode cX9_pairsOf 1 = .ok (.lstore_n 1, 1) := by decide +kernel
theorem dX9_pairsOf_2 : decode cX9_pairsOf 2 = .ok (.iconst 0, 1) := by decide +kernel
theorem dX9_pairsOf_3 : decode cX9_pairsOf 3 = .ok (.istore_n 3, 1) := by decide +kernel
theorem dX9_pairsOf_4 : decode cX9_pairsOf 4 = .ok (.iload_n 3, 1) := by decide +kernel
theorem dX9_pairsOf_5 : decode cX9_pairsOf 5 = .ok (.bipush 6, 2) := by decide +kernel
theorem dX9_pairsOf_7 : decode cX9_pairsOf 7 = .ok (.if_icmp .ge 34, 3) := by decide +kernel
theorem dX9_pairsOf_10 : decode cX9_pairsOf 10 = .ok (.iload_n 0, 1) := by decide +kernel
theorem dX9_pairsOf_11 : decode cX9_pairsOf 11 = .ok (.iload_n 3, 1) := by decide +kernel
theorem dX9_pairsOf_12 : decode cX9_pairsOf 12 = .ok (.invokestatic 280, 3) := by decide +kernel
theorem dX9_pairsOf_15 : decode cX9_pairsOf 15 = .ok (.istore 4, 2) := by decide +kernel
theorem dX9_pairsOf_17 : decode cX9_pairsOf 17 = .ok (.iload 4, 2) := by decide +kernel
theorem dX9_pairsOf_19 : decode cX9_pairsOf 19 = .ok (.bipush 7, 2) := by decide +kernel
theorem dX9_pairsOf_21 : decode cX9_pairsOf 21 = .ok (.if_icmp .eq 14, 3) := by decide +kernel
theorem dX9_pairsOf_24 : decode cX9_pairsOf 24 = .ok (.lload_n 1, 1) := by decide +kernel
theorem dX9_pairsOf_25 : decode cX9_pairsOf 25 = .ok (.iconst 1, 1) := by decide +kernel
theorem dX9_pairsOf_26 : decode cX9_pairsOf 26 = .ok (.iload 4, 2) := by decide +kernel
theorem dX9_pairsOf_28 : decode cX9_pairsOf 28 = .ok (.ishl, 1) := by decide +kernel
theorem dX9_pairsOf_29 : decode cX9_pairsOf 29 = .ok (.iload_n 3, 1) := by decide +kernel
theorem dX9_pairsOf_30 : decode cX9_pairsOf 30 = .ok (.invokestatic 220, 3) := by decide +kernel
theorem dX9_pairsOf_33 : decode cX9_pairsOf 33 = .ok (.lor, 1) := by decide +kernel
theorem dX9_pairsOf_34 : decode cX9_pairsOf 34 = .ok (.lstore_n 1, 1) := by decide +kernel
theorem dX9_pairsOf_35 : decode cX9_pairsOf 35 = .ok (.iinc 3 1, 3) := by decide +kernel
theorem dX9_pairsOf_38 : decode cX9_pairsOf 38 = .ok (.goto (-34), 3) := by decide +kernel
theorem dX9_pairsOf_41 : decode cX9_pairsOf 41 = .ok (.lload_n 1, 1) := by decide +kernel
theorem dX9_pairsOf_42 : decode cX9_pairsOf 42 = .ok (.lreturn, 1) := by decide +kernel
theorem dX9_shifted_0 : decode cX9_shifted 0 = .ok (.iload_n 0, 1) := by decide +kernel
theorem dX9_shifted_1 : decode cX9_shifted 1 = .ok (.i2l, 1) := by decide +kernel
theorem dX9_shifted_2 : decode cX9_shifted 2 = .ok (.bipush 6, 2) := by decide +kernel
theorem dX9_shifted_4 : decode cX9_shifted 4 = .ok (.iload_n 1, 1) := by decide +kernel
theorem dX9_shifted_5 : decode cX9_shifted 5 = .ok (.imul, 1) := by decide +kernel
theorem dX9_shifted_6 : decode cX9_shifted 6 = .ok (.lshl, 1) := by decide +kernel
theorem dX9_shifted_7 : decode cX9_shifted 7 = .ok (.lreturn, 1) := by decide +kernel
theorem dX9_bitsOf_0 : decode cX9_bitsOf 0 = .ok (.lload_n 0, 1) := by decide +kernel
theorem dX9_bitsOf_1 : decode cX9_bitsOf 1 = .ok (.bipush 6, 2) := by decide +kernel
theorem dX9_bitsOf_3 : decode cX9_bitsOf 3 = .ok (.iload_n 2, 1) := by decide +kernel
theorem dX9_bitsOf_4 : decode cX9_bitsOf 4 = .ok (.imul, 1) := by decide +kernel
theorem dX9_bitsOf_5 : decode cX9_bitsOf 5 = .ok (.lshr, 1) := by decide +kernel
theorem dX9_bitsOf_6 : decode cX9_bitsOf 6 = .ok (.l2i, 1) := by decide +kernel
theorem dX9_bitsOf_7 : decode cX9_bitsOf 7 = .ok (.bipush 63, 2) := by decide +kernel
theorem dX9_bitsOf_9 : decode cX9_bitsOf 9 = .ok (.iand, 1) := by decide +kernel
theorem dX9_bitsOf_10 : decode cX9_bitsOf 10 = .ok (.ireturn, 1) := by decide +kernel
theorem dX10_init_0 : decode cX10_init 0 = .ok (.aload_n 0, 1) := by decide +kernel
theorem dX10_init_1 : decode cX10_init 1 = .ok (.invokespecial 1, 3) := by decide +kernel
theorem dX10_init_4 : decode cX10_init 4 = .ok (.aload_n 0, 1) := by decide +kernel
theorem dX10_init_5 : decode cX10_init 5 = .ok (.bipush 6, 2) := by decide +kernel
theorem dX10_init_7 : decode cX10_init 7 = .ok (.newarray .int, 2) := by decide +kernel
theorem dX10_init_9 : decode cX10_init 9 = .ok (.putfield 7, 3) := by decide +kernel
theorem dX10_init_12 : decode cX10_init 12 = .ok (.aload_n 0, 1) := by decide +kernel
theorem dX10_init_13 : decode cX10_init 13 = .ok (.bipush 6, 2) := by decide +kernel
theorem dX10_init_15 : decode cX10_init 15 = .ok (.newarray .int, 2) := by decide +kernel
theorem dX10_init_17 : decode cX10_init 17 = .ok (.putfield 13, 3) := by decide +kernel
theorem dX10_init_20 : decode cX10_init 20 = .ok (.aload_n 0, 1) := by decide +kernel
theorem dX10_init_21 : decode cX10_init 21 = .ok (.bipush 36, 2) := by decide +kernel
theorem dX10_init_23 : decode cX10_init 23 = .ok (.newarray .int, 2) := by decide +kernel
theorem dX10_init_25 : decode cX10_init 25 = .ok (.putfield 16, 3) := by decide +kernel
theorem dX10_init_28 : decode cX10_init 28 = .ok (.aload_n 0, 1) := by decide +kernel
theorem dX10_init_29 : decode cX10_init 29 = .ok (.bipush 6, 2) := by decide +kernel
theorem dX10_init_31 : decode cX10_init 31 = .ok (.newarray .int, 2) := by decide +kernel
theorem dX10_init_33 : decode cX10_init 33 = .ok (.putfield 19, 3) := by decide +kernel
theorem dX10_init_36 : decode cX10_init 36 = .ok (.aload_n 0, 1) := by decide +kernel
theorem dX10_init_37 : decode cX10_init 37 = .ok (.bipush 6, 2) := by decide +kernel
theorem dX10_init_39 : decode cX10_init 39 = .ok (.newarray .int, 2) := by decide +kernel
theorem dX10_init_41 : decode cX10_init 41 = .ok (.putfield 22, 3) := by decide +kernel
theorem dX10_init_44 : decode cX10_init 44 = .ok (.aload_n 0, 1) := by decide +kernel
theorem dX10_init_45 : decode cX10_init 45 = .ok (.bipush 6, 2) := by decide +kernel
theorem dX10_init_47 : decode cX10_init 47 = .ok (.newarray .int, 2) := by decide +kernel
theorem dX10_init_49 : decode cX10_init 49 = .ok (.putfield 25, 3) := by decide +kernel
theorem dX10_init_52 : decode cX10_init 52 = .ok (.aload_n 0, 1) := by decide +kernel
theorem dX10_init_53 : decode cX10_init 53 = .ok (.bipush 48, 2) := by decide +kernel
theorem dX10_init_55 : decode cX10_init 55 = .ok (.newarray .int, 2) := by decide +kernel
theorem dX10_init_57 : decode cX10_init 57 = .ok (.putfield 28, 3) := by decide +kernel
theorem dX10_init_60 : decode cX10_init 60 = .ok (.aload_n 0, 1) := by decide +kernel
theorem dX10_init_61 : decode cX10_init 61 = .ok (.bipush 48, 2) := by decide +kernel
theorem dX10_init_63 : decode cX10_init 63 = .ok (.newarray .int, 2) := by decide +kernel
theorem dX10_init_65 : decode cX10_init 65 = .ok (.putfield 31, 3) := by decide +kernel
theorem dX10_init_68 : decode cX10_init 68 = .ok (.aload_n 0, 1) := by decide +kernel
theorem dX10_init_69 : decode cX10_init 69 = .ok (.bipush 8, 2) := by decide +kernel
theorem dX10_init_71 : decode cX10_init 71 = .ok (.newarray .int, 2) := by decide +kernel
theorem dX10_init_73 : decode cX10_init 73 = .ok (.putfield 34, 3) := by decide +kernel
theorem dX10_init_76 : decode cX10_init 76 = .ok (.aload_n 0, 1) := by decide +kernel
theorem dX10_init_77 : decode cX10_init 77 = .ok (.bipush 12, 2) := by decide +kernel
theorem dX10_init_79 : decode cX10_init 79 = .ok (.newarray .int, 2) := by decide +kernel
theorem dX10_init_81 : decode cX10_init 81 = .ok (.putfield 37, 3) := by decide +kernel
theorem dX10_init_84 : decode cX10_init 84 = .ok (.aload_n 0, 1) := by decide +kernel
theorem dX10_init_85 : decode cX10_init 85 = .ok (.bipush 12, 2) := by decide +kernel
theorem dX10_init_87 : decode cX10_init 87 = .ok (.newarray .int, 2) := by decide +kernel
theorem dX10_init_89 : decode cX10_init 89 = .ok (.putfield 40, 3) := by decide +kernel
theorem dX10_init_92 : decode cX10_init 92 = .ok (.aload_n 0, 1) := by decide +kernel
theorem dX10_init_93 : decode cX10_init 93 = .ok (.iconst 2, 1) := by decide +kernel
theorem dX10_init_94 : decode cX10_init 94 = .ok (.newarray .int, 2) := by decide +kernel
theorem dX10_init_96 : decode cX10_init 96 = .ok (.putfield 43, 3) := by decide +kernel
theorem dX10_init_99 : decode cX10_init 99 = .ok (.aload_n 0, 1) := by decide +kernel
theorem dX10_init_100 : decode cX10_init 100 = .ok (.sipush 300, 3) := by decide +kernel
theorem dX10_init_103 : decode cX10_init 103 = .ok (.newarray .int, 2) := by decide +kernel
theorem dX10_init_105 : decode cX10_init 105 = .ok (.putfield 46, 3) := by decide +kernel
theorem dX10_init_108 : decode cX10_init 108 = .ok (.aload_n 0, 1) := by decide +kernel
theorem dX10_init_109 : decode cX10_init 109 = .ok (.bipush 6, 2) := by decide +kernel
theorem dX10_init_111 : decode cX10_init 111 = .ok (.newarray .int, 2) := by decide +kernel
theorem dX10_init_113 : decode cX10_init 113 = .ok (.putfield 49, 3) := by decide +kernel
theorem dX10_init_116 : decode cX10_init 116 = .ok (.aload_n 0, 1) := by decide +kernel
theorem dX10_init_117 : decode cX10_init 117 = .ok (.bipush 6, 2) := by decide +kernel
theorem dX10_init_119 : decode cX10_init 119 = .ok (.newarray .int, 2) := by decide +kernel
theorem dX10_init_121 : decode cX10_init 121 = .ok (.putfield 52, 3) := by decide +kernel
theorem dX10_init_124 : decode cX10_init 124 = .ok (.aload_n 0, 1) := by decide +kernel
theorem dX10_init_125 : decode cX10_init 125 = .ok (.bipush 36, 2) := by decide +kernel
theorem dX10_init_127 : decode cX10_init 127 = .ok (.newarray .int, 2) := by decide +kernel
theorem dX10_init_129 : decode cX10_init 129 = .ok (.putfield 55, 3) := by decide +kernel
theorem dX10_init_132 : decode cX10_init 132 = .ok (.aload_n 0, 1) := by decide +kernel
theorem dX10_init_133 : decode cX10_init 133 = .ok (.bipush 6, 2) := by decide +kernel
theorem dX10_init_135 : decode cX10_init 135 = .ok (.newarray .int, 2) := by decide +kernel
theorem dX10_init_137 : decode cX10_init 137 = .ok (.putfield 58, 3) := by decide +kernel
theorem dX10_init_140 : decode cX10_init 140 = .ok (.aload_n 0, 1) := by decide +kernel
theorem dX10_init_141 : decode cX10_init 141 = .ok (.bipush 6, 2) := by decide +kernel
theorem dX10_init_143 : decode cX10_init 143 = .ok (.newarray .int, 2) := by decide +kernel
theorem dX10_init_145 : decode cX10_init 145 = .ok (.putfield 61, 3) := by decide +kernel
theorem dX10_init_148 : decode cX10_init 148 = .ok (.aload_n 0, 1) := by decide +kernel
theorem dX10_init_149 : decode cX10_init 149 = .ok (.bipush 6, 2) := by decide +kernel
theorem dX10_init_151 : decode cX10_init 151 = .ok (.newarray .int, 2) := by decide +kernel
theorem dX10_init_153 : decode cX10_init 153 = .ok (.putfield 64, 3) := by decide +kernel
theorem dX10_init_156 : decode cX10_init 156 = .ok (.aload_n 0, 1) := by decide +kernel
theorem dX10_init_157 : decode cX10_init 157 = .ok (.bipush 6, 2) := by decide +kernel
theorem dX10_init_159 : decode cX10_init 159 = .ok (.newarray .int, 2) := by decide +kernel
theorem dX10_init_161 : decode cX10_init 161 = .ok (.putfield 67, 3) := by decide +kernel
theorem dX10_init_164 : decode cX10_init 164 = .ok (.aload_n 0, 1) := by decide +kernel
theorem dX10_init_165 : decode cX10_init 165 = .ok (.bipush 36, 2) := by decide +kernel
theorem dX10_init_167 : decode cX10_init 167 = .ok (.newarray .int, 2) := by decide +kernel
theorem dX10_init_169 : decode cX10_init 169 = .ok (.putfield 70, 3) := by decide +kernel
theorem dX10_init_172 : decode cX10_init 172 = .ok (.aload_n 0, 1) := by decide +kernel
theorem dX10_init_173 : decode cX10_init 173 = .ok (.ldc 73, 2) := by decide +kernel
theorem dX10_init_175 : decode cX10_init 175 = .ok (.newarray .int, 2) := by decide +kernel
theorem dX10_init_177 : decode cX10_init 177 = .ok (.putfield 74, 3) := by decide +kernel
theorem dX10_init_180 : decode cX10_init 180 = .ok (.aload_n 0, 1) := by decide +kernel
theorem dX10_init_181 : decode cX10_init 181 = .ok (.sipush 720, 3) := by decide +kernel
theorem dX10_init_184 : decode cX10_init 184 = .ok (.newarray .int, 2) := by decide +kernel
theorem dX10_init_186 : decode cX10_init 186 = .ok (.putfield 77, 3) := by decide +kernel
theorem dX10_init_189 : decode cX10_init 189 = .ok (.aload_n 0, 1) := by decide +kernel
theorem dX10_init_190 : decode cX10_init 190 = .ok (.sipush 720, 3) := by decide +kernel
theorem dX10_init_193 : decode cX10_init 193 = .ok (.newarray .int, 2) := by decide +kernel
theorem dX10_init_195 : decode cX10_init 195 = .ok (.putfield 80, 3) := by decide +kernel
theorem dX10_init_198 : decode cX10_init 198 = .ok (.aload_n 0, 1) := by decide +kernel
theorem dX10_init_199 : decode cX10_init 199 = .ok (.sipush 720, 3) := by decide +kernel
theorem dX10_init_202 : decode cX10_init 202 = .ok (.newarray .int, 2) := by decide +kernel
theorem dX10_init_204 : decode cX10_init 204 = .ok (.putfield 83, 3) := by decide +kernel
theorem dX10_init_207 : decode cX10_init 207 = .ok (.aload_n 0, 1) := by decide +kernel
theorem dX10_init_208 : decode cX10_init 208 = .ok (.bipush 36, 2) := by decide +kernel
theorem dX10_init_210 : decode cX10_init 210 = .ok (.newarray .boolean, 2) := by decide +kernel
theorem dX10_init_212 : decode cX10_init 212 = .ok (.putfield 86, 3) := by decide +kernel
theorem dX10_init_215 : decode cX10_init 215 = .ok (.aload_n 0, 1) := by decide +kernel
theorem dX10_init_216 : decode cX10_init 216 = .ok (.sipush 720, 3) := by decide +kernel
theorem dX10_init_219 : decode cX10_init 219 = .ok (.newarray .boolean, 2) := by decide +kernel
theorem dX10_init_221 : decode cX10_init 221 = .ok (.putfield 90, 3) := by decide +kernel
theorem dX10_init_224 : decode cX10_init 224 = .ok (.aload_n 0, 1) := by decide +kernel
theorem dX10_init_225 : decode cX10_init 225 = .ok (.bipush 64, 2) := by decide +kernel
theorem dX10_init_227 : decode cX10_init 227 = .ok (.newarray .int, 2) := by decide +kernel
theorem dX10_init_229 : decode cX10_init 229 = .ok (.putfield 93, 3) := by decide +kernel
theorem dX10_init_232 : decode cX10_init 232 = .ok (.aload_n 0, 1) := by decide +kernel
theorem dX10_init_233 : decode cX10_init 233 = .ok (.bipush 64, 2) := by decide +kernel
theorem dX10_init_235 : decode cX10_init 235 = .ok (.newarray .int, 2) := by decide +kernel
theorem dX10_init_237 : decode cX10_init 237 = .ok (.putfield 96, 3) := by decide +kernel
theorem dX10_init_240 : decode cX10_init 240 = .ok (.aload_n 0, 1) := by decide +kernel
theorem dX10_init_241 : decode cX10_init 241 = .ok (.sipush 720, 3) := by decide +kernel
theorem dX10_init_244 : decode cX10_init 244 = .ok (.newarray .long, 2) := by decide +kernel
theorem dX10_init_246 : decode cX10_init 246 = .ok (.putfield 99, 3) := by decide +kernel
theorem dX10_init_249 : decode cX10_init 249 = .ok (.aload_n 0, 1) := by decide +kernel
theorem dX10_init_250 : decode cX10_init 250 = .ok (.sipush 720, 3) := by decide +kernel
theorem dX10_init_253 : decode cX10_init 253 = .ok (.newarray .long, 2) := by decide +kernel
theorem dX10_init_255 : decode cX10_init 255 = .ok (.putfield 103, 3) := by decide +kernel
theorem dX10_init_258 : decode cX10_init 258 = .ok (.aload_n 0, 1) := by decide +kernel
theorem dX10_init_259 : decode cX10_init 259 = .ok (.invokevirtual 106, 3) := by decide +kernel
theorem dX10_init_262 : decode cX10_init 262 = .ok (.aload_n 0, 1) := by decide +kernel
theorem dX10_init_263 : decode cX10_init 263 = .ok (.iconst 3, 1) := by decide +kernel
theorem dX10_init_264 : decode cX10_init 264 = .ok (.putfield 109, 3) := by decide +kernel
theorem dX10_init_267 : decode cX10_init 267 = .ok (.iconst 0, 1) := by decide +kernel
theorem dX10_init_268 : decode cX10_init 268 = .ok (.istore_n 1, 1) := by decide +kernel
theorem dX10_init_269 : decode cX10_init 269 = .ok (.iload_n 1, 1) := by decide +kernel
theorem dX10_init_270 : decode cX10_init 270 = .ok (.iconst 3, 1) := by decide +kernel
theorem dX10_init_271 : decode cX10_init 271 = .ok (.if_icmp .ge 55, 3) := by decide +kernel
theorem dX10_init_274 : decode cX10_init 274 = .ok (.aload_n 0, 1) := by decide +kernel
theorem dX10_init_275 : decode cX10_init 275 = .ok (.getfield 58, 3) := by decide +kernel
theorem dX10_init_278 : decode cX10_init 278 = .ok (.iload_n 1, 1) := by decide +kernel
theorem dX10_init_279 : decode cX10_init 279 = .ok (.iload_n 1, 1) := by decide +kernel
theorem dX10_init_280 : decode cX10_init 280 = .ok (.iastore, 1) := by decide +kernel
theorem dX10_init_281 : decode cX10_init 281 = .ok (.aload_n 0, 1) := by decide +kernel
theorem dX10_init_282 : decode cX10_init 282 = .ok (.getfield 52, 3) := by decide +kernel
theorem dX10_init_285 : decode cX10_init 285 = .ok (.iload_n 1, 1) := by decide +kernel
theorem dX10_init_286 : decode cX10_init 286 = .ok (.iconst 1, 1) := by decide +kernel
theorem dX10_init_287 : decode cX10_init 287 = .ok (.iload_n 1, 1) := by decide +kernel
theorem dX10_init_288 : decode cX10_init 288 = .ok (.iconst 1, 1) := by decide +kernel
theorem dX10_init_289 : decode cX10_init 289 = .ok (.iadd, 1) := by decide +kernel
theorem dX10_init_290 : decode cX10_init 290 = .ok (.iconst 3, 1) := by decide +kernel
theorem dX10_init_291 : decode cX10_init 291 = .ok (.irem, 1) := by decide +kernel
theorem dX10_init_292 : decode cX10_init 292 = .ok (.ishl, 1) := by decide +kernel
theorem dX10_init_293 : decode cX10_init 293 = .ok (.iastore, 1) := by decide +kernel
theorem dX10_init_294 : decode cX10_init 294 = .ok (.iconst 0, 1) := by decide +kernel
theorem dX10_init_295 : decode cX10_init 295 = .ok (.istore_n 2, 1) := by decide +kernel
theorem dX10_init_296 : decode cX10_init 296 = .ok (.iload_n 2, 1) := by decide +kernel
theorem dX10_init_297 : decode cX10_init 297 = .ok (.bipush 6, 2) := by decide +kernel
theorem dX10_init_299 : decode cX10_init 299 = .ok (.if_icmp .ge 21, 3) := by decide +kernel
theorem dX10_init_302 : decode cX10_init 302 = .ok (.aload_n 0, 1) := by decide +kernel
theorem dX10_init_303 : decode cX10_init 303 = .ok (.getfield 55, 3) := by decide +kernel
theorem dX10_init_306 : decode cX10_init 306 = .ok (.bipush 6, 2) := by decide +kernel
theorem dX10_init_308 : decode cX10_init 308 = .ok (.iload_n 1, 1) := by decide +kernel
theorem dX10_init_309 : decode cX10_init 309 = .ok (.imul, 1) := by decide +kernel
theorem dX10_init_310 : decode cX10_init 310 = .ok (.iload_n 2, 1) := by decide +kernel
theorem dX10_init_311 : decode cX10_init 311 = .ok (.iadd, 1) := by decide +kernel
theorem dX10_init_312 : decode cX10_init 312 = .ok (.iconst 1, 1) := by decide +kernel
theorem dX10_init_313 : decode cX10_init 313 = .ok (.iastore, 1) := by decide +kernel
theorem dX10_init_314 : decode cX10_init 314 = .ok (.iinc 2 1, 3) := by decide +kernel
theorem dX10_init_317 : decode cX10_init 317 = .ok (.goto (-21), 3) := by decide +kernel
theorem dX10_init_320 : decode cX10_init 320 = .ok (.iinc 1 1, 3) := by decide +kernel
theorem dX10_init_323 : decode cX10_init 323 = .ok (.goto (-54), 3) := by decide +kernel
theorem dX10_init_326 : decode cX10_init 326 = .ok (.aload_n 0, 1) := by decide +kernel
theorem dX10_init_327 : decode cX10_init 327 = .ok (.invokevirtual 113, 3) := by decide +kernel
theorem dX10_init_330 : decode cX10_init 330 = .ok (.return_, 1) := by decide +kernel
theorem dX10_in_0 : decode cX10_in 0 = .ok (.iload_n 0, 1) := by decide +kernel
theorem dX10_in_1 : decode cX10_in 1 = .ok (.iload_n 1, 1) := by decide +kernel
theorem dX10_in_2 : decode cX10_in 2 = .ok (.if_icmp .lt 12, 3) := by decide +kernel
theorem dX10_in_5 : decode cX10_in 5 = .ok (.iload_n 0, 1) := by decide +kernel
theorem dX10_in_6 : decode cX10_in 6 = .ok (.iload_n 2, 1) := by decide +kernel
theorem dX10_in_7 : decode cX10_in 7 = .ok (.if_icmp .gt 7, 3) := by decide +kernel
theorem dX10_in_10 : decode cX10_in 10 = .ok (.iconst 1, 1) := by decide +kernel
theorem dX10_in_11 : decode cX10_in 11 = .ok (.goto 4, 3) := by decide +kernel
theorem dX10_in_14 : decode cX10_in 14 = .ok (.iconst 0, 1) := by decide +kernel
theorem dX10_in_15 : decode cX10_in 15 = .ok (.ireturn, 1) := by decide +kernel
theorem dX10_isGuest_0 : decode cX10_isGuest 0 = .ok (.iload_n 1, 1) := by decide +kernel
theorem dX10_isGuest_1 : decode cX10_isGuest 1 = .ok (.iconst 0, 1) := by decide +kernel
theorem dX10_isGuest_2 : decode cX10_isGuest 2 = .ok (.aload_n 0, 1) := by decide +kernel
theorem dX10_isGuest_3 : decode cX10_isGuest 3 = .ok (.getfield 116, 3) := by decide +kernel
theorem dX10_isGuest_6 : decode cX10_isGuest 6 = .ok (.iconst 1, 1) := by decide +kernel
theorem dX10_isGuest_7 : decode cX10_isGuest 7 = .ok (.isub, 1) := by decide +kernel
theorem dX10_isGuest_8 : decode cX10_isGuest 8 = .ok (.invokestatic 119, 3) := by decide +kernel
theorem dX10_isGuest_11 : decode cX10_isGuest 11 = .ok (.ireturn, 1) := by decide +kernel
theorem dX10_isDish_0 : decode cX10_isDish 0 = .ok (.iload_n 1, 1) := by decide +kernel
theorem dX10_isDish_1 : decode cX10_isDish 1 = .ok (.iconst 0, 1) := by decide +kernel
theorem dX10_isDish_2 : decode cX10_isDish 2 = .ok (.aload_n 0, 1) := by decide +kernel
theorem dX10_isDish_3 : decode cX10_isDish 3 = .ok (.getfield 123, 3) := by decide +kernel
theorem dX10_isDish_6 : decode cX10_isDish 6 = .ok (.iconst 1, 1) := by decide +kernel
theorem dX10_isDish_7 : decode cX10_isDish 7 = .ok (.isub, 1) := by decide +kernel
theorem dX10_isDish_8 : decode cX10_isDish 8 = .ok (.invokestatic 119, 3) := by decide +kernel
theorem dX10_isDish_11 : decode cX10_isDish 11 = .ok (.ireturn, 1) := by decide +kernel
theorem dX10_write_0 : decode cX10_write 0 = .ok (.iload_n 1, 1) := by decide +kernel
theorem dX10_write_1 : decode cX10_write 1 = .ok (.iconst 1, 1) := by decide +kernel
theorem dX10_write_2 : decode cX10_write 2 = .ok (.bipush 8, 2) := by decide +kernel
theorem dX10_write_4 : decode cX10_write 4 = .ok (.invokestatic 119, 3) := by decide +kernel
theorem dX10_write_7 : decode cX10_write 7 = .ok (.ifCond .ne 5, 3) := by decide +kernel
theorem dX10_write_10 : decode cX10_write 10 = .ok (.iconst (-1), 1) := by decide +kernel
theorem dX10_write_11 : decode cX10_write 11 = .ok (.ireturn, 1) := by decide +kernel
theorem dX10_write_12 : decode cX10_write 12 = .ok (.aload_n 0, 1) := by decide +kernel
theorem dX10_write_13 : decode cX10_write 13 = .ok (.getfield 126, 3) := by decide +kernel
theorem dX10_write_16 : decode cX10_write 16 = .ok (.iload_n 1, 1) := by decide +kernel
theorem dX10_write_17 : decode cX10_write 17 = .ok (.iadd, 1) := by decide +kernel
theorem dX10_write_18 : decode cX10_write 18 = .ok (.sipush 300, 3) := by decide +kernel
theorem dX10_write_21 : decode cX10_write 21 = .ok (.if_icmp .le 6, 3) := by decide +kernel
theorem dX10_write_24 : decode cX10_write 24 = .ok (.bipush (-3), 2) := by decide +kernel
theorem dX10_write_26 : decode cX10_write 26 = .ok (.ireturn, 1) := by decide +kernel
theorem dX10_write_27 : decode cX10_write 27 = .ok (.iload_n 1, 1) := by decide +kernel
theorem dX10_write_28 : decode cX10_write 28 = .ok (.iconst 1, 1) := by decide +kernel
theorem dX10_write_29 : decode cX10_write 29 = .ok (.isub, 1) := by decide +kernel
theorem dX10_write_30 : decode cX10_write 30 = .ok (.istore 4, 2) := by decide +kernel
theorem dX10_write_32 : decode cX10_write 32 = .ok (.iload 4, 2) := by decide +kernel
theorem dX10_write_34 : decode cX10_write 34 = .ok (.ifCond .lt 40, 3) := by decide +kernel
theorem dX10_write_37 : decode cX10_write 37 = .ok (.aload_n 0, 1) := by decide +kernel
theorem dX10_write_38 : decode cX10_write 38 = .ok (.getfield 46, 3) := by decide +kernel
theorem dX10_write_41 : decode cX10_write 41 = .ok (.aload_n 0, 1) := by decide +kernel
theorem dX10_write_42 : decode cX10_write 42 = .ok (.getfield 126, 3) := by decide +kernel
theorem dX10_write_45 : decode cX10_write 45 = .ok (.lload_n 2, 1) := by decide +kernel
theorem dX10_write_46 : decode cX10_write 46 = .ok (.bipush 8, 2) := by decide +kernel
theorem dX10_write_48 : decode cX10_write 48 = .ok (.iload 4, 2) := by decide +kernel
theorem dX10_write_50 : decode cX10_write 50 = .ok (.imul, 1) := by decide +kernel
theorem dX10_write_51 : decode cX10_write 51 = .ok (.lshr, 1) := by decide +kernel
theorem dX10_write_52 : decode cX10_write 52 = .ok (.ldc2_w 129, 3) := by decide +kernel
theorem dX10_write_55 : decode cX10_write 55 = .ok (.land, 1) := by decide +kernel
theorem dX10_write_56 : decode cX10_write 56 = .ok (.l2i, 1) := by decide +kernel
theorem dX10_write_57 : decode cX10_write 57 = .ok (.iastore, 1) := by decide +kernel
theorem dX10_write_58 : decode cX10_write 58 = .ok (.aload_n 0, 1) := by decide +kernel
theorem dX10_write_59 : decode cX10_write 59 = .ok (.dup, 1) := by decide +kernel
theorem dX10_write_60 : decode cX10_write 60 = .ok (.getfield 126, 3) := by decide +kernel
theorem dX10_write_63 : decode cX10_write 63 = .ok (.iconst 1, 1) := by decide +kernel
theorem dX10_write_64 : decode cX10_write 64 = .ok (.iadd, 1) := by decide +kernel
theorem dX10_write_65 : decode cX10_write 65 = .ok (.putfield 126, 3) := by decide +kernel
theorem dX10_write_68 : decode cX10_write 68 = .ok (.iinc 4 (-1), 3) := by decide +kernel
theorem dX10_write_71 : decode cX10_write 71 = .ok (.goto (-39), 3) := by decide +kernel
theorem dX10_write_74 : decode cX10_write 74 = .ok (.aload_n 0, 1) := by decide +kernel
theorem dX10_write_75 : decode cX10_write 75 = .ok (.getfield 126, 3) := by decide +kernel
theorem dX10_write_78 : decode cX10_write 78 = .ok (.ireturn, 1) := by decide +kernel
theorem dX10_wipe_0 : decode cX10_wipe 0 = .ok (.aload_n 0, 1) := by decide +kernel
theorem dX10_wipe_1 : decode cX10_wipe 1 = .ok (.getfield 126, 3) := by decide +kernel
theorem dX10_wipe_4 : decode cX10_wipe 4 = .ok (.istore_n 1, 1) := by decide +kernel
theorem dX10_wipe_5 : decode cX10_wipe 5 = .ok (.aload_n 0, 1) := by decide +kernel
theorem dX10_wipe_6 : decode cX10_wipe 6 = .ok (.iconst 0, 1) := by decide +kernel
theorem dX10_wipe_7 : decode cX10_wipe 7 = .ok (.putfield 126, 3) := by decide +kernel
theorem dX10_wipe_10 : decode cX10_wipe 10 = .ok (.iload_n 1, 1) := by decide +kernel
theorem dX10_wipe_11 : decode cX10_wipe 11 = .ok (.ireturn, 1) := by decide +kernel
theorem dX10_begins_0 : decode cX10_begins 0 = .ok (.aload_n 0, 1) := by decide +kernel
theorem dX10_begins_1 : decode cX10_begins 1 = .ok (.iconst 0, 1) := by decide +kernel
theorem dX10_begins_2 : decode cX10_begins 2 = .ok (.putfield 131, 3) := by decide +kernel
theorem dX10_begins_5 : decode cX10_begins 5 = .ok (.aload_n 0, 1) := by decide +kernel
theorem dX10_begins_6 : decode cX10_begins 6 = .ok (.iconst 0, 1) := by decide +kernel
theorem dX10_begins_7 : decode cX10_begins 7 = .ok (.putfield 109, 3) := by decide +kernel
theorem dX10_begins_10 : decode cX10_begins 10 = .ok (.aload_n 0, 1) := by decide +kernel
theorem dX10_begins_11 : decode cX10_begins 11 = .ok (.iconst 3, 1) := by decide +kernel
theorem dX10_begins_12 : decode cX10_begins 12 = .ok (.putfield 134, 3) := by decide +kernel
theorem dX10_begins_15 : decode cX10_begins 15 = .ok (.aload_n 0, 1) := by decide +kernel
theorem dX10_begins_16 : decode cX10_begins 16 = .ok (.iconst 0, 1) := by decide +kernel
theorem dX10_begins_17 : decode cX10_begins 17 = .ok (.putfield 137, 3) := by decide +kernel
theorem dX10_begins_20 : decode cX10_begins 20 = .ok (.aload_n 0, 1) := by decide +kernel
theorem dX10_begins_21 : decode cX10_begins 21 = .ok (.bipush 9, 2) := by decide +kernel
theorem dX10_begins_23 : decode cX10_begins 23 = .ok (.putfield 140, 3) := by decide +kernel
theorem dX10_begins_26 : decode cX10_begins 26 = .ok (.aload_n 0, 1) := by decide +kernel
theorem dX10_begins_27 : decode cX10_begins 27 = .ok (.iconst 1, 1) := by decide +kernel
theorem dX10_begins_28 : decode cX10_begins 28 = .ok (.putfield 143, 3) := by decide +kernel
theorem dX10_begins_31 : decode cX10_begins 31 = .ok (.return_, 1) := by decide +kernel
theorem dX10_here_0 : decode cX10_here 0 = .ok (.aload_n 0, 1) := by decide +kernel
theorem dX10_here_1 : decode cX10_here 1 = .ok (.getfield 131, 3) := by decide +kernel
theorem dX10_here_4 : decode cX10_here 4 = .ok (.aload_n 0, 1) := by decide +kernel
theorem dX10_here_5 : decode cX10_here 5 = .ok (.getfield 126, 3) := by decide +kernel
theorem dX10_here_8 : decode cX10_here 8 = .ok (.if_icmp .ge 15, 3) := by decide +kernel
theorem dX10_here_11 : decode cX10_here 11 = .ok (.aload_n 0, 1) := by decide +kernel
theorem dX10_here_12 : decode cX10_here 12 = .ok (.getfield 46, 3) := by decide +kernel
theorem dX10_here_15 : decode cX10_here 15 = .ok (.aload_n 0, 1) := by decide +kernel
theorem dX10_here_16 : decode cX10_here 16 = .ok (.getfield 131, 3) := by decide +kernel
theorem dX10_here_19 : decode cX10_here 19 = .ok (.iaload, 1) := by decide +kernel
theorem dX10_here_20 : decode cX10_here 20 = .ok (.goto 4, 3) := by decide +kernel
theorem dX10_here_23 : decode cX10_here 23 = .ok (.iconst (-1), 1) := by decide +kernel
theorem dX10_here_24 : decode cX10_here 24 = .ok (.ireturn, 1) := by decide +kernel
theorem dX10_number_0 : decode cX10_number 0 = .ok (.iconst (-1), 1) := by decide +kernel
theorem dX10_number_1 : decode cX10_number 1 = .ok (.istore_n 1, 1) := by decide +kernel
theorem dX10_number_2 : decode cX10_number 2 = .ok (.iconst 0, 1) := by decide +kernel
theorem dX10_number_3 : decode cX10_number 3 = .ok (.istore_n 2, 1) := by decide +kernel
theorem dX10_number_4 : decode cX10_number 4 = .ok (.iload_n 2, 1) := by decide +kernel
theorem dX10_number_5 : decode cX10_number 5 = .ok (.iconst 2, 1) := by decide +kernel
theorem dX10_number_6 : decode cX10_number 6 = .ok (.if_icmp .ge 54, 3) := by decide +kernel
theorem dX10_number_9 : decode cX10_number 9 = .ok (.aload_n 0, 1) := by decide +kernel
theorem dX10_number_10 : decode cX10_number 10 = .ok (.invokevirtual 146, 3) := by decide +kernel
theorem dX10_number_13 : decode cX10_number 13 = .ok (.bipush 48, 2) := by decide +kernel
theorem dX10_number_15 : decode cX10_number 15 = .ok (.bipush 57, 2) := by decide +kernel
theorem dX10_number_17 : decode cX10_number 17 = .ok (.invokestatic 119, 3) := by decide +kernel
theorem dX10_number_20 : decode cX10_number 20 = .ok (.ifCond .eq 40, 3) := by decide +kernel
theorem dX10_number_23 : decode cX10_number 23 = .ok (.iload_n 2, 1) := by decide +kernel
theorem dX10_number_24 : decode cX10_number 24 = .ok (.ifCond .ne 7, 3) := by decide +kernel
theorem dX10_number_27 : decode cX10_number 27 = .ok (.iconst 0, 1) := by decide +kernel
theorem dX10_number_28 : decode cX10_number 28 = .ok (.goto 7, 3) := by decide +kernel
theorem dX10_number_31 : decode cX10_number 31 = .ok (.bipush 10, 2) := by decide +kernel
theorem dX10_number_33 : decode cX10_number 33 = .ok (.iload_n 1, 1) := by decide +kernel
theorem dX10_number_34 : decode cX10_number 34 = .ok (.imul, 1) := by decide +kernel
theorem dX10_number_35 : decode cX10_number 35 = .ok (.aload_n 0, 1) := by decide +kernel
theorem dX10_number_36 : decode cX10_number 36 = .ok (.invokevirtual 146, 3) := by decide +kernel
theorem dX10_number_39 : decode cX10_number 39 = .ok (.iadd, 1) := by decide +kernel
theorem dX10_number_40 : decode cX10_number 40 = .ok (.bipush 48, 2) := by decide +kernel
theorem dX10_number_42 : decode cX10_number 42 = .ok (.isub, 1) := by decide +kernel
theorem dX10_number_43 : decode cX10_number 43 = .ok (.istore_n 1, 1) := by decide +kernel
theorem dX10_number_44 : decode cX10_number 44 = .ok (.aload_n 0, 1) := by decide +kernel
theorem dX10_number_45 : decode cX10_number 45 = .ok (.dup, 1) := by decide +kernel
theorem dX10_number_46 : decode cX10_number 46 = .ok (.getfield 131, 3) := by decide +kernel
theorem dX10_number_49 : decode cX10_number 49 = .ok (.iconst 1, 1) := by decide +kernel
theorem dX10_number_50 : decode cX10_number 50 = .ok (.iadd, 1) := by decide +kernel
theorem dX10_number_51 : decode cX10_number 51 = .ok (.putfield 131, 3) := by decide +kernel
theorem dX10_number_54 : decode cX10_number 54 = .ok (.iinc 2 1, 3) := by decide +kernel
theorem dX10_number_57 : decode cX10_number 57 = .ok (.goto (-53), 3) := by decide +kernel
theorem dX10_number_60 : decode cX10_number 60 = .ok (.iload_n 1, 1) := by decide +kernel
theorem dX10_number_61 : decode cX10_number 61 = .ok (.ireturn, 1) := by decide +kernel
theorem dX10_isSign_0 : decode cX10_isSign 0 = .ok (.aload_n 0, 1) := by decide +kernel
theorem dX10_isSign_1 : decode cX10_isSign 1 = .ok (.invokevirtual 146, 3) := by decide +kernel
theorem dX10_isSign_4 : decode cX10_isSign 4 = .ok (.iload_n 1, 1) := by decide +kernel
theorem dX10_isSign_5 : decode cX10_isSign 5 = .ok (.if_icmp .ne 7, 3) := by decide +kernel
theorem dX10_isSign_8 : decode cX10_isSign 8 = .ok (.iconst 1, 1) := by decide +kernel
theorem dX10_isSign_9 : decode cX10_isSign 9 = .ok (.goto 4, 3) := by decide +kernel
theorem dX10_isSign_12 : decode cX10_isSign 12 = .ok (.iconst 0, 1) := by decide +kernel
theorem dX10_isSign_13 : decode cX10_isSign 13 = .ok (.istore_n 2, 1) := by decide +kernel
theorem dX10_isSign_14 : decode cX10_isSign 14 = .ok (.aload_n 0, 1) := by decide +kernel
theorem dX10_isSign_15 : decode cX10_isSign 15 = .ok (.dup, 1) := by decide +kernel
theorem dX10_isSign_16 : decode cX10_isSign 16 = .ok (.getfield 131, 3) := by decide +kernel
theorem dX10_isSign_19 : decode cX10_isSign 19 = .ok (.iload_n 2, 1) := by decide +kernel
theorem dX10_isSign_20 : decode cX10_isSign 20 = .ok (.ifCond .eq 7, 3) := by decide +kernel
theorem dX10_isSign_23 : decode cX10_isSign 23 = .ok (.iconst 1, 1) := by decide +kernel
theorem dX10_isSign_24 : decode cX10_isSign 24 = .ok (.goto 4, 3) := by decide +kernel
theorem dX10_isSign_27 : decode cX10_isSign 27 = .ok (.iconst 0, 1) := by decide +kernel
theorem dX10_isSign_28 : decode cX10_isSign 28 = .ok (.iadd, 1) := by decide +kernel
theorem dX10_isSign_29 : decode cX10_isSign 29 = .ok (.putfield 131, 3) := by decide +kernel
theorem dX10_isSign_32 : decode cX10_isSign 32 = .ok (.iload_n 2, 1) := by decide +kernel
theorem dX10_isSign_33 : decode cX10_isSign 33 = .ok (.ireturn, 1) := by decide +kernel
theorem dX10_isFree_0 : decode cX10_isFree 0 = .ok (.iconst 1, 1) := by decide +kernel
theorem dX10_isFree_1 : decode cX10_isFree 1 = .ok (.istore_n 2, 1) := by decide +kernel
theorem dX10_isFree_2 : decode cX10_isFree 2 = .ok (.iconst 0, 1) := by decide +kernel
theorem dX10_isFree_3 : decode cX10_isFree 3 = .ok (.istore_n 3, 1) := by decide +kernel
theorem dX10_isFree_4 : decode cX10_isFree 4 = .ok (.iload_n 3, 1) := by decide +kernel
theorem dX10_isFree_5 : decode cX10_isFree 5 = .ok (.aload_n 0, 1) := by decide +kernel
theorem dX10_isFree_6 : decode cX10_isFree 6 = .ok (.getfield 109, 3) := by decide +kernel
theorem dX10_isFree_9 : decode cX10_isFree 9 = .ok (.if_icmp .ge 29, 3) := by decide +kernel
theorem dX10_isFree_12 : decode cX10_isFree 12 = .ok (.iload_n 2, 1) := by decide +kernel
theorem dX10_isFree_13 : decode cX10_isFree 13 = .ok (.ifCond .eq 17, 3) := by decide +kernel
theorem dX10_isFree_16 : decode cX10_isFree 16 = .ok (.aload_n 0, 1) := by decide +kernel
theorem dX10_isFree_17 : decode cX10_isFree 17 = .ok (.getfield 58, 3) := by decide +kernel
theorem dX10_isFree_20 : decode cX10_isFree 20 = .ok (.iload_n 3, 1) := by decide +kernel
theorem dX10_isFree_21 : decode cX10_isFree 21 = .ok (.iaload, 1) := by decide +kernel
theorem dX10_isFree_22 : decode cX10_isFree 22 = .ok (.iload_n 1, 1) := by decide +kernel
theorem dX10_isFree_23 : decode cX10_isFree 23 = .ok (.if_icmp .eq 7, 3) := by decide +kernel
theorem dX10_isFree_26 : decode cX10_isFree 26 = .ok (.iconst 1, 1) := by decide +kernel
theorem dX10_isFree_27 : decode cX10_isFree 27 = .ok (.goto 4, 3) := by decide +kernel
theorem dX10_isFree_30 : decode cX10_isFree 30 = .ok (.iconst 0, 1) := by decide +kernel
theorem dX10_isFree_31 : decode cX10_isFree 31 = .ok (.istore_n 2, 1) := by decide +kernel
theorem dX10_isFree_32 : decode cX10_isFree 32 = .ok (.iinc 3 1, 3) := by decide +kernel
theorem dX10_isFree_35 : decode cX10_isFree 35 = .ok (.goto (-31), 3) := by decide +kernel
theorem dX10_isFree_38 : decode cX10_isFree 38 = .ok (.iload_n 2, 1) := by decide +kernel
theorem dX10_isFree_39 : decode cX10_isFree 39 = .ok (.ireturn, 1) := by decide +kernel
theorem dX10_isGuestItem_0 : decode cX10_isGuestItem 0 = .ok (.aload_n 0, 1) := by decide +kernel
theorem dX10_isGuestItem_1 : decode cX10_isGuestItem 1 = .ok (.invokevirtual 150, 3) := by decide +kernel
theorem dX10_isGuestItem_4 : decode cX10_isGuestItem 4 = .ok (.istore_n 1, 1) := by decide +kernel
theorem dX10_isGuestItem_5 : decode cX10_isGuestItem 5 = .ok (.iload_n 1, 1) := by decide +kernel
theorem dX10_isGuestItem_6 : decode cX10_isGuestItem 6 = .ok (.iconst 0, 1) := by decide +kernel
theorem dX10_isGuestItem_7 : decode cX10_isGuestItem 7 = .ok (.iconst 3, 1) := by decide +kernel
theorem dX10_isGuestItem_8 : decode cX10_isGuestItem 8 = .ok (.invokestatic 119, 3) := by decide +kernel
theorem dX10_isGuestItem_11 : decode cX10_isGuestItem 11 = .ok (.ifCond .eq 21, 3) := by decide +kernel
theorem dX10_isGuestItem_14 : decode cX10_isGuestItem 14 = .ok (.aload_n 0, 1) := by decide +kernel
theorem dX10_isGuestItem_15 : decode cX10_isGuestItem 15 = .ok (.getfield 109, 3) := by decide +kernel
theorem dX10_isGuestItem_18 : decode cX10_isGuestItem 18 = .ok (.bipush 6, 2) := by decide +kernel
theorem dX10_isGuestItem_20 : decode cX10_isGuestItem 20 = .ok (.if_icmp .eq 12, 3) := by decide +kernel
theorem dX10_isGuestItem_23 : decode cX10_isGuestItem 23 = .ok (.aload_n 0, 1) := by decide +kernel
theorem dX10_isGuestItem_24 : decode cX10_isGuestItem 24 = .ok (.bipush 44, 2) := by decide +kernel
theorem dX10_isGuestItem_26 : decode cX10_isGuestItem 26 = .ok (.invokevirtual 153, 3) := by decide +kernel
theorem dX10_isGuestItem_29 : decode cX10_isGuestItem 29 = .ok (.ifCond .ne 5, 3) := by decide +kernel
theorem dX10_isGuestItem_32 : decode cX10_isGuestItem 32 = .ok (.iconst 0, 1) := by decide +kernel
theorem dX10_isGuestItem_33 : decode cX10_isGuestItem 33 = .ok (.ireturn, 1) := by decide +kernel
theorem dX10_isGuestItem_34 : decode cX10_isGuestItem 34 = .ok (.aload_n 0, 1) := by decide +kernel
theorem dX10_isGuestItem_35 : decode cX10_isGuestItem 35 = .ok (.invokevirtual 150, 3) := by decide +kernel
theorem dX10_isGuestItem_38 : decode cX10_isGuestItem 38 = .ok (.istore_n 2, 1) := by decide +kernel
theorem dX10_isGuestItem_39 : decode cX10_isGuestItem 39 = .ok (.iload_n 2, 1) := by decide +kernel
theorem dX10_isGuestItem_40 : decode cX10_isGuestItem 40 = .ok (.bipush 9, 2) := by decide +kernel
theorem dX10_isGuestItem_42 : decode cX10_isGuestItem 42 = .ok (.if_icmp .eq 25, 3) := by decide +kernel
theorem dX10_isGuestItem_45 : decode cX10_isGuestItem 45 = .ok (.iload_n 2, 1) := by decide +kernel
theorem dX10_isGuestItem_46 : decode cX10_isGuestItem 46 = .ok (.iconst 0, 1) := by decide +kernel
theorem dX10_isGuestItem_47 : decode cX10_isGuestItem 47 = .ok (.aload_n 0, 1) := by decide +kernel
theorem dX10_isGuestItem_48 : decode cX10_isGuestItem 48 = .ok (.getfield 134, 3) := by decide +kernel
theorem dX10_isGuestItem_51 : decode cX10_isGuestItem 51 = .ok (.iconst 1, 1) := by decide +kernel
theorem dX10_isGuestItem_52 : decode cX10_isGuestItem 52 = .ok (.isub, 1) := by decide +kernel
theorem dX10_isGuestItem_53 : decode cX10_isGuestItem 53 = .ok (.invokestatic 119, 3) := by decide +kernel
theorem dX10_isGuestItem_56 : decode cX10_isGuestItem 56 = .ok (.ifCond .eq 20, 3) := by decide +kernel
theorem dX10_isGuestItem_59 : decode cX10_isGuestItem 59 = .ok (.aload_n 0, 1) := by decide +kernel
theorem dX10_isGuestItem_60 : decode cX10_isGuestItem 60 = .ok (.iload_n 2, 1) := by decide +kernel
theorem dX10_isGuestItem_61 : decode cX10_isGuestItem 61 = .ok (.invokevirtual 157, 3) := by decide +kernel
theorem dX10_isGuestItem_64 : decode cX10_isGuestItem 64 = .ok (.ifCond .eq 12, 3) := by decide +kernel
theorem dX10_isGuestItem_67 : decode cX10_isGuestItem 67 = .ok (.aload_n 0, 1) := by decide +kernel
theorem dX10_isGuestItem_68 : decode cX10_isGuestItem 68 = .ok (.bipush 44, 2) := by decide +kernel
theorem dX10_isGuestItem_70 : decode cX10_isGuestItem 70 = .ok (.invokevirtual 153, 3) := by decide +kernel
theorem dX10_isGuestItem_73 : decode cX10_isGuestItem 73 = .ok (.ifCond .ne 5, 3) := by decide +kernel
theorem dX10_isGuestItem_76 : decode cX10_isGuestItem 76 = .ok (.iconst 0, 1) := by decide +kernel
theorem dX10_isGuestItem_77 : decode cX10_isGuestItem 77 = .ok (.ireturn, 1) := by decide +kernel
theorem dX10_isGuestItem_78 : decode cX10_isGuestItem 78 = .ok (.aload_n 0, 1) := by decide +kernel
theorem dX10_isGuestItem_79 : decode cX10_isGuestItem 79 = .ok (.invokevirtual 150, 3) := by decide +kernel
theorem dX10_isGuestItem_82 : decode cX10_isGuestItem 82 = .ok (.istore_n 3, 1) := by decide +kernel
theorem dX10_isGuestItem_83 : decode cX10_isGuestItem 83 = .ok (.iload_n 3, 1) := by decide +kernel
theorem dX10_isGuestItem_84 : decode cX10_isGuestItem 84 = .ok (.iconst 0, 1) := by decide +kernel
theorem dX10_isGuestItem_85 : decode cX10_isGuestItem 85 = .ok (.iconst 1, 1) := by decide +kernel
theorem dX10_isGuestItem_86 : decode cX10_isGuestItem 86 = .ok (.aload_n 0, 1) := by decide +kernel
theorem dX10_isGuestItem_87 : decode cX10_isGuestItem 87 = .ok (.getfield 134, 3) := by decide +kernel
theorem dX10_isGuestItem_90 : decode cX10_isGuestItem 90 = .ok (.ishl, 1) := by decide +kernel
theorem dX10_isGuestItem_91 : decode cX10_isGuestItem 91 = .ok (.iconst 1, 1) := by decide +kernel
theorem dX10_isGuestItem_92 : decode cX10_isGuestItem 92 = .ok (.isub, 1) := by decide +kernel
theorem dX10_isGuestItem_93 : decode cX10_isGuestItem 93 = .ok (.invokestatic 119, 3) := by decide +kernel
theorem dX10_isGuestItem_96 : decode cX10_isGuestItem 96 = .ok (.ifCond .eq 12, 3) := by decide +kernel
theorem dX10_isGuestItem_99 : decode cX10_isGuestItem 99 = .ok (.aload_n 0, 1) := by decide +kernel
theorem dX10_isGuestItem_100 : decode cX10_isGuestItem 100 = .ok (.bipush 59, 2) := by decide +kernel
theorem dX10_isGuestItem_102 : decode cX10_isGuestItem 102 = .ok (.invokevirtual 153, 3) := by decide +kernel
theorem dX10_isGuestItem_105 : decode cX10_isGuestItem 105 = .ok (.ifCond .ne 5, 3) := by decide +kernel
theorem dX10_isGuestItem_108 : decode cX10_isGuestItem 108 = .ok (.iconst 0, 1) := by decide +kernel
theorem dX10_isGuestItem_109 : decode cX10_isGuestItem 109 = .ok (.ireturn, 1) := by decide +kernel
theorem dX10_isGuestItem_110 : decode cX10_isGuestItem 110 = .ok (.aload_n 0, 1) := by decide +kernel
theorem dX10_isGuestItem_111 : decode cX10_isGuestItem 111 = .ok (.getfield 49, 3) := by decide +kernel
theorem dX10_isGuestItem_114 : decode cX10_isGuestItem 114 = .ok (.aload_n 0, 1) := by decide +kernel
theorem dX10_isGuestItem_115 : decode cX10_isGuestItem 115 = .ok (.getfield 109, 3) := by decide +kernel
theorem dX10_isGuestItem_118 : decode cX10_isGuestItem 118 = .ok (.iload_n 1, 1) := by decide +kernel
theorem dX10_isGuestItem_119 : decode cX10_isGuestItem 119 = .ok (.iastore, 1) := by decide +kernel
theorem dX10_isGuestItem_120 : decode cX10_isGuestItem 120 = .ok (.aload_n 0, 1) := by decide +kernel
theorem dX10_isGuestItem_121 : decode cX10_isGuestItem 121 = .ok (.getfield 58, 3) := by decide +kernel
theorem dX10_isGuestItem_124 : decode cX10_isGuestItem 124 = .ok (.aload_n 0, 1) := by decide +kernel
theorem dX10_isGuestItem_125 : decode cX10_isGuestItem 125 = .ok (.getfield 109, 3) := by decide +kernel
theorem dX10_isGuestItem_128 : decode cX10_isGuestItem 128 = .ok (.iload_n 2, 1) := by decide +kernel
theorem dX10_isGuestItem_129 : decode cX10_isGuestItem 129 = .ok (.bipush 9, 2) := by decide +kernel
theorem dX10_isGuestItem_131 : decode cX10_isGuestItem 131 = .ok (.if_icmp .ne 7, 3) := by decide +kernel
theorem dX10_isGuestItem_134 : decode cX10_isGuestItem 134 = .ok (.iconst (-1), 1) := by decide +kernel
theorem dX10_isGuestItem_135 : decode cX10_isGuestItem 135 = .ok (.goto 4, 3) := by decide +kernel
theorem dX10_isGuestItem_138 : decode cX10_isGuestItem 138 = .ok (.iload_n 2, 1) := by decide +kernel
theorem dX10_isGuestItem_139 : decode cX10_isGuestItem 139 = .ok (.iastore, 1) := by decide +kernel
theorem dX10_isGuestItem_140 : decode cX10_isGuestItem 140 = .ok (.aload_n 0, 1) := by decide +kernel
theorem dX10_isGuestItem_141 : decode cX10_isGuestItem 141 = .ok (.getfield 52, 3) := by decide +kernel
theorem dX10_isGuestItem_144 : decode cX10_isGuestItem 144 = .ok (.aload_n 0, 1) := by decide +kernel
theorem dX10_isGuestItem_145 : decode cX10_isGuestItem 145 = .ok (.getfield 109, 3) := by decide +kernel
theorem dX10_isGuestItem_148 : decode cX10_isGuestItem 148 = .ok (.iload_n 3, 1) := by decide +kernel
theorem dX10_isGuestItem_149 : decode cX10_isGuestItem 149 = .ok (.iastore, 1) := by decide +kernel
theorem dX10_isGuestItem_150 : decode cX10_isGuestItem 150 = .ok (.iconst 0, 1) := by decide +kernel
theorem dX10_isGuestItem_151 : decode cX10_isGuestItem 151 = .ok (.istore 4, 2) := by decide +kernel
theorem dX10_isGuestItem_153 : decode cX10_isGuestItem 153 = .ok (.iload 4, 2) := by decide +kernel
theorem dX10_isGuestItem_155 : decode cX10_isGuestItem 155 = .ok (.bipush 6, 2) := by decide +kernel
