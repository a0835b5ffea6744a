theorem dX10_isGuestItem_157 : decode cX10_isGuestItem 157 = .ok (.if_icmp .ge 25, 3) := by decide +kernel
theorem dX10_isGuestItem_160 : decode cX10_isGuestItem 160 = .ok (.aload_n 0, 1) := by decide +kernel
theorem dX10_isGuestItem_161 : decode cX10_isGuestItem 161 = .ok (.getfield 55, 3) := by decide +kernel
theorem dX10_isGuestItem_164 : decode cX10_isGuestItem 164 = .ok (.bipush 6, 2) := by decide +kernel
theorem dX10_isGuestItem_166 : decode cX10_isGuestItem 166 = .ok (.aload_n 0, 1) := by decide +kernel
theorem dX10_isGuestItem_167 : decode cX10_isGuestItem 167 = .ok (.getfield 109, 3) := by decide +kernel
theorem dX10_isGuestItem_170 : decode cX10_isGuestItem 170 = .ok (.imul, 1) := by decide +kernel
theorem dX10_isGuestItem_171 : decode cX10_isGuestItem 171 = .ok (.iload 4, 2) := by decide +kernel
theorem dX10_isGuestItem_173 : decode cX10_isGuestItem 173 = .ok (.iadd, 1) := by decide +kernel
theorem dX10_isGuestItem_174 : decode cX10_isGuestItem 174 = .ok (.iconst 1, 1) := by decide +kernel
theorem dX10_isGuestItem_175 : decode cX10_isGuestItem 175 = .ok (.iastore, 1) := by decide +kernel
theorem dX10_isGuestItem_176 : decode cX10_isGuestItem 176 = .ok (.iinc 4 1, 3) := by decide +kernel
theorem dX10_isGuestItem_179 : decode cX10_isGuestItem 179 = .ok (.goto (-26), 3) := by decide +kernel
theorem dX10_isGuestItem_182 : decode cX10_isGuestItem 182 = .ok (.aload_n 0, 1) := by decide +kernel
theorem dX10_isGuestItem_183 : decode cX10_isGuestItem 183 = .ok (.dup, 1) := by decide +kernel
theorem dX10_isGuestItem_184 : decode cX10_isGuestItem 184 = .ok (.getfield 109, 3) := by decide +kernel
theorem dX10_isGuestItem_187 : decode cX10_isGuestItem 187 = .ok (.iconst 1, 1) := by decide +kernel
theorem dX10_isGuestItem_188 : decode cX10_isGuestItem 188 = .ok (.iadd, 1) := by decide +kernel
theorem dX10_isGuestItem_189 : decode cX10_isGuestItem 189 = .ok (.putfield 109, 3) := by decide +kernel
theorem dX10_isGuestItem_192 : decode cX10_isGuestItem 192 = .ok (.iconst 1, 1) := by decide +kernel
theorem dX10_isGuestItem_193 : decode cX10_isGuestItem 193 = .ok (.ireturn, 1) := by decide +kernel
theorem dX10_isWorthItem_0 : decode cX10_isWorthItem 0 = .ok (.iconst 0, 1) := by decide +kernel
theorem dX10_isWorthItem_1 : decode cX10_isWorthItem 1 = .ok (.istore_n 1, 1) := by decide +kernel
theorem dX10_isWorthItem_2 : decode cX10_isWorthItem 2 = .ok (.iload_n 1, 1) := by decide +kernel
theorem dX10_isWorthItem_3 : decode cX10_isWorthItem 3 = .ok (.aload_n 0, 1) := by decide +kernel
theorem dX10_isWorthItem_4 : decode cX10_isWorthItem 4 = .ok (.getfield 134, 3) := by decide +kernel
theorem dX10_isWorthItem_7 : decode cX10_isWorthItem 7 = .ok (.if_icmp .ge 65, 3) := by decide +kernel
theorem dX10_isWorthItem_10 : decode cX10_isWorthItem 10 = .ok (.aload_n 0, 1) := by decide +kernel
theorem dX10_isWorthItem_11 : decode cX10_isWorthItem 11 = .ok (.getfield 109, 3) := by decide +kernel
theorem dX10_isWorthItem_14 : decode cX10_isWorthItem 14 = .ok (.ifCond .eq 17, 3) := by decide +kernel
theorem dX10_isWorthItem_17 : decode cX10_isWorthItem 17 = .ok (.aload_n 0, 1) := by decide +kernel
theorem dX10_isWorthItem_18 : decode cX10_isWorthItem 18 = .ok (.invokevirtual 146, 3) := by decide +kernel
theorem dX10_isWorthItem_21 : decode cX10_isWorthItem 21 = .ok (.bipush 48, 2) := by decide +kernel
theorem dX10_isWorthItem_23 : decode cX10_isWorthItem 23 = .ok (.bipush 57, 2) := by decide +kernel
theorem dX10_isWorthItem_25 : decode cX10_isWorthItem 25 = .ok (.invokestatic 119, 3) := by decide +kernel
theorem dX10_isWorthItem_28 : decode cX10_isWorthItem 28 = .ok (.ifCond .ne 5, 3) := by decide +kernel
theorem dX10_isWorthItem_31 : decode cX10_isWorthItem 31 = .ok (.iconst 0, 1) := by decide +kernel
theorem dX10_isWorthItem_32 : decode cX10_isWorthItem 32 = .ok (.ireturn, 1) := by decide +kernel
theorem dX10_isWorthItem_33 : decode cX10_isWorthItem 33 = .ok (.aload_n 0, 1) := by decide +kernel
theorem dX10_isWorthItem_34 : decode cX10_isWorthItem 34 = .ok (.getfield 55, 3) := by decide +kernel
theorem dX10_isWorthItem_37 : decode cX10_isWorthItem 37 = .ok (.bipush 6, 2) := by decide +kernel
theorem dX10_isWorthItem_39 : decode cX10_isWorthItem 39 = .ok (.aload_n 0, 1) := by decide +kernel
theorem dX10_isWorthItem_40 : decode cX10_isWorthItem 40 = .ok (.getfield 109, 3) := by decide +kernel
theorem dX10_isWorthItem_43 : decode cX10_isWorthItem 43 = .ok (.iconst 1, 1) := by decide +kernel
theorem dX10_isWorthItem_44 : decode cX10_isWorthItem 44 = .ok (.isub, 1) := by decide +kernel
theorem dX10_isWorthItem_45 : decode cX10_isWorthItem 45 = .ok (.imul, 1) := by decide +kernel
theorem dX10_isWorthItem_46 : decode cX10_isWorthItem 46 = .ok (.iload_n 1, 1) := by decide +kernel
theorem dX10_isWorthItem_47 : decode cX10_isWorthItem 47 = .ok (.iadd, 1) := by decide +kernel
theorem dX10_isWorthItem_48 : decode cX10_isWorthItem 48 = .ok (.aload_n 0, 1) := by decide +kernel
theorem dX10_isWorthItem_49 : decode cX10_isWorthItem 49 = .ok (.invokevirtual 146, 3) := by decide +kernel
theorem dX10_isWorthItem_52 : decode cX10_isWorthItem 52 = .ok (.bipush 48, 2) := by decide +kernel
theorem dX10_isWorthItem_54 : decode cX10_isWorthItem 54 = .ok (.isub, 1) := by decide +kernel
theorem dX10_isWorthItem_55 : decode cX10_isWorthItem 55 = .ok (.iastore, 1) := by decide +kernel
theorem dX10_isWorthItem_56 : decode cX10_isWorthItem 56 = .ok (.aload_n 0, 1) := by decide +kernel
theorem dX10_isWorthItem_57 : decode cX10_isWorthItem 57 = .ok (.dup, 1) := by decide +kernel
theorem dX10_isWorthItem_58 : decode cX10_isWorthItem 58 = .ok (.getfield 131, 3) := by decide +kernel
theorem dX10_isWorthItem_61 : decode cX10_isWorthItem 61 = .ok (.iconst 1, 1) := by decide +kernel
theorem dX10_isWorthItem_62 : decode cX10_isWorthItem 62 = .ok (.iadd, 1) := by decide +kernel
theorem dX10_isWorthItem_63 : decode cX10_isWorthItem 63 = .ok (.putfield 131, 3) := by decide +kernel
theorem dX10_isWorthItem_66 : decode cX10_isWorthItem 66 = .ok (.iinc 1 1, 3) := by decide +kernel
theorem dX10_isWorthItem_69 : decode cX10_isWorthItem 69 = .ok (.goto (-67), 3) := by decide +kernel
theorem dX10_isWorthItem_72 : decode cX10_isWorthItem 72 = .ok (.aload_n 0, 1) := by decide +kernel
theorem dX10_isWorthItem_73 : decode cX10_isWorthItem 73 = .ok (.bipush 59, 2) := by decide +kernel
theorem dX10_isWorthItem_75 : decode cX10_isWorthItem 75 = .ok (.invokevirtual 153, 3) := by decide +kernel
theorem dX10_isWorthItem_78 : decode cX10_isWorthItem 78 = .ok (.ireturn, 1) := by decide +kernel
theorem dX10_isItem_0 : decode cX10_isItem 0 = .ok (.aload_n 0, 1) := by decide +kernel
theorem dX10_isItem_1 : decode cX10_isItem 1 = .ok (.invokevirtual 146, 3) := by decide +kernel
theorem dX10_isItem_4 : decode cX10_isItem 4 = .ok (.istore_n 1, 1) := by decide +kernel
theorem dX10_isItem_5 : decode cX10_isItem 5 = .ok (.aload_n 0, 1) := by decide +kernel
theorem dX10_isItem_6 : decode cX10_isItem 6 = .ok (.dup, 1) := by decide +kernel
theorem dX10_isItem_7 : decode cX10_isItem 7 = .ok (.getfield 131, 3) := by decide +kernel
theorem dX10_isItem_10 : decode cX10_isItem 10 = .ok (.iconst 1, 1) := by decide +kernel
theorem dX10_isItem_11 : decode cX10_isItem 11 = .ok (.iadd, 1) := by decide +kernel
theorem dX10_isItem_12 : decode cX10_isItem 12 = .ok (.putfield 131, 3) := by decide +kernel
theorem dX10_isItem_15 : decode cX10_isItem 15 = .ok (.iload_n 1, 1) := by decide +kernel
theorem dX10_isItem_16 : decode cX10_isItem 16 = .ok (.bipush 103, 2) := by decide +kernel
theorem dX10_isItem_18 : decode cX10_isItem 18 = .ok (.if_icmp .ne 8, 3) := by decide +kernel
theorem dX10_isItem_21 : decode cX10_isItem 21 = .ok (.aload_n 0, 1) := by decide +kernel
theorem dX10_isItem_22 : decode cX10_isItem 22 = .ok (.invokevirtual 160, 3) := by decide +kernel
theorem dX10_isItem_25 : decode cX10_isItem 25 = .ok (.ireturn, 1) := by decide +kernel
theorem dX10_isItem_26 : decode cX10_isItem 26 = .ok (.iload_n 1, 1) := by decide +kernel
theorem dX10_isItem_27 : decode cX10_isItem 27 = .ok (.bipush 119, 2) := by decide +kernel
theorem dX10_isItem_29 : decode cX10_isItem 29 = .ok (.if_icmp .ne 8, 3) := by decide +kernel
theorem dX10_isItem_32 : decode cX10_isItem 32 = .ok (.aload_n 0, 1) := by decide +kernel
theorem dX10_isItem_33 : decode cX10_isItem 33 = .ok (.invokevirtual 164, 3) := by decide +kernel
theorem dX10_isItem_36 : decode cX10_isItem 36 = .ok (.ireturn, 1) := by decide +kernel
theorem dX10_isItem_37 : decode cX10_isItem 37 = .ok (.iload_n 1, 1) := by decide +kernel
theorem dX10_isItem_38 : decode cX10_isItem 38 = .ok (.bipush 100, 2) := by decide +kernel
theorem dX10_isItem_40 : decode cX10_isItem 40 = .ok (.if_icmp .ne 7, 3) := by decide +kernel
theorem dX10_isItem_43 : decode cX10_isItem 43 = .ok (.iconst 1, 1) := by decide +kernel
theorem dX10_isItem_44 : decode cX10_isItem 44 = .ok (.goto 4, 3) := by decide +kernel
theorem dX10_isItem_47 : decode cX10_isItem 47 = .ok (.iconst 0, 1) := by decide +kernel
theorem dX10_isItem_48 : decode cX10_isItem 48 = .ok (.istore_n 2, 1) := by decide +kernel
theorem dX10_isItem_49 : decode cX10_isItem 49 = .ok (.iload_n 1, 1) := by decide +kernel
theorem dX10_isItem_50 : decode cX10_isItem 50 = .ok (.bipush 100, 2) := by decide +kernel
theorem dX10_isItem_52 : decode cX10_isItem 52 = .ok (.if_icmp .ne 19, 3) := by decide +kernel
theorem dX10_isItem_55 : decode cX10_isItem 55 = .ok (.aload_n 0, 1) := by decide +kernel
theorem dX10_isItem_56 : decode cX10_isItem 56 = .ok (.getfield 109, 3) := by decide +kernel
theorem dX10_isItem_59 : decode cX10_isItem 59 = .ok (.ifCond .le 7, 3) := by decide +kernel
theorem dX10_isItem_62 : decode cX10_isItem 62 = .ok (.iconst (-1), 1) := by decide +kernel
theorem dX10_isItem_63 : decode cX10_isItem 63 = .ok (.goto 41, 3) := by decide +kernel
theorem dX10_isItem_66 : decode cX10_isItem 66 = .ok (.bipush 6, 2) := by decide +kernel
theorem dX10_isItem_68 : decode cX10_isItem 68 = .ok (.goto 36, 3) := by decide +kernel
theorem dX10_isItem_71 : decode cX10_isItem 71 = .ok (.iload_n 1, 1) := by decide +kernel
theorem dX10_isItem_72 : decode cX10_isItem 72 = .ok (.bipush 114, 2) := by decide +kernel
theorem dX10_isItem_74 : decode cX10_isItem 74 = .ok (.if_icmp .ne 7, 3) := by decide +kernel
theorem dX10_isItem_77 : decode cX10_isItem 77 = .ok (.iconst 1, 1) := by decide +kernel
theorem dX10_isItem_78 : decode cX10_isItem 78 = .ok (.goto 26, 3) := by decide +kernel
theorem dX10_isItem_81 : decode cX10_isItem 81 = .ok (.iload_n 1, 1) := by decide +kernel
theorem dX10_isItem_82 : decode cX10_isItem 82 = .ok (.bipush 115, 2) := by decide +kernel
theorem dX10_isItem_84 : decode cX10_isItem 84 = .ok (.if_icmp .ne 8, 3) := by decide +kernel
theorem dX10_isItem_87 : decode cX10_isItem 87 = .ok (.bipush 99, 2) := by decide +kernel
theorem dX10_isItem_89 : decode cX10_isItem 89 = .ok (.goto 15, 3) := by decide +kernel
theorem dX10_isItem_92 : decode cX10_isItem 92 = .ok (.iload_n 1, 1) := by decide +kernel
theorem dX10_isItem_93 : decode cX10_isItem 93 = .ok (.bipush 99, 2) := by decide +kernel
theorem dX10_isItem_95 : decode cX10_isItem 95 = .ok (.if_icmp .ne 8, 3) := by decide +kernel
theorem dX10_isItem_98 : decode cX10_isItem 98 = .ok (.bipush 9, 2) := by decide +kernel
theorem dX10_isItem_100 : decode cX10_isItem 100 = .ok (.goto 4, 3) := by decide +kernel
theorem dX10_isItem_103 : decode cX10_isItem 103 = .ok (.iconst (-1), 1) := by decide +kernel
theorem dX10_isItem_104 : decode cX10_isItem 104 = .ok (.istore_n 3, 1) := by decide +kernel
theorem dX10_isItem_105 : decode cX10_isItem 105 = .ok (.aload_n 0, 1) := by decide +kernel
theorem dX10_isItem_106 : decode cX10_isItem 106 = .ok (.invokevirtual 150, 3) := by decide +kernel
theorem dX10_isItem_109 : decode cX10_isItem 109 = .ok (.istore 4, 2) := by decide +kernel
theorem dX10_isItem_111 : decode cX10_isItem 111 = .ok (.iload 4, 2) := by decide +kernel
theorem dX10_isItem_113 : decode cX10_isItem 113 = .ok (.iload_n 2, 1) := by decide +kernel
theorem dX10_isItem_114 : decode cX10_isItem 114 = .ok (.iload_n 3, 1) := by decide +kernel
theorem dX10_isItem_115 : decode cX10_isItem 115 = .ok (.invokestatic 119, 3) := by decide +kernel
theorem dX10_isItem_118 : decode cX10_isItem 118 = .ok (.ifCond .eq 12, 3) := by decide +kernel
theorem dX10_isItem_121 : decode cX10_isItem 121 = .ok (.aload_n 0, 1) := by decide +kernel
theorem dX10_isItem_122 : decode cX10_isItem 122 = .ok (.bipush 59, 2) := by decide +kernel
theorem dX10_isItem_124 : decode cX10_isItem 124 = .ok (.invokevirtual 153, 3) := by decide +kernel
theorem dX10_isItem_127 : decode cX10_isItem 127 = .ok (.ifCond .ne 5, 3) := by decide +kernel
theorem dX10_isItem_130 : decode cX10_isItem 130 = .ok (.iconst 0, 1) := by decide +kernel
theorem dX10_isItem_131 : decode cX10_isItem 131 = .ok (.ireturn, 1) := by decide +kernel
theorem dX10_isItem_132 : decode cX10_isItem 132 = .ok (.aload_n 0, 1) := by decide +kernel
theorem dX10_isItem_133 : decode cX10_isItem 133 = .ok (.iload_n 1, 1) := by decide +kernel
theorem dX10_isItem_134 : decode cX10_isItem 134 = .ok (.bipush 100, 2) := by decide +kernel
theorem dX10_isItem_136 : decode cX10_isItem 136 = .ok (.if_icmp .ne 8, 3) := by decide +kernel
theorem dX10_isItem_139 : decode cX10_isItem 139 = .ok (.iload 4, 2) := by decide +kernel
theorem dX10_isItem_141 : decode cX10_isItem 141 = .ok (.goto 7, 3) := by decide +kernel
theorem dX10_isItem_144 : decode cX10_isItem 144 = .ok (.aload_n 0, 1) := by decide +kernel
theorem dX10_isItem_145 : decode cX10_isItem 145 = .ok (.getfield 134, 3) := by decide +kernel
theorem dX10_isItem_148 : decode cX10_isItem 148 = .ok (.putfield 134, 3) := by decide +kernel
theorem dX10_isItem_151 : decode cX10_isItem 151 = .ok (.aload_n 0, 1) := by decide +kernel
theorem dX10_isItem_152 : decode cX10_isItem 152 = .ok (.iload_n 1, 1) := by decide +kernel
theorem dX10_isItem_153 : decode cX10_isItem 153 = .ok (.bipush 114, 2) := by decide +kernel
theorem dX10_isItem_155 : decode cX10_isItem 155 = .ok (.if_icmp .ne 8, 3) := by decide +kernel
theorem dX10_isItem_158 : decode cX10_isItem 158 = .ok (.iload 4, 2) := by decide +kernel
theorem dX10_isItem_160 : decode cX10_isItem 160 = .ok (.goto 7, 3) := by decide +kernel
theorem dX10_isItem_163 : decode cX10_isItem 163 = .ok (.aload_n 0, 1) := by decide +kernel
theorem dX10_isItem_164 : decode cX10_isItem 164 = .ok (.getfield 137, 3) := by decide +kernel
theorem dX10_isItem_167 : decode cX10_isItem 167 = .ok (.putfield 137, 3) := by decide +kernel
theorem dX10_isItem_170 : decode cX10_isItem 170 = .ok (.aload_n 0, 1) := by decide +kernel
theorem dX10_isItem_171 : decode cX10_isItem 171 = .ok (.iload_n 1, 1) := by decide +kernel
theorem dX10_isItem_172 : decode cX10_isItem 172 = .ok (.bipush 115, 2) := by decide +kernel
theorem dX10_isItem_174 : decode cX10_isItem 174 = .ok (.if_icmp .ne 8, 3) := by decide +kernel
theorem dX10_isItem_177 : decode cX10_isItem 177 = .ok (.iload 4, 2) := by decide +kernel
theorem dX10_isItem_179 : decode cX10_isItem 179 = .ok (.goto 7, 3) := by decide +kernel
theorem dX10_isItem_182 : decode cX10_isItem 182 = .ok (.aload_n 0, 1) := by decide +kernel
theorem dX10_isItem_183 : decode cX10_isItem 183 = .ok (.getfield 140, 3) := by decide +kernel
theorem dX10_isItem_186 : decode cX10_isItem 186 = .ok (.putfield 140, 3) := by decide +kernel
theorem dX10_isItem_189 : decode cX10_isItem 189 = .ok (.aload_n 0, 1) := by decide +kernel
theorem dX10_isItem_190 : decode cX10_isItem 190 = .ok (.iload_n 1, 1) := by decide +kernel
theorem dX10_isItem_191 : decode cX10_isItem 191 = .ok (.bipush 99, 2) := by decide +kernel
theorem dX10_isItem_193 : decode cX10_isItem 193 = .ok (.if_icmp .ne 8, 3) := by decide +kernel
theorem dX10_isItem_196 : decode cX10_isItem 196 = .ok (.iload 4, 2) := by decide +kernel
theorem dX10_isItem_198 : decode cX10_isItem 198 = .ok (.goto 7, 3) := by decide +kernel
theorem dX10_isItem_201 : decode cX10_isItem 201 = .ok (.aload_n 0, 1) := by decide +kernel
theorem dX10_isItem_202 : decode cX10_isItem 202 = .ok (.getfield 143, 3) := by decide +kernel
theorem dX10_isItem_205 : decode cX10_isItem 205 = .ok (.putfield 143, 3) := by decide +kernel
theorem dX10_isItem_208 : decode cX10_isItem 208 = .ok (.iconst 1, 1) := by decide +kernel
theorem dX10_isItem_209 : decode cX10_isItem 209 = .ok (.ireturn, 1) := by decide +kernel
theorem dX10_findFault_0 : decode cX10_findFault 0 = .ok (.aload_n 0, 1) := by decide +kernel
theorem dX10_findFault_1 : decode cX10_findFault 1 = .ok (.invokevirtual 106, 3) := by decide +kernel
theorem dX10_findFault_4 : decode cX10_findFault 4 = .ok (.aload_n 0, 1) := by decide +kernel
theorem dX10_findFault_5 : decode cX10_findFault 5 = .ok (.getfield 131, 3) := by decide +kernel
theorem dX10_findFault_8 : decode cX10_findFault 8 = .ok (.aload_n 0, 1) := by decide +kernel
theorem dX10_findFault_9 : decode cX10_findFault 9 = .ok (.getfield 126, 3) := by decide +kernel
theorem dX10_findFault_12 : decode cX10_findFault 12 = .ok (.if_icmp .ge 20, 3) := by decide +kernel
theorem dX10_findFault_15 : decode cX10_findFault 15 = .ok (.aload_n 0, 1) := by decide +kernel
theorem dX10_findFault_16 : decode cX10_findFault 16 = .ok (.getfield 131, 3) := by decide +kernel
theorem dX10_findFault_19 : decode cX10_findFault 19 = .ok (.istore_n 1, 1) := by decide +kernel
theorem dX10_findFault_20 : decode cX10_findFault 20 = .ok (.aload_n 0, 1) := by decide +kernel
theorem dX10_findFault_21 : decode cX10_findFault 21 = .ok (.invokevirtual 167, 3) := by decide +kernel
theorem dX10_findFault_24 : decode cX10_findFault 24 = .ok (.ifCond .ne 5, 3) := by decide +kernel
theorem dX10_findFault_27 : decode cX10_findFault 27 = .ok (.iload_n 1, 1) := by decide +kernel
theorem dX10_findFault_28 : decode cX10_findFault 28 = .ok (.ireturn, 1) := by decide +kernel
theorem dX10_findFault_29 : decode cX10_findFault 29 = .ok (.goto (-25), 3) := by decide +kernel
theorem dX10_findFault_32 : decode cX10_findFault 32 = .ok (.bipush (-4), 2) := by decide +kernel
theorem dX10_findFault_34 : decode cX10_findFault 34 = .ok (.ireturn, 1) := by decide +kernel
theorem dX10_fault_0 : decode cX10_fault 0 = .ok (.aload_n 0, 1) := by decide +kernel
theorem dX10_fault_1 : decode cX10_fault 1 = .ok (.invokevirtual 170, 3) := by decide +kernel
theorem dX10_fault_4 : decode cX10_fault 4 = .ok (.ireturn, 1) := by decide +kernel
theorem dX10_lays_0 : decode cX10_lays 0 = .ok (.aload_n 0, 1) := by decide +kernel
theorem dX10_lays_1 : decode cX10_lays 1 = .ok (.aload_n 0, 1) := by decide +kernel
theorem dX10_lays_2 : decode cX10_lays 2 = .ok (.getfield 109, 3) := by decide +kernel
theorem dX10_lays_5 : decode cX10_lays 5 = .ok (.putfield 116, 3) := by decide +kernel
theorem dX10_lays_8 : decode cX10_lays 8 = .ok (.aload_n 0, 1) := by decide +kernel
theorem dX10_lays_9 : decode cX10_lays 9 = .ok (.aload_n 0, 1) := by decide +kernel
theorem dX10_lays_10 : decode cX10_lays 10 = .ok (.getfield 134, 3) := by decide +kernel
theorem dX10_lays_13 : decode cX10_lays 13 = .ok (.putfield 123, 3) := by decide +kernel
theorem dX10_lays_16 : decode cX10_lays 16 = .ok (.aload_n 0, 1) := by decide +kernel
theorem dX10_lays_17 : decode cX10_lays 17 = .ok (.aload_n 0, 1) := by decide +kernel
theorem dX10_lays_18 : decode cX10_lays 18 = .ok (.getfield 137, 3) := by decide +kernel
theorem dX10_lays_21 : decode cX10_lays 21 = .ok (.iconst 1, 1) := by decide +kernel
theorem dX10_lays_22 : decode cX10_lays 22 = .ok (.if_icmp .ne 7, 3) := by decide +kernel
theorem dX10_lays_25 : decode cX10_lays 25 = .ok (.iconst 1, 1) := by decide +kernel
theorem dX10_lays_26 : decode cX10_lays 26 = .ok (.goto 4, 3) := by decide +kernel
theorem dX10_lays_29 : decode cX10_lays 29 = .ok (.iconst 0, 1) := by decide +kernel
theorem dX10_lays_30 : decode cX10_lays 30 = .ok (.putfield 173, 3) := by decide +kernel
theorem dX10_lays_33 : decode cX10_lays 33 = .ok (.aload_n 0, 1) := by decide +kernel
theorem dX10_lays_34 : decode cX10_lays 34 = .ok (.aload_n 0, 1) := by decide +kernel
theorem dX10_lays_35 : decode cX10_lays 35 = .ok (.getfield 140, 3) := by decide +kernel
theorem dX10_lays_38 : decode cX10_lays 38 = .ok (.putfield 177, 3) := by decide +kernel
theorem dX10_lays_41 : decode cX10_lays 41 = .ok (.aload_n 0, 1) := by decide +kernel
theorem dX10_lays_42 : decode cX10_lays 42 = .ok (.aload_n 0, 1) := by decide +kernel
theorem dX10_lays_43 : decode cX10_lays 43 = .ok (.getfield 143, 3) := by decide +kernel
theorem dX10_lays_46 : decode cX10_lays 46 = .ok (.putfield 180, 3) := by decide +kernel
theorem dX10_lays_49 : decode cX10_lays 49 = .ok (.iconst 0, 1) := by decide +kernel
theorem dX10_lays_50 : decode cX10_lays 50 = .ok (.istore_n 1, 1) := by decide +kernel
theorem dX10_lays_51 : decode cX10_lays 51 = .ok (.iload_n 1, 1) := by decide +kernel
theorem dX10_lays_52 : decode cX10_lays 52 = .ok (.aload_n 0, 1) := by decide +kernel
theorem dX10_lays_53 : decode cX10_lays 53 = .ok (.getfield 116, 3) := by decide +kernel
theorem dX10_lays_56 : decode cX10_lays 56 = .ok (.if_icmp .ge 121, 3) := by decide +kernel
theorem dX10_lays_59 : decode cX10_lays 59 = .ok (.aload_n 0, 1) := by decide +kernel
theorem dX10_lays_60 : decode cX10_lays 60 = .ok (.getfield 7, 3) := by decide +kernel
theorem dX10_lays_63 : decode cX10_lays 63 = .ok (.iload_n 1, 1) := by decide +kernel
theorem dX10_lays_64 : decode cX10_lays 64 = .ok (.aload_n 0, 1) := by decide +kernel
theorem dX10_lays_65 : decode cX10_lays 65 = .ok (.getfield 49, 3) := by decide +kernel
theorem dX10_lays_68 : decode cX10_lays 68 = .ok (.iload_n 1, 1) := by decide +kernel
theorem dX10_lays_69 : decode cX10_lays 69 = .ok (.iaload, 1) := by decide +kernel
theorem dX10_lays_70 : decode cX10_lays 70 = .ok (.iastore, 1) := by decide +kernel
theorem dX10_lays_71 : decode cX10_lays 71 = .ok (.aload_n 0, 1) := by decide +kernel
theorem dX10_lays_72 : decode cX10_lays 72 = .ok (.getfield 13, 3) := by decide +kernel
theorem dX10_lays_75 : decode cX10_lays 75 = .ok (.iload_n 1, 1) := by decide +kernel
theorem dX10_lays_76 : decode cX10_lays 76 = .ok (.aload_n 0, 1) := by decide +kernel
theorem dX10_lays_77 : decode cX10_lays 77 = .ok (.getfield 52, 3) := by decide +kernel
theorem dX10_lays_80 : decode cX10_lays 80 = .ok (.iload_n 1, 1) := by decide +kernel
theorem dX10_lays_81 : decode cX10_lays 81 = .ok (.iaload, 1) := by decide +kernel
theorem dX10_lays_82 : decode cX10_lays 82 = .ok (.iastore, 1) := by decide +kernel
theorem dX10_lays_83 : decode cX10_lays 83 = .ok (.aload_n 0, 1) := by decide +kernel
theorem dX10_lays_84 : decode cX10_lays 84 = .ok (.getfield 19, 3) := by decide +kernel
theorem dX10_lays_87 : decode cX10_lays 87 = .ok (.iload_n 1, 1) := by decide +kernel
theorem dX10_lays_88 : decode cX10_lays 88 = .ok (.aload_n 0, 1) := by decide +kernel
theorem dX10_lays_89 : decode cX10_lays 89 = .ok (.getfield 58, 3) := by decide +kernel
theorem dX10_lays_92 : decode cX10_lays 92 = .ok (.iload_n 1, 1) := by decide +kernel
theorem dX10_lays_93 : decode cX10_lays 93 = .ok (.iaload, 1) := by decide +kernel
theorem dX10_lays_94 : decode cX10_lays 94 = .ok (.iastore, 1) := by decide +kernel
theorem dX10_lays_95 : decode cX10_lays 95 = .ok (.aload_n 0, 1) := by decide +kernel
theorem dX10_lays_96 : decode cX10_lays 96 = .ok (.getfield 22, 3) := by decide +kernel
theorem dX10_lays_99 : decode cX10_lays 99 = .ok (.iload_n 1, 1) := by decide +kernel
theorem dX10_lays_100 : decode cX10_lays 100 = .ok (.aload_n 0, 1) := by decide +kernel
theorem dX10_lays_101 : decode cX10_lays 101 = .ok (.getfield 19, 3) := by decide +kernel
theorem dX10_lays_104 : decode cX10_lays 104 = .ok (.iload_n 1, 1) := by decide +kernel
theorem dX10_lays_105 : decode cX10_lays 105 = .ok (.iaload, 1) := by decide +kernel
theorem dX10_lays_106 : decode cX10_lays 106 = .ok (.iastore, 1) := by decide +kernel
theorem dX10_lays_107 : decode cX10_lays 107 = .ok (.aload_n 0, 1) := by decide +kernel
theorem dX10_lays_108 : decode cX10_lays 108 = .ok (.getfield 25, 3) := by decide +kernel
theorem dX10_lays_111 : decode cX10_lays 111 = .ok (.iload_n 1, 1) := by decide +kernel
theorem dX10_lays_112 : decode cX10_lays 112 = .ok (.aload_n 0, 1) := by decide +kernel
theorem dX10_lays_113 : decode cX10_lays 113 = .ok (.getfield 19, 3) := by decide +kernel
theorem dX10_lays_116 : decode cX10_lays 116 = .ok (.iload_n 1, 1) := by decide +kernel
theorem dX10_lays_117 : decode cX10_lays 117 = .ok (.iaload, 1) := by decide +kernel
theorem dX10_lays_118 : decode cX10_lays 118 = .ok (.iconst (-1), 1) := by decide +kernel
theorem dX10_lays_119 : decode cX10_lays 119 = .ok (.if_icmp .ne 7, 3) := by decide +kernel
theorem dX10_lays_122 : decode cX10_lays 122 = .ok (.iconst 0, 1) := by decide +kernel
theorem dX10_lays_123 : decode cX10_lays 123 = .ok (.goto 11, 3) := by decide +kernel
theorem dX10_lays_126 : decode cX10_lays 126 = .ok (.iconst 1, 1) := by decide +kernel
theorem dX10_lays_127 : decode cX10_lays 127 = .ok (.aload_n 0, 1) := by decide +kernel
theorem dX10_lays_128 : decode cX10_lays 128 = .ok (.getfield 19, 3) := by decide +kernel
theorem dX10_lays_131 : decode cX10_lays 131 = .ok (.iload_n 1, 1) := by decide +kernel
theorem dX10_lays_132 : decode cX10_lays 132 = .ok (.iaload, 1) := by decide +kernel
theorem dX10_lays_133 : decode cX10_lays 133 = .ok (.ishl, 1) := by decide +kernel
theorem dX10_lays_134 : decode cX10_lays 134 = .ok (.iastore, 1) := by decide +kernel
theorem dX10_lays_135 : decode cX10_lays 135 = .ok (.iconst 0, 1) := by decide +kernel
theorem dX10_lays_136 : decode cX10_lays 136 = .ok (.istore_n 2, 1) := by decide +kernel
theorem dX10_lays_137 : decode cX10_lays 137 = .ok (.iload_n 2, 1) := by decide +kernel
theorem dX10_lays_138 : decode cX10_lays 138 = .ok (.bipush 6, 2) := by decide +kernel
theorem dX10_lays_140 : decode cX10_lays 140 = .ok (.if_icmp .ge 31, 3) := by decide +kernel
theorem dX10_lays_143 : decode cX10_lays 143 = .ok (.aload_n 0, 1) := by decide +kernel
theorem dX10_lays_144 : decode cX10_lays 144 = .ok (.getfield 16, 3) := by decide +kernel
theorem dX10_lays_147 : decode cX10_lays 147 = .ok (.bipush 6, 2) := by decide +kernel
theorem dX10_lays_149 : decode cX10_lays 149 = .ok (.iload_n 1, 1) := by decide +kernel
theorem dX10_lays_150 : decode cX10_lays 150 = .ok (.imul, 1) := by decide +kernel
theorem dX10_lays_151 : decode cX10_lays 151 = .ok (.iload_n 2, 1) := by decide +kernel
theorem dX10_lays_152 : decode cX10_lays 152 = .ok (.iadd, 1) := by decide +kernel
theorem dX10_lays_153 : decode cX10_lays 153 = .ok (.aload_n 0, 1) := by decide +kernel
theorem dX10_lays_154 : decode cX10_lays 154 = .ok (.getfield 55, 3) := by decide +kernel
theorem dX10_lays_157 : decode cX10_lays 157 = .ok (.bipush 6, 2) := by decide +kernel
theorem dX10_lays_159 : decode cX10_lays 159 = .ok (.iload_n 1, 1) := by decide +kernel
theorem dX10_lays_160 : decode cX10_lays 160 = .ok (.imul, 1) := by decide +kernel
theorem dX10_lays_161 : decode cX10_lays 161 = .ok (.iload_n 2, 1) := by decide +kernel
theorem dX10_lays_162 : decode cX10_lays 162 = .ok (.iadd, 1) := by decide +kernel
theorem dX10_lays_163 : decode cX10_lays 163 = .ok (.iaload, 1) := by decide +kernel
theorem dX10_lays_164 : decode cX10_lays 164 = .ok (.iastore, 1) := by decide +kernel
theorem dX10_lays_165 : decode cX10_lays 165 = .ok (.iinc 2 1, 3) := by decide +kernel
theorem dX10_lays_168 : decode cX10_lays 168 = .ok (.goto (-31), 3) := by decide +kernel
theorem dX10_lays_171 : decode cX10_lays 171 = .ok (.iinc 1 1, 3) := by decide +kernel
theorem dX10_lays_174 : decode cX10_lays 174 = .ok (.goto (-123), 3) := by decide +kernel
theorem dX10_lays_177 : decode cX10_lays 177 = .ok (.aload_n 0, 1) := by decide +kernel
theorem dX10_lays_178 : decode cX10_lays 178 = .ok (.iconst 0, 1) := by decide +kernel
theorem dX10_lays_179 : decode cX10_lays 179 = .ok (.putfield 183, 3) := by decide +kernel
theorem dX10_lays_182 : decode cX10_lays 182 = .ok (.aload_n 0, 1) := by decide +kernel
theorem dX10_lays_183 : decode cX10_lays 183 = .ok (.iconst 0, 1) := by decide +kernel
theorem dX10_lays_184 : decode cX10_lays 184 = .ok (.putfield 186, 3) := by decide +kernel
theorem dX10_lays_187 : decode cX10_lays 187 = .ok (.aload_n 0, 1) := by decide +kernel
theorem dX10_lays_188 : decode cX10_lays 188 = .ok (.iconst 0, 1) := by decide +kernel
theorem dX10_lays_189 : decode cX10_lays 189 = .ok (.putfield 189, 3) := by decide +kernel
theorem dX10_lays_192 : decode cX10_lays 192 = .ok (.return_, 1) := by decide +kernel
theorem dX10_lay_0 : decode cX10_lay 0 = .ok (.aload_n 0, 1) := by decide +kernel
theorem dX10_lay_1 : decode cX10_lay 1 = .ok (.invokevirtual 170, 3) := by decide +kernel
theorem dX10_lay_4 : decode cX10_lay 4 = .ok (.bipush (-4), 2) := by decide +kernel
theorem dX10_lay_6 : decode cX10_lay 6 = .ok (.if_icmp .ne 11, 3) := by decide +kernel
theorem dX10_lay_9 : decode cX10_lay 9 = .ok (.aload_n 0, 1) := by decide +kernel
theorem dX10_lay_10 : decode cX10_lay 10 = .ok (.getfield 109, 3) := by decide +kernel
theorem dX10_lay_13 : decode cX10_lay 13 = .ok (.iconst 2, 1) := by decide +kernel
theorem dX10_lay_14 : decode cX10_lay 14 = .ok (.if_icmp .ge 6, 3) := by decide +kernel
theorem dX10_lay_17 : decode cX10_lay 17 = .ok (.bipush (-2), 2) := by decide +kernel
theorem dX10_lay_19 : decode cX10_lay 19 = .ok (.ireturn, 1) := by decide +kernel
theorem dX10_lay_20 : decode cX10_lay 20 = .ok (.aload_n 0, 1) := by decide +kernel
theorem dX10_lay_21 : decode cX10_lay 21 = .ok (.invokevirtual 113, 3) := by decide +kernel
theorem dX10_lay_24 : decode cX10_lay 24 = .ok (.aload_n 0, 1) := by decide +kernel
theorem dX10_lay_25 : decode cX10_lay 25 = .ok (.getfield 116, 3) := by decide +kernel
theorem dX10_lay_28 : decode cX10_lay 28 = .ok (.ireturn, 1) := by decide +kernel
theorem dX10_guest_0 : decode cX10_guest 0 = .ok (.aload_n 0, 1) := by decide +kernel
theorem dX10_guest_1 : decode cX10_guest 1 = .ok (.iload_n 1, 1) := by decide +kernel
theorem dX10_guest_2 : decode cX10_guest 2 = .ok (.invokevirtual 192, 3) := by decide +kernel
theorem dX10_guest_5 : decode cX10_guest 5 = .ok (.ifCond .eq 12, 3) := by decide +kernel
theorem dX10_guest_8 : decode cX10_guest 8 = .ok (.iload_n 2, 1) := by decide +kernel
theorem dX10_guest_9 : decode cX10_guest 9 = .ok (.iconst 0, 1) := by decide +kernel
theorem dX10_guest_10 : decode cX10_guest 10 = .ok (.iconst 3, 1) := by decide +kernel
theorem dX10_guest_11 : decode cX10_guest 11 = .ok (.invokestatic 119, 3) := by decide +kernel
theorem dX10_guest_14 : decode cX10_guest 14 = .ok (.ifCond .ne 5, 3) := by decide +kernel
theorem dX10_guest_17 : decode cX10_guest 17 = .ok (.iconst (-1), 1) := by decide +kernel
theorem dX10_guest_18 : decode cX10_guest 18 = .ok (.ireturn, 1) := by decide +kernel
theorem dX10_guest_19 : decode cX10_guest 19 = .ok (.iload_n 2, 1) := by decide +kernel
theorem dX10_guest_20 : decode cX10_guest 20 = .ok (.ifCond .ne 12, 3) := by decide +kernel
theorem dX10_guest_23 : decode cX10_guest 23 = .ok (.aload_n 0, 1) := by decide +kernel
theorem dX10_guest_24 : decode cX10_guest 24 = .ok (.getfield 7, 3) := by decide +kernel
theorem dX10_guest_27 : decode cX10_guest 27 = .ok (.iload_n 1, 1) := by decide +kernel
theorem dX10_guest_28 : decode cX10_guest 28 = .ok (.iaload, 1) := by decide +kernel
theorem dX10_guest_29 : decode cX10_guest 29 = .ok (.goto 52, 3) := by decide +kernel
theorem dX10_guest_32 : decode cX10_guest 32 = .ok (.iload_n 2, 1) := by decide +kernel
theorem dX10_guest_33 : decode cX10_guest 33 = .ok (.iconst 1, 1) := by decide +kernel
theorem dX10_guest_34 : decode cX10_guest 34 = .ok (.if_icmp .ne 27, 3) := by decide +kernel
theorem dX10_guest_37 : decode cX10_guest 37 = .ok (.aload_n 0, 1) := by decide +kernel
theorem dX10_guest_38 : decode cX10_guest 38 = .ok (.getfield 22, 3) := by decide +kernel
theorem dX10_guest_41 : decode cX10_guest 41 = .ok (.iload_n 1, 1) := by decide +kernel
theorem dX10_guest_42 : decode cX10_guest 42 = .ok (.iaload, 1) := by decide +kernel
theorem dX10_guest_43 : decode cX10_guest 43 = .ok (.iconst (-1), 1) := by decide +kernel
theorem dX10_guest_44 : decode cX10_guest 44 = .ok (.if_icmp .ne 8, 3) := by decide +kernel
theorem dX10_guest_47 : decode cX10_guest 47 = .ok (.bipush (-4), 2) := by decide +kernel
theorem dX10_guest_49 : decode cX10_guest 49 = .ok (.goto 32, 3) := by decide +kernel
theorem dX10_guest_52 : decode cX10_guest 52 = .ok (.aload_n 0, 1) := by decide +kernel
theorem dX10_guest_53 : decode cX10_guest 53 = .ok (.getfield 22, 3) := by decide +kernel
theorem dX10_guest_56 : decode cX10_guest 56 = .ok (.iload_n 1, 1) := by decide +kernel
theorem dX10_guest_57 : decode cX10_guest 57 = .ok (.iaload, 1) := by decide +kernel
theorem dX10_guest_58 : decode cX10_guest 58 = .ok (.goto 23, 3) := by decide +kernel
theorem dX10_guest_61 : decode cX10_guest 61 = .ok (.iload_n 2, 1) := by decide +kernel
theorem dX10_guest_62 : decode cX10_guest 62 = .ok (.iconst 2, 1) := by decide +kernel
theorem dX10_guest_63 : decode cX10_guest 63 = .ok (.if_icmp .ne 12, 3) := by decide +kernel
theorem dX10_guest_66 : decode cX10_guest 66 = .ok (.aload_n 0, 1) := by decide +kernel
theorem dX10_guest_67 : decode cX10_guest 67 = .ok (.getfield 13, 3) := by decide +kernel
theorem dX10_guest_70 : decode cX10_guest 70 = .ok (.iload_n 1, 1) := by decide +kernel
theorem dX10_guest_71 : decode cX10_guest 71 = .ok (.iaload, 1) := by decide +kernel
theorem dX10_guest_72 : decode cX10_guest 72 = .ok (.goto 9, 3) := by decide +kernel
theorem dX10_guest_75 : decode cX10_guest 75 = .ok (.aload_n 0, 1) := by decide +kernel
theorem dX10_guest_76 : decode cX10_guest 76 = .ok (.getfield 25, 3) := by decide +kernel
theorem dX10_guest_79 : decode cX10_guest 79 = .ok (.iload_n 1, 1) := by decide +kernel
theorem dX10_guest_80 : decode cX10_guest 80 = .ok (.iaload, 1) := by decide +kernel
theorem dX10_guest_81 : decode cX10_guest 81 = .ok (.ireturn, 1) := by decide +kernel
theorem dX10_worthAt_0 : decode cX10_worthAt 0 = .ok (.bipush 10, 2) := by decide +kernel
theorem dX10_worthAt_2 : decode cX10_worthAt 2 = .ok (.aload_n 0, 1) := by decide +kernel
theorem dX10_worthAt_3 : decode cX10_worthAt 3 = .ok (.getfield 180, 3) := by decide +kernel
theorem dX10_worthAt_6 : decode cX10_worthAt 6 = .ok (.iload_n 3, 1) := by decide +kernel
theorem dX10_worthAt_7 : decode cX10_worthAt 7 = .ok (.imul, 1) := by decide +kernel
theorem dX10_worthAt_8 : decode cX10_worthAt 8 = .ok (.isub, 1) := by decide +kernel
theorem dX10_worthAt_9 : decode cX10_worthAt 9 = .ok (.istore 4, 2) := by decide +kernel
theorem dX10_worthAt_11 : decode cX10_worthAt 11 = .ok (.iload_n 2, 1) := by decide +kernel
theorem dX10_worthAt_12 : decode cX10_worthAt 12 = .ok (.iconst (-1), 1) := by decide +kernel
theorem dX10_worthAt_13 : decode cX10_worthAt 13 = .ok (.if_icmp .eq 8, 3) := by decide +kernel
theorem dX10_worthAt_16 : decode cX10_worthAt 16 = .ok (.iload 4, 2) := by decide +kernel
theorem dX10_worthAt_18 : decode cX10_worthAt 18 = .ok (.ifCond .ge 7, 3) := by decide +kernel
theorem dX10_worthAt_21 : decode cX10_worthAt 21 = .ok (.iconst 0, 1) := by decide +kernel
theorem dX10_worthAt_22 : decode cX10_worthAt 22 = .ok (.goto 20, 3) := by decide +kernel
theorem dX10_worthAt_25 : decode cX10_worthAt 25 = .ok (.aload_n 0, 1) := by decide +kernel
theorem dX10_worthAt_26 : decode cX10_worthAt 26 = .ok (.getfield 16, 3) := by decide +kernel
theorem dX10_worthAt_29 : decode cX10_worthAt 29 = .ok (.bipush 6, 2) := by decide +kernel
theorem dX10_worthAt_31 : decode cX10_worthAt 31 = .ok (.iload_n 1, 1) := by decide +kernel
theorem dX10_worthAt_32 : decode cX10_worthAt 32 = .ok (.imul, 1) := by decide +kernel
theorem dX10_worthAt_33 : decode cX10_worthAt 33 = .ok (.iload_n 2, 1) := by decide +kernel
theorem dX10_worthAt_34 : decode cX10_worthAt 34 = .ok (.iadd, 1) := by decide +kernel
theorem dX10_worthAt_35 : decode cX10_worthAt 35 = .ok (.iaload, 1) := by decide +kernel
theorem dX10_worthAt_36 : decode cX10_worthAt 36 = .ok (.iload 4, 2) := by decide +kernel
theorem dX10_worthAt_38 : decode cX10_worthAt 38 = .ok (.imul, 1) := by decide +kernel
theorem dX10_worthAt_39 : decode cX10_worthAt 39 = .ok (.bipush 10, 2) := by decide +kernel
theorem dX10_worthAt_41 : decode cX10_worthAt 41 = .ok (.idiv, 1) := by decide +kernel
theorem dX10_worthAt_42 : decode cX10_worthAt 42 = .ok (.ireturn, 1) := by decide +kernel
theorem dX10_worth_0 : decode cX10_worth 0 = .ok (.aload_n 0, 1) := by decide +kernel
theorem dX10_worth_1 : decode cX10_worth 1 = .ok (.iload_n 1, 1) := by decide +kernel
theorem dX10_worth_2 : decode cX10_worth 2 = .ok (.invokevirtual 192, 3) := by decide +kernel
theorem dX10_worth_5 : decode cX10_worth 5 = .ok (.ifCond .eq 31, 3) := by decide +kernel
theorem dX10_worth_8 : decode cX10_worth 8 = .ok (.aload_n 0, 1) := by decide +kernel
theorem dX10_worth_9 : decode cX10_worth 9 = .ok (.iload_n 2, 1) := by decide +kernel
theorem dX10_worth_10 : decode cX10_worth 10 = .ok (.invokevirtual 195, 3) := by decide +kernel
theorem dX10_worth_13 : decode cX10_worth 13 = .ok (.ifCond .eq 23, 3) := by decide +kernel
theorem dX10_worth_16 : decode cX10_worth 16 = .ok (.iload_n 3, 1) := by decide +kernel
theorem dX10_worth_17 : decode cX10_worth 17 = .ok (.iconst 0, 1) := by decide +kernel
theorem dX10_worth_18 : decode cX10_worth 18 = .ok (.bipush 99, 2) := by decide +kernel
theorem dX10_worth_20 : decode cX10_worth 20 = .ok (.invokestatic 119, 3) := by decide +kernel
theorem dX10_worth_23 : decode cX10_worth 23 = .ok (.ifCond .eq 13, 3) := by decide +kernel
theorem dX10_worth_26 : decode cX10_worth 26 = .ok (.aload_n 0, 1) := by decide +kernel
theorem dX10_worth_27 : decode cX10_worth 27 = .ok (.iload_n 1, 1) := by decide +kernel
theorem dX10_worth_28 : decode cX10_worth 28 = .ok (.iload_n 2, 1) := by decide +kernel
theorem dX10_worth_29 : decode cX10_worth 29 = .ok (.iload_n 3, 1) := by decide +kernel
theorem dX10_worth_30 : decode cX10_worth 30 = .ok (.invokevirtual 198, 3) := by decide +kernel
theorem dX10_worth_33 : decode cX10_worth 33 = .ok (.goto 4, 3) := by decide +kernel
theorem dX10_worth_36 : decode cX10_worth 36 = .ok (.iconst (-1), 1) := by decide +kernel
theorem dX10_worth_37 : decode cX10_worth 37 = .ok (.ireturn, 1) := by decide +kernel
theorem dX10_wayOf_0 : decode cX10_wayOf 0 = .ok (.iload_n 2, 1) := by decide +kernel
theorem dX10_wayOf_1 : decode cX10_wayOf 1 = .ok (.iload_n 1, 1) := by decide +kernel
theorem dX10_wayOf_2 : decode cX10_wayOf 2 = .ok (.isub, 1) := by decide +kernel
theorem dX10_wayOf_3 : decode cX10_wayOf 3 = .ok (.aload_n 0, 1) := by decide +kernel
theorem dX10_wayOf_4 : decode cX10_wayOf 4 = .ok (.getfield 116, 3) := by decide +kernel
theorem dX10_wayOf_7 : decode cX10_wayOf 7 = .ok (.iadd, 1) := by decide +kernel
theorem dX10_wayOf_8 : decode cX10_wayOf 8 = .ok (.aload_n 0, 1) := by decide +kernel
theorem dX10_wayOf_9 : decode cX10_wayOf 9 = .ok (.getfield 116, 3) := by decide +kernel
theorem dX10_wayOf_12 : decode cX10_wayOf 12 = .ok (.irem, 1) := by decide +kernel
theorem dX10_wayOf_13 : decode cX10_wayOf 13 = .ok (.istore_n 3, 1) := by decide +kernel
theorem dX10_wayOf_14 : decode cX10_wayOf 14 = .ok (.aload_n 0, 1) := by decide +kernel
theorem dX10_wayOf_15 : decode cX10_wayOf 15 = .ok (.getfield 173, 3) := by decide +kernel
theorem dX10_wayOf_18 : decode cX10_wayOf 18 = .ok (.ifCond .ne 9, 3) := by decide +kernel
theorem dX10_wayOf_21 : decode cX10_wayOf 21 = .ok (.iload_n 2, 1) := by decide +kernel
theorem dX10_wayOf_22 : decode cX10_wayOf 22 = .ok (.iload_n 1, 1) := by decide +kernel
theorem dX10_wayOf_23 : decode cX10_wayOf 23 = .ok (.isub, 1) := by decide +kernel
theorem dX10_wayOf_24 : decode cX10_wayOf 24 = .ok (.goto 23, 3) := by decide +kernel
theorem dX10_wayOf_27 : decode cX10_wayOf 27 = .ok (.iconst 2, 1) := by decide +kernel
theorem dX10_wayOf_28 : decode cX10_wayOf 28 = .ok (.iload_n 3, 1) := by decide +kernel
theorem dX10_wayOf_29 : decode cX10_wayOf 29 = .ok (.imul, 1) := by decide +kernel
theorem dX10_wayOf_30 : decode cX10_wayOf 30 = .ok (.aload_n 0, 1) := by decide +kernel
theorem dX10_wayOf_31 : decode cX10_wayOf 31 = .ok (.getfield 116, 3) := by decide +kernel
theorem dX10_wayOf_34 : decode cX10_wayOf 34 = .ok (.if_icmp .gt 7, 3) := by decide +kernel
theorem dX10_wayOf_37 : decode cX10_wayOf 37 = .ok (.iload_n 3, 1) := by decide +kernel
theorem dX10_wayOf_38 : decode cX10_wayOf 38 = .ok (.goto 9, 3) := by decide +kernel
theorem dX10_wayOf_41 : decode cX10_wayOf 41 = .ok (.iload_n 3, 1) := by decide +kernel
theorem dX10_wayOf_42 : decode cX10_wayOf 42 = .ok (.aload_n 0, 1) := by decide +kernel
theorem dX10_wayOf_43 : decode cX10_wayOf 43 = .ok (.getfield 116, 3) := by decide +kernel
theorem dX10_wayOf_46 : decode cX10_wayOf 46 = .ok (.isub, 1) := by decide +kernel
theorem dX10_wayOf_47 : decode cX10_wayOf 47 = .ok (.ireturn, 1) := by decide +kernel
theorem dX10_handsOf_0 : decode cX10_handsOf 0 = .ok (.aload_n 0, 1) := by decide +kernel
theorem dX10_handsOf_1 : decode cX10_handsOf 1 = .ok (.iload_n 1, 1) := by decide +kernel
theorem dX10_handsOf_2 : decode cX10_handsOf 2 = .ok (.iload_n 2, 1) := by decide +kernel
theorem dX10_handsOf_3 : decode cX10_handsOf 3 = .ok (.invokevirtual 202, 3) := by decide +kernel
theorem dX10_handsOf_6 : decode cX10_handsOf 6 = .ok (.istore_n 3, 1) := by decide +kernel
theorem dX10_handsOf_7 : decode cX10_handsOf 7 = .ok (.iload_n 3, 1) := by decide +kernel
theorem dX10_handsOf_8 : decode cX10_handsOf 8 = .ok (.ifCond .ge 8, 3) := by decide +kernel
theorem dX10_handsOf_11 : decode cX10_handsOf 11 = .ok (.iload_n 3, 1) := by decide +kernel
theorem dX10_handsOf_12 : decode cX10_handsOf 12 = .ok (.ineg, 1) := by decide +kernel
theorem dX10_handsOf_13 : decode cX10_handsOf 13 = .ok (.goto 4, 3) := by decide +kernel
theorem dX10_handsOf_16 : decode cX10_handsOf 16 = .ok (.iload_n 3, 1) := by decide +kernel
theorem dX10_handsOf_17 : decode cX10_handsOf 17 = .ok (.ireturn, 1) := by decide +kernel
theorem dX10_hands_0 : decode cX10_hands 0 = .ok (.aload_n 0, 1) := by decide +kernel
theorem dX10_hands_1 : decode cX10_hands 1 = .ok (.iload_n 1, 1) := by decide +kernel
theorem dX10_hands_2 : decode cX10_hands 2 = .ok (.invokevirtual 192, 3) := by decide +kernel
theorem dX10_hands_5 : decode cX10_hands 5 = .ok (.ifCond .eq 20, 3) := by decide +kernel
theorem dX10_hands_8 : decode cX10_hands 8 = .ok (.aload_n 0, 1) := by decide +kernel
theorem dX10_hands_9 : decode cX10_hands 9 = .ok (.iload_n 2, 1) := by decide +kernel
theorem dX10_hands_10 : decode cX10_hands 10 = .ok (.invokevirtual 192, 3) := by decide +kernel
theorem dX10_hands_13 : decode cX10_hands 13 = .ok (.ifCond .eq 12, 3) := by decide +kernel
theorem dX10_hands_16 : decode cX10_hands 16 = .ok (.aload_n 0, 1) := by decide +kernel
theorem dX10_hands_17 : decode cX10_hands 17 = .ok (.iload_n 1, 1) := by decide +kernel
theorem dX10_hands_18 : decode cX10_hands 18 = .ok (.iload_n 2, 1) := by decide +kernel
theorem dX10_hands_19 : decode cX10_hands 19 = .ok (.invokevirtual 206, 3) := by decide +kernel
theorem dX10_hands_22 : decode cX10_hands 22 = .ok (.goto 4, 3) := by decide +kernel
theorem dX10_hands_25 : decode cX10_hands 25 = .ok (.iconst (-1), 1) := by decide +kernel
theorem dX10_hands_26 : decode cX10_hands 26 = .ok (.ireturn, 1) := by decide +kernel
theorem dX10_sits_0 : decode cX10_sits 0 = .ok (.iconst 0, 1) := by decide +kernel
theorem dX10_sits_1 : decode cX10_sits 1 = .ok (.istore_n 1, 1) := by decide +kernel
theorem dX10_sits_2 : decode cX10_sits 2 = .ok (.iload_n 1, 1) := by decide +kernel
theorem dX10_sits_3 : decode cX10_sits 3 = .ok (.aload_n 0, 1) := by decide +kernel
theorem dX10_sits_4 : decode cX10_sits 4 = .ok (.getfield 116, 3) := by decide +kernel
theorem dX10_sits_7 : decode cX10_sits 7 = .ok (.if_icmp .ge 81, 3) := by decide +kernel
theorem dX10_sits_10 : decode cX10_sits 10 = .ok (.aload_n 0, 1) := by decide +kernel
theorem dX10_sits_11 : decode cX10_sits 11 = .ok (.getfield 61, 3) := by decide +kernel
theorem dX10_sits_14 : decode cX10_sits 14 = .ok (.iload_n 1, 1) := by decide +kernel
theorem dX10_sits_15 : decode cX10_sits 15 = .ok (.aload_n 0, 1) := by decide +kernel
theorem dX10_sits_16 : decode cX10_sits 16 = .ok (.getfield 22, 3) := by decide +kernel
theorem dX10_sits_19 : decode cX10_sits 19 = .ok (.iload_n 1, 1) := by decide +kernel
theorem dX10_sits_20 : decode cX10_sits 20 = .ok (.iaload, 1) := by decide +kernel
theorem dX10_sits_21 : decode cX10_sits 21 = .ok (.iastore, 1) := by decide +kernel
theorem dX10_sits_22 : decode cX10_sits 22 = .ok (.aload_n 0, 1) := by decide +kernel
theorem dX10_sits_23 : decode cX10_sits 23 = .ok (.getfield 64, 3) := by decide +kernel
theorem dX10_sits_26 : decode cX10_sits 26 = .ok (.iload_n 1, 1) := by decide +kernel
theorem dX10_sits_27 : decode cX10_sits 27 = .ok (.aload_n 0, 1) := by decide +kernel
theorem dX10_sits_28 : decode cX10_sits 28 = .ok (.getfield 7, 3) := by decide +kernel
theorem dX10_sits_31 : decode cX10_sits 31 = .ok (.iload_n 1, 1) := by decide +kernel
theorem dX10_sits_32 : decode cX10_sits 32 = .ok (.iaload, 1) := by decide +kernel
theorem dX10_sits_33 : decode cX10_sits 33 = .ok (.iastore, 1) := by decide +kernel
theorem dX10_sits_34 : decode cX10_sits 34 = .ok (.aload_n 0, 1) := by decide +kernel
theorem dX10_sits_35 : decode cX10_sits 35 = .ok (.getfield 67, 3) := by decide +kernel
theorem dX10_sits_38 : decode cX10_sits 38 = .ok (.iload_n 1, 1) := by decide +kernel
theorem dX10_sits_39 : decode cX10_sits 39 = .ok (.aload_n 0, 1) := by decide +kernel
theorem dX10_sits_40 : decode cX10_sits 40 = .ok (.getfield 13, 3) := by decide +kernel
theorem dX10_sits_43 : decode cX10_sits 43 = .ok (.iload_n 1, 1) := by decide +kernel
theorem dX10_sits_44 : decode cX10_sits 44 = .ok (.iaload, 1) := by decide +kernel
theorem dX10_sits_45 : decode cX10_sits 45 = .ok (.iastore, 1) := by decide +kernel
theorem dX10_sits_46 : decode cX10_sits 46 = .ok (.iconst 0, 1) := by decide +kernel
theorem dX10_sits_47 : decode cX10_sits 47 = .ok (.istore_n 2, 1) := by decide +kernel
theorem dX10_sits_48 : decode cX10_sits 48 = .ok (.iload_n 2, 1) := by decide +kernel
theorem dX10_sits_49 : decode cX10_sits 49 = .ok (.bipush 6, 2) := by decide +kernel
theorem dX10_sits_51 : decode cX10_sits 51 = .ok (.if_icmp .ge 31, 3) := by decide +kernel
theorem dX10_sits_54 : decode cX10_sits 54 = .ok (.aload_n 0, 1) := by decide +kernel
theorem dX10_sits_55 : decode cX10_sits 55 = .ok (.getfield 70, 3) := by decide +kernel
theorem dX10_sits_58 : decode cX10_sits 58 = .ok (.bipush 6, 2) := by decide +kernel
theorem dX10_sits_60 : decode cX10_sits 60 = .ok (.iload_n 1, 1) := by decide +kernel
theorem dX10_sits_61 : decode cX10_sits 61 = .ok (.imul, 1) := by decide +kernel
theorem dX10_sits_62 : decode cX10_sits 62 = .ok (.iload_n 2, 1) := by decide +kernel
theorem dX10_sits_63 : decode cX10_sits 63 = .ok (.iadd, 1) := by decide +kernel
theorem dX10_sits_64 : decode cX10_sits 64 = .ok (.aload_n 0, 1) := by decide +kernel
theorem dX10_sits_65 : decode cX10_sits 65 = .ok (.getfield 16, 3) := by decide +kernel
theorem dX10_sits_68 : decode cX10_sits 68 = .ok (.bipush 6, 2) := by decide +kernel
theorem dX10_sits_70 : decode cX10_sits 70 = .ok (.iload_n 1, 1) := by decide +kernel
theorem dX10_sits_71 : decode cX10_sits 71 = .ok (.imul, 1) := by decide +kernel
theorem dX10_sits_72 : decode cX10_sits 72 = .ok (.iload_n 2, 1) := by decide +kernel
theorem dX10_sits_73 : decode cX10_sits 73 = .ok (.iadd, 1) := by decide +kernel
theorem dX10_sits_74 : decode cX10_sits 74 = .ok (.iaload, 1) := by decide +kernel
theorem dX10_sits_75 : decode cX10_sits 75 = .ok (.iastore, 1) := by decide +kernel
theorem dX10_sits_76 : decode cX10_sits 76 = .ok (.iinc 2 1, 3) := by decide +kernel
theorem dX10_sits_79 : decode cX10_sits 79 = .ok (.goto (-31), 3) := by decide +kernel
theorem dX10_sits_82 : decode cX10_sits 82 = .ok (.iinc 1 1, 3) := by decide +kernel
theorem dX10_sits_85 : decode cX10_sits 85 = .ok (.goto (-83), 3) := by decide +kernel
theorem dX10_sits_88 : decode cX10_sits 88 = .ok (.return_, 1) := by decide +kernel
theorem dX10_likes_0 : decode cX10_likes 0 = .ok (.iload_n 2, 1) := by decide +kernel
theorem dX10_likes_1 : decode cX10_likes 1 = .ok (.iconst (-1), 1) := by decide +kernel
theorem dX10_likes_2 : decode cX10_likes 2 = .ok (.if_icmp .ne 7, 3) := by decide +kernel
theorem dX10_likes_5 : decode cX10_likes 5 = .ok (.iconst 0, 1) := by decide +kernel
theorem dX10_likes_6 : decode cX10_likes 6 = .ok (.goto 14, 3) := by decide +kernel
theorem dX10_likes_9 : decode cX10_likes 9 = .ok (.aload_n 0, 1) := by decide +kernel
theorem dX10_likes_10 : decode cX10_likes 10 = .ok (.getfield 70, 3) := by decide +kernel
theorem dX10_likes_13 : decode cX10_likes 13 = .ok (.bipush 6, 2) := by decide +kernel
theorem dX10_likes_15 : decode cX10_likes 15 = .ok (.iload_n 1, 1) := by decide +kernel
theorem dX10_likes_16 : decode cX10_likes 16 = .ok (.imul, 1) := by decide +kernel
theorem dX10_likes_17 : decode cX10_likes 17 = .ok (.iload_n 2, 1) := by decide +kernel
theorem dX10_likes_18 : decode cX10_likes 18 = .ok (.iadd, 1) := by decide +kernel
theorem dX10_likes_19 : decode cX10_likes 19 = .ok (.iaload, 1) := by decide +kernel
theorem dX10_likes_20 : decode cX10_likes 20 = .ok (.ireturn, 1) := by decide +kernel
theorem dX10_mayAsk_0 : decode cX10_mayAsk 0 = .ok (.iload_n 1, 1) := by decide +kernel
theorem dX10_mayAsk_1 : decode cX10_mayAsk 1 = .ok (.iload_n 2, 1) := by decide +kernel
theorem dX10_mayAsk_2 : decode cX10_mayAsk 2 = .ok (.if_icmp .eq 37, 3) := by decide +kernel
theorem dX10_mayAsk_5 : decode cX10_mayAsk 5 = .ok (.aload_n 0, 1) := by decide +kernel
theorem dX10_mayAsk_6 : decode cX10_mayAsk 6 = .ok (.getfield 61, 3) := by decide +kernel
theorem dX10_mayAsk_9 : decode cX10_mayAsk 9 = .ok (.iload_n 1, 1) := by decide +kernel
theorem dX10_mayAsk_10 : decode cX10_mayAsk 10 = .ok (.iaload, 1) := by decide +kernel
theorem dX10_mayAsk_11 : decode cX10_mayAsk 11 = .ok (.iconst (-1), 1) := by decide +kernel
theorem dX10_mayAsk_12 : decode cX10_mayAsk 12 = .ok (.if_icmp .eq 27, 3) := by decide +kernel
theorem dX10_mayAsk_15 : decode cX10_mayAsk 15 = .ok (.aload_n 0, 1) := by decide +kernel
theorem dX10_mayAsk_16 : decode cX10_mayAsk 16 = .ok (.getfield 61, 3) := by decide +kernel
theorem dX10_mayAsk_19 : decode cX10_mayAsk 19 = .ok (.iload_n 2, 1) := by decide +kernel
theorem dX10_mayAsk_20 : decode cX10_mayAsk 20 = .ok (.iaload, 1) := by decide +kernel
theorem dX10_mayAsk_21 : decode cX10_mayAsk 21 = .ok (.iconst (-1), 1) := by decide +kernel
theorem dX10_mayAsk_22 : decode cX10_mayAsk 22 = .ok (.if_icmp .eq 17, 3) := by decide +kernel
theorem dX10_mayAsk_25 : decode cX10_mayAsk 25 = .ok (.aload_n 0, 1) := by decide +kernel
theorem dX10_mayAsk_26 : decode cX10_mayAsk 26 = .ok (.getfield 64, 3) := by decide +kernel
theorem dX10_mayAsk_29 : decode cX10_mayAsk 29 = .ok (.iload_n 2, 1) := by decide +kernel
theorem dX10_mayAsk_30 : decode cX10_mayAsk 30 = .ok (.iaload, 1) := by decide +kernel
theorem dX10_mayAsk_31 : decode cX10_mayAsk 31 = .ok (.iconst 2, 1) := by decide +kernel
theorem dX10_mayAsk_32 : decode cX10_mayAsk 32 = .ok (.if_icmp .eq 7, 3) := by decide +kernel
theorem dX10_mayAsk_35 : decode cX10_mayAsk 35 = .ok (.iconst 1, 1) := by decide +kernel
theorem dX10_mayAsk_36 : decode cX10_mayAsk 36 = .ok (.goto 4, 3) := by decide +kernel
theorem dX10_mayAsk_39 : decode cX10_mayAsk 39 = .ok (.iconst 0, 1) := by decide +kernel
theorem dX10_mayAsk_40 : decode cX10_mayAsk 40 = .ok (.ireturn, 1) := by decide +kernel
theorem dX10_goes_0 : decode cX10_goes 0 = .ok (.iload_n 1, 1) := by decide +kernel
theorem dX10_goes_1 : decode cX10_goes 1 = .ok (.istore 5, 2) := by decide +kernel
theorem dX10_goes_3 : decode cX10_goes 3 = .ok (.iload_n 2, 1) := by decide +kernel
theorem dX10_goes_4 : decode cX10_goes 4 = .ok (.istore 6, 2) := by decide +kernel
theorem dX10_goes_6 : decode cX10_goes 6 = .ok (.iconst 0, 1) := by decide +kernel
theorem dX10_goes_7 : decode cX10_goes 7 = .ok (.istore 7, 2) := by decide +kernel
theorem dX10_goes_9 : decode cX10_goes 9 = .ok (.iload 7, 2) := by decide +kernel
theorem dX10_goes_11 : decode cX10_goes 11 = .ok (.iload 4, 2) := by decide +kernel
theorem dX10_goes_13 : decode cX10_goes 13 = .ok (.if_icmp .ge 88, 3) := by decide +kernel
theorem dX10_goes_16 : decode cX10_goes 16 = .ok (.iload 6, 2) := by decide +kernel
theorem dX10_goes_18 : decode cX10_goes 18 = .ok (.iload_n 3, 1) := by decide +kernel
theorem dX10_goes_19 : decode cX10_goes 19 = .ok (.iadd, 1) := by decide +kernel
theorem dX10_goes_20 : decode cX10_goes 20 = .ok (.aload_n 0, 1) := by decide +kernel
theorem dX10_goes_21 : decode cX10_goes 21 = .ok (.getfield 116, 3) := by decide +kernel
theorem dX10_goes_24 : decode cX10_goes 24 = .ok (.iadd, 1) := by decide +kernel
theorem dX10_goes_25 : decode cX10_goes 25 = .ok (.aload_n 0, 1) := by decide +kernel
theorem dX10_goes_26 : decode cX10_goes 26 = .ok (.getfield 116, 3) := by decide +kernel
theorem dX10_goes_29 : decode cX10_goes 29 = .ok (.irem, 1) := by decide +kernel
theorem dX10_goes_30 : decode cX10_goes 30 = .ok (.istore 6, 2) := by decide +kernel
theorem dX10_goes_32 : decode cX10_goes 32 = .ok (.iload 5, 2) := by decide +kernel
theorem dX10_goes_34 : decode cX10_goes 34 = .ok (.iconst (-1), 1) := by decide +kernel
theorem dX10_goes_35 : decode cX10_goes 35 = .ok (.if_icmp .eq 60, 3) := by decide +kernel
theorem dX10_goes_38 : decode cX10_goes 38 = .ok (.aload_n 0, 1) := by decide +kernel
theorem dX10_goes_39 : decode cX10_goes 39 = .ok (.getfield 64, 3) := by decide +kernel
theorem dX10_goes_42 : decode cX10_goes 42 = .ok (.iload 6, 2) := by decide +kernel
theorem dX10_goes_44 : decode cX10_goes 44 = .ok (.iaload, 1) := by decide +kernel
theorem dX10_goes_45 : decode cX10_goes 45 = .ok (.iconst 1, 1) := by decide +kernel
theorem dX10_goes_46 : decode cX10_goes 46 = .ok (.if_icmp .ne 49, 3) := by decide +kernel
theorem dX10_goes_49 : decode cX10_goes 49 = .ok (.aload_n 0, 1) := by decide +kernel
theorem dX10_goes_50 : decode cX10_goes 50 = .ok (.iload 6, 2) := by decide +kernel
theorem dX10_goes_52 : decode cX10_goes 52 = .ok (.iload 5, 2) := by decide +kernel
theorem dX10_goes_54 : decode cX10_goes 54 = .ok (.invokevirtual 209, 3) := by decide +kernel
theorem dX10_goes_57 : decode cX10_goes 57 = .ok (.aload_n 0, 1) := by decide +kernel
theorem dX10_goes_58 : decode cX10_goes 58 = .ok (.iload 6, 2) := by decide +kernel
theorem dX10_goes_60 : decode cX10_goes 60 = .ok (.aload_n 0, 1) := by decide +kernel
theorem dX10_goes_61 : decode cX10_goes 61 = .ok (.getfield 61, 3) := by decide +kernel
theorem dX10_goes_64 : decode cX10_goes 64 = .ok (.iload 6, 2) := by decide +kernel
theorem dX10_goes_66 : decode cX10_goes 66 = .ok (.iaload, 1) := by decide +kernel
theorem dX10_goes_67 : decode cX10_goes 67 = .ok (.invokevirtual 209, 3) := by decide +kernel
theorem dX10_goes_70 : decode cX10_goes 70 = .ok (.if_icmp .le 25, 3) := by decide +kernel
theorem dX10_goes_73 : decode cX10_goes 73 = .ok (.aload_n 0, 1) := by decide +kernel
theorem dX10_goes_74 : decode cX10_goes 74 = .ok (.getfield 61, 3) := by decide +kernel
theorem dX10_goes_77 : decode cX10_goes 77 = .ok (.iload 6, 2) := by decide +kernel
theorem dX10_goes_79 : decode cX10_goes 79 = .ok (.iaload, 1) := by decide +kernel
theorem dX10_goes_80 : decode cX10_goes 80 = .ok (.istore 8, 2) := by decide +kernel
theorem dX10_goes_82 : decode cX10_goes 82 = .ok (.aload_n 0, 1) := by decide +kernel
theorem dX10_goes_83 : decode cX10_goes 83 = .ok (.getfield 61, 3) := by decide +kernel
theorem dX10_goes_86 : decode cX10_goes 86 = .ok (.iload 6, 2) := by decide +kernel
theorem dX10_goes_88 : decode cX10_goes 88 = .ok (.iload 5, 2) := by decide +kernel
theorem dX10_goes_90 : decode cX10_goes 90 = .ok (.iastore, 1) := by decide +kernel
theorem dX10_goes_91 : decode cX10_goes 91 = .ok (.iload 8, 2) := by decide +kernel
theorem dX10_goes_93 : decode cX10_goes 93 = .ok (.istore 5, 2) := by decide +kernel
theorem dX10_goes_95 : decode cX10_goes 95 = .ok (.iinc 7 1, 3) := by decide +kernel
theorem dX10_goes_98 : decode cX10_goes 98 = .ok (.goto (-89), 3) := by decide +kernel
theorem dX10_goes_101 : decode cX10_goes 101 = .ok (.iload 5, 2) := by decide +kernel
theorem dX10_goes_103 : decode cX10_goes 103 = .ok (.ireturn, 1) := by decide +kernel
theorem dX10_childChanges_0 : decode cX10_childChanges 0 = .ok (.iload_n 1, 1) := by decide +kernel
theorem dX10_childChanges_1 : decode cX10_childChanges 1 = .ok (.iconst 1, 1) := by decide +kernel
theorem dX10_childChanges_2 : decode cX10_childChanges 2 = .ok (.iadd, 1) := by decide +kernel
theorem dX10_childChanges_3 : decode cX10_childChanges 3 = .ok (.aload_n 0, 1) := by decide +kernel
theorem dX10_childChanges_4 : decode cX10_childChanges 4 = .ok (.getfield 116, 3) := by decide +kernel
theorem dX10_childChanges_7 : decode cX10_childChanges 7 = .ok (.if_icmp .ge 9, 3) := by decide +kernel
theorem dX10_childChanges_10 : decode cX10_childChanges 10 = .ok (.iload_n 1, 1) := by decide +kernel
theorem dX10_childChanges_11 : decode cX10_childChanges 11 = .ok (.iconst 1, 1) := by decide +kernel
theorem dX10_childChanges_12 : decode cX10_childChanges 12 = .ok (.iadd, 1) := by decide +kernel
theorem dX10_childChanges_13 : decode cX10_childChanges 13 = .ok (.goto 15, 3) := by decide +kernel
theorem dX10_childChanges_16 : decode cX10_childChanges 16 = .ok (.aload_n 0, 1) := by decide +kernel
theorem dX10_childChanges_17 : decode cX10_childChanges 17 = .ok (.getfield 173, 3) := by decide +kernel
theorem dX10_childChanges_20 : decode cX10_childChanges 20 = .ok (.ifCond .eq 7, 3) := by decide +kernel
theorem dX10_childChanges_23 : decode cX10_childChanges 23 = .ok (.iconst 0, 1) := by decide +kernel
theorem dX10_childChanges_24 : decode cX10_childChanges 24 = .ok (.goto 4, 3) := by decide +kernel
theorem dX10_childChanges_27 : decode cX10_childChanges 27 = .ok (.iconst (-1), 1) := by decide +kernel
theorem dX10_childChanges_28 : decode cX10_childChanges 28 = .ok (.istore_n 2, 1) := by decide +kernel
theorem dX10_childChanges_29 : decode cX10_childChanges 29 = .ok (.aload_n 0, 1) := by decide +kernel
theorem dX10_childChanges_30 : decode cX10_childChanges 30 = .ok (.getfield 64, 3) := by decide +kernel
theorem dX10_childChanges_33 : decode cX10_childChanges 33 = .ok (.iload_n 1, 1) := by decide +kernel
theorem dX10_childChanges_34 : decode cX10_childChanges 34 = .ok (.iaload, 1) := by decide +kernel
theorem dX10_childChanges_35 : decode cX10_childChanges 35 = .ok (.iconst 3, 1) := by decide +kernel
theorem dX10_childChanges_36 : decode cX10_childChanges 36 = .ok (.if_icmp .ne 44, 3) := by decide +kernel
theorem dX10_childChanges_39 : decode cX10_childChanges 39 = .ok (.aload_n 0, 1) := by decide +kernel
theorem dX10_childChanges_40 : decode cX10_childChanges 40 = .ok (.getfield 61, 3) := by decide +kernel
theorem dX10_childChanges_43 : decode cX10_childChanges 43 = .ok (.iload_n 1, 1) := by decide +kernel
theorem dX10_childChanges_44 : decode cX10_childChanges 44 = .ok (.iaload, 1) := by decide +kernel
theorem dX10_childChanges_45 : decode cX10_childChanges 45 = .ok (.iconst (-1), 1) := by decide +kernel
theorem dX10_childChanges_46 : decode cX10_childChanges 46 = .ok (.if_icmp .eq 34, 3) := by decide +kernel
theorem dX10_childChanges_49 : decode cX10_childChanges 49 = .ok (.iload_n 2, 1) := by decide +kernel
theorem dX10_childChanges_50 : decode cX10_childChanges 50 = .ok (.iconst (-1), 1) := by decide +kernel
theorem dX10_childChanges_51 : decode cX10_childChanges 51 = .ok (.if_icmp .eq 29, 3) := by decide +kernel
theorem dX10_childChanges_54 : decode cX10_childChanges 54 = .ok (.aload_n 0, 1) := by decide +kernel
theorem dX10_childChanges_55 : decode cX10_childChanges 55 = .ok (.getfield 61, 3) := by decide +kernel
theorem dX10_childChanges_58 : decode cX10_childChanges 58 = .ok (.iload_n 1, 1) := by decide +kernel
theorem dX10_childChanges_59 : decode cX10_childChanges 59 = .ok (.iaload, 1) := by decide +kernel
theorem dX10_childChanges_60 : decode cX10_childChanges 60 = .ok (.istore_n 3, 1) := by decide +kernel
theorem dX10_childChanges_61 : decode cX10_childChanges 61 = .ok (.aload_n 0, 1) := by decide +kernel
theorem dX10_childChanges_62 : decode cX10_childChanges 62 = .ok (.getfield 61, 3) := by decide +kernel
theorem dX10_childChanges_65 : decode cX10_childChanges 65 = .ok (.iload_n 1, 1) := by decide +kernel
theorem dX10_childChanges_66 : decode cX10_childChanges 66 = .ok (.aload_n 0, 1) := by decide +kernel
theorem dX10_childChanges_67 : decode cX10_childChanges 67 = .ok (.getfield 61, 3) := by decide +kernel
theorem dX10_childChanges_70 : decode cX10_childChanges 70 = .ok (.iload_n 2, 1) := by decide +kernel
theorem dX10_childChanges_71 : decode cX10_childChanges 71 = .ok (.iaload, 1) := by decide +kernel
theorem dX10_childChanges_72 : decode cX10_childChanges 72 = .ok (.iastore, 1) := by decide +kernel
theorem dX10_childChanges_73 : decode cX10_childChanges 73 = .ok (.aload_n 0, 1) := by decide +kernel
theorem dX10_childChanges_74 : decode cX10_childChanges 74 = .ok (.getfield 61, 3) := by decide +kernel
theorem dX10_childChanges_77 : decode cX10_childChanges 77 = .ok (.iload_n 2, 1) := by decide +kernel
theorem dX10_childChanges_78 : decode cX10_childChanges 78 = .ok (.iload_n 3, 1) := by decide +kernel
theorem dX10_childChanges_79 : decode cX10_childChanges 79 = .ok (.iastore, 1) := by decide +kernel
theorem dX10_childChanges_80 : decode cX10_childChanges 80 = .ok (.return_, 1) := by decide +kernel
theorem dX10_asks_0 : decode cX10_asks 0 = .ok (.aload_n 0, 1) := by decide +kernel
theorem dX10_asks_1 : decode cX10_asks 1 = .ok (.iload_n 1, 1) := by decide +kernel
theorem dX10_asks_2 : decode cX10_asks 2 = .ok (.iload_n 2, 1) := by decide +kernel
theorem dX10_asks_3 : decode cX10_asks 3 = .ok (.invokevirtual 202, 3) := by decide +kernel
theorem dX10_asks_6 : decode cX10_asks 6 = .ok (.istore_n 3, 1) := by decide +kernel
theorem dX10_asks_7 : decode cX10_asks 7 = .ok (.iload_n 3, 1) := by decide +kernel
theorem dX10_asks_8 : decode cX10_asks 8 = .ok (.ifCond .ge 7, 3) := by decide +kernel
theorem dX10_asks_11 : decode cX10_asks 11 = .ok (.iconst (-1), 1) := by decide +kernel
theorem dX10_asks_12 : decode cX10_asks 12 = .ok (.goto 4, 3) := by decide +kernel
theorem dX10_asks_15 : decode cX10_asks 15 = .ok (.iconst 1, 1) := by decide +kernel
theorem dX10_asks_16 : decode cX10_asks 16 = .ok (.istore 4, 2) := by decide +kernel
theorem dX10_asks_18 : decode cX10_asks 18 = .ok (.iload_n 3, 1) := by decide +kernel
theorem dX10_asks_19 : decode cX10_asks 19 = .ok (.iload 4, 2) := by decide +kernel
theorem dX10_asks_21 : decode cX10_asks 21 = .ok (.imul, 1) := by decide +kernel
theorem dX10_asks_22 : decode cX10_asks 22 = .ok (.iconst 1, 1) := by decide +kernel
theorem dX10_asks_23 : decode cX10_asks 23 = .ok (.isub, 1) := by decide +kernel
theorem dX10_asks_24 : decode cX10_asks 24 = .ok (.istore 5, 2) := by decide +kernel
theorem dX10_asks_26 : decode cX10_asks 26 = .ok (.aload_n 0, 1) := by decide +kernel
theorem dX10_asks_27 : decode cX10_asks 27 = .ok (.getfield 61, 3) := by decide +kernel
theorem dX10_asks_30 : decode cX10_asks 30 = .ok (.iload_n 1, 1) := by decide +kernel
theorem dX10_asks_31 : decode cX10_asks 31 = .ok (.iaload, 1) := by decide +kernel
theorem dX10_asks_32 : decode cX10_asks 32 = .ok (.istore 6, 2) := by decide +kernel
theorem dX10_asks_34 : decode cX10_asks 34 = .ok (.aload_n 0, 1) := by decide +kernel
theorem dX10_asks_35 : decode cX10_asks 35 = .ok (.getfield 61, 3) := by decide +kernel
theorem dX10_asks_38 : decode cX10_asks 38 = .ok (.iload_n 2, 1) := by decide +kernel
theorem dX10_asks_39 : decode cX10_asks 39 = .ok (.iaload, 1) := by decide +kernel
theorem dX10_asks_40 : decode cX10_asks 40 = .ok (.istore 7, 2) := by decide +kernel
theorem dX10_asks_42 : decode cX10_asks 42 = .ok (.aload_n 0, 1) := by decide +kernel
theorem dX10_asks_43 : decode cX10_asks 43 = .ok (.getfield 61, 3) := by decide +kernel
theorem dX10_asks_46 : decode cX10_asks 46 = .ok (.iload_n 1, 1) := by decide +kernel
theorem dX10_asks_47 : decode cX10_asks 47 = .ok (.iconst (-1), 1) := by decide +kernel
theorem dX10_asks_48 : decode cX10_asks 48 = .ok (.iastore, 1) := by decide +kernel
theorem dX10_asks_49 : decode cX10_asks 49 = .ok (.aload_n 0, 1) := by decide +kernel
theorem dX10_asks_50 : decode cX10_asks 50 = .ok (.getfield 61, 3) := by decide +kernel
theorem dX10_asks_53 : decode cX10_asks 53 = .ok (.iload_n 2, 1) := by decide +kernel
theorem dX10_asks_54 : decode cX10_asks 54 = .ok (.iconst (-1), 1) := by decide +kernel
theorem dX10_asks_55 : decode cX10_asks 55 = .ok (.iastore, 1) := by decide +kernel
theorem dX10_asks_56 : decode cX10_asks 56 = .ok (.aload_n 0, 1) := by decide +kernel
theorem dX10_asks_57 : decode cX10_asks 57 = .ok (.getfield 61, 3) := by decide +kernel
theorem dX10_asks_60 : decode cX10_asks 60 = .ok (.iload_n 2, 1) := by decide +kernel
theorem dX10_asks_61 : decode cX10_asks 61 = .ok (.aload_n 0, 1) := by decide +kernel
theorem dX10_asks_62 : decode cX10_asks 62 = .ok (.iload 6, 2) := by decide +kernel
theorem dX10_asks_64 : decode cX10_asks 64 = .ok (.iload_n 1, 1) := by decide +kernel
theorem dX10_asks_65 : decode cX10_asks 65 = .ok (.iload 4, 2) := by decide +kernel
theorem dX10_asks_67 : decode cX10_asks 67 = .ok (.iload 5, 2) := by decide +kernel
theorem dX10_asks_69 : decode cX10_asks 69 = .ok (.invokevirtual 212, 3) := by decide +kernel
theorem dX10_asks_72 : decode cX10_asks 72 = .ok (.iastore, 1) := by decide +kernel
theorem dX10_asks_73 : decode cX10_asks 73 = .ok (.aload_n 0, 1) := by decide +kernel
theorem dX10_asks_74 : decode cX10_asks 74 = .ok (.getfield 61, 3) := by decide +kernel
theorem dX10_asks_77 : decode cX10_asks 77 = .ok (.iload_n 1, 1) := by decide +kernel
theorem dX10_asks_78 : decode cX10_asks 78 = .ok (.aload_n 0, 1) := by decide +kernel
theorem dX10_asks_79 : decode cX10_asks 79 = .ok (.iload 7, 2) := by decide +kernel
theorem dX10_asks_81 : decode cX10_asks 81 = .ok (.iload_n 2, 1) := by decide +kernel
theorem dX10_asks_82 : decode cX10_asks 82 = .ok (.iload 4, 2) := by decide +kernel
theorem dX10_asks_84 : decode cX10_asks 84 = .ok (.ineg, 1) := by decide +kernel
theorem dX10_asks_85 : decode cX10_asks 85 = .ok (.iload 5, 2) := by decide +kernel
theorem dX10_asks_87 : decode cX10_asks 87 = .ok (.invokevirtual 212, 3) := by decide +kernel
theorem dX10_asks_90 : decode cX10_asks 90 = .ok (.iastore, 1) := by decide +kernel
theorem dX10_asks_91 : decode cX10_asks 91 = .ok (.aload_n 0, 1) := by decide +kernel
theorem dX10_asks_92 : decode cX10_asks 92 = .ok (.iload_n 1, 1) := by decide +kernel
theorem dX10_asks_93 : decode cX10_asks 93 = .ok (.invokevirtual 216, 3) := by decide +kernel
theorem dX10_asks_96 : decode cX10_asks 96 = .ok (.aload_n 0, 1) := by decide +kernel
theorem dX10_asks_97 : decode cX10_asks 97 = .ok (.iload_n 2, 1) := by decide +kernel
theorem dX10_asks_98 : decode cX10_asks 98 = .ok (.invokevirtual 216, 3) := by decide +kernel
theorem dX10_asks_101 : decode cX10_asks 101 = .ok (.return_, 1) := by decide +kernel
theorem dX10_puts_0 : decode cX10_puts 0 = .ok (.iconst 0, 1) := by decide +kernel
theorem dX10_puts_1 : decode cX10_puts 1 = .ok (.istore_n 1, 1) := by decide +kernel
theorem dX10_puts_2 : decode cX10_puts 2 = .ok (.iload_n 1, 1) := by decide +kernel
theorem dX10_puts_3 : decode cX10_puts 3 = .ok (.aload_n 0, 1) := by decide +kernel
theorem dX10_puts_4 : decode cX10_puts 4 = .ok (.getfield 116, 3) := by decide +kernel
theorem dX10_puts_7 : decode cX10_puts 7 = .ok (.if_icmp .ge 52, 3) := by decide +kernel
theorem dX10_puts_10 : decode cX10_puts 10 = .ok (.aload_n 0, 1) := by decide +kernel
theorem dX10_puts_11 : decode cX10_puts 11 = .ok (.getfield 22, 3) := by decide +kernel
theorem dX10_puts_14 : decode cX10_puts 14 = .ok (.iload_n 1, 1) := by decide +kernel
theorem dX10_puts_15 : decode cX10_puts 15 = .ok (.aload_n 0, 1) := by decide +kernel
theorem dX10_puts_16 : decode cX10_puts 16 = .ok (.getfield 61, 3) := by decide +kernel
theorem dX10_puts_19 : decode cX10_puts 19 = .ok (.iload_n 1, 1) := by decide +kernel
theorem dX10_puts_20 : decode cX10_puts 20 = .ok (.iaload, 1) := by decide +kernel
theorem dX10_puts_21 : decode cX10_puts 21 = .ok (.iastore, 1) := by decide +kernel
theorem dX10_puts_22 : decode cX10_puts 22 = .ok (.aload_n 0, 1) := by decide +kernel
theorem dX10_puts_23 : decode cX10_puts 23 = .ok (.getfield 25, 3) := by decide +kernel
theorem dX10_puts_26 : decode cX10_puts 26 = .ok (.iload_n 1, 1) := by decide +kernel
theorem dX10_puts_27 : decode cX10_puts 27 = .ok (.dup2, 1) := by decide +kernel
theorem dX10_puts_28 : decode cX10_puts 28 = .ok (.iaload, 1) := by decide +kernel
theorem dX10_puts_29 : decode cX10_puts 29 = .ok (.aload_n 0, 1) := by decide +kernel
theorem dX10_puts_30 : decode cX10_puts 30 = .ok (.getfield 61, 3) := by decide +kernel
theorem dX10_puts_33 : decode cX10_puts 33 = .ok (.iload_n 1, 1) := by decide +kernel
theorem dX10_puts_34 : decode cX10_puts 34 = .ok (.iaload, 1) := by decide +kernel
theorem dX10_puts_35 : decode cX10_puts 35 = .ok (.iconst (-1), 1) := by decide +kernel
theorem dX10_puts_36 : decode cX10_puts 36 = .ok (.if_icmp .ne 7, 3) := by decide +kernel
theorem dX10_puts_39 : decode cX10_puts 39 = .ok (.iconst 0, 1) := by decide +kernel
theorem dX10_puts_40 : decode cX10_puts 40 = .ok (.goto 11, 3) := by decide +kernel
theorem dX10_puts_43 : decode cX10_puts 43 = .ok (.iconst 1, 1) := by decide +kernel
theorem dX10_puts_44 : decode cX10_puts 44 = .ok (.aload_n 0, 1) := by decide +kernel
theorem dX10_puts_45 : decode cX10_puts 45 = .ok (.getfield 61, 3) := by decide +kernel
theorem dX10_puts_48 : decode cX10_puts 48 = .ok (.iload_n 1, 1) := by decide +kernel
theorem dX10_puts_49 : decode cX10_puts 49 = .ok (.iaload, 1) := by decide +kernel
theorem dX10_puts_50 : decode cX10_puts 50 = .ok (.ishl, 1) := by decide +kernel
theorem dX10_puts_51 : decode cX10_puts 51 = .ok (.ior, 1) := by decide +kernel
theorem dX10_puts_52 : decode cX10_puts 52 = .ok (.iastore, 1) := by decide +kernel
theorem dX10_puts_53 : decode cX10_puts 53 = .ok (.iinc 1 1, 3) := by decide +kernel
theorem dX10_puts_56 : decode cX10_puts 56 = .ok (.goto (-54), 3) := by decide +kernel
theorem dX10_puts_59 : decode cX10_puts 59 = .ok (.return_, 1) := by decide +kernel
theorem dX10_remembers_0 : decode cX10_remembers 0 = .ok (.aload_n 0, 1) := by decide +kernel
theorem dX10_remembers_1 : decode cX10_remembers 1 = .ok (.getfield 186, 3) := by decide +kernel
theorem dX10_remembers_4 : decode cX10_remembers 4 = .ok (.bipush 8, 2) := by decide +kernel
theorem dX10_remembers_6 : decode cX10_remembers 6 = .ok (.if_icmp .ne 85, 3) := by decide +kernel
theorem dX10_remembers_9 : decode cX10_remembers 9 = .ok (.iconst 0, 1) := by decide +kernel
theorem dX10_remembers_10 : decode cX10_remembers 10 = .ok (.istore_n 1, 1) := by decide +kernel
theorem dX10_remembers_11 : decode cX10_remembers 11 = .ok (.iload_n 1, 1) := by decide +kernel
theorem dX10_remembers_12 : decode cX10_remembers 12 = .ok (.bipush 42, 2) := by decide +kernel
theorem dX10_remembers_14 : decode cX10_remembers 14 = .ok (.if_icmp .ge 39, 3) := by decide +kernel
theorem dX10_remembers_17 : decode cX10_remembers 17 = .ok (.aload_n 0, 1) := by decide +kernel
theorem dX10_remembers_18 : decode cX10_remembers 18 = .ok (.getfield 28, 3) := by decide +kernel
theorem dX10_remembers_21 : decode cX10_remembers 21 = .ok (.iload_n 1, 1) := by decide +kernel
theorem dX10_remembers_22 : decode cX10_remembers 22 = .ok (.aload_n 0, 1) := by decide +kernel
theorem dX10_remembers_23 : decode cX10_remembers 23 = .ok (.getfield 28, 3) := by decide +kernel
theorem dX10_remembers_26 : decode cX10_remembers 26 = .ok (.iload_n 1, 1) := by decide +kernel
theorem dX10_remembers_27 : decode cX10_remembers 27 = .ok (.bipush 6, 2) := by decide +kernel
theorem dX10_remembers_29 : decode cX10_remembers 29 = .ok (.iadd, 1) := by decide +kernel
theorem dX10_remembers_30 : decode cX10_remembers 30 = .ok (.iaload, 1) := by decide +kernel
theorem dX10_remembers_31 : decode cX10_remembers 31 = .ok (.iastore, 1) := by decide +kernel
theorem dX10_remembers_32 : decode cX10_remembers 32 = .ok (.aload_n 0, 1) := by decide +kernel
theorem dX10_remembers_33 : decode cX10_remembers 33 = .ok (.getfield 31, 3) := by decide +kernel
theorem dX10_remembers_36 : decode cX10_remembers 36 = .ok (.iload_n 1, 1) := by decide +kernel
theorem dX10_remembers_37 : decode cX10_remembers 37 = .ok (.aload_n 0, 1) := by decide +kernel
theorem dX10_remembers_38 : decode cX10_remembers 38 = .ok (.getfield 31, 3) := by decide +kernel
theorem dX10_remembers_41 : decode cX10_remembers 41 = .ok (.iload_n 1, 1) := by decide +kernel
theorem dX10_remembers_42 : decode cX10_remembers 42 = .ok (.bipush 6, 2) := by decide +kernel
theorem dX10_remembers_44 : decode cX10_remembers 44 = .ok (.iadd, 1) := by decide +kernel
theorem dX10_remembers_45 : decode cX10_remembers 45 = .ok (.iaload, 1) := by decide +kernel
theorem dX10_remembers_46 : decode cX10_remembers 46 = .ok (.iastore, 1) := by decide +kernel
theorem dX10_remembers_47 : decode cX10_remembers 47 = .ok (.iinc 1 1, 3) := by decide +kernel
theorem dX10_remembers_50 : decode cX10_remembers 50 = .ok (.goto (-39), 3) := by decide +kernel
theorem dX10_remembers_53 : decode cX10_remembers 53 = .ok (.iconst 0, 1) := by decide +kernel
theorem dX10_remembers_54 : decode cX10_remembers 54 = .ok (.istore_n 1, 1) := by decide +kernel
theorem dX10_remembers_55 : decode cX10_remembers 55 = .ok (.iload_n 1, 1) := by decide +kernel
theorem dX10_remembers_56 : decode cX10_remembers 56 = .ok (.bipush 7, 2) := by decide +kernel
theorem dX10_remembers_58 : decode cX10_remembers 58 = .ok (.if_icmp .ge 23, 3) := by decide +kernel
theorem dX10_remembers_61 : decode cX10_remembers 61 = .ok (.aload_n 0, 1) := by decide +kernel
theorem dX10_remembers_62 : decode cX10_remembers 62 = .ok (.getfield 34, 3) := by decide +kernel
theorem dX10_remembers_65 : decode cX10_remembers 65 = .ok (.iload_n 1, 1) := by decide +kernel
theorem dX10_remembers_66 : decode cX10_remembers 66 = .ok (.aload_n 0, 1) := by decide +kernel
theorem dX10_remembers_67 : decode cX10_remembers 67 = .ok (.getfield 34, 3) := by decide +kernel
theorem dX10_remembers_70 : decode cX10_remembers 70 = .ok (.iload_n 1, 1) := by decide +kernel
theorem dX10_remembers_71 : decode cX10_remembers 71 = .ok (.iconst 1, 1) := by decide +kernel
theorem dX10_remembers_72 : decode cX10_remembers 72 = .ok (.iadd, 1) := by decide +kernel
theorem dX10_remembers_73 : decode cX10_remembers 73 = .ok (.iaload, 1) := by decide +kernel
theorem dX10_remembers_74 : decode cX10_remembers 74 = .ok (.iastore, 1) := by decide +kernel
theorem dX10_remembers_75 : decode cX10_remembers 75 = .ok (.iinc 1 1, 3) := by decide +kernel
theorem dX10_remembers_78 : decode cX10_remembers 78 = .ok (.goto (-23), 3) := by decide +kernel
theorem dX10_remembers_81 : decode cX10_remembers 81 = .ok (.aload_n 0, 1) := by decide +kernel
theorem dX10_remembers_82 : decode cX10_remembers 82 = .ok (.dup, 1) := by decide +kernel
theorem dX10_remembers_83 : decode cX10_remembers 83 = .ok (.getfield 186, 3) := by decide +kernel
theorem dX10_remembers_86 : decode cX10_remembers 86 = .ok (.iconst 1, 1) := by decide +kernel
theorem dX10_remembers_87 : decode cX10_remembers 87 = .ok (.isub, 1) := by decide +kernel
theorem dX10_remembers_88 : decode cX10_remembers 88 = .ok (.putfield 186, 3) := by decide +kernel
theorem dX10_remembers_91 : decode cX10_remembers 91 = .ok (.iconst 0, 1) := by decide +kernel
theorem dX10_remembers_92 : decode cX10_remembers 92 = .ok (.istore_n 1, 1) := by decide +kernel
theorem dX10_remembers_93 : decode cX10_remembers 93 = .ok (.iload_n 1, 1) := by decide +kernel
theorem dX10_remembers_94 : decode cX10_remembers 94 = .ok (.aload_n 0, 1) := by decide +kernel
theorem dX10_remembers_95 : decode cX10_remembers 95 = .ok (.getfield 116, 3) := by decide +kernel
theorem dX10_remembers_98 : decode cX10_remembers 98 = .ok (.if_icmp .ge 49, 3) := by decide +kernel
theorem dX10_remembers_101 : decode cX10_remembers 101 = .ok (.aload_n 0, 1) := by decide +kernel
theorem dX10_remembers_102 : decode cX10_remembers 102 = .ok (.getfield 28, 3) := by decide +kernel
theorem dX10_remembers_105 : decode cX10_remembers 105 = .ok (.bipush 6, 2) := by decide +kernel
theorem dX10_remembers_107 : decode cX10_remembers 107 = .ok (.aload_n 0, 1) := by decide +kernel
theorem dX10_remembers_108 : decode cX10_remembers 108 = .ok (.getfield 186, 3) := by decide +kernel
theorem dX10_remembers_111 : decode cX10_remembers 111 = .ok (.imul, 1) := by decide +kernel
theorem dX10_remembers_112 : decode cX10_remembers 112 = .ok (.iload_n 1, 1) := by decide +kernel
theorem dX10_remembers_113 : decode cX10_remembers 113 = .ok (.iadd, 1) := by decide +kernel
theorem dX10_remembers_114 : decode cX10_remembers 114 = .ok (.aload_n 0, 1) := by decide +kernel
theorem dX10_remembers_115 : decode cX10_remembers 115 = .ok (.getfield 22, 3) := by decide +kernel
theorem dX10_remembers_118 : decode cX10_remembers 118 = .ok (.iload_n 1, 1) := by decide +kernel
theorem dX10_remembers_119 : decode cX10_remembers 119 = .ok (.iaload, 1) := by decide +kernel
theorem dX10_remembers_120 : decode cX10_remembers 120 = .ok (.iastore, 1) := by decide +kernel
theorem dX10_remembers_121 : decode cX10_remembers 121 = .ok (.aload_n 0, 1) := by decide +kernel
theorem dX10_remembers_122 : decode cX10_remembers 122 = .ok (.getfield 31, 3) := by decide +kernel
theorem dX10_remembers_125 : decode cX10_remembers 125 = .ok (.bipush 6, 2) := by decide +kernel
theorem dX10_remembers_127 : decode cX10_remembers 127 = .ok (.aload_n 0, 1) := by decide +kernel
theorem dX10_remembers_128 : decode cX10_remembers 128 = .ok (.getfield 186, 3) := by decide +kernel
theorem dX10_remembers_131 : decode cX10_remembers 131 = .ok (.imul, 1) := by decide +kernel
theorem dX10_remembers_132 : decode cX10_remembers 132 = .ok (.iload_n 1, 1) := by decide +kernel
theorem dX10_remembers_133 : decode cX10_remembers 133 = .ok (.iadd, 1) := by decide +kernel
theorem dX10_remembers_134 : decode cX10_remembers 134 = .ok (.aload_n 0, 1) := by decide +kernel
theorem dX10_remembers_135 : decode cX10_remembers 135 = .ok (.getfield 25, 3) := by decide +kernel
theorem dX10_remembers_138 : decode cX10_remembers 138 = .ok (.iload_n 1, 1) := by decide +kernel
theorem dX10_remembers_139 : decode cX10_remembers 139 = .ok (.iaload, 1) := by decide +kernel
theorem dX10_remembers_140 : decode cX10_remembers 140 = .ok (.iastore, 1) := by decide +kernel
theorem dX10_remembers_141 : decode cX10_remembers 141 = .ok (.iinc 1 1, 3) := by decide +kernel
theorem dX10_remembers_144 : decode cX10_remembers 144 = .ok (.goto (-51), 3) := by decide +kernel
theorem dX10_remembers_147 : decode cX10_remembers 147 = .ok (.aload_n 0, 1) := by decide +kernel
theorem dX10_remembers_148 : decode cX10_remembers 148 = .ok (.getfield 34, 3) := by decide +kernel
theorem dX10_remembers_151 : decode cX10_remembers 151 = .ok (.aload_n 0, 1) := by decide +kernel
theorem dX10_remembers_152 : decode cX10_remembers 152 = .ok (.getfield 186, 3) := by decide +kernel
theorem dX10_remembers_155 : decode cX10_remembers 155 = .ok (.aload_n 0, 1) := by decide +kernel
theorem dX10_remembers_156 : decode cX10_remembers 156 = .ok (.getfield 183, 3) := by decide +kernel
theorem dX10_remembers_159 : decode cX10_remembers 159 = .ok (.iastore, 1) := by decide +kernel
theorem dX10_remembers_160 : decode cX10_remembers 160 = .ok (.aload_n 0, 1) := by decide +kernel
theorem dX10_remembers_161 : decode cX10_remembers 161 = .ok (.dup, 1) := by decide +kernel
theorem dX10_remembers_162 : decode cX10_remembers 162 = .ok (.getfield 186, 3) := by decide +kernel
theorem dX10_remembers_165 : decode cX10_remembers 165 = .ok (.iconst 1, 1) := by decide +kernel
theorem dX10_remembers_166 : decode cX10_remembers 166 = .ok (.iadd, 1) := by decide +kernel
theorem dX10_remembers_167 : decode cX10_remembers 167 = .ok (.putfield 186, 3) := by decide +kernel
theorem dX10_remembers_170 : decode cX10_remembers 170 = .ok (.return_, 1) := by decide +kernel
theorem dX10_ask_0 : decode cX10_ask 0 = .ok (.aload_n 0, 1) := by decide +kernel
theorem dX10_ask_1 : decode cX10_ask 1 = .ok (.iload_n 1, 1) := by decide +kernel
theorem dX10_ask_2 : decode cX10_ask 2 = .ok (.invokevirtual 192, 3) := by decide +kernel
theorem dX10_ask_5 : decode cX10_ask 5 = .ok (.ifCond .eq 11, 3) := by decide +kernel
theorem dX10_ask_8 : decode cX10_ask 8 = .ok (.aload_n 0, 1) := by decide +kernel
theorem dX10_ask_9 : decode cX10_ask 9 = .ok (.iload_n 2, 1) := by decide +kernel
theorem dX10_ask_10 : decode cX10_ask 10 = .ok (.invokevirtual 192, 3) := by decide +kernel
theorem dX10_ask_13 : decode cX10_ask 13 = .ok (.ifCond .ne 5, 3) := by decide +kernel
theorem dX10_ask_16 : decode cX10_ask 16 = .ok (.iconst (-1), 1) := by decide +kernel
theorem dX10_ask_17 : decode cX10_ask 17 = .ok (.ireturn, 1) := by decide +kernel
theorem dX10_ask_18 : decode cX10_ask 18 = .ok (.aload_n 0, 1) := by decide +kernel
theorem dX10_ask_19 : decode cX10_ask 19 = .ok (.invokevirtual 220, 3) := by decide +kernel
theorem dX10_ask_22 : decode cX10_ask 22 = .ok (.aload_n 0, 1) := by decide +kernel
theorem dX10_ask_23 : decode cX10_ask 23 = .ok (.iload_n 1, 1) := by decide +kernel
theorem dX10_ask_24 : decode cX10_ask 24 = .ok (.iload_n 2, 1) := by decide +kernel
theorem dX10_ask_25 : decode cX10_ask 25 = .ok (.invokevirtual 223, 3) := by decide +kernel
theorem dX10_ask_28 : decode cX10_ask 28 = .ok (.ifCond .ne 6, 3) := by decide +kernel
theorem dX10_ask_31 : decode cX10_ask 31 = .ok (.bipush (-2), 2) := by decide +kernel
theorem dX10_ask_33 : decode cX10_ask 33 = .ok (.ireturn, 1) := by decide +kernel
theorem dX10_ask_34 : decode cX10_ask 34 = .ok (.aload_n 0, 1) := by decide +kernel
theorem dX10_ask_35 : decode cX10_ask 35 = .ok (.invokevirtual 227, 3) := by decide +kernel
theorem dX10_ask_38 : decode cX10_ask 38 = .ok (.aload_n 0, 1) := by decide +kernel
theorem dX10_ask_39 : decode cX10_ask 39 = .ok (.iload_n 1, 1) := by decide +kernel
theorem dX10_ask_40 : decode cX10_ask 40 = .ok (.iload_n 2, 1) := by decide +kernel
theorem dX10_ask_41 : decode cX10_ask 41 = .ok (.invokevirtual 230, 3) := by decide +kernel
theorem dX10_ask_44 : decode cX10_ask 44 = .ok (.aload_n 0, 1) := by decide +kernel
theorem dX10_ask_45 : decode cX10_ask 45 = .ok (.invokevirtual 234, 3) := by decide +kernel
theorem dX10_ask_48 : decode cX10_ask 48 = .ok (.aload_n 0, 1) := by decide +kernel
theorem dX10_ask_49 : decode cX10_ask 49 = .ok (.dup, 1) := by decide +kernel
theorem dX10_ask_50 : decode cX10_ask 50 = .ok (.getfield 183, 3) := by decide +kernel
theorem dX10_ask_53 : decode cX10_ask 53 = .ok (.aload_n 0, 1) := by decide +kernel
theorem dX10_ask_54 : decode cX10_ask 54 = .ok (.iload_n 1, 1) := by decide +kernel
theorem dX10_ask_55 : decode cX10_ask 55 = .ok (.iload_n 2, 1) := by decide +kernel
theorem dX10_ask_56 : decode cX10_ask 56 = .ok (.invokevirtual 206, 3) := by decide +kernel
theorem dX10_ask_59 : decode cX10_ask 59 = .ok (.iadd, 1) := by decide +kernel
theorem dX10_ask_60 : decode cX10_ask 60 = .ok (.putfield 183, 3) := by decide +kernel
theorem dX10_ask_63 : decode cX10_ask 63 = .ok (.aload_n 0, 1) := by decide +kernel
theorem dX10_ask_64 : decode cX10_ask 64 = .ok (.getfield 22, 3) := by decide +kernel
theorem dX10_ask_67 : decode cX10_ask 67 = .ok (.iload_n 1, 1) := by decide +kernel
theorem dX10_ask_68 : decode cX10_ask 68 = .ok (.iaload, 1) := by decide +kernel
theorem dX10_ask_69 : decode cX10_ask 69 = .ok (.iconst (-1), 1) := by decide +kernel
theorem dX10_ask_70 : decode cX10_ask 70 = .ok (.if_icmp .ne 8, 3) := by decide +kernel
theorem dX10_ask_73 : decode cX10_ask 73 = .ok (.bipush (-4), 2) := by decide +kernel
theorem dX10_ask_75 : decode cX10_ask 75 = .ok (.goto 9, 3) := by decide +kernel
theorem dX10_ask_78 : decode cX10_ask 78 = .ok (.aload_n 0, 1) := by decide +kernel
theorem dX10_ask_79 : decode cX10_ask 79 = .ok (.getfield 22, 3) := by decide +kernel
theorem dX10_ask_82 : decode cX10_ask 82 = .ok (.iload_n 1, 1) := by decide +kernel
theorem dX10_ask_83 : decode cX10_ask 83 = .ok (.iaload, 1) := by decide +kernel
theorem dX10_ask_84 : decode cX10_ask 84 = .ok (.ireturn, 1) := by decide +kernel
theorem dX10_undo_0 : decode cX10_undo 0 = .ok (.aload_n 0, 1) := by decide +kernel
theorem dX10_undo_1 : decode cX10_undo 1 = .ok (.getfield 186, 3) := by decide +kernel
theorem dX10_undo_4 : decode cX10_undo 4 = .ok (.ifCond .ne 6, 3) := by decide +kernel
theorem dX10_undo_7 : decode cX10_undo 7 = .ok (.bipush (-2), 2) := by decide +kernel
theorem dX10_undo_9 : decode cX10_undo 9 = .ok (.ireturn, 1) := by decide +kernel
theorem dX10_undo_10 : decode cX10_undo 10 = .ok (.aload_n 0, 1) := by decide +kernel
theorem dX10_undo_11 : decode cX10_undo 11 = .ok (.dup, 1) := by decide +kernel
theorem dX10_undo_12 : decode cX10_undo 12 = .ok (.getfield 186, 3) := by decide +kernel
theorem dX10_undo_15 : decode cX10_undo 15 = .ok (.iconst 1, 1) := by decide +kernel
theorem dX10_undo_16 : decode cX10_undo 16 = .ok (.isub, 1) := by decide +kernel
theorem dX10_undo_17 : decode cX10_undo 17 = .ok (.putfield 186, 3) := by decide +kernel
theorem dX10_undo_20 : decode cX10_undo 20 = .ok (.iconst 0, 1) := by decide +kernel
theorem dX10_undo_21 : decode cX10_undo 21 = .ok (.istore_n 1, 1) := by decide +kernel
theorem dX10_undo_22 : decode cX10_undo 22 = .ok (.iload_n 1, 1) := by decide +kernel
theorem dX10_undo_23 : decode cX10_undo 23 = .ok (.aload_n 0, 1) := by decide +kernel
theorem dX10_undo_24 : decode cX10_undo 24 = .ok (.getfield 116, 3) := by decide +kernel
theorem dX10_undo_27 : decode cX10_undo 27 = .ok (.if_icmp .ge 49, 3) := by decide +kernel
theorem dX10_undo_30 : decode cX10_undo 30 = .ok (.aload_n 0, 1) := by decide +kernel
theorem dX10_undo_31 : decode cX10_undo 31 = .ok (.getfield 22, 3) := by decide +kernel
theorem dX10_undo_34 : decode cX10_undo 34 = .ok (.iload_n 1, 1) := by decide +kernel
theorem dX10_undo_35 : decode cX10_undo 35 = .ok (.aload_n 0, 1) := by decide +kernel
theorem dX10_undo_36 : decode cX10_undo 36 = .ok (.getfield 28, 3) := by decide +kernel
theorem dX10_undo_39 : decode cX10_undo 39 = .ok (.bipush 6, 2) := by decide +kernel
theorem dX10_undo_41 : decode cX10_undo 41 = .ok (.aload_n 0, 1) := by decide +kernel
theorem dX10_undo_42 : decode cX10_undo 42 = .ok (.getfield 186, 3) := by decide +kernel
theorem dX10_undo_45 : decode cX10_undo 45 = .ok (.imul, 1) := by decide +kernel
theorem dX10_undo_46 : decode cX10_undo 46 = .ok (.iload_n 1, 1) := by decide +kernel
theorem dX10_undo_47 : decode cX10_undo 47 = .ok (.iadd, 1) := by decide +kernel
theorem dX10_undo_48 : decode cX10_undo 48 = .ok (.iaload, 1) := by decide +kernel
theorem dX10_undo_49 : decode cX10_undo 49 = .ok (.iastore, 1) := by decide +kernel
theorem dX10_undo_50 : decode cX10_undo 50 = .ok (.aload_n 0, 1) := by decide +kernel
theorem dX10_undo_51 : decode cX10_undo 51 = .ok (.getfield 25, 3) := by decide +kernel
theorem dX10_undo_54 : decode cX10_undo 54 = .ok (.iload_n 1, 1) := by decide +kernel
theorem dX10_undo_55 : decode cX10_undo 55 = .ok (.aload_n 0, 1) := by decide +kernel
theorem dX10_undo_56 : decode cX10_undo 56 = .ok (.getfield 31, 3) := by decide +kernel
theorem dX10_undo_59 : decode cX10_undo 59 = .ok (.bipush 6, 2) := by decide +kernel
theorem dX10_undo_61 : decode cX10_undo 61 = .ok (.aload_n 0, 1) := by decide +kernel
theorem dX10_undo_62 : decode cX10_undo 62 = .ok (.getfield 186, 3) := by decide +kernel
theorem dX10_undo_65 : decode cX10_undo 65 = .ok (.imul, 1) := by decide +kernel
theorem dX10_undo_66 : decode cX10_undo 66 = .ok (.iload_n 1, 1) := by decide +kernel
theorem dX10_undo_67 : decode cX10_undo 67 = .ok (.iadd, 1) := by decide +kernel
theorem dX10_undo_68 : decode cX10_undo 68 = .ok (.iaload, 1) := by decide +kernel
theorem dX10_undo_69 : decode cX10_undo 69 = .ok (.iastore, 1) := by decide +kernel
theorem dX10_undo_70 : decode cX10_undo 70 = .ok (.iinc 1 1, 3) := by decide +kernel
theorem dX10_undo_73 : decode cX10_undo 73 = .ok (.goto (-51), 3) := by decide +kernel
theorem dX10_undo_76 : decode cX10_undo 76 = .ok (.aload_n 0, 1) := by decide +kernel
theorem dX10_undo_77 : decode cX10_undo 77 = .ok (.aload_n 0, 1) := by decide +kernel
theorem dX10_undo_78 : decode cX10_undo 78 = .ok (.getfield 34, 3) := by decide +kernel
theorem dX10_undo_81 : decode cX10_undo 81 = .ok (.aload_n 0, 1) := by decide +kernel
theorem dX10_undo_82 : decode cX10_undo 82 = .ok (.getfield 186, 3) := by decide +kernel
theorem dX10_undo_85 : decode cX10_undo 85 = .ok (.iaload, 1) := by decide +kernel
theorem dX10_undo_86 : decode cX10_undo 86 = .ok (.putfield 183, 3) := by decide +kernel
theorem dX10_undo_89 : decode cX10_undo 89 = .ok (.aload_n 0, 1) := by decide +kernel
theorem dX10_undo_90 : decode cX10_undo 90 = .ok (.getfield 186, 3) := by decide +kernel
theorem dX10_undo_93 : decode cX10_undo 93 = .ok (.ireturn, 1) := by decide +kernel
theorem dX10_evening_0 : decode cX10_evening 0 = .ok (.iconst 0, 1) := by decide +kernel
theorem dX10_evening_1 : decode cX10_evening 1 = .ok (.istore_n 1, 1) := by decide +kernel
theorem dX10_evening_2 : decode cX10_evening 2 = .ok (.iconst 0, 1) := by decide +kernel
theorem dX10_evening_3 : decode cX10_evening 3 = .ok (.istore_n 2, 1) := by decide +kernel
theorem dX10_evening_4 : decode cX10_evening 4 = .ok (.iload_n 2, 1) := by decide +kernel
theorem dX10_evening_5 : decode cX10_evening 5 = .ok (.aload_n 0, 1) := by decide +kernel
theorem dX10_evening_6 : decode cX10_evening 6 = .ok (.getfield 116, 3) := by decide +kernel
theorem dX10_evening_9 : decode cX10_evening 9 = .ok (.if_icmp .ge 27, 3) := by decide +kernel
theorem dX10_evening_12 : decode cX10_evening 12 = .ok (.iload_n 1, 1) := by decide +kernel
theorem dX10_evening_13 : decode cX10_evening 13 = .ok (.aload_n 0, 1) := by decide +kernel
theorem dX10_evening_14 : decode cX10_evening 14 = .ok (.iload_n 2, 1) := by decide +kernel
theorem dX10_evening_15 : decode cX10_evening 15 = .ok (.aload_n 0, 1) := by decide +kernel
theorem dX10_evening_16 : decode cX10_evening 16 = .ok (.getfield 22, 3) := by decide +kernel
theorem dX10_evening_19 : decode cX10_evening 19 = .ok (.iload_n 2, 1) := by decide +kernel
theorem dX10_evening_20 : decode cX10_evening 20 = .ok (.iaload, 1) := by decide +kernel
theorem dX10_evening_21 : decode cX10_evening 21 = .ok (.aload_n 0, 1) := by decide +kernel
theorem dX10_evening_22 : decode cX10_evening 22 = .ok (.getfield 183, 3) := by decide +kernel
theorem dX10_evening_25 : decode cX10_evening 25 = .ok (.invokevirtual 198, 3) := by decide +kernel
theorem dX10_evening_28 : decode cX10_evening 28 = .ok (.iadd, 1) := by decide +kernel
theorem dX10_evening_29 : decode cX10_evening 29 = .ok (.istore_n 1, 1) := by decide +kernel
theorem dX10_evening_30 : decode cX10_evening 30 = .ok (.iinc 2 1, 3) := by decide +kernel
theorem dX10_evening_33 : decode cX10_evening 33 = .ok (.goto (-29), 3) := by decide +kernel
theorem dX10_evening_36 : decode cX10_evening 36 = .ok (.iload_n 1, 1) := by decide +kernel
theorem dX10_evening_37 : decode cX10_evening 37 = .ok (.ireturn, 1) := by decide +kernel
theorem dX10_power_0 : decode cX10_power 0 = .ok (.iconst 1, 1) := by decide +kernel
theorem dX10_power_1 : decode cX10_power 1 = .ok (.istore_n 1, 1) := by decide +kernel
theorem dX10_power_2 : decode cX10_power 2 = .ok (.iconst 0, 1) := by decide +kernel
theorem dX10_power_3 : decode cX10_power 3 = .ok (.istore_n 2, 1) := by decide +kernel
theorem dX10_power_4 : decode cX10_power 4 = .ok (.iload_n 2, 1) := by decide +kernel
theorem dX10_power_5 : decode cX10_power 5 = .ok (.iload_n 0, 1) := by decide +kernel
theorem dX10_power_6 : decode cX10_power 6 = .ok (.if_icmp .ge 14, 3) := by decide +kernel
theorem dX10_power_9 : decode cX10_power 9 = .ok (.iload_n 1, 1) := by decide +kernel
theorem dX10_power_10 : decode cX10_power 10 = .ok (.bipush 6, 2) := by decide +kernel
theorem dX10_power_12 : decode cX10_power 12 = .ok (.imul, 1) := by decide +kernel
theorem dX10_power_13 : decode cX10_power 13 = .ok (.istore_n 1, 1) := by decide +kernel
theorem dX10_power_14 : decode cX10_power 14 = .ok (.iinc 2 1, 3) := by decide +kernel
theorem dX10_power_17 : decode cX10_power 17 = .ok (.goto (-13), 3) := by decide +kernel
theorem dX10_power_20 : decode cX10_power 20 = .ok (.iload_n 1, 1) := by decide +kernel
theorem dX10_power_21 : decode cX10_power 21 = .ok (.ireturn, 1) := by decide +kernel
theorem dX10_codeNow_0 : decode cX10_codeNow 0 = .ok (.iconst 0, 1) := by decide +kernel
theorem dX10_codeNow_1 : decode cX10_codeNow 1 = .ok (.istore_n 1, 1) := by decide +kernel
theorem dX10_codeNow_2 : decode cX10_codeNow 2 = .ok (.iconst 0, 1) := by decide +kernel
theorem dX10_codeNow_3 : decode cX10_codeNow 3 = .ok (.istore_n 2, 1) := by decide +kernel
theorem dX10_codeNow_4 : decode cX10_codeNow 4 = .ok (.iload_n 2, 1) := by decide +kernel
theorem dX10_codeNow_5 : decode cX10_codeNow 5 = .ok (.aload_n 0, 1) := by decide +kernel
theorem dX10_codeNow_6 : decode cX10_codeNow 6 = .ok (.getfield 116, 3) := by decide +kernel
theorem dX10_codeNow_9 : decode cX10_codeNow 9 = .ok (.if_icmp .ge 37, 3) := by decide +kernel
theorem dX10_codeNow_12 : decode cX10_codeNow 12 = .ok (.iload_n 1, 1) := by decide +kernel
theorem dX10_codeNow_13 : decode cX10_codeNow 13 = .ok (.aload_n 0, 1) := by decide +kernel
theorem dX10_codeNow_14 : decode cX10_codeNow 14 = .ok (.getfield 61, 3) := by decide +kernel
theorem dX10_codeNow_17 : decode cX10_codeNow 17 = .ok (.iload_n 2, 1) := by decide +kernel
theorem dX10_codeNow_18 : decode cX10_codeNow 18 = .ok (.iaload, 1) := by decide +kernel
theorem dX10_codeNow_19 : decode cX10_codeNow 19 = .ok (.iconst (-1), 1) := by decide +kernel
theorem dX10_codeNow_20 : decode cX10_codeNow 20 = .ok (.if_icmp .ne 7, 3) := by decide +kernel
theorem dX10_codeNow_23 : decode cX10_codeNow 23 = .ok (.iconst 0, 1) := by decide +kernel
theorem dX10_codeNow_24 : decode cX10_codeNow 24 = .ok (.goto 14, 3) := by decide +kernel
theorem dX10_codeNow_27 : decode cX10_codeNow 27 = .ok (.iload_n 2, 1) := by decide +kernel
theorem dX10_codeNow_28 : decode cX10_codeNow 28 = .ok (.aload_n 0, 1) := by decide +kernel
theorem dX10_codeNow_29 : decode cX10_codeNow 29 = .ok (.getfield 61, 3) := by decide +kernel
theorem dX10_codeNow_32 : decode cX10_codeNow 32 = .ok (.iload_n 2, 1) := by decide +kernel
theorem dX10_codeNow_33 : decode cX10_codeNow 33 = .ok (.iaload, 1) := by decide +kernel
theorem dX10_codeNow_34 : decode cX10_codeNow 34 = .ok (.invokestatic 237, 3) := by decide +kernel
theorem dX10_codeNow_37 : decode cX10_codeNow 37 = .ok (.imul, 1) := by decide +kernel
theorem dX10_codeNow_38 : decode cX10_codeNow 38 = .ok (.iadd, 1) := by decide +kernel
theorem dX10_codeNow_39 : decode cX10_codeNow 39 = .ok (.istore_n 1, 1) := by decide +kernel
theorem dX10_codeNow_40 : decode cX10_codeNow 40 = .ok (.iinc 2 1, 3) := by decide +kernel
theorem dX10_codeNow_43 : decode cX10_codeNow 43 = .ok (.goto (-39), 3) := by decide +kernel
theorem dX10_codeNow_46 : decode cX10_codeNow 46 = .ok (.iload_n 1, 1) := by decide +kernel
theorem dX10_codeNow_47 : decode cX10_codeNow 47 = .ok (.ireturn, 1) := by decide +kernel
theorem dX10_seatIn_0 : decode cX10_seatIn 0 = .ok (.aload_n 0, 1) := by decide +kernel
theorem dX10_seatIn_1 : decode cX10_seatIn 1 = .ok (.getfield 241, 3) := by decide +kernel
theorem dX10_seatIn_4 : decode cX10_seatIn 4 = .ok (.iload_n 2, 1) := by decide +kernel
theorem dX10_seatIn_5 : decode cX10_seatIn 5 = .ok (.ishr, 1) := by decide +kernel
theorem dX10_seatIn_6 : decode cX10_seatIn 6 = .ok (.iconst 1, 1) := by decide +kernel
theorem dX10_seatIn_7 : decode cX10_seatIn 7 = .ok (.iand, 1) := by decide +kernel
theorem dX10_seatIn_8 : decode cX10_seatIn 8 = .ok (.ifCond .ne 7, 3) := by decide +kernel
theorem dX10_seatIn_11 : decode cX10_seatIn 11 = .ok (.iconst (-1), 1) := by decide +kernel
theorem dX10_seatIn_12 : decode cX10_seatIn 12 = .ok (.goto 12, 3) := by decide +kernel
theorem dX10_seatIn_15 : decode cX10_seatIn 15 = .ok (.iload_n 1, 1) := by decide +kernel
theorem dX10_seatIn_16 : decode cX10_seatIn 16 = .ok (.iload_n 2, 1) := by decide +kernel
theorem dX10_seatIn_17 : decode cX10_seatIn 17 = .ok (.invokestatic 237, 3) := by decide +kernel
theorem dX10_seatIn_20 : decode cX10_seatIn 20 = .ok (.idiv, 1) := by decide +kernel
theorem dX10_seatIn_21 : decode cX10_seatIn 21 = .ok (.bipush 6, 2) := by decide +kernel
theorem dX10_seatIn_23 : decode cX10_seatIn 23 = .ok (.irem, 1) := by decide +kernel
theorem dX10_seatIn_24 : decode cX10_seatIn 24 = .ok (.ireturn, 1) := by decide +kernel
theorem dX10_loads_0 : decode cX10_loads 0 = .ok (.iconst 0, 1) := by decide +kernel
theorem dX10_loads_1 : decode cX10_loads 1 = .ok (.istore_n 2, 1) := by decide +kernel
theorem dX10_loads_2 : decode cX10_loads 2 = .ok (.iload_n 2, 1) := by decide +kernel
theorem dX10_loads_3 : decode cX10_loads 3 = .ok (.aload_n 0, 1) := by decide +kernel
theorem dX10_loads_4 : decode cX10_loads 4 = .ok (.getfield 116, 3) := by decide +kernel
theorem dX10_loads_7 : decode cX10_loads 7 = .ok (.if_icmp .ge 16, 3) := by decide +kernel
theorem dX10_loads_10 : decode cX10_loads 10 = .ok (.aload_n 0, 1) := by decide +kernel
theorem dX10_loads_11 : decode cX10_loads 11 = .ok (.getfield 61, 3) := by decide +kernel
theorem dX10_loads_14 : decode cX10_loads 14 = .ok (.iload_n 2, 1) := by decide +kernel
theorem dX10_loads_15 : decode cX10_loads 15 = .ok (.iconst (-1), 1) := by decide +kernel
theorem dX10_loads_16 : decode cX10_loads 16 = .ok (.iastore, 1) := by decide +kernel
theorem dX10_loads_17 : decode cX10_loads 17 = .ok (.iinc 2 1, 3) := by decide +kernel
theorem dX10_loads_20 : decode cX10_loads 20 = .ok (.goto (-18), 3) := by decide +kernel
theorem dX10_loads_23 : decode cX10_loads 23 = .ok (.iconst 0, 1) := by decide +kernel
theorem dX10_loads_24 : decode cX10_loads 24 = .ok (.istore_n 2, 1) := by decide +kernel
theorem dX10_loads_25 : decode cX10_loads 25 = .ok (.iload_n 2, 1) := by decide +kernel
theorem dX10_loads_26 : decode cX10_loads 26 = .ok (.bipush 6, 2) := by decide +kernel
theorem dX10_loads_28 : decode cX10_loads 28 = .ok (.if_icmp .ge 33, 3) := by decide +kernel
theorem dX10_loads_31 : decode cX10_loads 31 = .ok (.aload_n 0, 1) := by decide +kernel
theorem dX10_loads_32 : decode cX10_loads 32 = .ok (.getfield 241, 3) := by decide +kernel
theorem dX10_loads_35 : decode cX10_loads 35 = .ok (.iload_n 2, 1) := by decide +kernel
theorem dX10_loads_36 : decode cX10_loads 36 = .ok (.ishr, 1) := by decide +kernel
theorem dX10_loads_37 : decode cX10_loads 37 = .ok (.iconst 1, 1) := by decide +kernel
theorem dX10_loads_38 : decode cX10_loads 38 = .ok (.iand, 1) := by decide +kernel
theorem dX10_loads_39 : decode cX10_loads 39 = .ok (.iconst 1, 1) := by decide +kernel
theorem dX10_loads_40 : decode cX10_loads 40 = .ok (.if_icmp .ne 15, 3) := by decide +kernel
theorem dX10_loads_43 : decode cX10_loads 43 = .ok (.aload_n 0, 1) := by decide +kernel
theorem dX10_loads_44 : decode cX10_loads 44 = .ok (.getfield 61, 3) := by decide +kernel
theorem dX10_loads_47 : decode cX10_loads 47 = .ok (.aload_n 0, 1) := by decide +kernel
theorem dX10_loads_48 : decode cX10_loads 48 = .ok (.iload_n 1, 1) := by decide +kernel
theorem dX10_loads_49 : decode cX10_loads 49 = .ok (.iload_n 2, 1) := by decide +kernel
theorem dX10_loads_50 : decode cX10_loads 50 = .ok (.invokevirtual 244, 3) := by decide +kernel
theorem dX10_loads_53 : decode cX10_loads 53 = .ok (.iload_n 2, 1) := by decide +kernel
theorem dX10_loads_54 : decode cX10_loads 54 = .ok (.iastore, 1) := by decide +kernel
theorem dX10_loads_55 : decode cX10_loads 55 = .ok (.iinc 2 1, 3) := by decide +kernel
theorem dX10_loads_58 : decode cX10_loads 58 = .ok (.goto (-33), 3) := by decide +kernel
theorem dX10_loads_61 : decode cX10_loads 61 = .ok (.return_, 1) := by decide +kernel
theorem dX10_indexOf_0 : decode cX10_indexOf 0 = .ok (.aload_n 0, 1) := by decide +kernel
theorem dX10_indexOf_1 : decode cX10_indexOf 1 = .ok (.getfield 74, 3) := by decide +kernel
theorem dX10_indexOf_4 : decode cX10_indexOf 4 = .ok (.iload_n 1, 1) := by decide +kernel
theorem dX10_indexOf_5 : decode cX10_indexOf 5 = .ok (.iaload, 1) := by decide +kernel
theorem dX10_indexOf_6 : decode cX10_indexOf 6 = .ok (.sipush 1024, 3) := by decide +kernel
theorem dX10_indexOf_9 : decode cX10_indexOf 9 = .ok (.idiv, 1) := by decide +kernel
theorem dX10_indexOf_10 : decode cX10_indexOf 10 = .ok (.aload_n 0, 1) := by decide +kernel
theorem dX10_indexOf_11 : decode cX10_indexOf 11 = .ok (.getfield 247, 3) := by decide +kernel
theorem dX10_indexOf_14 : decode cX10_indexOf 14 = .ok (.if_icmp .ne 16, 3) := by decide +kernel
theorem dX10_indexOf_17 : decode cX10_indexOf 17 = .ok (.aload_n 0, 1) := by decide +kernel
theorem dX10_indexOf_18 : decode cX10_indexOf 18 = .ok (.getfield 74, 3) := by decide +kernel
theorem dX10_indexOf_21 : decode cX10_indexOf 21 = .ok (.iload_n 1, 1) := by decide +kernel
theorem dX10_indexOf_22 : decode cX10_indexOf 22 = .ok (.iaload, 1) := by decide +kernel
theorem dX10_indexOf_23 : decode cX10_indexOf 23 = .ok (.sipush 1024, 3) := by decide +kernel
theorem dX10_indexOf_26 : decode cX10_indexOf 26 = .ok (.irem, 1) := by decide +kernel
theorem dX10_indexOf_27 : decode cX10_indexOf 27 = .ok (.goto 4, 3) := by decide +kernel
theorem dX10_indexOf_30 : decode cX10_indexOf 30 = .ok (.iconst (-1), 1) := by decide +kernel
theorem dX10_indexOf_31 : decode cX10_indexOf 31 = .ok (.ireturn, 1) := by decide +kernel
theorem dX10_adds_0 : decode cX10_adds 0 = .ok (.aload_n 0, 1) := by decide +kernel
theorem dX10_adds_1 : decode cX10_adds 1 = .ok (.getfield 74, 3) := by decide +kernel
theorem dX10_adds_4 : decode cX10_adds 4 = .ok (.iload_n 1, 1) := by decide +kernel
theorem dX10_adds_5 : decode cX10_adds 5 = .ok (.sipush 1024, 3) := by decide +kernel
theorem dX10_adds_8 : decode cX10_adds 8 = .ok (.aload_n 0, 1) := by decide +kernel
theorem dX10_adds_9 : decode cX10_adds 9 = .ok (.getfield 247, 3) := by decide +kernel
theorem dX10_adds_12 : decode cX10_adds 12 = .ok (.imul, 1) := by decide +kernel
theorem dX10_adds_13 : decode cX10_adds 13 = .ok (.aload_n 0, 1) := by decide +kernel
theorem dX10_adds_14 : decode cX10_adds 14 = .ok (.getfield 250, 3) := by decide +kernel
theorem dX10_adds_17 : decode cX10_adds 17 = .ok (.iadd, 1) := by decide +kernel
theorem dX10_adds_18 : decode cX10_adds 18 = .ok (.iastore, 1) := by decide +kernel
theorem dX10_adds_19 : decode cX10_adds 19 = .ok (.aload_n 0, 1) := by decide +kernel
theorem dX10_adds_20 : decode cX10_adds 20 = .ok (.getfield 77, 3) := by decide +kernel
theorem dX10_adds_23 : decode cX10_adds 23 = .ok (.aload_n 0, 1) := by decide +kernel
theorem dX10_adds_24 : decode cX10_adds 24 = .ok (.getfield 250, 3) := by decide +kernel
theorem dX10_adds_27 : decode cX10_adds 27 = .ok (.iload_n 1, 1) := by decide +kernel
theorem dX10_adds_28 : decode cX10_adds 28 = .ok (.iastore, 1) := by decide +kernel
theorem dX10_adds_29 : decode cX10_adds 29 = .ok (.aload_n 0, 1) := by decide +kernel
theorem dX10_adds_30 : decode cX10_adds 30 = .ok (.getfield 80, 3) := by decide +kernel
theorem dX10_adds_33 : decode cX10_adds 33 = .ok (.aload_n 0, 1) := by decide +kernel
theorem dX10_adds_34 : decode cX10_adds 34 = .ok (.getfield 250, 3) := by decide +kernel
theorem dX10_adds_37 : decode cX10_adds 37 = .ok (.iload_n 2, 1) := by decide +kernel
theorem dX10_adds_38 : decode cX10_adds 38 = .ok (.iastore, 1) := by decide +kernel
theorem dX10_adds_39 : decode cX10_adds 39 = .ok (.aload_n 0, 1) := by decide +kernel
theorem dX10_adds_40 : decode cX10_adds 40 = .ok (.getfield 83, 3) := by decide +kernel
theorem dX10_adds_43 : decode cX10_adds 43 = .ok (.aload_n 0, 1) := by decide +kernel
theorem dX10_adds_44 : decode cX10_adds 44 = .ok (.getfield 250, 3) := by decide +kernel
theorem dX10_adds_47 : decode cX10_adds 47 = .ok (.iload_n 3, 1) := by decide +kernel
theorem dX10_adds_48 : decode cX10_adds 48 = .ok (.iastore, 1) := by decide +kernel
theorem dX10_adds_49 : decode cX10_adds 49 = .ok (.aload_n 0, 1) := by decide +kernel
theorem dX10_adds_50 : decode cX10_adds 50 = .ok (.dup, 1) := by decide +kernel
theorem dX10_adds_51 : decode cX10_adds 51 = .ok (.getfield 250, 3) := by decide +kernel
theorem dX10_adds_54 : decode cX10_adds 54 = .ok (.iconst 1, 1) := by decide +kernel
theorem dX10_adds_55 : decode cX10_adds 55 = .ok (.iadd, 1) := by decide +kernel
theorem dX10_adds_56 : decode cX10_adds 56 = .ok (.putfield 250, 3) := by decide +kernel
theorem dX10_adds_59 : decode cX10_adds 59 = .ok (.return_, 1) := by decide +kernel
theorem dX10_beginsList_0 : decode cX10_beginsList 0 = .ok (.aload_n 0, 1) := by decide +kernel
theorem dX10_beginsList_1 : decode cX10_beginsList 1 = .ok (.dup, 1) := by decide +kernel
theorem dX10_beginsList_2 : decode cX10_beginsList 2 = .ok (.getfield 247, 3) := by decide +kernel
theorem dX10_beginsList_5 : decode cX10_beginsList 5 = .ok (.iconst 1, 1) := by decide +kernel
theorem dX10_beginsList_6 : decode cX10_beginsList 6 = .ok (.iadd, 1) := by decide +kernel
theorem dX10_beginsList_7 : decode cX10_beginsList 7 = .ok (.putfield 247, 3) := by decide +kernel
theorem dX10_beginsList_10 : decode cX10_beginsList 10 = .ok (.aload_n 0, 1) := by decide +kernel
theorem dX10_beginsList_11 : decode cX10_beginsList 11 = .ok (.iconst 0, 1) := by decide +kernel
theorem dX10_beginsList_12 : decode cX10_beginsList 12 = .ok (.putfield 250, 3) := by decide +kernel
theorem dX10_beginsList_15 : decode cX10_beginsList 15 = .ok (.aload_n 0, 1) := by decide +kernel
theorem dX10_beginsList_16 : decode cX10_beginsList 16 = .ok (.iconst 0, 1) := by decide +kernel
theorem dX10_beginsList_17 : decode cX10_beginsList 17 = .ok (.putfield 241, 3) := by decide +kernel
theorem dX10_beginsList_20 : decode cX10_beginsList 20 = .ok (.iconst 0, 1) := by decide +kernel
theorem dX10_beginsList_21 : decode cX10_beginsList 21 = .ok (.istore_n 1, 1) := by decide +kernel
theorem dX10_beginsList_22 : decode cX10_beginsList 22 = .ok (.iload_n 1, 1) := by decide +kernel
theorem dX10_beginsList_23 : decode cX10_beginsList 23 = .ok (.aload_n 0, 1) := by decide +kernel
theorem dX10_beginsList_24 : decode cX10_beginsList 24 = .ok (.getfield 116, 3) := by decide +kernel
theorem dX10_beginsList_27 : decode cX10_beginsList 27 = .ok (.if_icmp .ge 40, 3) := by decide +kernel
theorem dX10_beginsList_30 : decode cX10_beginsList 30 = .ok (.aload_n 0, 1) := by decide +kernel
theorem dX10_beginsList_31 : decode cX10_beginsList 31 = .ok (.dup, 1) := by decide +kernel
theorem dX10_beginsList_32 : decode cX10_beginsList 32 = .ok (.getfield 241, 3) := by decide +kernel
theorem dX10_beginsList_35 : decode cX10_beginsList 35 = .ok (.aload_n 0, 1) := by decide +kernel
theorem dX10_beginsList_36 : decode cX10_beginsList 36 = .ok (.getfield 61, 3) := by decide +kernel
theorem dX10_beginsList_39 : decode cX10_beginsList 39 = .ok (.iload_n 1, 1) := by decide +kernel
theorem dX10_beginsList_40 : decode cX10_beginsList 40 = .ok (.iaload, 1) := by decide +kernel
theorem dX10_beginsList_41 : decode cX10_beginsList 41 = .ok (.iconst (-1), 1) := by decide +kernel
theorem dX10_beginsList_42 : decode cX10_beginsList 42 = .ok (.if_icmp .ne 7, 3) := by decide +kernel
theorem dX10_beginsList_45 : decode cX10_beginsList 45 = .ok (.iconst 0, 1) := by decide +kernel
theorem dX10_beginsList_46 : decode cX10_beginsList 46 = .ok (.goto 11, 3) := by decide +kernel
theorem dX10_beginsList_49 : decode cX10_beginsList 49 = .ok (.iconst 1, 1) := by decide +kernel
theorem dX10_beginsList_50 : decode cX10_beginsList 50 = .ok (.aload_n 0, 1) := by decide +kernel
theorem dX10_beginsList_51 : decode cX10_beginsList 51 = .ok (.getfield 61, 3) := by decide +kernel
theorem dX10_beginsList_54 : decode cX10_beginsList 54 = .ok (.iload_n 1, 1) := by decide +kernel
theorem dX10_beginsList_55 : decode cX10_beginsList 55 = .ok (.iaload, 1) := by decide +kernel
theorem dX10_beginsList_56 : decode cX10_beginsList 56 = .ok (.ishl, 1) := by decide +kernel
theorem dX10_beginsList_57 : decode cX10_beginsList 57 = .ok (.ior, 1) := by decide +kernel
theorem dX10_beginsList_58 : decode cX10_beginsList 58 = .ok (.putfield 241, 3) := by decide +kernel
