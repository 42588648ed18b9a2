theorem dX8_init_0 : decode cX8_init 0 = .ok (.aload_n 0, 1) := by decide +kernel
theorem dX8_init_1 : decode cX8_init 1 = .ok (.invokespecial 1, 3) := by decide +kernel
theorem dX8_init_4 : decode cX8_init 4 = .ok (.aload_n 0, 1) := by decide +kernel
theorem dX8_init_5 : decode cX8_init 5 = .ok (.sipush 135, 3) := by decide +kernel
theorem dX8_init_8 : decode cX8_init 8 = .ok (.newarray .int, 2) := by decide +kernel
theorem dX8_init_10 : decode cX8_init 10 = .ok (.putfield 7, 3) := by decide +kernel
theorem dX8_init_13 : decode cX8_init 13 = .ok (.aload_n 0, 1) := by decide +kernel
theorem dX8_init_14 : decode cX8_init 14 = .ok (.sipush 1080, 3) := by decide +kernel
theorem dX8_init_17 : decode cX8_init 17 = .ok (.newarray .int, 2) := by decide +kernel
theorem dX8_init_19 : decode cX8_init 19 = .ok (.putfield 13, 3) := by decide +kernel
theorem dX8_init_22 : decode cX8_init 22 = .ok (.aload_n 0, 1) := by decide +kernel
theorem dX8_init_23 : decode cX8_init 23 = .ok (.bipush 40, 2) := by decide +kernel
theorem dX8_init_25 : decode cX8_init 25 = .ok (.newarray .int, 2) := by decide +kernel
theorem dX8_init_27 : decode cX8_init 27 = .ok (.putfield 16, 3) := by decide +kernel
theorem dX8_init_30 : decode cX8_init 30 = .ok (.aload_n 0, 1) := by decide +kernel
theorem dX8_init_31 : decode cX8_init 31 = .ok (.bipush 40, 2) := by decide +kernel
theorem dX8_init_33 : decode cX8_init 33 = .ok (.newarray .int, 2) := by decide +kernel
theorem dX8_init_35 : decode cX8_init 35 = .ok (.putfield 19, 3) := by decide +kernel
theorem dX8_init_38 : decode cX8_init 38 = .ok (.aload_n 0, 1) := by decide +kernel
theorem dX8_init_39 : decode cX8_init 39 = .ok (.sipush 4700, 3) := by decide +kernel
theorem dX8_init_42 : decode cX8_init 42 = .ok (.newarray .int, 2) := by decide +kernel
theorem dX8_init_44 : decode cX8_init 44 = .ok (.putfield 22, 3) := by decide +kernel
theorem dX8_init_47 : decode cX8_init 47 = .ok (.aload_n 0, 1) := by decide +kernel
theorem dX8_init_48 : decode cX8_init 48 = .ok (.bipush 41, 2) := by decide +kernel
theorem dX8_init_50 : decode cX8_init 50 = .ok (.newarray .int, 2) := by decide +kernel
theorem dX8_init_52 : decode cX8_init 52 = .ok (.putfield 25, 3) := by decide +kernel
theorem dX8_init_55 : decode cX8_init 55 = .ok (.aload_n 0, 1) := by decide +kernel
theorem dX8_init_56 : decode cX8_init 56 = .ok (.bipush 40, 2) := by decide +kernel
theorem dX8_init_58 : decode cX8_init 58 = .ok (.newarray .int, 2) := by decide +kernel
theorem dX8_init_60 : decode cX8_init 60 = .ok (.putfield 28, 3) := by decide +kernel
theorem dX8_init_63 : decode cX8_init 63 = .ok (.aload_n 0, 1) := by decide +kernel
theorem dX8_init_64 : decode cX8_init 64 = .ok (.bipush 40, 2) := by decide +kernel
theorem dX8_init_66 : decode cX8_init 66 = .ok (.newarray .int, 2) := by decide +kernel
theorem dX8_init_68 : decode cX8_init 68 = .ok (.putfield 31, 3) := by decide +kernel
theorem dX8_init_71 : decode cX8_init 71 = .ok (.aload_n 0, 1) := by decide +kernel
theorem dX8_init_72 : decode cX8_init 72 = .ok (.bipush 40, 2) := by decide +kernel
theorem dX8_init_74 : decode cX8_init 74 = .ok (.newarray .int, 2) := by decide +kernel
theorem dX8_init_76 : decode cX8_init 76 = .ok (.putfield 34, 3) := by decide +kernel
theorem dX8_init_79 : decode cX8_init 79 = .ok (.aload_n 0, 1) := by decide +kernel
theorem dX8_init_80 : decode cX8_init 80 = .ok (.sipush 4700, 3) := by decide +kernel
theorem dX8_init_83 : decode cX8_init 83 = .ok (.newarray .int, 2) := by decide +kernel
theorem dX8_init_85 : decode cX8_init 85 = .ok (.putfield 37, 3) := by decide +kernel
theorem dX8_init_88 : decode cX8_init 88 = .ok (.aload_n 0, 1) := by decide +kernel
theorem dX8_init_89 : decode cX8_init 89 = .ok (.bipush 64, 2) := by decide +kernel
theorem dX8_init_91 : decode cX8_init 91 = .ok (.newarray .int, 2) := by decide +kernel
theorem dX8_init_93 : decode cX8_init 93 = .ok (.putfield 40, 3) := by decide +kernel
theorem dX8_init_96 : decode cX8_init 96 = .ok (.aload_n 0, 1) := by decide +kernel
theorem dX8_init_97 : decode cX8_init 97 = .ok (.bipush 6, 2) := by decide +kernel
theorem dX8_init_99 : decode cX8_init 99 = .ok (.newarray .int, 2) := by decide +kernel
theorem dX8_init_101 : decode cX8_init 101 = .ok (.putfield 43, 3) := by decide +kernel
theorem dX8_init_104 : decode cX8_init 104 = .ok (.aload_n 0, 1) := by decide +kernel
theorem dX8_init_105 : decode cX8_init 105 = .ok (.bipush 120, 2) := by decide +kernel
theorem dX8_init_107 : decode cX8_init 107 = .ok (.newarray .int, 2) := by decide +kernel
theorem dX8_init_109 : decode cX8_init 109 = .ok (.putfield 46, 3) := by decide +kernel
theorem dX8_init_112 : decode cX8_init 112 = .ok (.aload_n 0, 1) := by decide +kernel
theorem dX8_init_113 : decode cX8_init 113 = .ok (.sipush 240, 3) := by decide +kernel
theorem dX8_init_116 : decode cX8_init 116 = .ok (.newarray .int, 2) := by decide +kernel
theorem dX8_init_118 : decode cX8_init 118 = .ok (.putfield 49, 3) := by decide +kernel
theorem dX8_init_121 : decode cX8_init 121 = .ok (.aload_n 0, 1) := by decide +kernel
theorem dX8_init_122 : decode cX8_init 122 = .ok (.getfield 7, 3) := by decide +kernel
theorem dX8_init_125 : decode cX8_init 125 = .ok (.bipush 121, 2) := by decide +kernel
theorem dX8_init_127 : decode cX8_init 127 = .ok (.bipush 100, 2) := by decide +kernel
theorem dX8_init_129 : decode cX8_init 129 = .ok (.iastore, 1) := by decide +kernel
theorem dX8_init_130 : decode cX8_init 130 = .ok (.aload_n 0, 1) := by decide +kernel
theorem dX8_init_131 : decode cX8_init 131 = .ok (.getfield 7, 3) := by decide +kernel
theorem dX8_init_134 : decode cX8_init 134 = .ok (.bipush 122, 2) := by decide +kernel
theorem dX8_init_136 : decode cX8_init 136 = .ok (.bipush 10, 2) := by decide +kernel
theorem dX8_init_138 : decode cX8_init 138 = .ok (.iastore, 1) := by decide +kernel
theorem dX8_init_139 : decode cX8_init 139 = .ok (.aload_n 0, 1) := by decide +kernel
theorem dX8_init_140 : decode cX8_init 140 = .ok (.getfield 7, 3) := by decide +kernel
theorem dX8_init_143 : decode cX8_init 143 = .ok (.bipush 125, 2) := by decide +kernel
theorem dX8_init_145 : decode cX8_init 145 = .ok (.iconst 4, 1) := by decide +kernel
theorem dX8_init_146 : decode cX8_init 146 = .ok (.iastore, 1) := by decide +kernel
theorem dX8_init_147 : decode cX8_init 147 = .ok (.aload_n 0, 1) := by decide +kernel
theorem dX8_init_148 : decode cX8_init 148 = .ok (.getfield 7, 3) := by decide +kernel
theorem dX8_init_151 : decode cX8_init 151 = .ok (.bipush 126, 2) := by decide +kernel
theorem dX8_init_153 : decode cX8_init 153 = .ok (.bipush 50, 2) := by decide +kernel
theorem dX8_init_155 : decode cX8_init 155 = .ok (.iastore, 1) := by decide +kernel
theorem dX8_init_156 : decode cX8_init 156 = .ok (.aload_n 0, 1) := by decide +kernel
theorem dX8_init_157 : decode cX8_init 157 = .ok (.getfield 7, 3) := by decide +kernel
theorem dX8_init_160 : decode cX8_init 160 = .ok (.bipush 127, 2) := by decide +kernel
theorem dX8_init_162 : decode cX8_init 162 = .ok (.iconst 3, 1) := by decide +kernel
theorem dX8_init_163 : decode cX8_init 163 = .ok (.iastore, 1) := by decide +kernel
theorem dX8_init_164 : decode cX8_init 164 = .ok (.iconst 0, 1) := by decide +kernel
theorem dX8_init_165 : decode cX8_init 165 = .ok (.istore_n 1, 1) := by decide +kernel
theorem dX8_init_166 : decode cX8_init 166 = .ok (.iload_n 1, 1) := by decide +kernel
theorem dX8_init_167 : decode cX8_init 167 = .ok (.bipush 6, 2) := by decide +kernel
theorem dX8_init_169 : decode cX8_init 169 = .ok (.if_icmp .ge 20, 3) := by decide +kernel
theorem dX8_init_172 : decode cX8_init 172 = .ok (.aload_n 0, 1) := by decide +kernel
theorem dX8_init_173 : decode cX8_init 173 = .ok (.getfield 7, 3) := by decide +kernel
theorem dX8_init_176 : decode cX8_init 176 = .ok (.sipush 129, 3) := by decide +kernel
theorem dX8_init_179 : decode cX8_init 179 = .ok (.iload_n 1, 1) := by decide +kernel
theorem dX8_init_180 : decode cX8_init 180 = .ok (.iadd, 1) := by decide +kernel
theorem dX8_init_181 : decode cX8_init 181 = .ok (.iconst 5, 1) := by decide +kernel
theorem dX8_init_182 : decode cX8_init 182 = .ok (.iastore, 1) := by decide +kernel
theorem dX8_init_183 : decode cX8_init 183 = .ok (.iinc 1 1, 3) := by decide +kernel
theorem dX8_init_186 : decode cX8_init 186 = .ok (.goto (-20), 3) := by decide +kernel
theorem dX8_init_189 : decode cX8_init 189 = .ok (.return_, 1) := by decide +kernel
theorem dX8_thrown_0 : decode cX8_thrown 0 = .ok (.aload_n 0, 1) := by decide +kernel
theorem dX8_thrown_1 : decode cX8_thrown 1 = .ok (.getfield 52, 3) := by decide +kernel
theorem dX8_thrown_4 : decode cX8_thrown 4 = .ok (.ireturn, 1) := by decide +kernel
theorem dX8_in_0 : decode cX8_in 0 = .ok (.iload_n 0, 1) := by decide +kernel
theorem dX8_in_1 : decode cX8_in 1 = .ok (.iload_n 1, 1) := by decide +kernel
theorem dX8_in_2 : decode cX8_in 2 = .ok (.if_icmp .lt 12, 3) := by decide +kernel
theorem dX8_in_5 : decode cX8_in 5 = .ok (.iload_n 0, 1) := by decide +kernel
theorem dX8_in_6 : decode cX8_in 6 = .ok (.iload_n 2, 1) := by decide +kernel
theorem dX8_in_7 : decode cX8_in 7 = .ok (.if_icmp .gt 7, 3) := by decide +kernel
theorem dX8_in_10 : decode cX8_in 10 = .ok (.iconst 1, 1) := by decide +kernel
theorem dX8_in_11 : decode cX8_in 11 = .ok (.goto 4, 3) := by decide +kernel
theorem dX8_in_14 : decode cX8_in 14 = .ok (.iconst 0, 1) := by decide +kernel
theorem dX8_in_15 : decode cX8_in 15 = .ok (.ireturn, 1) := by decide +kernel
theorem dX8_refuses_0 : decode cX8_refuses 0 = .ok (.aload_n 0, 1) := by decide +kernel
theorem dX8_refuses_1 : decode cX8_refuses 1 = .ok (.iload_n 1, 1) := by decide +kernel
theorem dX8_refuses_2 : decode cX8_refuses 2 = .ok (.putfield 52, 3) := by decide +kernel
theorem dX8_refuses_5 : decode cX8_refuses 5 = .ok (.iload_n 1, 1) := by decide +kernel
theorem dX8_refuses_6 : decode cX8_refuses 6 = .ok (.ifCond .eq 7, 3) := by decide +kernel
theorem dX8_refuses_9 : decode cX8_refuses 9 = .ok (.iconst 1, 1) := by decide +kernel
theorem dX8_refuses_10 : decode cX8_refuses 10 = .ok (.goto 4, 3) := by decide +kernel
theorem dX8_refuses_13 : decode cX8_refuses 13 = .ok (.iconst 0, 1) := by decide +kernel
theorem dX8_refuses_14 : decode cX8_refuses 14 = .ok (.ireturn, 1) := by decide +kernel
theorem dX8_keeps_0 : decode cX8_keeps 0 = .ok (.aload_n 0, 1) := by decide +kernel
theorem dX8_keeps_1 : decode cX8_keeps 1 = .ok (.getfield 56, 3) := by decide +kernel
theorem dX8_keeps_4 : decode cX8_keeps 4 = .ok (.bipush 8, 2) := by decide +kernel
theorem dX8_keeps_6 : decode cX8_keeps 6 = .ok (.if_icmp .ne 44, 3) := by decide +kernel
theorem dX8_keeps_9 : decode cX8_keeps 9 = .ok (.iconst 0, 1) := by decide +kernel
theorem dX8_keeps_10 : decode cX8_keeps 10 = .ok (.istore_n 1, 1) := by decide +kernel
theorem dX8_keeps_11 : decode cX8_keeps 11 = .ok (.iload_n 1, 1) := by decide +kernel
theorem dX8_keeps_12 : decode cX8_keeps 12 = .ok (.sipush 945, 3) := by decide +kernel
theorem dX8_keeps_15 : decode cX8_keeps 15 = .ok (.if_icmp .ge 25, 3) := by decide +kernel
theorem dX8_keeps_18 : decode cX8_keeps 18 = .ok (.aload_n 0, 1) := by decide +kernel
theorem dX8_keeps_19 : decode cX8_keeps 19 = .ok (.getfield 13, 3) := by decide +kernel
theorem dX8_keeps_22 : decode cX8_keeps 22 = .ok (.iload_n 1, 1) := by decide +kernel
theorem dX8_keeps_23 : decode cX8_keeps 23 = .ok (.aload_n 0, 1) := by decide +kernel
theorem dX8_keeps_24 : decode cX8_keeps 24 = .ok (.getfield 13, 3) := by decide +kernel
theorem dX8_keeps_27 : decode cX8_keeps 27 = .ok (.iload_n 1, 1) := by decide +kernel
theorem dX8_keeps_28 : decode cX8_keeps 28 = .ok (.sipush 135, 3) := by decide +kernel
theorem dX8_keeps_31 : decode cX8_keeps 31 = .ok (.iadd, 1) := by decide +kernel
theorem dX8_keeps_32 : decode cX8_keeps 32 = .ok (.iaload, 1) := by decide +kernel
theorem dX8_keeps_33 : decode cX8_keeps 33 = .ok (.iastore, 1) := by decide +kernel
theorem dX8_keeps_34 : decode cX8_keeps 34 = .ok (.iinc 1 1, 3) := by decide +kernel
theorem dX8_keeps_37 : decode cX8_keeps 37 = .ok (.goto (-26), 3) := by decide +kernel
theorem dX8_keeps_40 : decode cX8_keeps 40 = .ok (.aload_n 0, 1) := by decide +kernel
theorem dX8_keeps_41 : decode cX8_keeps 41 = .ok (.dup, 1) := by decide +kernel
theorem dX8_keeps_42 : decode cX8_keeps 42 = .ok (.getfield 56, 3) := by decide +kernel
theorem dX8_keeps_45 : decode cX8_keeps 45 = .ok (.iconst 1, 1) := by decide +kernel
theorem dX8_keeps_46 : decode cX8_keeps 46 = .ok (.isub, 1) := by decide +kernel
theorem dX8_keeps_47 : decode cX8_keeps 47 = .ok (.putfield 56, 3) := by decide +kernel
theorem dX8_keeps_50 : decode cX8_keeps 50 = .ok (.iconst 0, 1) := by decide +kernel
theorem dX8_keeps_51 : decode cX8_keeps 51 = .ok (.istore_n 1, 1) := by decide +kernel
theorem dX8_keeps_52 : decode cX8_keeps 52 = .ok (.iload_n 1, 1) := by decide +kernel
theorem dX8_keeps_53 : decode cX8_keeps 53 = .ok (.sipush 135, 3) := by decide +kernel
theorem dX8_keeps_56 : decode cX8_keeps 56 = .ok (.if_icmp .ge 30, 3) := by decide +kernel
theorem dX8_keeps_59 : decode cX8_keeps 59 = .ok (.aload_n 0, 1) := by decide +kernel
theorem dX8_keeps_60 : decode cX8_keeps 60 = .ok (.getfield 13, 3) := by decide +kernel
theorem dX8_keeps_63 : decode cX8_keeps 63 = .ok (.sipush 135, 3) := by decide +kernel
theorem dX8_keeps_66 : decode cX8_keeps 66 = .ok (.aload_n 0, 1) := by decide +kernel
theorem dX8_keeps_67 : decode cX8_keeps 67 = .ok (.getfield 56, 3) := by decide +kernel
theorem dX8_keeps_70 : decode cX8_keeps 70 = .ok (.imul, 1) := by decide +kernel
theorem dX8_keeps_71 : decode cX8_keeps 71 = .ok (.iload_n 1, 1) := by decide +kernel
theorem dX8_keeps_72 : decode cX8_keeps 72 = .ok (.iadd, 1) := by decide +kernel
theorem dX8_keeps_73 : decode cX8_keeps 73 = .ok (.aload_n 0, 1) := by decide +kernel
theorem dX8_keeps_74 : decode cX8_keeps 74 = .ok (.getfield 7, 3) := by decide +kernel
theorem dX8_keeps_77 : decode cX8_keeps 77 = .ok (.iload_n 1, 1) := by decide +kernel
theorem dX8_keeps_78 : decode cX8_keeps 78 = .ok (.iaload, 1) := by decide +kernel
theorem dX8_keeps_79 : decode cX8_keeps 79 = .ok (.iastore, 1) := by decide +kernel
theorem dX8_keeps_80 : decode cX8_keeps 80 = .ok (.iinc 1 1, 3) := by decide +kernel
theorem dX8_keeps_83 : decode cX8_keeps 83 = .ok (.goto (-31), 3) := by decide +kernel
theorem dX8_keeps_86 : decode cX8_keeps 86 = .ok (.aload_n 0, 1) := by decide +kernel
theorem dX8_keeps_87 : decode cX8_keeps 87 = .ok (.dup, 1) := by decide +kernel
theorem dX8_keeps_88 : decode cX8_keeps 88 = .ok (.getfield 56, 3) := by decide +kernel
theorem dX8_keeps_91 : decode cX8_keeps 91 = .ok (.iconst 1, 1) := by decide +kernel
theorem dX8_keeps_92 : decode cX8_keeps 92 = .ok (.iadd, 1) := by decide +kernel
theorem dX8_keeps_93 : decode cX8_keeps 93 = .ok (.putfield 56, 3) := by decide +kernel
theorem dX8_keeps_96 : decode cX8_keeps 96 = .ok (.return_, 1) := by decide +kernel
theorem dX8_isFlow_0 : decode cX8_isFlow 0 = .ok (.iload_n 0, 1) := by decide +kernel
theorem dX8_isFlow_1 : decode cX8_isFlow 1 = .ok (.iconst 0, 1) := by decide +kernel
theorem dX8_isFlow_2 : decode cX8_isFlow 2 = .ok (.iconst 5, 1) := by decide +kernel
theorem dX8_isFlow_3 : decode cX8_isFlow 3 = .ok (.invokestatic 59, 3) := by decide +kernel
theorem dX8_isFlow_6 : decode cX8_isFlow 6 = .ok (.ireturn, 1) := by decide +kernel
theorem dX8_isPacket_0 : decode cX8_isPacket 0 = .ok (.iload_n 1, 1) := by decide +kernel
theorem dX8_isPacket_1 : decode cX8_isPacket 1 = .ok (.iconst 0, 1) := by decide +kernel
theorem dX8_isPacket_2 : decode cX8_isPacket 2 = .ok (.aload_n 0, 1) := by decide +kernel
theorem dX8_isPacket_3 : decode cX8_isPacket 3 = .ok (.getfield 7, 3) := by decide +kernel
theorem dX8_isPacket_6 : decode cX8_isPacket 6 = .ok (.iconst 0, 1) := by decide +kernel
theorem dX8_isPacket_7 : decode cX8_isPacket 7 = .ok (.iaload, 1) := by decide +kernel
theorem dX8_isPacket_8 : decode cX8_isPacket 8 = .ok (.iconst 1, 1) := by decide +kernel
theorem dX8_isPacket_9 : decode cX8_isPacket 9 = .ok (.isub, 1) := by decide +kernel
theorem dX8_isPacket_10 : decode cX8_isPacket 10 = .ok (.invokestatic 59, 3) := by decide +kernel
theorem dX8_isPacket_13 : decode cX8_isPacket 13 = .ok (.ireturn, 1) := by decide +kernel
theorem dX8_of_0 : decode cX8_of 0 = .ok (.aload_n 0, 1) := by decide +kernel
theorem dX8_of_1 : decode cX8_of 1 = .ok (.getfield 7, 3) := by decide +kernel
theorem dX8_of_4 : decode cX8_of 4 = .ok (.iconst 1, 1) := by decide +kernel
theorem dX8_of_5 : decode cX8_of 5 = .ok (.iconst 3, 1) := by decide +kernel
theorem dX8_of_6 : decode cX8_of 6 = .ok (.iload_n 1, 1) := by decide +kernel
theorem dX8_of_7 : decode cX8_of 7 = .ok (.imul, 1) := by decide +kernel
theorem dX8_of_8 : decode cX8_of 8 = .ok (.iadd, 1) := by decide +kernel
theorem dX8_of_9 : decode cX8_of 9 = .ok (.iload_n 2, 1) := by decide +kernel
theorem dX8_of_10 : decode cX8_of 10 = .ok (.iadd, 1) := by decide +kernel
theorem dX8_of_11 : decode cX8_of 11 = .ok (.iaload, 1) := by decide +kernel
theorem dX8_of_12 : decode cX8_of 12 = .ok (.ireturn, 1) := by decide +kernel
theorem dX8_noRecord_0 : decode cX8_noRecord 0 = .ok (.iload_n 2, 1) := by decide +kernel
theorem dX8_noRecord_1 : decode cX8_noRecord 1 = .ok (.invokestatic 63, 3) := by decide +kernel
theorem dX8_noRecord_4 : decode cX8_noRecord 4 = .ok (.ifCond .ne 7, 3) := by decide +kernel
theorem dX8_noRecord_7 : decode cX8_noRecord 7 = .ok (.iconst 1, 1) := by decide +kernel
theorem dX8_noRecord_8 : decode cX8_noRecord 8 = .ok (.goto 44, 3) := by decide +kernel
theorem dX8_noRecord_11 : decode cX8_noRecord 11 = .ok (.iload_n 1, 1) := by decide +kernel
theorem dX8_noRecord_12 : decode cX8_noRecord 12 = .ok (.iconst 0, 1) := by decide +kernel
theorem dX8_noRecord_13 : decode cX8_noRecord 13 = .ok (.sipush 500, 3) := by decide +kernel
theorem dX8_noRecord_16 : decode cX8_noRecord 16 = .ok (.invokestatic 59, 3) := by decide +kernel
theorem dX8_noRecord_19 : decode cX8_noRecord 19 = .ok (.ifCond .eq 13, 3) := by decide +kernel
theorem dX8_noRecord_22 : decode cX8_noRecord 22 = .ok (.iload_n 3, 1) := by decide +kernel
theorem dX8_noRecord_23 : decode cX8_noRecord 23 = .ok (.iconst 1, 1) := by decide +kernel
theorem dX8_noRecord_24 : decode cX8_noRecord 24 = .ok (.bipush 100, 2) := by decide +kernel
theorem dX8_noRecord_26 : decode cX8_noRecord 26 = .ok (.invokestatic 59, 3) := by decide +kernel
theorem dX8_noRecord_29 : decode cX8_noRecord 29 = .ok (.ifCond .ne 7, 3) := by decide +kernel
theorem dX8_noRecord_32 : decode cX8_noRecord 32 = .ok (.iconst 2, 1) := by decide +kernel
theorem dX8_noRecord_33 : decode cX8_noRecord 33 = .ok (.goto 19, 3) := by decide +kernel
theorem dX8_noRecord_36 : decode cX8_noRecord 36 = .ok (.aload_n 0, 1) := by decide +kernel
theorem dX8_noRecord_37 : decode cX8_noRecord 37 = .ok (.getfield 7, 3) := by decide +kernel
theorem dX8_noRecord_40 : decode cX8_noRecord 40 = .ok (.iconst 0, 1) := by decide +kernel
theorem dX8_noRecord_41 : decode cX8_noRecord 41 = .ok (.iaload, 1) := by decide +kernel
theorem dX8_noRecord_42 : decode cX8_noRecord 42 = .ok (.bipush 40, 2) := by decide +kernel
theorem dX8_noRecord_44 : decode cX8_noRecord 44 = .ok (.if_icmp .ne 7, 3) := by decide +kernel
theorem dX8_noRecord_47 : decode cX8_noRecord 47 = .ok (.iconst 3, 1) := by decide +kernel
theorem dX8_noRecord_48 : decode cX8_noRecord 48 = .ok (.goto 4, 3) := by decide +kernel
theorem dX8_noRecord_51 : decode cX8_noRecord 51 = .ok (.iconst 0, 1) := by decide +kernel
theorem dX8_noRecord_52 : decode cX8_noRecord 52 = .ok (.ireturn, 1) := by decide +kernel
theorem dX8_records_0 : decode cX8_records 0 = .ok (.aload_n 0, 1) := by decide +kernel
theorem dX8_records_1 : decode cX8_records 1 = .ok (.getfield 7, 3) := by decide +kernel
theorem dX8_records_4 : decode cX8_records 4 = .ok (.iconst 0, 1) := by decide +kernel
theorem dX8_records_5 : decode cX8_records 5 = .ok (.iaload, 1) := by decide +kernel
theorem dX8_records_6 : decode cX8_records 6 = .ok (.istore 4, 2) := by decide +kernel
theorem dX8_records_8 : decode cX8_records 8 = .ok (.iload 4, 2) := by decide +kernel
theorem dX8_records_10 : decode cX8_records 10 = .ok (.ifCond .le 61, 3) := by decide +kernel
theorem dX8_records_13 : decode cX8_records 13 = .ok (.aload_n 0, 1) := by decide +kernel
theorem dX8_records_14 : decode cX8_records 14 = .ok (.iload 4, 2) := by decide +kernel
theorem dX8_records_16 : decode cX8_records 16 = .ok (.iconst 1, 1) := by decide +kernel
theorem dX8_records_17 : decode cX8_records 17 = .ok (.isub, 1) := by decide +kernel
theorem dX8_records_18 : decode cX8_records 18 = .ok (.iconst 0, 1) := by decide +kernel
theorem dX8_records_19 : decode cX8_records 19 = .ok (.invokevirtual 67, 3) := by decide +kernel
theorem dX8_records_22 : decode cX8_records 22 = .ok (.iload_n 1, 1) := by decide +kernel
theorem dX8_records_23 : decode cX8_records 23 = .ok (.if_icmp .le 48, 3) := by decide +kernel
theorem dX8_records_26 : decode cX8_records 26 = .ok (.iconst 0, 1) := by decide +kernel
theorem dX8_records_27 : decode cX8_records 27 = .ok (.istore 5, 2) := by decide +kernel
theorem dX8_records_29 : decode cX8_records 29 = .ok (.iload 5, 2) := by decide +kernel
theorem dX8_records_31 : decode cX8_records 31 = .ok (.iconst 3, 1) := by decide +kernel
theorem dX8_records_32 : decode cX8_records 32 = .ok (.if_icmp .ge 33, 3) := by decide +kernel
theorem dX8_records_35 : decode cX8_records 35 = .ok (.aload_n 0, 1) := by decide +kernel
theorem dX8_records_36 : decode cX8_records 36 = .ok (.getfield 7, 3) := by decide +kernel
theorem dX8_records_39 : decode cX8_records 39 = .ok (.iconst 1, 1) := by decide +kernel
theorem dX8_records_40 : decode cX8_records 40 = .ok (.iconst 3, 1) := by decide +kernel
theorem dX8_records_41 : decode cX8_records 41 = .ok (.iload 4, 2) := by decide +kernel
theorem dX8_records_43 : decode cX8_records 43 = .ok (.imul, 1) := by decide +kernel
theorem dX8_records_44 : decode cX8_records 44 = .ok (.iadd, 1) := by decide +kernel
theorem dX8_records_45 : decode cX8_records 45 = .ok (.iload 5, 2) := by decide +kernel
theorem dX8_records_47 : decode cX8_records 47 = .ok (.iadd, 1) := by decide +kernel
theorem dX8_records_48 : decode cX8_records 48 = .ok (.aload_n 0, 1) := by decide +kernel
theorem dX8_records_49 : decode cX8_records 49 = .ok (.iload 4, 2) := by decide +kernel
theorem dX8_records_51 : decode cX8_records 51 = .ok (.iconst 1, 1) := by decide +kernel
theorem dX8_records_52 : decode cX8_records 52 = .ok (.isub, 1) := by decide +kernel
theorem dX8_records_53 : decode cX8_records 53 = .ok (.iload 5, 2) := by decide +kernel
theorem dX8_records_55 : decode cX8_records 55 = .ok (.invokevirtual 67, 3) := by decide +kernel
theorem dX8_records_58 : decode cX8_records 58 = .ok (.iastore, 1) := by decide +kernel
theorem dX8_records_59 : decode cX8_records 59 = .ok (.iinc 5 1, 3) := by decide +kernel
theorem dX8_records_62 : decode cX8_records 62 = .ok (.goto (-33), 3) := by decide +kernel
theorem dX8_records_65 : decode cX8_records 65 = .ok (.iinc 4 (-1), 3) := by decide +kernel
theorem dX8_records_68 : decode cX8_records 68 = .ok (.goto (-60), 3) := by decide +kernel
theorem dX8_records_71 : decode cX8_records 71 = .ok (.aload_n 0, 1) := by decide +kernel
theorem dX8_records_72 : decode cX8_records 72 = .ok (.getfield 7, 3) := by decide +kernel
theorem dX8_records_75 : decode cX8_records 75 = .ok (.iconst 1, 1) := by decide +kernel
theorem dX8_records_76 : decode cX8_records 76 = .ok (.iconst 3, 1) := by decide +kernel
theorem dX8_records_77 : decode cX8_records 77 = .ok (.iload 4, 2) := by decide +kernel
theorem dX8_records_79 : decode cX8_records 79 = .ok (.imul, 1) := by decide +kernel
theorem dX8_records_80 : decode cX8_records 80 = .ok (.iadd, 1) := by decide +kernel
theorem dX8_records_81 : decode cX8_records 81 = .ok (.iload_n 1, 1) := by decide +kernel
theorem dX8_records_82 : decode cX8_records 82 = .ok (.iastore, 1) := by decide +kernel
theorem dX8_records_83 : decode cX8_records 83 = .ok (.aload_n 0, 1) := by decide +kernel
theorem dX8_records_84 : decode cX8_records 84 = .ok (.getfield 7, 3) := by decide +kernel
theorem dX8_records_87 : decode cX8_records 87 = .ok (.iconst 1, 1) := by decide +kernel
theorem dX8_records_88 : decode cX8_records 88 = .ok (.iconst 3, 1) := by decide +kernel
theorem dX8_records_89 : decode cX8_records 89 = .ok (.iload 4, 2) := by decide +kernel
theorem dX8_records_91 : decode cX8_records 91 = .ok (.imul, 1) := by decide +kernel
theorem dX8_records_92 : decode cX8_records 92 = .ok (.iadd, 1) := by decide +kernel
theorem dX8_records_93 : decode cX8_records 93 = .ok (.iconst 1, 1) := by decide +kernel
theorem dX8_records_94 : decode cX8_records 94 = .ok (.iadd, 1) := by decide +kernel
theorem dX8_records_95 : decode cX8_records 95 = .ok (.iload_n 2, 1) := by decide +kernel
theorem dX8_records_96 : decode cX8_records 96 = .ok (.iastore, 1) := by decide +kernel
theorem dX8_records_97 : decode cX8_records 97 = .ok (.aload_n 0, 1) := by decide +kernel
theorem dX8_records_98 : decode cX8_records 98 = .ok (.getfield 7, 3) := by decide +kernel
theorem dX8_records_101 : decode cX8_records 101 = .ok (.iconst 1, 1) := by decide +kernel
theorem dX8_records_102 : decode cX8_records 102 = .ok (.iconst 3, 1) := by decide +kernel
theorem dX8_records_103 : decode cX8_records 103 = .ok (.iload 4, 2) := by decide +kernel
theorem dX8_records_105 : decode cX8_records 105 = .ok (.imul, 1) := by decide +kernel
theorem dX8_records_106 : decode cX8_records 106 = .ok (.iadd, 1) := by decide +kernel
theorem dX8_records_107 : decode cX8_records 107 = .ok (.iconst 2, 1) := by decide +kernel
theorem dX8_records_108 : decode cX8_records 108 = .ok (.iadd, 1) := by decide +kernel
theorem dX8_records_109 : decode cX8_records 109 = .ok (.iload_n 3, 1) := by decide +kernel
theorem dX8_records_110 : decode cX8_records 110 = .ok (.iastore, 1) := by decide +kernel
theorem dX8_records_111 : decode cX8_records 111 = .ok (.aload_n 0, 1) := by decide +kernel
theorem dX8_records_112 : decode cX8_records 112 = .ok (.getfield 7, 3) := by decide +kernel
theorem dX8_records_115 : decode cX8_records 115 = .ok (.iconst 0, 1) := by decide +kernel
theorem dX8_records_116 : decode cX8_records 116 = .ok (.dup2, 1) := by decide +kernel
theorem dX8_records_117 : decode cX8_records 117 = .ok (.iaload, 1) := by decide +kernel
theorem dX8_records_118 : decode cX8_records 118 = .ok (.iconst 1, 1) := by decide +kernel
theorem dX8_records_119 : decode cX8_records 119 = .ok (.iadd, 1) := by decide +kernel
theorem dX8_records_120 : decode cX8_records 120 = .ok (.iastore, 1) := by decide +kernel
theorem dX8_records_121 : decode cX8_records 121 = .ok (.iload 4, 2) := by decide +kernel
theorem dX8_records_123 : decode cX8_records 123 = .ok (.ireturn, 1) := by decide +kernel
theorem dX8_record_0 : decode cX8_record 0 = .ok (.aload_n 0, 1) := by decide +kernel
theorem dX8_record_1 : decode cX8_record 1 = .ok (.aload_n 0, 1) := by decide +kernel
theorem dX8_record_2 : decode cX8_record 2 = .ok (.iload_n 1, 1) := by decide +kernel
theorem dX8_record_3 : decode cX8_record 3 = .ok (.iload_n 2, 1) := by decide +kernel
theorem dX8_record_4 : decode cX8_record 4 = .ok (.iload_n 3, 1) := by decide +kernel
theorem dX8_record_5 : decode cX8_record 5 = .ok (.invokevirtual 71, 3) := by decide +kernel
theorem dX8_record_8 : decode cX8_record 8 = .ok (.invokevirtual 75, 3) := by decide +kernel
theorem dX8_record_11 : decode cX8_record 11 = .ok (.ifCond .eq 5, 3) := by decide +kernel
theorem dX8_record_14 : decode cX8_record 14 = .ok (.iconst 0, 1) := by decide +kernel
theorem dX8_record_15 : decode cX8_record 15 = .ok (.ireturn, 1) := by decide +kernel
theorem dX8_record_16 : decode cX8_record 16 = .ok (.aload_n 0, 1) := by decide +kernel
theorem dX8_record_17 : decode cX8_record 17 = .ok (.invokevirtual 78, 3) := by decide +kernel
theorem dX8_record_20 : decode cX8_record 20 = .ok (.aload_n 0, 1) := by decide +kernel
theorem dX8_record_21 : decode cX8_record 21 = .ok (.iload_n 1, 1) := by decide +kernel
theorem dX8_record_22 : decode cX8_record 22 = .ok (.iload_n 2, 1) := by decide +kernel
theorem dX8_record_23 : decode cX8_record 23 = .ok (.iload_n 3, 1) := by decide +kernel
theorem dX8_record_24 : decode cX8_record 24 = .ok (.invokevirtual 81, 3) := by decide +kernel
theorem dX8_record_27 : decode cX8_record 27 = .ok (.ireturn, 1) := by decide +kernel
theorem dX8_erase_0 : decode cX8_erase 0 = .ok (.aload_n 0, 1) := by decide +kernel
theorem dX8_erase_1 : decode cX8_erase 1 = .ok (.aload_n 0, 1) := by decide +kernel
theorem dX8_erase_2 : decode cX8_erase 2 = .ok (.iload_n 1, 1) := by decide +kernel
theorem dX8_erase_3 : decode cX8_erase 3 = .ok (.invokevirtual 84, 3) := by decide +kernel
theorem dX8_erase_6 : decode cX8_erase 6 = .ok (.ifCond .eq 7, 3) := by decide +kernel
theorem dX8_erase_9 : decode cX8_erase 9 = .ok (.iconst 0, 1) := by decide +kernel
theorem dX8_erase_10 : decode cX8_erase 10 = .ok (.goto 4, 3) := by decide +kernel
theorem dX8_erase_13 : decode cX8_erase 13 = .ok (.iconst 1, 1) := by decide +kernel
theorem dX8_erase_14 : decode cX8_erase 14 = .ok (.invokevirtual 75, 3) := by decide +kernel
theorem dX8_erase_17 : decode cX8_erase 17 = .ok (.ifCond .eq 5, 3) := by decide +kernel
theorem dX8_erase_20 : decode cX8_erase 20 = .ok (.iconst 0, 1) := by decide +kernel
theorem dX8_erase_21 : decode cX8_erase 21 = .ok (.ireturn, 1) := by decide +kernel
theorem dX8_erase_22 : decode cX8_erase 22 = .ok (.aload_n 0, 1) := by decide +kernel
theorem dX8_erase_23 : decode cX8_erase 23 = .ok (.invokevirtual 78, 3) := by decide +kernel
theorem dX8_erase_26 : decode cX8_erase 26 = .ok (.aload_n 0, 1) := by decide +kernel
theorem dX8_erase_27 : decode cX8_erase 27 = .ok (.getfield 7, 3) := by decide +kernel
theorem dX8_erase_30 : decode cX8_erase 30 = .ok (.iconst 0, 1) := by decide +kernel
theorem dX8_erase_31 : decode cX8_erase 31 = .ok (.dup2, 1) := by decide +kernel
theorem dX8_erase_32 : decode cX8_erase 32 = .ok (.iaload, 1) := by decide +kernel
theorem dX8_erase_33 : decode cX8_erase 33 = .ok (.iconst 1, 1) := by decide +kernel
theorem dX8_erase_34 : decode cX8_erase 34 = .ok (.isub, 1) := by decide +kernel
theorem dX8_erase_35 : decode cX8_erase 35 = .ok (.iastore, 1) := by decide +kernel
theorem dX8_erase_36 : decode cX8_erase 36 = .ok (.iconst 1, 1) := by decide +kernel
theorem dX8_erase_37 : decode cX8_erase 37 = .ok (.iconst 3, 1) := by decide +kernel
theorem dX8_erase_38 : decode cX8_erase 38 = .ok (.iload_n 1, 1) := by decide +kernel
theorem dX8_erase_39 : decode cX8_erase 39 = .ok (.imul, 1) := by decide +kernel
theorem dX8_erase_40 : decode cX8_erase 40 = .ok (.iadd, 1) := by decide +kernel
theorem dX8_erase_41 : decode cX8_erase 41 = .ok (.istore_n 2, 1) := by decide +kernel
theorem dX8_erase_42 : decode cX8_erase 42 = .ok (.iload_n 2, 1) := by decide +kernel
theorem dX8_erase_43 : decode cX8_erase 43 = .ok (.iconst 1, 1) := by decide +kernel
theorem dX8_erase_44 : decode cX8_erase 44 = .ok (.iconst 3, 1) := by decide +kernel
theorem dX8_erase_45 : decode cX8_erase 45 = .ok (.aload_n 0, 1) := by decide +kernel
theorem dX8_erase_46 : decode cX8_erase 46 = .ok (.getfield 7, 3) := by decide +kernel
theorem dX8_erase_49 : decode cX8_erase 49 = .ok (.iconst 0, 1) := by decide +kernel
theorem dX8_erase_50 : decode cX8_erase 50 = .ok (.iaload, 1) := by decide +kernel
theorem dX8_erase_51 : decode cX8_erase 51 = .ok (.imul, 1) := by decide +kernel
theorem dX8_erase_52 : decode cX8_erase 52 = .ok (.iadd, 1) := by decide +kernel
theorem dX8_erase_53 : decode cX8_erase 53 = .ok (.if_icmp .ge 23, 3) := by decide +kernel
theorem dX8_erase_56 : decode cX8_erase 56 = .ok (.aload_n 0, 1) := by decide +kernel
theorem dX8_erase_57 : decode cX8_erase 57 = .ok (.getfield 7, 3) := by decide +kernel
theorem dX8_erase_60 : decode cX8_erase 60 = .ok (.iload_n 2, 1) := by decide +kernel
theorem dX8_erase_61 : decode cX8_erase 61 = .ok (.aload_n 0, 1) := by decide +kernel
theorem dX8_erase_62 : decode cX8_erase 62 = .ok (.getfield 7, 3) := by decide +kernel
theorem dX8_erase_65 : decode cX8_erase 65 = .ok (.iload_n 2, 1) := by decide +kernel
theorem dX8_erase_66 : decode cX8_erase 66 = .ok (.iconst 3, 1) := by decide +kernel
theorem dX8_erase_67 : decode cX8_erase 67 = .ok (.iadd, 1) := by decide +kernel
theorem dX8_erase_68 : decode cX8_erase 68 = .ok (.iaload, 1) := by decide +kernel
theorem dX8_erase_69 : decode cX8_erase 69 = .ok (.iastore, 1) := by decide +kernel
theorem dX8_erase_70 : decode cX8_erase 70 = .ok (.iinc 2 1, 3) := by decide +kernel
theorem dX8_erase_73 : decode cX8_erase 73 = .ok (.goto (-31), 3) := by decide +kernel
theorem dX8_erase_76 : decode cX8_erase 76 = .ok (.aload_n 0, 1) := by decide +kernel
theorem dX8_erase_77 : decode cX8_erase 77 = .ok (.getfield 7, 3) := by decide +kernel
theorem dX8_erase_80 : decode cX8_erase 80 = .ok (.iconst 0, 1) := by decide +kernel
theorem dX8_erase_81 : decode cX8_erase 81 = .ok (.iaload, 1) := by decide +kernel
theorem dX8_erase_82 : decode cX8_erase 82 = .ok (.ireturn, 1) := by decide +kernel
theorem dX8_packets_0 : decode cX8_packets 0 = .ok (.aload_n 0, 1) := by decide +kernel
theorem dX8_packets_1 : decode cX8_packets 1 = .ok (.iconst 0, 1) := by decide +kernel
theorem dX8_packets_2 : decode cX8_packets 2 = .ok (.putfield 52, 3) := by decide +kernel
theorem dX8_packets_5 : decode cX8_packets 5 = .ok (.aload_n 0, 1) := by decide +kernel
theorem dX8_packets_6 : decode cX8_packets 6 = .ok (.getfield 7, 3) := by decide +kernel
theorem dX8_packets_9 : decode cX8_packets 9 = .ok (.iconst 0, 1) := by decide +kernel
theorem dX8_packets_10 : decode cX8_packets 10 = .ok (.iaload, 1) := by decide +kernel
theorem dX8_packets_11 : decode cX8_packets 11 = .ok (.ireturn, 1) := by decide +kernel
theorem dX8_packet_0 : decode cX8_packet 0 = .ok (.aload_n 0, 1) := by decide +kernel
theorem dX8_packet_1 : decode cX8_packet 1 = .ok (.aload_n 0, 1) := by decide +kernel
theorem dX8_packet_2 : decode cX8_packet 2 = .ok (.iload_n 1, 1) := by decide +kernel
theorem dX8_packet_3 : decode cX8_packet 3 = .ok (.invokevirtual 84, 3) := by decide +kernel
theorem dX8_packet_6 : decode cX8_packet 6 = .ok (.ifCond .ne 7, 3) := by decide +kernel
theorem dX8_packet_9 : decode cX8_packet 9 = .ok (.iconst 1, 1) := by decide +kernel
theorem dX8_packet_10 : decode cX8_packet 10 = .ok (.goto 17, 3) := by decide +kernel
theorem dX8_packet_13 : decode cX8_packet 13 = .ok (.iload_n 2, 1) := by decide +kernel
theorem dX8_packet_14 : decode cX8_packet 14 = .ok (.iconst 0, 1) := by decide +kernel
theorem dX8_packet_15 : decode cX8_packet 15 = .ok (.iconst 2, 1) := by decide +kernel
theorem dX8_packet_16 : decode cX8_packet 16 = .ok (.invokestatic 59, 3) := by decide +kernel
theorem dX8_packet_19 : decode cX8_packet 19 = .ok (.ifCond .eq 7, 3) := by decide +kernel
theorem dX8_packet_22 : decode cX8_packet 22 = .ok (.iconst 0, 1) := by decide +kernel
theorem dX8_packet_23 : decode cX8_packet 23 = .ok (.goto 4, 3) := by decide +kernel
theorem dX8_packet_26 : decode cX8_packet 26 = .ok (.iconst 2, 1) := by decide +kernel
theorem dX8_packet_27 : decode cX8_packet 27 = .ok (.invokevirtual 75, 3) := by decide +kernel
theorem dX8_packet_30 : decode cX8_packet 30 = .ok (.ifCond .eq 7, 3) := by decide +kernel
theorem dX8_packet_33 : decode cX8_packet 33 = .ok (.iconst 0, 1) := by decide +kernel
theorem dX8_packet_34 : decode cX8_packet 34 = .ok (.goto 9, 3) := by decide +kernel
theorem dX8_packet_37 : decode cX8_packet 37 = .ok (.aload_n 0, 1) := by decide +kernel
theorem dX8_packet_38 : decode cX8_packet 38 = .ok (.iload_n 1, 1) := by decide +kernel
theorem dX8_packet_39 : decode cX8_packet 39 = .ok (.iload_n 2, 1) := by decide +kernel
theorem dX8_packet_40 : decode cX8_packet 40 = .ok (.invokevirtual 67, 3) := by decide +kernel
theorem dX8_packet_43 : decode cX8_packet 43 = .ok (.ireturn, 1) := by decide +kernel
theorem dX8_least_0 : decode cX8_least 0 = .ok (.iload_n 0, 1) := by decide +kernel
theorem dX8_least_1 : decode cX8_least 1 = .ok (.bipush 121, 2) := by decide +kernel
theorem dX8_least_3 : decode cX8_least 3 = .ok (.if_icmp .eq 15, 3) := by decide +kernel
theorem dX8_least_6 : decode cX8_least 6 = .ok (.iload_n 0, 1) := by decide +kernel
theorem dX8_least_7 : decode cX8_least 7 = .ok (.bipush 122, 2) := by decide +kernel
theorem dX8_least_9 : decode cX8_least 9 = .ok (.if_icmp .eq 9, 3) := by decide +kernel
theorem dX8_least_12 : decode cX8_least 12 = .ok (.iload_n 0, 1) := by decide +kernel
theorem dX8_least_13 : decode cX8_least 13 = .ok (.bipush 125, 2) := by decide +kernel
theorem dX8_least_15 : decode cX8_least 15 = .ok (.if_icmp .ne 7, 3) := by decide +kernel
theorem dX8_least_18 : decode cX8_least 18 = .ok (.iconst 1, 1) := by decide +kernel
theorem dX8_least_19 : decode cX8_least 19 = .ok (.goto 14, 3) := by decide +kernel
theorem dX8_least_22 : decode cX8_least 22 = .ok (.iload_n 0, 1) := by decide +kernel
theorem dX8_least_23 : decode cX8_least 23 = .ok (.bipush 127, 2) := by decide +kernel
theorem dX8_least_25 : decode cX8_least 25 = .ok (.if_icmp .ne 7, 3) := by decide +kernel
theorem dX8_least_28 : decode cX8_least 28 = .ok (.iconst 2, 1) := by decide +kernel
theorem dX8_least_29 : decode cX8_least 29 = .ok (.goto 4, 3) := by decide +kernel
theorem dX8_least_32 : decode cX8_least 32 = .ok (.iconst 0, 1) := by decide +kernel
theorem dX8_least_33 : decode cX8_least 33 = .ok (.ireturn, 1) := by decide +kernel
theorem dX8_greatest_0 : decode cX8_greatest 0 = .ok (.iload_n 0, 1) := by decide +kernel
theorem dX8_greatest_1 : decode cX8_greatest 1 = .ok (.tableswitch 58 121 127 #[43, 47, 50, 58, 52, 43, 55], 43) := by decide +kernel
theorem dX8_greatest_44 : decode cX8_greatest 44 = .ok (.sipush 1000, 3) := by decide +kernel
theorem dX8_greatest_47 : decode cX8_greatest 47 = .ok (.ireturn, 1) := by decide +kernel
theorem dX8_greatest_48 : decode cX8_greatest 48 = .ok (.bipush 100, 2) := by decide +kernel
theorem dX8_greatest_50 : decode cX8_greatest 50 = .ok (.ireturn, 1) := by decide +kernel
theorem dX8_greatest_51 : decode cX8_greatest 51 = .ok (.iconst 4, 1) := by decide +kernel
theorem dX8_greatest_52 : decode cX8_greatest 52 = .ok (.ireturn, 1) := by decide +kernel
theorem dX8_greatest_53 : decode cX8_greatest 53 = .ok (.bipush 16, 2) := by decide +kernel
theorem dX8_greatest_55 : decode cX8_greatest 55 = .ok (.ireturn, 1) := by decide +kernel
theorem dX8_greatest_56 : decode cX8_greatest 56 = .ok (.bipush 9, 2) := by decide +kernel
theorem dX8_greatest_58 : decode cX8_greatest 58 = .ok (.ireturn, 1) := by decide +kernel
theorem dX8_greatest_59 : decode cX8_greatest 59 = .ok (.iconst 2, 1) := by decide +kernel
theorem dX8_greatest_60 : decode cX8_greatest 60 = .ok (.ireturn, 1) := by decide +kernel
theorem dX8_fits_0 : decode cX8_fits 0 = .ok (.iload_n 1, 1) := by decide +kernel
theorem dX8_fits_1 : decode cX8_fits 1 = .ok (.iload_n 0, 1) := by decide +kernel
theorem dX8_fits_2 : decode cX8_fits 2 = .ok (.invokestatic 87, 3) := by decide +kernel
theorem dX8_fits_5 : decode cX8_fits 5 = .ok (.iload_n 0, 1) := by decide +kernel
theorem dX8_fits_6 : decode cX8_fits 6 = .ok (.invokestatic 91, 3) := by decide +kernel
theorem dX8_fits_9 : decode cX8_fits 9 = .ok (.invokestatic 59, 3) := by decide +kernel
theorem dX8_fits_12 : decode cX8_fits 12 = .ok (.ireturn, 1) := by decide +kernel
theorem dX8_becomes_0 : decode cX8_becomes 0 = .ok (.aload_n 0, 1) := by decide +kernel
theorem dX8_becomes_1 : decode cX8_becomes 1 = .ok (.getfield 7, 3) := by decide +kernel
theorem dX8_becomes_4 : decode cX8_becomes 4 = .ok (.iload_n 1, 1) := by decide +kernel
theorem dX8_becomes_5 : decode cX8_becomes 5 = .ok (.iaload, 1) := by decide +kernel
theorem dX8_becomes_6 : decode cX8_becomes 6 = .ok (.istore_n 3, 1) := by decide +kernel
theorem dX8_becomes_7 : decode cX8_becomes 7 = .ok (.aload_n 0, 1) := by decide +kernel
theorem dX8_becomes_8 : decode cX8_becomes 8 = .ok (.getfield 7, 3) := by decide +kernel
theorem dX8_becomes_11 : decode cX8_becomes 11 = .ok (.iload_n 1, 1) := by decide +kernel
theorem dX8_becomes_12 : decode cX8_becomes 12 = .ok (.iload_n 2, 1) := by decide +kernel
theorem dX8_becomes_13 : decode cX8_becomes 13 = .ok (.iastore, 1) := by decide +kernel
theorem dX8_becomes_14 : decode cX8_becomes 14 = .ok (.iload_n 3, 1) := by decide +kernel
theorem dX8_becomes_15 : decode cX8_becomes 15 = .ok (.ireturn, 1) := by decide +kernel
theorem dX8_sets_0 : decode cX8_sets 0 = .ok (.aload_n 0, 1) := by decide +kernel
theorem dX8_sets_1 : decode cX8_sets 1 = .ok (.iload_n 1, 1) := by decide +kernel
theorem dX8_sets_2 : decode cX8_sets 2 = .ok (.iload_n 2, 1) := by decide +kernel
theorem dX8_sets_3 : decode cX8_sets 3 = .ok (.invokestatic 94, 3) := by decide +kernel
theorem dX8_sets_6 : decode cX8_sets 6 = .ok (.ifCond .eq 7, 3) := by decide +kernel
theorem dX8_sets_9 : decode cX8_sets 9 = .ok (.iconst 0, 1) := by decide +kernel
theorem dX8_sets_10 : decode cX8_sets 10 = .ok (.goto 4, 3) := by decide +kernel
theorem dX8_sets_13 : decode cX8_sets 13 = .ok (.iconst 1, 1) := by decide +kernel
theorem dX8_sets_14 : decode cX8_sets 14 = .ok (.invokevirtual 75, 3) := by decide +kernel
theorem dX8_sets_17 : decode cX8_sets 17 = .ok (.ifCond .eq 5, 3) := by decide +kernel
theorem dX8_sets_20 : decode cX8_sets 20 = .ok (.iconst 0, 1) := by decide +kernel
theorem dX8_sets_21 : decode cX8_sets 21 = .ok (.ireturn, 1) := by decide +kernel
theorem dX8_sets_22 : decode cX8_sets 22 = .ok (.aload_n 0, 1) := by decide +kernel
theorem dX8_sets_23 : decode cX8_sets 23 = .ok (.invokevirtual 78, 3) := by decide +kernel
theorem dX8_sets_26 : decode cX8_sets 26 = .ok (.aload_n 0, 1) := by decide +kernel
theorem dX8_sets_27 : decode cX8_sets 27 = .ok (.iload_n 1, 1) := by decide +kernel
theorem dX8_sets_28 : decode cX8_sets 28 = .ok (.iload_n 2, 1) := by decide +kernel
theorem dX8_sets_29 : decode cX8_sets 29 = .ok (.invokevirtual 98, 3) := by decide +kernel
theorem dX8_sets_32 : decode cX8_sets 32 = .ok (.ireturn, 1) := by decide +kernel
theorem dX8_setCapacity_0 : decode cX8_setCapacity 0 = .ok (.aload_n 0, 1) := by decide +kernel
theorem dX8_setCapacity_1 : decode cX8_setCapacity 1 = .ok (.bipush 121, 2) := by decide +kernel
theorem dX8_setCapacity_3 : decode cX8_setCapacity 3 = .ok (.iload_n 1, 1) := by decide +kernel
theorem dX8_setCapacity_4 : decode cX8_setCapacity 4 = .ok (.invokevirtual 101, 3) := by decide +kernel
theorem dX8_setCapacity_7 : decode cX8_setCapacity 7 = .ok (.ireturn, 1) := by decide +kernel
theorem dX8_setRate_0 : decode cX8_setRate 0 = .ok (.aload_n 0, 1) := by decide +kernel
theorem dX8_setRate_1 : decode cX8_setRate 1 = .ok (.bipush 122, 2) := by decide +kernel
theorem dX8_setRate_3 : decode cX8_setRate 3 = .ok (.iload_n 1, 1) := by decide +kernel
theorem dX8_setRate_4 : decode cX8_setRate 4 = .ok (.invokevirtual 101, 3) := by decide +kernel
theorem dX8_setRate_7 : decode cX8_setRate 7 = .ok (.ireturn, 1) := by decide +kernel
theorem dX8_setPolicy_0 : decode cX8_setPolicy 0 = .ok (.aload_n 0, 1) := by decide +kernel
theorem dX8_setPolicy_1 : decode cX8_setPolicy 1 = .ok (.bipush 123, 2) := by decide +kernel
theorem dX8_setPolicy_3 : decode cX8_setPolicy 3 = .ok (.iload_n 1, 1) := by decide +kernel
theorem dX8_setPolicy_4 : decode cX8_setPolicy 4 = .ok (.invokevirtual 101, 3) := by decide +kernel
theorem dX8_setPolicy_7 : decode cX8_setPolicy 7 = .ok (.ireturn, 1) := by decide +kernel
theorem dX8_setScheduler_0 : decode cX8_setScheduler 0 = .ok (.aload_n 0, 1) := by decide +kernel
theorem dX8_setScheduler_1 : decode cX8_setScheduler 1 = .ok (.bipush 124, 2) := by decide +kernel
theorem dX8_setScheduler_3 : decode cX8_setScheduler 3 = .ok (.iload_n 1, 1) := by decide +kernel
theorem dX8_setScheduler_4 : decode cX8_setScheduler 4 = .ok (.invokevirtual 101, 3) := by decide +kernel
theorem dX8_setScheduler_7 : decode cX8_setScheduler 7 = .ok (.ireturn, 1) := by decide +kernel
theorem dX8_setFactor_0 : decode cX8_setFactor 0 = .ok (.aload_n 0, 1) := by decide +kernel
theorem dX8_setFactor_1 : decode cX8_setFactor 1 = .ok (.bipush 125, 2) := by decide +kernel
theorem dX8_setFactor_3 : decode cX8_setFactor 3 = .ok (.iload_n 1, 1) := by decide +kernel
theorem dX8_setFactor_4 : decode cX8_setFactor 4 = .ok (.invokevirtual 101, 3) := by decide +kernel
theorem dX8_setFactor_7 : decode cX8_setFactor 7 = .ok (.ireturn, 1) := by decide +kernel
theorem dX8_setThreshold_0 : decode cX8_setThreshold 0 = .ok (.aload_n 0, 1) := by decide +kernel
theorem dX8_setThreshold_1 : decode cX8_setThreshold 1 = .ok (.bipush 126, 2) := by decide +kernel
theorem dX8_setThreshold_3 : decode cX8_setThreshold 3 = .ok (.iload_n 1, 1) := by decide +kernel
theorem dX8_setThreshold_4 : decode cX8_setThreshold 4 = .ok (.invokevirtual 101, 3) := by decide +kernel
theorem dX8_setThreshold_7 : decode cX8_setThreshold 7 = .ok (.ireturn, 1) := by decide +kernel
theorem dX8_setInterval_0 : decode cX8_setInterval 0 = .ok (.aload_n 0, 1) := by decide +kernel
theorem dX8_setInterval_1 : decode cX8_setInterval 1 = .ok (.bipush 127, 2) := by decide +kernel
theorem dX8_setInterval_3 : decode cX8_setInterval 3 = .ok (.iload_n 1, 1) := by decide +kernel
theorem dX8_setInterval_4 : decode cX8_setInterval 4 = .ok (.invokevirtual 101, 3) := by decide +kernel
theorem dX8_setInterval_7 : decode cX8_setInterval 7 = .ok (.ireturn, 1) := by decide +kernel
theorem dX8_setMeasure_0 : decode cX8_setMeasure 0 = .ok (.aload_n 0, 1) := by decide +kernel
theorem dX8_setMeasure_1 : decode cX8_setMeasure 1 = .ok (.sipush 128, 3) := by decide +kernel
theorem dX8_setMeasure_4 : decode cX8_setMeasure 4 = .ok (.iload_n 1, 1) := by decide +kernel
theorem dX8_setMeasure_5 : decode cX8_setMeasure 5 = .ok (.invokevirtual 101, 3) := by decide +kernel
theorem dX8_setMeasure_8 : decode cX8_setMeasure 8 = .ok (.ireturn, 1) := by decide +kernel
theorem dX8_setPriority_0 : decode cX8_setPriority 0 = .ok (.aload_n 0, 1) := by decide +kernel
theorem dX8_setPriority_1 : decode cX8_setPriority 1 = .ok (.iload_n 1, 1) := by decide +kernel
theorem dX8_setPriority_2 : decode cX8_setPriority 2 = .ok (.invokestatic 63, 3) := by decide +kernel
theorem dX8_setPriority_5 : decode cX8_setPriority 5 = .ok (.ifCond .ne 7, 3) := by decide +kernel
theorem dX8_setPriority_8 : decode cX8_setPriority 8 = .ok (.iconst 1, 1) := by decide +kernel
theorem dX8_setPriority_9 : decode cX8_setPriority 9 = .ok (.goto 18, 3) := by decide +kernel
theorem dX8_setPriority_12 : decode cX8_setPriority 12 = .ok (.iload_n 2, 1) := by decide +kernel
theorem dX8_setPriority_13 : decode cX8_setPriority 13 = .ok (.iconst 0, 1) := by decide +kernel
theorem dX8_setPriority_14 : decode cX8_setPriority 14 = .ok (.bipush 9, 2) := by decide +kernel
theorem dX8_setPriority_16 : decode cX8_setPriority 16 = .ok (.invokestatic 59, 3) := by decide +kernel
theorem dX8_setPriority_19 : decode cX8_setPriority 19 = .ok (.ifCond .eq 7, 3) := by decide +kernel
theorem dX8_setPriority_22 : decode cX8_setPriority 22 = .ok (.iconst 0, 1) := by decide +kernel
theorem dX8_setPriority_23 : decode cX8_setPriority 23 = .ok (.goto 4, 3) := by decide +kernel
theorem dX8_setPriority_26 : decode cX8_setPriority 26 = .ok (.iconst 2, 1) := by decide +kernel
theorem dX8_setPriority_27 : decode cX8_setPriority 27 = .ok (.invokevirtual 75, 3) := by decide +kernel
theorem dX8_setPriority_30 : decode cX8_setPriority 30 = .ok (.ifCond .eq 5, 3) := by decide +kernel
theorem dX8_setPriority_33 : decode cX8_setPriority 33 = .ok (.iconst 0, 1) := by decide +kernel
theorem dX8_setPriority_34 : decode cX8_setPriority 34 = .ok (.ireturn, 1) := by decide +kernel
theorem dX8_setPriority_35 : decode cX8_setPriority 35 = .ok (.aload_n 0, 1) := by decide +kernel
theorem dX8_setPriority_36 : decode cX8_setPriority 36 = .ok (.invokevirtual 78, 3) := by decide +kernel
theorem dX8_setPriority_39 : decode cX8_setPriority 39 = .ok (.aload_n 0, 1) := by decide +kernel
theorem dX8_setPriority_40 : decode cX8_setPriority 40 = .ok (.sipush 129, 3) := by decide +kernel
theorem dX8_setPriority_43 : decode cX8_setPriority 43 = .ok (.iload_n 1, 1) := by decide +kernel
theorem dX8_setPriority_44 : decode cX8_setPriority 44 = .ok (.iadd, 1) := by decide +kernel
theorem dX8_setPriority_45 : decode cX8_setPriority 45 = .ok (.iload_n 2, 1) := by decide +kernel
theorem dX8_setPriority_46 : decode cX8_setPriority 46 = .ok (.invokevirtual 98, 3) := by decide +kernel
theorem dX8_setPriority_49 : decode cX8_setPriority 49 = .ok (.ireturn, 1) := by decide +kernel
theorem dX8_isWhole_0 : decode cX8_isWhole 0 = .ok (.aload_n 0, 1) := by decide +kernel
theorem dX8_isWhole_1 : decode cX8_isWhole 1 = .ok (.getfield 28, 3) := by decide +kernel
theorem dX8_isWhole_4 : decode cX8_isWhole 4 = .ok (.iload_n 1, 1) := by decide +kernel
theorem dX8_isWhole_5 : decode cX8_isWhole 5 = .ok (.iaload, 1) := by decide +kernel
theorem dX8_isWhole_6 : decode cX8_isWhole 6 = .ok (.aload_n 0, 1) := by decide +kernel
theorem dX8_isWhole_7 : decode cX8_isWhole 7 = .ok (.iload_n 1, 1) := by decide +kernel
theorem dX8_isWhole_8 : decode cX8_isWhole 8 = .ok (.iconst 2, 1) := by decide +kernel
theorem dX8_isWhole_9 : decode cX8_isWhole 9 = .ok (.invokevirtual 67, 3) := by decide +kernel
theorem dX8_isWhole_12 : decode cX8_isWhole 12 = .ok (.if_icmp .ne 7, 3) := by decide +kernel
theorem dX8_isWhole_15 : decode cX8_isWhole 15 = .ok (.iconst 1, 1) := by decide +kernel
theorem dX8_isWhole_16 : decode cX8_isWhole 16 = .ok (.goto 4, 3) := by decide +kernel
theorem dX8_isWhole_19 : decode cX8_isWhole 19 = .ok (.iconst 0, 1) := by decide +kernel
theorem dX8_isWhole_20 : decode cX8_isWhole 20 = .ok (.ireturn, 1) := by decide +kernel
theorem dX8_leaves_0 : decode cX8_leaves 0 = .ok (.aload_n 0, 1) := by decide +kernel
theorem dX8_leaves_1 : decode cX8_leaves 1 = .ok (.dup, 1) := by decide +kernel
theorem dX8_leaves_2 : decode cX8_leaves 2 = .ok (.getfield 104, 3) := by decide +kernel
theorem dX8_leaves_5 : decode cX8_leaves 5 = .ok (.aload_n 0, 1) := by decide +kernel
theorem dX8_leaves_6 : decode cX8_leaves 6 = .ok (.getfield 28, 3) := by decide +kernel
theorem dX8_leaves_9 : decode cX8_leaves 9 = .ok (.aload_n 0, 1) := by decide +kernel
theorem dX8_leaves_10 : decode cX8_leaves 10 = .ok (.getfield 25, 3) := by decide +kernel
theorem dX8_leaves_13 : decode cX8_leaves 13 = .ok (.iload_n 1, 1) := by decide +kernel
theorem dX8_leaves_14 : decode cX8_leaves 14 = .ok (.iaload, 1) := by decide +kernel
theorem dX8_leaves_15 : decode cX8_leaves 15 = .ok (.iaload, 1) := by decide +kernel
theorem dX8_leaves_16 : decode cX8_leaves 16 = .ok (.isub, 1) := by decide +kernel
theorem dX8_leaves_17 : decode cX8_leaves 17 = .ok (.putfield 104, 3) := by decide +kernel
theorem dX8_leaves_20 : decode cX8_leaves 20 = .ok (.aload_n 0, 1) := by decide +kernel
theorem dX8_leaves_21 : decode cX8_leaves 21 = .ok (.dup, 1) := by decide +kernel
theorem dX8_leaves_22 : decode cX8_leaves 22 = .ok (.getfield 107, 3) := by decide +kernel
theorem dX8_leaves_25 : decode cX8_leaves 25 = .ok (.iconst 1, 1) := by decide +kernel
theorem dX8_leaves_26 : decode cX8_leaves 26 = .ok (.isub, 1) := by decide +kernel
theorem dX8_leaves_27 : decode cX8_leaves 27 = .ok (.putfield 107, 3) := by decide +kernel
theorem dX8_leaves_30 : decode cX8_leaves 30 = .ok (.iload_n 1, 1) := by decide +kernel
theorem dX8_leaves_31 : decode cX8_leaves 31 = .ok (.istore_n 2, 1) := by decide +kernel
theorem dX8_leaves_32 : decode cX8_leaves 32 = .ok (.iload_n 2, 1) := by decide +kernel
theorem dX8_leaves_33 : decode cX8_leaves 33 = .ok (.aload_n 0, 1) := by decide +kernel
theorem dX8_leaves_34 : decode cX8_leaves 34 = .ok (.getfield 107, 3) := by decide +kernel
theorem dX8_leaves_37 : decode cX8_leaves 37 = .ok (.if_icmp .ge 23, 3) := by decide +kernel
theorem dX8_leaves_40 : decode cX8_leaves 40 = .ok (.aload_n 0, 1) := by decide +kernel
theorem dX8_leaves_41 : decode cX8_leaves 41 = .ok (.getfield 25, 3) := by decide +kernel
theorem dX8_leaves_44 : decode cX8_leaves 44 = .ok (.iload_n 2, 1) := by decide +kernel
theorem dX8_leaves_45 : decode cX8_leaves 45 = .ok (.aload_n 0, 1) := by decide +kernel
theorem dX8_leaves_46 : decode cX8_leaves 46 = .ok (.getfield 25, 3) := by decide +kernel
theorem dX8_leaves_49 : decode cX8_leaves 49 = .ok (.iload_n 2, 1) := by decide +kernel
theorem dX8_leaves_50 : decode cX8_leaves 50 = .ok (.iconst 1, 1) := by decide +kernel
theorem dX8_leaves_51 : decode cX8_leaves 51 = .ok (.iadd, 1) := by decide +kernel
theorem dX8_leaves_52 : decode cX8_leaves 52 = .ok (.iaload, 1) := by decide +kernel
theorem dX8_leaves_53 : decode cX8_leaves 53 = .ok (.iastore, 1) := by decide +kernel
theorem dX8_leaves_54 : decode cX8_leaves 54 = .ok (.iinc 2 1, 3) := by decide +kernel
theorem dX8_leaves_57 : decode cX8_leaves 57 = .ok (.goto (-25), 3) := by decide +kernel
theorem dX8_leaves_60 : decode cX8_leaves 60 = .ok (.return_, 1) := by decide +kernel
theorem dX8_drops_0 : decode cX8_drops 0 = .ok (.aload_n 0, 1) := by decide +kernel
theorem dX8_drops_1 : decode cX8_drops 1 = .ok (.getfield 16, 3) := by decide +kernel
theorem dX8_drops_4 : decode cX8_drops 4 = .ok (.iload_n 1, 1) := by decide +kernel
theorem dX8_drops_5 : decode cX8_drops 5 = .ok (.bipush (-2), 2) := by decide +kernel
theorem dX8_drops_7 : decode cX8_drops 7 = .ok (.iastore, 1) := by decide +kernel
theorem dX8_drops_8 : decode cX8_drops 8 = .ok (.aload_n 0, 1) := by decide +kernel
theorem dX8_drops_9 : decode cX8_drops 9 = .ok (.getfield 19, 3) := by decide +kernel
theorem dX8_drops_12 : decode cX8_drops 12 = .ok (.aload_n 0, 1) := by decide +kernel
theorem dX8_drops_13 : decode cX8_drops 13 = .ok (.getfield 110, 3) := by decide +kernel
theorem dX8_drops_16 : decode cX8_drops 16 = .ok (.iload_n 1, 1) := by decide +kernel
theorem dX8_drops_17 : decode cX8_drops 17 = .ok (.iastore, 1) := by decide +kernel
theorem dX8_drops_18 : decode cX8_drops 18 = .ok (.aload_n 0, 1) := by decide +kernel
theorem dX8_drops_19 : decode cX8_drops 19 = .ok (.dup, 1) := by decide +kernel
theorem dX8_drops_20 : decode cX8_drops 20 = .ok (.getfield 110, 3) := by decide +kernel
theorem dX8_drops_23 : decode cX8_drops 23 = .ok (.iconst 1, 1) := by decide +kernel
theorem dX8_drops_24 : decode cX8_drops 24 = .ok (.iadd, 1) := by decide +kernel
theorem dX8_drops_25 : decode cX8_drops 25 = .ok (.putfield 110, 3) := by decide +kernel
theorem dX8_drops_28 : decode cX8_drops 28 = .ok (.return_, 1) := by decide +kernel
theorem dX8_dropsAt_0 : decode cX8_dropsAt 0 = .ok (.aload_n 0, 1) := by decide +kernel
theorem dX8_dropsAt_1 : decode cX8_dropsAt 1 = .ok (.getfield 25, 3) := by decide +kernel
theorem dX8_dropsAt_4 : decode cX8_dropsAt 4 = .ok (.iload_n 1, 1) := by decide +kernel
theorem dX8_dropsAt_5 : decode cX8_dropsAt 5 = .ok (.iaload, 1) := by decide +kernel
theorem dX8_dropsAt_6 : decode cX8_dropsAt 6 = .ok (.istore_n 2, 1) := by decide +kernel
theorem dX8_dropsAt_7 : decode cX8_dropsAt 7 = .ok (.aload_n 0, 1) := by decide +kernel
theorem dX8_dropsAt_8 : decode cX8_dropsAt 8 = .ok (.iload_n 1, 1) := by decide +kernel
theorem dX8_dropsAt_9 : decode cX8_dropsAt 9 = .ok (.invokevirtual 113, 3) := by decide +kernel
theorem dX8_dropsAt_12 : decode cX8_dropsAt 12 = .ok (.aload_n 0, 1) := by decide +kernel
theorem dX8_dropsAt_13 : decode cX8_dropsAt 13 = .ok (.iload_n 2, 1) := by decide +kernel
theorem dX8_dropsAt_14 : decode cX8_dropsAt 14 = .ok (.invokevirtual 117, 3) := by decide +kernel
theorem dX8_dropsAt_17 : decode cX8_dropsAt 17 = .ok (.return_, 1) := by decide +kernel
theorem dX8_firstWhole_0 : decode cX8_firstWhole 0 = .ok (.iconst 0, 1) := by decide +kernel
theorem dX8_firstWhole_1 : decode cX8_firstWhole 1 = .ok (.istore_n 1, 1) := by decide +kernel
theorem dX8_firstWhole_2 : decode cX8_firstWhole 2 = .ok (.iload_n 1, 1) := by decide +kernel
theorem dX8_firstWhole_3 : decode cX8_firstWhole 3 = .ok (.aload_n 0, 1) := by decide +kernel
theorem dX8_firstWhole_4 : decode cX8_firstWhole 4 = .ok (.getfield 107, 3) := by decide +kernel
theorem dX8_firstWhole_7 : decode cX8_firstWhole 7 = .ok (.if_icmp .ge 24, 3) := by decide +kernel
theorem dX8_firstWhole_10 : decode cX8_firstWhole 10 = .ok (.aload_n 0, 1) := by decide +kernel
theorem dX8_firstWhole_11 : decode cX8_firstWhole 11 = .ok (.aload_n 0, 1) := by decide +kernel
theorem dX8_firstWhole_12 : decode cX8_firstWhole 12 = .ok (.getfield 25, 3) := by decide +kernel
theorem dX8_firstWhole_15 : decode cX8_firstWhole 15 = .ok (.iload_n 1, 1) := by decide +kernel
theorem dX8_firstWhole_16 : decode cX8_firstWhole 16 = .ok (.iaload, 1) := by decide +kernel
theorem dX8_firstWhole_17 : decode cX8_firstWhole 17 = .ok (.invokevirtual 119, 3) := by decide +kernel
theorem dX8_firstWhole_20 : decode cX8_firstWhole 20 = .ok (.ifCond .eq 5, 3) := by decide +kernel
theorem dX8_firstWhole_23 : decode cX8_firstWhole 23 = .ok (.iload_n 1, 1) := by decide +kernel
theorem dX8_firstWhole_24 : decode cX8_firstWhole 24 = .ok (.ireturn, 1) := by decide +kernel
theorem dX8_firstWhole_25 : decode cX8_firstWhole 25 = .ok (.iinc 1 1, 3) := by decide +kernel
theorem dX8_firstWhole_28 : decode cX8_firstWhole 28 = .ok (.goto (-26), 3) := by decide +kernel
theorem dX8_firstWhole_31 : decode cX8_firstWhole 31 = .ok (.iconst (-1), 1) := by decide +kernel
theorem dX8_firstWhole_32 : decode cX8_firstWhole 32 = .ok (.ireturn, 1) := by decide +kernel
theorem dX8_lastWhole_0 : decode cX8_lastWhole 0 = .ok (.iconst (-1), 1) := by decide +kernel
theorem dX8_lastWhole_1 : decode cX8_lastWhole 1 = .ok (.istore_n 2, 1) := by decide +kernel
theorem dX8_lastWhole_2 : decode cX8_lastWhole 2 = .ok (.iconst 0, 1) := by decide +kernel
theorem dX8_lastWhole_3 : decode cX8_lastWhole 3 = .ok (.istore_n 3, 1) := by decide +kernel
theorem dX8_lastWhole_4 : decode cX8_lastWhole 4 = .ok (.iload_n 3, 1) := by decide +kernel
theorem dX8_lastWhole_5 : decode cX8_lastWhole 5 = .ok (.aload_n 0, 1) := by decide +kernel
theorem dX8_lastWhole_6 : decode cX8_lastWhole 6 = .ok (.getfield 107, 3) := by decide +kernel
theorem dX8_lastWhole_9 : decode cX8_lastWhole 9 = .ok (.if_icmp .ge 43, 3) := by decide +kernel
theorem dX8_lastWhole_12 : decode cX8_lastWhole 12 = .ok (.aload_n 0, 1) := by decide +kernel
theorem dX8_lastWhole_13 : decode cX8_lastWhole 13 = .ok (.aload_n 0, 1) := by decide +kernel
theorem dX8_lastWhole_14 : decode cX8_lastWhole 14 = .ok (.getfield 25, 3) := by decide +kernel
theorem dX8_lastWhole_17 : decode cX8_lastWhole 17 = .ok (.iload_n 3, 1) := by decide +kernel
theorem dX8_lastWhole_18 : decode cX8_lastWhole 18 = .ok (.iaload, 1) := by decide +kernel
theorem dX8_lastWhole_19 : decode cX8_lastWhole 19 = .ok (.invokevirtual 119, 3) := by decide +kernel
theorem dX8_lastWhole_22 : decode cX8_lastWhole 22 = .ok (.ifCond .eq 22, 3) := by decide +kernel
theorem dX8_lastWhole_25 : decode cX8_lastWhole 25 = .ok (.aload_n 0, 1) := by decide +kernel
theorem dX8_lastWhole_26 : decode cX8_lastWhole 26 = .ok (.aload_n 0, 1) := by decide +kernel
theorem dX8_lastWhole_27 : decode cX8_lastWhole 27 = .ok (.getfield 25, 3) := by decide +kernel
theorem dX8_lastWhole_30 : decode cX8_lastWhole 30 = .ok (.iload_n 3, 1) := by decide +kernel
theorem dX8_lastWhole_31 : decode cX8_lastWhole 31 = .ok (.iaload, 1) := by decide +kernel
theorem dX8_lastWhole_32 : decode cX8_lastWhole 32 = .ok (.iconst 1, 1) := by decide +kernel
theorem dX8_lastWhole_33 : decode cX8_lastWhole 33 = .ok (.invokevirtual 67, 3) := by decide +kernel
theorem dX8_lastWhole_36 : decode cX8_lastWhole 36 = .ok (.iload_n 1, 1) := by decide +kernel
theorem dX8_lastWhole_37 : decode cX8_lastWhole 37 = .ok (.if_icmp .ne 7, 3) := by decide +kernel
theorem dX8_lastWhole_40 : decode cX8_lastWhole 40 = .ok (.iload_n 3, 1) := by decide +kernel
theorem dX8_lastWhole_41 : decode cX8_lastWhole 41 = .ok (.goto 4, 3) := by decide +kernel
theorem dX8_lastWhole_44 : decode cX8_lastWhole 44 = .ok (.iload_n 2, 1) := by decide +kernel
theorem dX8_lastWhole_45 : decode cX8_lastWhole 45 = .ok (.istore_n 2, 1) := by decide +kernel
theorem dX8_lastWhole_46 : decode cX8_lastWhole 46 = .ok (.iinc 3 1, 3) := by decide +kernel
theorem dX8_lastWhole_49 : decode cX8_lastWhole 49 = .ok (.goto (-45), 3) := by decide +kernel
theorem dX8_lastWhole_52 : decode cX8_lastWhole 52 = .ok (.iload_n 2, 1) := by decide +kernel
theorem dX8_lastWhole_53 : decode cX8_lastWhole 53 = .ok (.ireturn, 1) := by decide +kernel
theorem dX8_longest_0 : decode cX8_longest 0 = .ok (.iconst (-1), 1) := by decide +kernel
theorem dX8_longest_1 : decode cX8_longest 1 = .ok (.istore_n 2, 1) := by decide +kernel
theorem dX8_longest_2 : decode cX8_longest 2 = .ok (.iconst (-1), 1) := by decide +kernel
theorem dX8_longest_3 : decode cX8_longest 3 = .ok (.istore_n 3, 1) := by decide +kernel
theorem dX8_longest_4 : decode cX8_longest 4 = .ok (.iconst 0, 1) := by decide +kernel
theorem dX8_longest_5 : decode cX8_longest 5 = .ok (.istore 4, 2) := by decide +kernel
theorem dX8_longest_7 : decode cX8_longest 7 = .ok (.iload 4, 2) := by decide +kernel
theorem dX8_longest_9 : decode cX8_longest 9 = .ok (.bipush 6, 2) := by decide +kernel
theorem dX8_longest_11 : decode cX8_longest 11 = .ok (.if_icmp .ge 128, 3) := by decide +kernel
theorem dX8_longest_14 : decode cX8_longest 14 = .ok (.aload_n 0, 1) := by decide +kernel
theorem dX8_longest_15 : decode cX8_longest 15 = .ok (.iload_n 1, 1) := by decide +kernel
theorem dX8_longest_16 : decode cX8_longest 16 = .ok (.iconst 1, 1) := by decide +kernel
theorem dX8_longest_17 : decode cX8_longest 17 = .ok (.invokevirtual 67, 3) := by decide +kernel
theorem dX8_longest_20 : decode cX8_longest 20 = .ok (.iload 4, 2) := by decide +kernel
theorem dX8_longest_22 : decode cX8_longest 22 = .ok (.if_icmp .ne 12, 3) := by decide +kernel
theorem dX8_longest_25 : decode cX8_longest 25 = .ok (.aload_n 0, 1) := by decide +kernel
theorem dX8_longest_26 : decode cX8_longest 26 = .ok (.iload_n 1, 1) := by decide +kernel
theorem dX8_longest_27 : decode cX8_longest 27 = .ok (.iconst 2, 1) := by decide +kernel
theorem dX8_longest_28 : decode cX8_longest 28 = .ok (.invokevirtual 67, 3) := by decide +kernel
theorem dX8_longest_31 : decode cX8_longest 31 = .ok (.goto 4, 3) := by decide +kernel
theorem dX8_longest_34 : decode cX8_longest 34 = .ok (.iconst 0, 1) := by decide +kernel
theorem dX8_longest_35 : decode cX8_longest 35 = .ok (.istore 5, 2) := by decide +kernel
theorem dX8_longest_37 : decode cX8_longest 37 = .ok (.iconst 0, 1) := by decide +kernel
theorem dX8_longest_38 : decode cX8_longest 38 = .ok (.istore 6, 2) := by decide +kernel
theorem dX8_longest_40 : decode cX8_longest 40 = .ok (.iload 6, 2) := by decide +kernel
theorem dX8_longest_42 : decode cX8_longest 42 = .ok (.aload_n 0, 1) := by decide +kernel
theorem dX8_longest_43 : decode cX8_longest 43 = .ok (.getfield 107, 3) := by decide +kernel
theorem dX8_longest_46 : decode cX8_longest 46 = .ok (.if_icmp .ge 61, 3) := by decide +kernel
theorem dX8_longest_49 : decode cX8_longest 49 = .ok (.iload 5, 2) := by decide +kernel
theorem dX8_longest_51 : decode cX8_longest 51 = .ok (.aload_n 0, 1) := by decide +kernel
theorem dX8_longest_52 : decode cX8_longest 52 = .ok (.aload_n 0, 1) := by decide +kernel
theorem dX8_longest_53 : decode cX8_longest 53 = .ok (.getfield 25, 3) := by decide +kernel
theorem dX8_longest_56 : decode cX8_longest 56 = .ok (.iload 6, 2) := by decide +kernel
theorem dX8_longest_58 : decode cX8_longest 58 = .ok (.iaload, 1) := by decide +kernel
theorem dX8_longest_59 : decode cX8_longest 59 = .ok (.invokevirtual 119, 3) := by decide +kernel
theorem dX8_longest_62 : decode cX8_longest 62 = .ok (.ifCond .eq 35, 3) := by decide +kernel
theorem dX8_longest_65 : decode cX8_longest 65 = .ok (.aload_n 0, 1) := by decide +kernel
theorem dX8_longest_66 : decode cX8_longest 66 = .ok (.aload_n 0, 1) := by decide +kernel
theorem dX8_longest_67 : decode cX8_longest 67 = .ok (.getfield 25, 3) := by decide +kernel
theorem dX8_longest_70 : decode cX8_longest 70 = .ok (.iload 6, 2) := by decide +kernel
theorem dX8_longest_72 : decode cX8_longest 72 = .ok (.iaload, 1) := by decide +kernel
theorem dX8_longest_73 : decode cX8_longest 73 = .ok (.iconst 1, 1) := by decide +kernel
theorem dX8_longest_74 : decode cX8_longest 74 = .ok (.invokevirtual 67, 3) := by decide +kernel
theorem dX8_longest_77 : decode cX8_longest 77 = .ok (.iload 4, 2) := by decide +kernel
theorem dX8_longest_79 : decode cX8_longest 79 = .ok (.if_icmp .ne 18, 3) := by decide +kernel
theorem dX8_longest_82 : decode cX8_longest 82 = .ok (.aload_n 0, 1) := by decide +kernel
theorem dX8_longest_83 : decode cX8_longest 83 = .ok (.aload_n 0, 1) := by decide +kernel
theorem dX8_longest_84 : decode cX8_longest 84 = .ok (.getfield 25, 3) := by decide +kernel
theorem dX8_longest_87 : decode cX8_longest 87 = .ok (.iload 6, 2) := by decide +kernel
theorem dX8_longest_89 : decode cX8_longest 89 = .ok (.iaload, 1) := by decide +kernel
theorem dX8_longest_90 : decode cX8_longest 90 = .ok (.iconst 2, 1) := by decide +kernel
theorem dX8_longest_91 : decode cX8_longest 91 = .ok (.invokevirtual 67, 3) := by decide +kernel
theorem dX8_longest_94 : decode cX8_longest 94 = .ok (.goto 4, 3) := by decide +kernel
theorem dX8_longest_97 : decode cX8_longest 97 = .ok (.iconst 0, 1) := by decide +kernel
theorem dX8_longest_98 : decode cX8_longest 98 = .ok (.iadd, 1) := by decide +kernel
theorem dX8_longest_99 : decode cX8_longest 99 = .ok (.istore 5, 2) := by decide +kernel
theorem dX8_longest_101 : decode cX8_longest 101 = .ok (.iinc 6 1, 3) := by decide +kernel
theorem dX8_longest_104 : decode cX8_longest 104 = .ok (.goto (-64), 3) := by decide +kernel
theorem dX8_longest_107 : decode cX8_longest 107 = .ok (.iload 5, 2) := by decide +kernel
theorem dX8_longest_109 : decode cX8_longest 109 = .ok (.iload_n 3, 1) := by decide +kernel
theorem dX8_longest_110 : decode cX8_longest 110 = .ok (.if_icmp .le 8, 3) := by decide +kernel
theorem dX8_longest_113 : decode cX8_longest 113 = .ok (.iload 4, 2) := by decide +kernel
theorem dX8_longest_115 : decode cX8_longest 115 = .ok (.goto 4, 3) := by decide +kernel
theorem dX8_longest_118 : decode cX8_longest 118 = .ok (.iload_n 2, 1) := by decide +kernel
theorem dX8_longest_119 : decode cX8_longest 119 = .ok (.istore_n 2, 1) := by decide +kernel
theorem dX8_longest_120 : decode cX8_longest 120 = .ok (.iload 5, 2) := by decide +kernel
theorem dX8_longest_122 : decode cX8_longest 122 = .ok (.iload_n 3, 1) := by decide +kernel
theorem dX8_longest_123 : decode cX8_longest 123 = .ok (.if_icmp .le 8, 3) := by decide +kernel
theorem dX8_longest_126 : decode cX8_longest 126 = .ok (.iload 5, 2) := by decide +kernel
theorem dX8_longest_128 : decode cX8_longest 128 = .ok (.goto 4, 3) := by decide +kernel
theorem dX8_longest_131 : decode cX8_longest 131 = .ok (.iload_n 3, 1) := by decide +kernel
theorem dX8_longest_132 : decode cX8_longest 132 = .ok (.istore_n 3, 1) := by decide +kernel
theorem dX8_longest_133 : decode cX8_longest 133 = .ok (.iinc 4 1, 3) := by decide +kernel
theorem dX8_longest_136 : decode cX8_longest 136 = .ok (.goto (-129), 3) := by decide +kernel
theorem dX8_longest_139 : decode cX8_longest 139 = .ok (.iload_n 2, 1) := by decide +kernel
theorem dX8_longest_140 : decode cX8_longest 140 = .ok (.ireturn, 1) := by decide +kernel
theorem dX8_makesRoom_0 : decode cX8_makesRoom 0 = .ok (.aload_n 0, 1) := by decide +kernel
theorem dX8_makesRoom_1 : decode cX8_makesRoom 1 = .ok (.getfield 104, 3) := by decide +kernel
theorem dX8_makesRoom_4 : decode cX8_makesRoom 4 = .ok (.aload_n 0, 1) := by decide +kernel
theorem dX8_makesRoom_5 : decode cX8_makesRoom 5 = .ok (.iload_n 1, 1) := by decide +kernel
theorem dX8_makesRoom_6 : decode cX8_makesRoom 6 = .ok (.iconst 2, 1) := by decide +kernel
theorem dX8_makesRoom_7 : decode cX8_makesRoom 7 = .ok (.invokevirtual 67, 3) := by decide +kernel
theorem dX8_makesRoom_10 : decode cX8_makesRoom 10 = .ok (.iadd, 1) := by decide +kernel
theorem dX8_makesRoom_11 : decode cX8_makesRoom 11 = .ok (.aload_n 0, 1) := by decide +kernel
theorem dX8_makesRoom_12 : decode cX8_makesRoom 12 = .ok (.getfield 7, 3) := by decide +kernel
theorem dX8_makesRoom_15 : decode cX8_makesRoom 15 = .ok (.bipush 121, 2) := by decide +kernel
theorem dX8_makesRoom_17 : decode cX8_makesRoom 17 = .ok (.iaload, 1) := by decide +kernel
theorem dX8_makesRoom_18 : decode cX8_makesRoom 18 = .ok (.if_icmp .le 76, 3) := by decide +kernel
theorem dX8_makesRoom_21 : decode cX8_makesRoom 21 = .ok (.iconst (-1), 1) := by decide +kernel
theorem dX8_makesRoom_22 : decode cX8_makesRoom 22 = .ok (.istore_n 2, 1) := by decide +kernel
theorem dX8_makesRoom_23 : decode cX8_makesRoom 23 = .ok (.aload_n 0, 1) := by decide +kernel
theorem dX8_makesRoom_24 : decode cX8_makesRoom 24 = .ok (.getfield 7, 3) := by decide +kernel
theorem dX8_makesRoom_27 : decode cX8_makesRoom 27 = .ok (.bipush 123, 2) := by decide +kernel
theorem dX8_makesRoom_29 : decode cX8_makesRoom 29 = .ok (.iaload, 1) := by decide +kernel
theorem dX8_makesRoom_30 : decode cX8_makesRoom 30 = .ok (.iconst 1, 1) := by decide +kernel
theorem dX8_makesRoom_31 : decode cX8_makesRoom 31 = .ok (.if_icmp .ne 11, 3) := by decide +kernel
theorem dX8_makesRoom_34 : decode cX8_makesRoom 34 = .ok (.aload_n 0, 1) := by decide +kernel
theorem dX8_makesRoom_35 : decode cX8_makesRoom 35 = .ok (.invokevirtual 122, 3) := by decide +kernel
theorem dX8_makesRoom_38 : decode cX8_makesRoom 38 = .ok (.istore_n 2, 1) := by decide +kernel
theorem dX8_makesRoom_39 : decode cX8_makesRoom 39 = .ok (.goto 40, 3) := by decide +kernel
theorem dX8_makesRoom_42 : decode cX8_makesRoom 42 = .ok (.aload_n 0, 1) := by decide +kernel
theorem dX8_makesRoom_43 : decode cX8_makesRoom 43 = .ok (.getfield 7, 3) := by decide +kernel
theorem dX8_makesRoom_46 : decode cX8_makesRoom 46 = .ok (.bipush 123, 2) := by decide +kernel
theorem dX8_makesRoom_48 : decode cX8_makesRoom 48 = .ok (.iaload, 1) := by decide +kernel
theorem dX8_makesRoom_49 : decode cX8_makesRoom 49 = .ok (.iconst 2, 1) := by decide +kernel
theorem dX8_makesRoom_50 : decode cX8_makesRoom 50 = .ok (.if_icmp .ne 29, 3) := by decide +kernel
theorem dX8_makesRoom_53 : decode cX8_makesRoom 53 = .ok (.aload_n 0, 1) := by decide +kernel
theorem dX8_makesRoom_54 : decode cX8_makesRoom 54 = .ok (.iload_n 1, 1) := by decide +kernel
theorem dX8_makesRoom_55 : decode cX8_makesRoom 55 = .ok (.invokevirtual 126, 3) := by decide +kernel
theorem dX8_makesRoom_58 : decode cX8_makesRoom 58 = .ok (.istore_n 3, 1) := by decide +kernel
theorem dX8_makesRoom_59 : decode cX8_makesRoom 59 = .ok (.iload_n 3, 1) := by decide +kernel
theorem dX8_makesRoom_60 : decode cX8_makesRoom 60 = .ok (.aload_n 0, 1) := by decide +kernel
theorem dX8_makesRoom_61 : decode cX8_makesRoom 61 = .ok (.iload_n 1, 1) := by decide +kernel
theorem dX8_makesRoom_62 : decode cX8_makesRoom 62 = .ok (.iconst 1, 1) := by decide +kernel
theorem dX8_makesRoom_63 : decode cX8_makesRoom 63 = .ok (.invokevirtual 67, 3) := by decide +kernel
theorem dX8_makesRoom_66 : decode cX8_makesRoom 66 = .ok (.if_icmp .ne 7, 3) := by decide +kernel
theorem dX8_makesRoom_69 : decode cX8_makesRoom 69 = .ok (.iconst (-1), 1) := by decide +kernel
theorem dX8_makesRoom_70 : decode cX8_makesRoom 70 = .ok (.goto 8, 3) := by decide +kernel
theorem dX8_makesRoom_73 : decode cX8_makesRoom 73 = .ok (.aload_n 0, 1) := by decide +kernel
theorem dX8_makesRoom_74 : decode cX8_makesRoom 74 = .ok (.iload_n 3, 1) := by decide +kernel
theorem dX8_makesRoom_75 : decode cX8_makesRoom 75 = .ok (.invokevirtual 129, 3) := by decide +kernel
theorem dX8_makesRoom_78 : decode cX8_makesRoom 78 = .ok (.istore_n 2, 1) := by decide +kernel
theorem dX8_makesRoom_79 : decode cX8_makesRoom 79 = .ok (.iload_n 2, 1) := by decide +kernel
theorem dX8_makesRoom_80 : decode cX8_makesRoom 80 = .ok (.iconst (-1), 1) := by decide +kernel
theorem dX8_makesRoom_81 : decode cX8_makesRoom 81 = .ok (.if_icmp .ne 5, 3) := by decide +kernel
theorem dX8_makesRoom_84 : decode cX8_makesRoom 84 = .ok (.iconst 0, 1) := by decide +kernel
theorem dX8_makesRoom_85 : decode cX8_makesRoom 85 = .ok (.ireturn, 1) := by decide +kernel
theorem dX8_makesRoom_86 : decode cX8_makesRoom 86 = .ok (.aload_n 0, 1) := by decide +kernel
theorem dX8_makesRoom_87 : decode cX8_makesRoom 87 = .ok (.iload_n 2, 1) := by decide +kernel
theorem dX8_makesRoom_88 : decode cX8_makesRoom 88 = .ok (.invokevirtual 132, 3) := by decide +kernel
theorem dX8_makesRoom_91 : decode cX8_makesRoom 91 = .ok (.goto (-91), 3) := by decide +kernel
theorem dX8_makesRoom_94 : decode cX8_makesRoom 94 = .ok (.iconst 1, 1) := by decide +kernel
theorem dX8_makesRoom_95 : decode cX8_makesRoom 95 = .ok (.ireturn, 1) := by decide +kernel
theorem dX8_isOverShare_0 : decode cX8_isOverShare 0 = .ok (.aload_n 0, 1) := by decide +kernel
theorem dX8_isOverShare_1 : decode cX8_isOverShare 1 = .ok (.iload_n 1, 1) := by decide +kernel
theorem dX8_isOverShare_2 : decode cX8_isOverShare 2 = .ok (.iconst 2, 1) := by decide +kernel
theorem dX8_isOverShare_3 : decode cX8_isOverShare 3 = .ok (.invokevirtual 67, 3) := by decide +kernel
theorem dX8_isOverShare_6 : decode cX8_isOverShare 6 = .ok (.istore_n 2, 1) := by decide +kernel
theorem dX8_isOverShare_7 : decode cX8_isOverShare 7 = .ok (.iconst 0, 1) := by decide +kernel
theorem dX8_isOverShare_8 : decode cX8_isOverShare 8 = .ok (.istore_n 3, 1) := by decide +kernel
theorem dX8_isOverShare_9 : decode cX8_isOverShare 9 = .ok (.iload_n 3, 1) := by decide +kernel
theorem dX8_isOverShare_10 : decode cX8_isOverShare 10 = .ok (.aload_n 0, 1) := by decide +kernel
theorem dX8_isOverShare_11 : decode cX8_isOverShare 11 = .ok (.getfield 107, 3) := by decide +kernel
theorem dX8_isOverShare_14 : decode cX8_isOverShare 14 = .ok (.if_icmp .ge 47, 3) := by decide +kernel
theorem dX8_isOverShare_17 : decode cX8_isOverShare 17 = .ok (.iload_n 2, 1) := by decide +kernel
theorem dX8_isOverShare_18 : decode cX8_isOverShare 18 = .ok (.aload_n 0, 1) := by decide +kernel
theorem dX8_isOverShare_19 : decode cX8_isOverShare 19 = .ok (.aload_n 0, 1) := by decide +kernel
theorem dX8_isOverShare_20 : decode cX8_isOverShare 20 = .ok (.getfield 25, 3) := by decide +kernel
theorem dX8_isOverShare_23 : decode cX8_isOverShare 23 = .ok (.iload_n 3, 1) := by decide +kernel
theorem dX8_isOverShare_24 : decode cX8_isOverShare 24 = .ok (.iaload, 1) := by decide +kernel
theorem dX8_isOverShare_25 : decode cX8_isOverShare 25 = .ok (.iconst 1, 1) := by decide +kernel
theorem dX8_isOverShare_26 : decode cX8_isOverShare 26 = .ok (.invokevirtual 67, 3) := by decide +kernel
theorem dX8_isOverShare_29 : decode cX8_isOverShare 29 = .ok (.aload_n 0, 1) := by decide +kernel
theorem dX8_isOverShare_30 : decode cX8_isOverShare 30 = .ok (.iload_n 1, 1) := by decide +kernel
theorem dX8_isOverShare_31 : decode cX8_isOverShare 31 = .ok (.iconst 1, 1) := by decide +kernel
theorem dX8_isOverShare_32 : decode cX8_isOverShare 32 = .ok (.invokevirtual 67, 3) := by decide +kernel
theorem dX8_isOverShare_35 : decode cX8_isOverShare 35 = .ok (.if_icmp .ne 17, 3) := by decide +kernel
theorem dX8_isOverShare_38 : decode cX8_isOverShare 38 = .ok (.aload_n 0, 1) := by decide +kernel
theorem dX8_isOverShare_39 : decode cX8_isOverShare 39 = .ok (.getfield 28, 3) := by decide +kernel
theorem dX8_isOverShare_42 : decode cX8_isOverShare 42 = .ok (.aload_n 0, 1) := by decide +kernel
theorem dX8_isOverShare_43 : decode cX8_isOverShare 43 = .ok (.getfield 25, 3) := by decide +kernel
theorem dX8_isOverShare_46 : decode cX8_isOverShare 46 = .ok (.iload_n 3, 1) := by decide +kernel
theorem dX8_isOverShare_47 : decode cX8_isOverShare 47 = .ok (.iaload, 1) := by decide +kernel
theorem dX8_isOverShare_48 : decode cX8_isOverShare 48 = .ok (.iaload, 1) := by decide +kernel
theorem dX8_isOverShare_49 : decode cX8_isOverShare 49 = .ok (.goto 4, 3) := by decide +kernel
theorem dX8_isOverShare_52 : decode cX8_isOverShare 52 = .ok (.iconst 0, 1) := by decide +kernel
theorem dX8_isOverShare_53 : decode cX8_isOverShare 53 = .ok (.iadd, 1) := by decide +kernel
theorem dX8_isOverShare_54 : decode cX8_isOverShare 54 = .ok (.istore_n 2, 1) := by decide +kernel
theorem dX8_isOverShare_55 : decode cX8_isOverShare 55 = .ok (.iinc 3 1, 3) := by decide +kernel
theorem dX8_isOverShare_58 : decode cX8_isOverShare 58 = .ok (.goto (-49), 3) := by decide +kernel
theorem dX8_isOverShare_61 : decode cX8_isOverShare 61 = .ok (.iconst 4, 1) := by decide +kernel
theorem dX8_isOverShare_62 : decode cX8_isOverShare 62 = .ok (.iload_n 2, 1) := by decide +kernel
theorem dX8_isOverShare_63 : decode cX8_isOverShare 63 = .ok (.imul, 1) := by decide +kernel
theorem dX8_isOverShare_64 : decode cX8_isOverShare 64 = .ok (.aload_n 0, 1) := by decide +kernel
theorem dX8_isOverShare_65 : decode cX8_isOverShare 65 = .ok (.getfield 7, 3) := by decide +kernel
theorem dX8_isOverShare_68 : decode cX8_isOverShare 68 = .ok (.bipush 125, 2) := by decide +kernel
theorem dX8_isOverShare_70 : decode cX8_isOverShare 70 = .ok (.iaload, 1) := by decide +kernel
theorem dX8_isOverShare_71 : decode cX8_isOverShare 71 = .ok (.aload_n 0, 1) := by decide +kernel
theorem dX8_isOverShare_72 : decode cX8_isOverShare 72 = .ok (.getfield 7, 3) := by decide +kernel
theorem dX8_isOverShare_75 : decode cX8_isOverShare 75 = .ok (.bipush 121, 2) := by decide +kernel
theorem dX8_isOverShare_77 : decode cX8_isOverShare 77 = .ok (.iaload, 1) := by decide +kernel
theorem dX8_isOverShare_78 : decode cX8_isOverShare 78 = .ok (.aload_n 0, 1) := by decide +kernel
theorem dX8_isOverShare_79 : decode cX8_isOverShare 79 = .ok (.getfield 104, 3) := by decide +kernel
theorem dX8_isOverShare_82 : decode cX8_isOverShare 82 = .ok (.isub, 1) := by decide +kernel
theorem dX8_isOverShare_83 : decode cX8_isOverShare 83 = .ok (.imul, 1) := by decide +kernel
theorem dX8_isOverShare_84 : decode cX8_isOverShare 84 = .ok (.if_icmp .le 7, 3) := by decide +kernel
theorem dX8_isOverShare_87 : decode cX8_isOverShare 87 = .ok (.iconst 1, 1) := by decide +kernel
theorem dX8_isOverShare_88 : decode cX8_isOverShare 88 = .ok (.goto 4, 3) := by decide +kernel
theorem dX8_isOverShare_91 : decode cX8_isOverShare 91 = .ok (.iconst 0, 1) := by decide +kernel
theorem dX8_isOverShare_92 : decode cX8_isOverShare 92 = .ok (.ireturn, 1) := by decide +kernel
theorem dX8_isAccepted_0 : decode cX8_isAccepted 0 = .ok (.aload_n 0, 1) := by decide +kernel
theorem dX8_isAccepted_1 : decode cX8_isAccepted 1 = .ok (.iload_n 1, 1) := by decide +kernel
theorem dX8_isAccepted_2 : decode cX8_isAccepted 2 = .ok (.iconst 2, 1) := by decide +kernel
theorem dX8_isAccepted_3 : decode cX8_isAccepted 3 = .ok (.invokevirtual 67, 3) := by decide +kernel
theorem dX8_isAccepted_6 : decode cX8_isAccepted 6 = .ok (.aload_n 0, 1) := by decide +kernel
theorem dX8_isAccepted_7 : decode cX8_isAccepted 7 = .ok (.getfield 7, 3) := by decide +kernel
theorem dX8_isAccepted_10 : decode cX8_isAccepted 10 = .ok (.bipush 121, 2) := by decide +kernel
theorem dX8_isAccepted_12 : decode cX8_isAccepted 12 = .ok (.iaload, 1) := by decide +kernel
theorem dX8_isAccepted_13 : decode cX8_isAccepted 13 = .ok (.if_icmp .gt 11, 3) := by decide +kernel
theorem dX8_isAccepted_16 : decode cX8_isAccepted 16 = .ok (.aload_n 0, 1) := by decide +kernel
theorem dX8_isAccepted_17 : decode cX8_isAccepted 17 = .ok (.iload_n 1, 1) := by decide +kernel
theorem dX8_isAccepted_18 : decode cX8_isAccepted 18 = .ok (.invokevirtual 135, 3) := by decide +kernel
theorem dX8_isAccepted_21 : decode cX8_isAccepted 21 = .ok (.ifCond .ne 5, 3) := by decide +kernel
theorem dX8_isAccepted_24 : decode cX8_isAccepted 24 = .ok (.iconst 0, 1) := by decide +kernel
theorem dX8_isAccepted_25 : decode cX8_isAccepted 25 = .ok (.ireturn, 1) := by decide +kernel
theorem dX8_isAccepted_26 : decode cX8_isAccepted 26 = .ok (.aload_n 0, 1) := by decide +kernel
theorem dX8_isAccepted_27 : decode cX8_isAccepted 27 = .ok (.getfield 7, 3) := by decide +kernel
theorem dX8_isAccepted_30 : decode cX8_isAccepted 30 = .ok (.bipush 123, 2) := by decide +kernel
theorem dX8_isAccepted_32 : decode cX8_isAccepted 32 = .ok (.iaload, 1) := by decide +kernel
theorem dX8_isAccepted_33 : decode cX8_isAccepted 33 = .ok (.iconst 3, 1) := by decide +kernel
theorem dX8_isAccepted_34 : decode cX8_isAccepted 34 = .ok (.if_icmp .ne 17, 3) := by decide +kernel
theorem dX8_isAccepted_37 : decode cX8_isAccepted 37 = .ok (.aload_n 0, 1) := by decide +kernel
theorem dX8_isAccepted_38 : decode cX8_isAccepted 38 = .ok (.iload_n 1, 1) := by decide +kernel
theorem dX8_isAccepted_39 : decode cX8_isAccepted 39 = .ok (.invokevirtual 138, 3) := by decide +kernel
theorem dX8_isAccepted_42 : decode cX8_isAccepted 42 = .ok (.ifCond .ne 7, 3) := by decide +kernel
theorem dX8_isAccepted_45 : decode cX8_isAccepted 45 = .ok (.iconst 1, 1) := by decide +kernel
theorem dX8_isAccepted_46 : decode cX8_isAccepted 46 = .ok (.goto 4, 3) := by decide +kernel
theorem dX8_isAccepted_49 : decode cX8_isAccepted 49 = .ok (.iconst 0, 1) := by decide +kernel
theorem dX8_isAccepted_50 : decode cX8_isAccepted 50 = .ok (.ireturn, 1) := by decide +kernel
theorem dX8_isAccepted_51 : decode cX8_isAccepted 51 = .ok (.aload_n 0, 1) := by decide +kernel
theorem dX8_isAccepted_52 : decode cX8_isAccepted 52 = .ok (.getfield 7, 3) := by decide +kernel
theorem dX8_isAccepted_55 : decode cX8_isAccepted 55 = .ok (.bipush 123, 2) := by decide +kernel
theorem dX8_isAccepted_57 : decode cX8_isAccepted 57 = .ok (.iaload, 1) := by decide +kernel
theorem dX8_isAccepted_58 : decode cX8_isAccepted 58 = .ok (.iconst 4, 1) := by decide +kernel
theorem dX8_isAccepted_59 : decode cX8_isAccepted 59 = .ok (.if_icmp .ne 48, 3) := by decide +kernel
theorem dX8_isAccepted_62 : decode cX8_isAccepted 62 = .ok (.aload_n 0, 1) := by decide +kernel
theorem dX8_isAccepted_63 : decode cX8_isAccepted 63 = .ok (.getfield 104, 3) := by decide +kernel
theorem dX8_isAccepted_66 : decode cX8_isAccepted 66 = .ok (.aload_n 0, 1) := by decide +kernel
theorem dX8_isAccepted_67 : decode cX8_isAccepted 67 = .ok (.getfield 7, 3) := by decide +kernel
theorem dX8_isAccepted_70 : decode cX8_isAccepted 70 = .ok (.bipush 126, 2) := by decide +kernel
theorem dX8_isAccepted_72 : decode cX8_isAccepted 72 = .ok (.iaload, 1) := by decide +kernel
theorem dX8_isAccepted_73 : decode cX8_isAccepted 73 = .ok (.if_icmp .lt 34, 3) := by decide +kernel
theorem dX8_isAccepted_76 : decode cX8_isAccepted 76 = .ok (.aload_n 0, 1) := by decide +kernel
theorem dX8_isAccepted_77 : decode cX8_isAccepted 77 = .ok (.dup, 1) := by decide +kernel
theorem dX8_isAccepted_78 : decode cX8_isAccepted 78 = .ok (.getfield 141, 3) := by decide +kernel
theorem dX8_isAccepted_81 : decode cX8_isAccepted 81 = .ok (.iconst 1, 1) := by decide +kernel
theorem dX8_isAccepted_82 : decode cX8_isAccepted 82 = .ok (.iadd, 1) := by decide +kernel
theorem dX8_isAccepted_83 : decode cX8_isAccepted 83 = .ok (.putfield 141, 3) := by decide +kernel
theorem dX8_isAccepted_86 : decode cX8_isAccepted 86 = .ok (.aload_n 0, 1) := by decide +kernel
theorem dX8_isAccepted_87 : decode cX8_isAccepted 87 = .ok (.getfield 141, 3) := by decide +kernel
theorem dX8_isAccepted_90 : decode cX8_isAccepted 90 = .ok (.aload_n 0, 1) := by decide +kernel
theorem dX8_isAccepted_91 : decode cX8_isAccepted 91 = .ok (.getfield 7, 3) := by decide +kernel
theorem dX8_isAccepted_94 : decode cX8_isAccepted 94 = .ok (.bipush 127, 2) := by decide +kernel
theorem dX8_isAccepted_96 : decode cX8_isAccepted 96 = .ok (.iaload, 1) := by decide +kernel
theorem dX8_isAccepted_97 : decode cX8_isAccepted 97 = .ok (.irem, 1) := by decide +kernel
theorem dX8_isAccepted_98 : decode cX8_isAccepted 98 = .ok (.ifCond .eq 7, 3) := by decide +kernel
theorem dX8_isAccepted_101 : decode cX8_isAccepted 101 = .ok (.iconst 1, 1) := by decide +kernel
theorem dX8_isAccepted_102 : decode cX8_isAccepted 102 = .ok (.goto 4, 3) := by decide +kernel
theorem dX8_isAccepted_105 : decode cX8_isAccepted 105 = .ok (.iconst 0, 1) := by decide +kernel
theorem dX8_isAccepted_106 : decode cX8_isAccepted 106 = .ok (.ireturn, 1) := by decide +kernel
theorem dX8_isAccepted_107 : decode cX8_isAccepted 107 = .ok (.iconst 1, 1) := by decide +kernel
theorem dX8_isAccepted_108 : decode cX8_isAccepted 108 = .ok (.ireturn, 1) := by decide +kernel
theorem dX8_arrives_0 : decode cX8_arrives 0 = .ok (.aload_n 0, 1) := by decide +kernel
theorem dX8_arrives_1 : decode cX8_arrives 1 = .ok (.iload_n 1, 1) := by decide +kernel
theorem dX8_arrives_2 : decode cX8_arrives 2 = .ok (.invokevirtual 144, 3) := by decide +kernel
theorem dX8_arrives_5 : decode cX8_arrives 5 = .ok (.ifCond .ne 9, 3) := by decide +kernel
theorem dX8_arrives_8 : decode cX8_arrives 8 = .ok (.aload_n 0, 1) := by decide +kernel
theorem dX8_arrives_9 : decode cX8_arrives 9 = .ok (.iload_n 1, 1) := by decide +kernel
theorem dX8_arrives_10 : decode cX8_arrives 10 = .ok (.invokevirtual 117, 3) := by decide +kernel
theorem dX8_arrives_13 : decode cX8_arrives 13 = .ok (.return_, 1) := by decide +kernel
theorem dX8_arrives_14 : decode cX8_arrives 14 = .ok (.aload_n 0, 1) := by decide +kernel
theorem dX8_arrives_15 : decode cX8_arrives 15 = .ok (.getfield 28, 3) := by decide +kernel
theorem dX8_arrives_18 : decode cX8_arrives 18 = .ok (.iload_n 1, 1) := by decide +kernel
theorem dX8_arrives_19 : decode cX8_arrives 19 = .ok (.aload_n 0, 1) := by decide +kernel
theorem dX8_arrives_20 : decode cX8_arrives 20 = .ok (.iload_n 1, 1) := by decide +kernel
theorem dX8_arrives_21 : decode cX8_arrives 21 = .ok (.iconst 2, 1) := by decide +kernel
theorem dX8_arrives_22 : decode cX8_arrives 22 = .ok (.invokevirtual 67, 3) := by decide +kernel
theorem dX8_arrives_25 : decode cX8_arrives 25 = .ok (.iastore, 1) := by decide +kernel
theorem dX8_arrives_26 : decode cX8_arrives 26 = .ok (.aload_n 0, 1) := by decide +kernel
theorem dX8_arrives_27 : decode cX8_arrives 27 = .ok (.getfield 25, 3) := by decide +kernel
theorem dX8_arrives_30 : decode cX8_arrives 30 = .ok (.aload_n 0, 1) := by decide +kernel
theorem dX8_arrives_31 : decode cX8_arrives 31 = .ok (.getfield 107, 3) := by decide +kernel
theorem dX8_arrives_34 : decode cX8_arrives 34 = .ok (.iload_n 1, 1) := by decide +kernel
theorem dX8_arrives_35 : decode cX8_arrives 35 = .ok (.iastore, 1) := by decide +kernel
theorem dX8_arrives_36 : decode cX8_arrives 36 = .ok (.aload_n 0, 1) := by decide +kernel
theorem dX8_arrives_37 : decode cX8_arrives 37 = .ok (.dup, 1) := by decide +kernel
theorem dX8_arrives_38 : decode cX8_arrives 38 = .ok (.getfield 107, 3) := by decide +kernel
theorem dX8_arrives_41 : decode cX8_arrives 41 = .ok (.iconst 1, 1) := by decide +kernel
theorem dX8_arrives_42 : decode cX8_arrives 42 = .ok (.iadd, 1) := by decide +kernel
theorem dX8_arrives_43 : decode cX8_arrives 43 = .ok (.putfield 107, 3) := by decide +kernel
theorem dX8_arrives_46 : decode cX8_arrives 46 = .ok (.aload_n 0, 1) := by decide +kernel
theorem dX8_arrives_47 : decode cX8_arrives 47 = .ok (.dup, 1) := by decide +kernel
theorem dX8_arrives_48 : decode cX8_arrives 48 = .ok (.getfield 104, 3) := by decide +kernel
theorem dX8_arrives_51 : decode cX8_arrives 51 = .ok (.aload_n 0, 1) := by decide +kernel
theorem dX8_arrives_52 : decode cX8_arrives 52 = .ok (.getfield 28, 3) := by decide +kernel
theorem dX8_arrives_55 : decode cX8_arrives 55 = .ok (.iload_n 1, 1) := by decide +kernel
theorem dX8_arrives_56 : decode cX8_arrives 56 = .ok (.iaload, 1) := by decide +kernel
theorem dX8_arrives_57 : decode cX8_arrives 57 = .ok (.iadd, 1) := by decide +kernel
theorem dX8_arrives_58 : decode cX8_arrives 58 = .ok (.putfield 104, 3) := by decide +kernel
theorem dX8_arrives_61 : decode cX8_arrives 61 = .ok (.return_, 1) := by decide +kernel
theorem dX8_firstOf_0 : decode cX8_firstOf 0 = .ok (.iconst 0, 1) := by decide +kernel
theorem dX8_firstOf_1 : decode cX8_firstOf 1 = .ok (.istore_n 2, 1) := by decide +kernel
theorem dX8_firstOf_2 : decode cX8_firstOf 2 = .ok (.iload_n 2, 1) := by decide +kernel
theorem dX8_firstOf_3 : decode cX8_firstOf 3 = .ok (.aload_n 0, 1) := by decide +kernel
theorem dX8_firstOf_4 : decode cX8_firstOf 4 = .ok (.getfield 107, 3) := by decide +kernel
theorem dX8_firstOf_7 : decode cX8_firstOf 7 = .ok (.if_icmp .ge 26, 3) := by decide +kernel
theorem dX8_firstOf_10 : decode cX8_firstOf 10 = .ok (.aload_n 0, 1) := by decide +kernel
theorem dX8_firstOf_11 : decode cX8_firstOf 11 = .ok (.aload_n 0, 1) := by decide +kernel
theorem dX8_firstOf_12 : decode cX8_firstOf 12 = .ok (.getfield 25, 3) := by decide +kernel
theorem dX8_firstOf_15 : decode cX8_firstOf 15 = .ok (.iload_n 2, 1) := by decide +kernel
theorem dX8_firstOf_16 : decode cX8_firstOf 16 = .ok (.iaload, 1) := by decide +kernel
theorem dX8_firstOf_17 : decode cX8_firstOf 17 = .ok (.iconst 1, 1) := by decide +kernel
theorem dX8_firstOf_18 : decode cX8_firstOf 18 = .ok (.invokevirtual 67, 3) := by decide +kernel
theorem dX8_firstOf_21 : decode cX8_firstOf 21 = .ok (.iload_n 1, 1) := by decide +kernel
theorem dX8_firstOf_22 : decode cX8_firstOf 22 = .ok (.if_icmp .ne 5, 3) := by decide +kernel
theorem dX8_firstOf_25 : decode cX8_firstOf 25 = .ok (.iload_n 2, 1) := by decide +kernel
theorem dX8_firstOf_26 : decode cX8_firstOf 26 = .ok (.ireturn, 1) := by decide +kernel
theorem dX8_firstOf_27 : decode cX8_firstOf 27 = .ok (.iinc 2 1, 3) := by decide +kernel
theorem dX8_firstOf_30 : decode cX8_firstOf 30 = .ok (.goto (-28), 3) := by decide +kernel
theorem dX8_firstOf_33 : decode cX8_firstOf 33 = .ok (.iconst (-1), 1) := by decide +kernel
theorem dX8_firstOf_34 : decode cX8_firstOf 34 = .ok (.ireturn, 1) := by decide +kernel
theorem dX8_scheduled_0 : decode cX8_scheduled 0 = .ok (.iconst 0, 1) := by decide +kernel
theorem dX8_scheduled_1 : decode cX8_scheduled 1 = .ok (.istore_n 1, 1) := by decide +kernel
theorem dX8_scheduled_2 : decode cX8_scheduled 2 = .ok (.aload_n 0, 1) := by decide +kernel
theorem dX8_scheduled_3 : decode cX8_scheduled 3 = .ok (.getfield 7, 3) := by decide +kernel
theorem dX8_scheduled_6 : decode cX8_scheduled 6 = .ok (.bipush 124, 2) := by decide +kernel
theorem dX8_scheduled_8 : decode cX8_scheduled 8 = .ok (.iaload, 1) := by decide +kernel
theorem dX8_scheduled_9 : decode cX8_scheduled 9 = .ok (.iconst 1, 1) := by decide +kernel
theorem dX8_scheduled_10 : decode cX8_scheduled 10 = .ok (.if_icmp .ne 64, 3) := by decide +kernel
theorem dX8_scheduled_13 : decode cX8_scheduled 13 = .ok (.bipush 10, 2) := by decide +kernel
theorem dX8_scheduled_15 : decode cX8_scheduled 15 = .ok (.istore_n 2, 1) := by decide +kernel
theorem dX8_scheduled_16 : decode cX8_scheduled 16 = .ok (.iconst 0, 1) := by decide +kernel
theorem dX8_scheduled_17 : decode cX8_scheduled 17 = .ok (.istore_n 3, 1) := by decide +kernel
theorem dX8_scheduled_18 : decode cX8_scheduled 18 = .ok (.iload_n 3, 1) := by decide +kernel
theorem dX8_scheduled_19 : decode cX8_scheduled 19 = .ok (.bipush 6, 2) := by decide +kernel
theorem dX8_scheduled_21 : decode cX8_scheduled 21 = .ok (.if_icmp .ge 50, 3) := by decide +kernel
theorem dX8_scheduled_24 : decode cX8_scheduled 24 = .ok (.aload_n 0, 1) := by decide +kernel
theorem dX8_scheduled_25 : decode cX8_scheduled 25 = .ok (.iload_n 3, 1) := by decide +kernel
theorem dX8_scheduled_26 : decode cX8_scheduled 26 = .ok (.invokevirtual 147, 3) := by decide +kernel
theorem dX8_scheduled_29 : decode cX8_scheduled 29 = .ok (.istore 4, 2) := by decide +kernel
theorem dX8_scheduled_31 : decode cX8_scheduled 31 = .ok (.iload 4, 2) := by decide +kernel
theorem dX8_scheduled_33 : decode cX8_scheduled 33 = .ok (.iconst (-1), 1) := by decide +kernel
theorem dX8_scheduled_34 : decode cX8_scheduled 34 = .ok (.if_icmp .eq 31, 3) := by decide +kernel
theorem dX8_scheduled_37 : decode cX8_scheduled 37 = .ok (.aload_n 0, 1) := by decide +kernel
theorem dX8_scheduled_38 : decode cX8_scheduled 38 = .ok (.getfield 7, 3) := by decide +kernel
theorem dX8_scheduled_41 : decode cX8_scheduled 41 = .ok (.sipush 129, 3) := by decide +kernel
theorem dX8_scheduled_44 : decode cX8_scheduled 44 = .ok (.iload_n 3, 1) := by decide +kernel
theorem dX8_scheduled_45 : decode cX8_scheduled 45 = .ok (.iadd, 1) := by decide +kernel
theorem dX8_scheduled_46 : decode cX8_scheduled 46 = .ok (.iaload, 1) := by decide +kernel
theorem dX8_scheduled_47 : decode cX8_scheduled 47 = .ok (.iload_n 2, 1) := by decide +kernel
theorem dX8_scheduled_48 : decode cX8_scheduled 48 = .ok (.if_icmp .ge 17, 3) := by decide +kernel
theorem dX8_scheduled_51 : decode cX8_scheduled 51 = .ok (.aload_n 0, 1) := by decide +kernel
theorem dX8_scheduled_52 : decode cX8_scheduled 52 = .ok (.getfield 7, 3) := by decide +kernel
theorem dX8_scheduled_55 : decode cX8_scheduled 55 = .ok (.sipush 129, 3) := by decide +kernel
theorem dX8_scheduled_58 : decode cX8_scheduled 58 = .ok (.iload_n 3, 1) := by decide +kernel
theorem dX8_scheduled_59 : decode cX8_scheduled 59 = .ok (.iadd, 1) := by decide +kernel
theorem dX8_scheduled_60 : decode cX8_scheduled 60 = .ok (.iaload, 1) := by decide +kernel
theorem dX8_scheduled_61 : decode cX8_scheduled 61 = .ok (.istore_n 2, 1) := by decide +kernel
theorem dX8_scheduled_62 : decode cX8_scheduled 62 = .ok (.iload 4, 2) := by decide +kernel
theorem dX8_scheduled_64 : decode cX8_scheduled 64 = .ok (.istore_n 1, 1) := by decide +kernel
theorem dX8_scheduled_65 : decode cX8_scheduled 65 = .ok (.iinc 3 1, 3) := by decide +kernel
theorem dX8_scheduled_68 : decode cX8_scheduled 68 = .ok (.goto (-50), 3) := by decide +kernel
theorem dX8_scheduled_71 : decode cX8_scheduled 71 = .ok (.goto 49, 3) := by decide +kernel
theorem dX8_scheduled_74 : decode cX8_scheduled 74 = .ok (.aload_n 0, 1) := by decide +kernel
theorem dX8_scheduled_75 : decode cX8_scheduled 75 = .ok (.getfield 7, 3) := by decide +kernel
theorem dX8_scheduled_78 : decode cX8_scheduled 78 = .ok (.bipush 124, 2) := by decide +kernel
theorem dX8_scheduled_80 : decode cX8_scheduled 80 = .ok (.iaload, 1) := by decide +kernel
theorem dX8_scheduled_81 : decode cX8_scheduled 81 = .ok (.iconst 2, 1) := by decide +kernel
theorem dX8_scheduled_82 : decode cX8_scheduled 82 = .ok (.if_icmp .ne 38, 3) := by decide +kernel
theorem dX8_scheduled_85 : decode cX8_scheduled 85 = .ok (.aload_n 0, 1) := by decide +kernel
theorem dX8_scheduled_86 : decode cX8_scheduled 86 = .ok (.getfield 150, 3) := by decide +kernel
theorem dX8_scheduled_89 : decode cX8_scheduled 89 = .ok (.iconst 1, 1) := by decide +kernel
theorem dX8_scheduled_90 : decode cX8_scheduled 90 = .ok (.iadd, 1) := by decide +kernel
theorem dX8_scheduled_91 : decode cX8_scheduled 91 = .ok (.bipush 6, 2) := by decide +kernel
theorem dX8_scheduled_93 : decode cX8_scheduled 93 = .ok (.irem, 1) := by decide +kernel
theorem dX8_scheduled_94 : decode cX8_scheduled 94 = .ok (.istore_n 2, 1) := by decide +kernel
theorem dX8_scheduled_95 : decode cX8_scheduled 95 = .ok (.aload_n 0, 1) := by decide +kernel
theorem dX8_scheduled_96 : decode cX8_scheduled 96 = .ok (.iload_n 2, 1) := by decide +kernel
theorem dX8_scheduled_97 : decode cX8_scheduled 97 = .ok (.invokevirtual 147, 3) := by decide +kernel
theorem dX8_scheduled_100 : decode cX8_scheduled 100 = .ok (.iconst (-1), 1) := by decide +kernel
theorem dX8_scheduled_101 : decode cX8_scheduled 101 = .ok (.if_icmp .ne 13, 3) := by decide +kernel
theorem dX8_scheduled_104 : decode cX8_scheduled 104 = .ok (.iload_n 2, 1) := by decide +kernel
theorem dX8_scheduled_105 : decode cX8_scheduled 105 = .ok (.iconst 1, 1) := by decide +kernel
theorem dX8_scheduled_106 : decode cX8_scheduled 106 = .ok (.iadd, 1) := by decide +kernel
theorem dX8_scheduled_107 : decode cX8_scheduled 107 = .ok (.bipush 6, 2) := by decide +kernel
theorem dX8_scheduled_109 : decode cX8_scheduled 109 = .ok (.irem, 1) := by decide +kernel
theorem dX8_scheduled_110 : decode cX8_scheduled 110 = .ok (.istore_n 2, 1) := by decide +kernel
theorem dX8_scheduled_111 : decode cX8_scheduled 111 = .ok (.goto (-16), 3) := by decide +kernel
theorem dX8_scheduled_114 : decode cX8_scheduled 114 = .ok (.aload_n 0, 1) := by decide +kernel
theorem dX8_scheduled_115 : decode cX8_scheduled 115 = .ok (.iload_n 2, 1) := by decide +kernel
theorem dX8_scheduled_116 : decode cX8_scheduled 116 = .ok (.invokevirtual 147, 3) := by decide +kernel
theorem dX8_scheduled_119 : decode cX8_scheduled 119 = .ok (.istore_n 1, 1) := by decide +kernel
theorem dX8_scheduled_120 : decode cX8_scheduled 120 = .ok (.aload_n 0, 1) := by decide +kernel
theorem dX8_scheduled_121 : decode cX8_scheduled 121 = .ok (.aload_n 0, 1) := by decide +kernel
theorem dX8_scheduled_122 : decode cX8_scheduled 122 = .ok (.aload_n 0, 1) := by decide +kernel
theorem dX8_scheduled_123 : decode cX8_scheduled 123 = .ok (.getfield 25, 3) := by decide +kernel
theorem dX8_scheduled_126 : decode cX8_scheduled 126 = .ok (.iload_n 1, 1) := by decide +kernel
theorem dX8_scheduled_127 : decode cX8_scheduled 127 = .ok (.iaload, 1) := by decide +kernel
theorem dX8_scheduled_128 : decode cX8_scheduled 128 = .ok (.iconst 1, 1) := by decide +kernel
theorem dX8_scheduled_129 : decode cX8_scheduled 129 = .ok (.invokevirtual 67, 3) := by decide +kernel
theorem dX8_scheduled_132 : decode cX8_scheduled 132 = .ok (.putfield 150, 3) := by decide +kernel
theorem dX8_scheduled_135 : decode cX8_scheduled 135 = .ok (.iload_n 1, 1) := by decide +kernel
theorem dX8_scheduled_136 : decode cX8_scheduled 136 = .ok (.ireturn, 1) := by decide +kernel
theorem dX8_chosen_0 : decode cX8_chosen 0 = .ok (.iconst 0, 1) := by decide +kernel
theorem dX8_chosen_1 : decode cX8_chosen 1 = .ok (.istore_n 1, 1) := by decide +kernel
theorem dX8_chosen_2 : decode cX8_chosen 2 = .ok (.iload_n 1, 1) := by decide +kernel
theorem dX8_chosen_3 : decode cX8_chosen 3 = .ok (.aload_n 0, 1) := by decide +kernel
theorem dX8_chosen_4 : decode cX8_chosen 4 = .ok (.getfield 107, 3) := by decide +kernel
theorem dX8_chosen_7 : decode cX8_chosen 7 = .ok (.if_icmp .ge 24, 3) := by decide +kernel
theorem dX8_chosen_10 : decode cX8_chosen 10 = .ok (.aload_n 0, 1) := by decide +kernel
theorem dX8_chosen_11 : decode cX8_chosen 11 = .ok (.aload_n 0, 1) := by decide +kernel
theorem dX8_chosen_12 : decode cX8_chosen 12 = .ok (.getfield 25, 3) := by decide +kernel
theorem dX8_chosen_15 : decode cX8_chosen 15 = .ok (.iload_n 1, 1) := by decide +kernel
theorem dX8_chosen_16 : decode cX8_chosen 16 = .ok (.iaload, 1) := by decide +kernel
theorem dX8_chosen_17 : decode cX8_chosen 17 = .ok (.invokevirtual 119, 3) := by decide +kernel
theorem dX8_chosen_20 : decode cX8_chosen 20 = .ok (.ifCond .ne 5, 3) := by decide +kernel
theorem dX8_chosen_23 : decode cX8_chosen 23 = .ok (.iload_n 1, 1) := by decide +kernel
theorem dX8_chosen_24 : decode cX8_chosen 24 = .ok (.ireturn, 1) := by decide +kernel
theorem dX8_chosen_25 : decode cX8_chosen 25 = .ok (.iinc 1 1, 3) := by decide +kernel
theorem dX8_chosen_28 : decode cX8_chosen 28 = .ok (.goto (-26), 3) := by decide +kernel
theorem dX8_chosen_31 : decode cX8_chosen 31 = .ok (.aload_n 0, 1) := by decide +kernel
theorem dX8_chosen_32 : decode cX8_chosen 32 = .ok (.invokevirtual 153, 3) := by decide +kernel
theorem dX8_chosen_35 : decode cX8_chosen 35 = .ok (.ireturn, 1) := by decide +kernel
theorem dX8_serves_0 : decode cX8_serves 0 = .ok (.aload_n 0, 1) := by decide +kernel
theorem dX8_serves_1 : decode cX8_serves 1 = .ok (.getfield 7, 3) := by decide +kernel
theorem dX8_serves_4 : decode cX8_serves 4 = .ok (.bipush 122, 2) := by decide +kernel
theorem dX8_serves_6 : decode cX8_serves 6 = .ok (.iaload, 1) := by decide +kernel
theorem dX8_serves_7 : decode cX8_serves 7 = .ok (.istore_n 2, 1) := by decide +kernel
theorem dX8_serves_8 : decode cX8_serves 8 = .ok (.iload_n 2, 1) := by decide +kernel
theorem dX8_serves_9 : decode cX8_serves 9 = .ok (.ifCond .le 101, 3) := by decide +kernel
theorem dX8_serves_12 : decode cX8_serves 12 = .ok (.aload_n 0, 1) := by decide +kernel
theorem dX8_serves_13 : decode cX8_serves 13 = .ok (.getfield 107, 3) := by decide +kernel
theorem dX8_serves_16 : decode cX8_serves 16 = .ok (.ifCond .le 94, 3) := by decide +kernel
theorem dX8_serves_19 : decode cX8_serves 19 = .ok (.aload_n 0, 1) := by decide +kernel
theorem dX8_serves_20 : decode cX8_serves 20 = .ok (.invokevirtual 156, 3) := by decide +kernel
theorem dX8_serves_23 : decode cX8_serves 23 = .ok (.istore_n 3, 1) := by decide +kernel
theorem dX8_serves_24 : decode cX8_serves 24 = .ok (.aload_n 0, 1) := by decide +kernel
theorem dX8_serves_25 : decode cX8_serves 25 = .ok (.getfield 25, 3) := by decide +kernel
theorem dX8_serves_28 : decode cX8_serves 28 = .ok (.iload_n 3, 1) := by decide +kernel
theorem dX8_serves_29 : decode cX8_serves 29 = .ok (.iaload, 1) := by decide +kernel
theorem dX8_serves_30 : decode cX8_serves 30 = .ok (.istore 4, 2) := by decide +kernel
theorem dX8_serves_32 : decode cX8_serves 32 = .ok (.aload_n 0, 1) := by decide +kernel
theorem dX8_serves_33 : decode cX8_serves 33 = .ok (.getfield 28, 3) := by decide +kernel
theorem dX8_serves_36 : decode cX8_serves 36 = .ok (.iload 4, 2) := by decide +kernel
theorem dX8_serves_38 : decode cX8_serves 38 = .ok (.iaload, 1) := by decide +kernel
theorem dX8_serves_39 : decode cX8_serves 39 = .ok (.iload_n 2, 1) := by decide +kernel
theorem dX8_serves_40 : decode cX8_serves 40 = .ok (.if_icmp .ge 13, 3) := by decide +kernel
theorem dX8_serves_43 : decode cX8_serves 43 = .ok (.aload_n 0, 1) := by decide +kernel
theorem dX8_serves_44 : decode cX8_serves 44 = .ok (.getfield 28, 3) := by decide +kernel
theorem dX8_serves_47 : decode cX8_serves 47 = .ok (.iload 4, 2) := by decide +kernel
theorem dX8_serves_49 : decode cX8_serves 49 = .ok (.iaload, 1) := by decide +kernel
theorem dX8_serves_50 : decode cX8_serves 50 = .ok (.goto 4, 3) := by decide +kernel
theorem dX8_serves_53 : decode cX8_serves 53 = .ok (.iload_n 2, 1) := by decide +kernel
theorem dX8_serves_54 : decode cX8_serves 54 = .ok (.istore 5, 2) := by decide +kernel
theorem dX8_serves_56 : decode cX8_serves 56 = .ok (.aload_n 0, 1) := by decide +kernel
theorem dX8_serves_57 : decode cX8_serves 57 = .ok (.getfield 28, 3) := by decide +kernel
theorem dX8_serves_60 : decode cX8_serves 60 = .ok (.iload 4, 2) := by decide +kernel
theorem dX8_serves_62 : decode cX8_serves 62 = .ok (.dup2, 1) := by decide +kernel
theorem dX8_serves_63 : decode cX8_serves 63 = .ok (.iaload, 1) := by decide +kernel
theorem dX8_serves_64 : decode cX8_serves 64 = .ok (.iload 5, 2) := by decide +kernel
theorem dX8_serves_66 : decode cX8_serves 66 = .ok (.isub, 1) := by decide +kernel
theorem dX8_serves_67 : decode cX8_serves 67 = .ok (.iastore, 1) := by decide +kernel
theorem dX8_serves_68 : decode cX8_serves 68 = .ok (.iload_n 2, 1) := by decide +kernel
theorem dX8_serves_69 : decode cX8_serves 69 = .ok (.iload 5, 2) := by decide +kernel
theorem dX8_serves_71 : decode cX8_serves 71 = .ok (.isub, 1) := by decide +kernel
theorem dX8_serves_72 : decode cX8_serves 72 = .ok (.istore_n 2, 1) := by decide +kernel
theorem dX8_serves_73 : decode cX8_serves 73 = .ok (.aload_n 0, 1) := by decide +kernel
theorem dX8_serves_74 : decode cX8_serves 74 = .ok (.dup, 1) := by decide +kernel
theorem dX8_serves_75 : decode cX8_serves 75 = .ok (.getfield 104, 3) := by decide +kernel
theorem dX8_serves_78 : decode cX8_serves 78 = .ok (.iload 5, 2) := by decide +kernel
theorem dX8_serves_80 : decode cX8_serves 80 = .ok (.isub, 1) := by decide +kernel
theorem dX8_serves_81 : decode cX8_serves 81 = .ok (.putfield 104, 3) := by decide +kernel
theorem dX8_serves_84 : decode cX8_serves 84 = .ok (.aload_n 0, 1) := by decide +kernel
theorem dX8_serves_85 : decode cX8_serves 85 = .ok (.getfield 28, 3) := by decide +kernel
theorem dX8_serves_88 : decode cX8_serves 88 = .ok (.iload 4, 2) := by decide +kernel
theorem dX8_serves_90 : decode cX8_serves 90 = .ok (.iaload, 1) := by decide +kernel
theorem dX8_serves_91 : decode cX8_serves 91 = .ok (.ifCond .ne 16, 3) := by decide +kernel
theorem dX8_serves_94 : decode cX8_serves 94 = .ok (.aload_n 0, 1) := by decide +kernel
theorem dX8_serves_95 : decode cX8_serves 95 = .ok (.iload_n 3, 1) := by decide +kernel
theorem dX8_serves_96 : decode cX8_serves 96 = .ok (.invokevirtual 113, 3) := by decide +kernel
theorem dX8_serves_99 : decode cX8_serves 99 = .ok (.aload_n 0, 1) := by decide +kernel
theorem dX8_serves_100 : decode cX8_serves 100 = .ok (.getfield 16, 3) := by decide +kernel
theorem dX8_serves_103 : decode cX8_serves 103 = .ok (.iload 4, 2) := by decide +kernel
theorem dX8_serves_105 : decode cX8_serves 105 = .ok (.iload_n 1, 1) := by decide +kernel
theorem dX8_serves_106 : decode cX8_serves 106 = .ok (.iastore, 1) := by decide +kernel
theorem dX8_serves_107 : decode cX8_serves 107 = .ok (.goto (-99), 3) := by decide +kernel
theorem dX8_serves_110 : decode cX8_serves 110 = .ok (.return_, 1) := by decide +kernel
theorem dX8_replays_0 : decode cX8_replays 0 = .ok (.aload_n 0, 1) := by decide +kernel
theorem dX8_replays_1 : decode cX8_replays 1 = .ok (.iconst 0, 1) := by decide +kernel
theorem dX8_replays_2 : decode cX8_replays 2 = .ok (.putfield 110, 3) := by decide +kernel
theorem dX8_replays_5 : decode cX8_replays 5 = .ok (.aload_n 0, 1) := by decide +kernel
theorem dX8_replays_6 : decode cX8_replays 6 = .ok (.iconst 0, 1) := by decide +kernel
theorem dX8_replays_7 : decode cX8_replays 7 = .ok (.putfield 107, 3) := by decide +kernel
theorem dX8_replays_10 : decode cX8_replays 10 = .ok (.aload_n 0, 1) := by decide +kernel
theorem dX8_replays_11 : decode cX8_replays 11 = .ok (.iconst 0, 1) := by decide +kernel
theorem dX8_replays_12 : decode cX8_replays 12 = .ok (.putfield 104, 3) := by decide +kernel
theorem dX8_replays_15 : decode cX8_replays 15 = .ok (.aload_n 0, 1) := by decide +kernel
theorem dX8_replays_16 : decode cX8_replays 16 = .ok (.iconst 0, 1) := by decide +kernel
theorem dX8_replays_17 : decode cX8_replays 17 = .ok (.putfield 141, 3) := by decide +kernel
theorem dX8_replays_20 : decode cX8_replays 20 = .ok (.aload_n 0, 1) := by decide +kernel
theorem dX8_replays_21 : decode cX8_replays 21 = .ok (.iconst 5, 1) := by decide +kernel
theorem dX8_replays_22 : decode cX8_replays 22 = .ok (.putfield 150, 3) := by decide +kernel
theorem dX8_replays_25 : decode cX8_replays 25 = .ok (.aload_n 0, 1) := by decide +kernel
theorem dX8_replays_26 : decode cX8_replays 26 = .ok (.iconst 0, 1) := by decide +kernel
theorem dX8_replays_27 : decode cX8_replays 27 = .ok (.putfield 159, 3) := by decide +kernel
theorem dX8_replays_30 : decode cX8_replays 30 = .ok (.iconst (-1), 1) := by decide +kernel
theorem dX8_replays_31 : decode cX8_replays 31 = .ok (.istore_n 2, 1) := by decide +kernel
theorem dX8_replays_32 : decode cX8_replays 32 = .ok (.iconst 0, 1) := by decide +kernel
theorem dX8_replays_33 : decode cX8_replays 33 = .ok (.istore_n 3, 1) := by decide +kernel
theorem dX8_replays_34 : decode cX8_replays 34 = .ok (.iload_n 3, 1) := by decide +kernel
theorem dX8_replays_35 : decode cX8_replays 35 = .ok (.aload_n 0, 1) := by decide +kernel
theorem dX8_replays_36 : decode cX8_replays 36 = .ok (.getfield 7, 3) := by decide +kernel
theorem dX8_replays_39 : decode cX8_replays 39 = .ok (.iconst 0, 1) := by decide +kernel
theorem dX8_replays_40 : decode cX8_replays 40 = .ok (.iaload, 1) := by decide +kernel
theorem dX8_replays_41 : decode cX8_replays 41 = .ok (.if_icmp .ge 37, 3) := by decide +kernel
theorem dX8_replays_44 : decode cX8_replays 44 = .ok (.aload_n 0, 1) := by decide +kernel
theorem dX8_replays_45 : decode cX8_replays 45 = .ok (.getfield 16, 3) := by decide +kernel
theorem dX8_replays_48 : decode cX8_replays 48 = .ok (.iload_n 3, 1) := by decide +kernel
theorem dX8_replays_49 : decode cX8_replays 49 = .ok (.bipush (-3), 2) := by decide +kernel
theorem dX8_replays_51 : decode cX8_replays 51 = .ok (.iastore, 1) := by decide +kernel
theorem dX8_replays_52 : decode cX8_replays 52 = .ok (.iload_n 1, 1) := by decide +kernel
theorem dX8_replays_53 : decode cX8_replays 53 = .ok (.aload_n 0, 1) := by decide +kernel
theorem dX8_replays_54 : decode cX8_replays 54 = .ok (.iload_n 3, 1) := by decide +kernel
theorem dX8_replays_55 : decode cX8_replays 55 = .ok (.iconst 1, 1) := by decide +kernel
theorem dX8_replays_56 : decode cX8_replays 56 = .ok (.invokevirtual 67, 3) := by decide +kernel
theorem dX8_replays_59 : decode cX8_replays 59 = .ok (.ishr, 1) := by decide +kernel
theorem dX8_replays_60 : decode cX8_replays 60 = .ok (.iconst 1, 1) := by decide +kernel
theorem dX8_replays_61 : decode cX8_replays 61 = .ok (.iand, 1) := by decide +kernel
theorem dX8_replays_62 : decode cX8_replays 62 = .ok (.iconst 1, 1) := by decide +kernel
theorem dX8_replays_63 : decode cX8_replays 63 = .ok (.if_icmp .ne 7, 3) := by decide +kernel
theorem dX8_replays_66 : decode cX8_replays 66 = .ok (.iload_n 3, 1) := by decide +kernel
theorem dX8_replays_67 : decode cX8_replays 67 = .ok (.goto 4, 3) := by decide +kernel
theorem dX8_replays_70 : decode cX8_replays 70 = .ok (.iload_n 2, 1) := by decide +kernel
theorem dX8_replays_71 : decode cX8_replays 71 = .ok (.istore_n 2, 1) := by decide +kernel
theorem dX8_replays_72 : decode cX8_replays 72 = .ok (.iinc 3 1, 3) := by decide +kernel
theorem dX8_replays_75 : decode cX8_replays 75 = .ok (.goto (-41), 3) := by decide +kernel
theorem dX8_replays_78 : decode cX8_replays 78 = .ok (.iconst 0, 1) := by decide +kernel
theorem dX8_replays_79 : decode cX8_replays 79 = .ok (.istore_n 3, 1) := by decide +kernel
theorem dX8_replays_80 : decode cX8_replays 80 = .ok (.iload_n 3, 1) := by decide +kernel
theorem dX8_replays_81 : decode cX8_replays 81 = .ok (.iload_n 2, 1) := by decide +kernel
theorem dX8_replays_82 : decode cX8_replays 82 = .ok (.if_icmp .le 10, 3) := by decide +kernel
theorem dX8_replays_85 : decode cX8_replays 85 = .ok (.aload_n 0, 1) := by decide +kernel
theorem dX8_replays_86 : decode cX8_replays 86 = .ok (.getfield 107, 3) := by decide +kernel
theorem dX8_replays_89 : decode cX8_replays 89 = .ok (.ifCond .le 80, 3) := by decide +kernel
theorem dX8_replays_92 : decode cX8_replays 92 = .ok (.iload_n 3, 1) := by decide +kernel
theorem dX8_replays_93 : decode cX8_replays 93 = .ok (.iload_n 2, 1) := by decide +kernel
theorem dX8_replays_94 : decode cX8_replays 94 = .ok (.if_icmp .gt 41, 3) := by decide +kernel
theorem dX8_replays_97 : decode cX8_replays 97 = .ok (.aload_n 0, 1) := by decide +kernel
theorem dX8_replays_98 : decode cX8_replays 98 = .ok (.iload_n 3, 1) := by decide +kernel
theorem dX8_replays_99 : decode cX8_replays 99 = .ok (.iconst 0, 1) := by decide +kernel
theorem dX8_replays_100 : decode cX8_replays 100 = .ok (.invokevirtual 67, 3) := by decide +kernel
theorem dX8_replays_103 : decode cX8_replays 103 = .ok (.aload_n 0, 1) := by decide +kernel
theorem dX8_replays_104 : decode cX8_replays 104 = .ok (.getfield 159, 3) := by decide +kernel
theorem dX8_replays_107 : decode cX8_replays 107 = .ok (.if_icmp .ne 28, 3) := by decide +kernel
theorem dX8_replays_110 : decode cX8_replays 110 = .ok (.iload_n 1, 1) := by decide +kernel
theorem dX8_replays_111 : decode cX8_replays 111 = .ok (.aload_n 0, 1) := by decide +kernel
theorem dX8_replays_112 : decode cX8_replays 112 = .ok (.iload_n 3, 1) := by decide +kernel
theorem dX8_replays_113 : decode cX8_replays 113 = .ok (.iconst 1, 1) := by decide +kernel
theorem dX8_replays_114 : decode cX8_replays 114 = .ok (.invokevirtual 67, 3) := by decide +kernel
theorem dX8_replays_117 : decode cX8_replays 117 = .ok (.ishr, 1) := by decide +kernel
theorem dX8_replays_118 : decode cX8_replays 118 = .ok (.iconst 1, 1) := by decide +kernel
theorem dX8_replays_119 : decode cX8_replays 119 = .ok (.iand, 1) := by decide +kernel
theorem dX8_replays_120 : decode cX8_replays 120 = .ok (.iconst 1, 1) := by decide +kernel
theorem dX8_replays_121 : decode cX8_replays 121 = .ok (.if_icmp .ne 8, 3) := by decide +kernel
theorem dX8_replays_124 : decode cX8_replays 124 = .ok (.aload_n 0, 1) := by decide +kernel
theorem dX8_replays_125 : decode cX8_replays 125 = .ok (.iload_n 3, 1) := by decide +kernel
theorem dX8_replays_126 : decode cX8_replays 126 = .ok (.invokevirtual 162, 3) := by decide +kernel
theorem dX8_replays_129 : decode cX8_replays 129 = .ok (.iinc 3 1, 3) := by decide +kernel
theorem dX8_replays_132 : decode cX8_replays 132 = .ok (.goto (-40), 3) := by decide +kernel
theorem dX8_replays_135 : decode cX8_replays 135 = .ok (.aload_n 0, 1) := by decide +kernel
theorem dX8_replays_136 : decode cX8_replays 136 = .ok (.aload_n 0, 1) := by decide +kernel
theorem dX8_replays_137 : decode cX8_replays 137 = .ok (.getfield 159, 3) := by decide +kernel
theorem dX8_replays_140 : decode cX8_replays 140 = .ok (.invokevirtual 165, 3) := by decide +kernel
theorem dX8_replays_143 : decode cX8_replays 143 = .ok (.aload_n 0, 1) := by decide +kernel
theorem dX8_replays_144 : decode cX8_replays 144 = .ok (.getfield 22, 3) := by decide +kernel
theorem dX8_replays_147 : decode cX8_replays 147 = .ok (.aload_n 0, 1) := by decide +kernel
theorem dX8_replays_148 : decode cX8_replays 148 = .ok (.getfield 159, 3) := by decide +kernel
theorem dX8_replays_151 : decode cX8_replays 151 = .ok (.aload_n 0, 1) := by decide +kernel
theorem dX8_replays_152 : decode cX8_replays 152 = .ok (.getfield 104, 3) := by decide +kernel
theorem dX8_replays_155 : decode cX8_replays 155 = .ok (.iastore, 1) := by decide +kernel
theorem dX8_replays_156 : decode cX8_replays 156 = .ok (.aload_n 0, 1) := by decide +kernel
theorem dX8_replays_157 : decode cX8_replays 157 = .ok (.dup, 1) := by decide +kernel
theorem dX8_replays_158 : decode cX8_replays 158 = .ok (.getfield 159, 3) := by decide +kernel
theorem dX8_replays_161 : decode cX8_replays 161 = .ok (.iconst 1, 1) := by decide +kernel
theorem dX8_replays_162 : decode cX8_replays 162 = .ok (.iadd, 1) := by decide +kernel
theorem dX8_replays_163 : decode cX8_replays 163 = .ok (.putfield 159, 3) := by decide +kernel
theorem dX8_replays_166 : decode cX8_replays 166 = .ok (.goto (-86), 3) := by decide +kernel
theorem dX8_replays_169 : decode cX8_replays 169 = .ok (.return_, 1) := by decide +kernel
theorem dX8_worthOf_0 : decode cX8_worthOf 0 = .ok (.aload_n 0, 1) := by decide +kernel
theorem dX8_worthOf_1 : decode cX8_worthOf 1 = .ok (.iload_n 1, 1) := by decide +kernel
theorem dX8_worthOf_2 : decode cX8_worthOf 2 = .ok (.invokevirtual 168, 3) := by decide +kernel
theorem dX8_worthOf_5 : decode cX8_worthOf 5 = .ok (.iconst 0, 1) := by decide +kernel
theorem dX8_worthOf_6 : decode cX8_worthOf 6 = .ok (.istore_n 3, 1) := by decide +kernel
theorem dX8_worthOf_7 : decode cX8_worthOf 7 = .ok (.iconst 0, 1) := by decide +kernel
theorem dX8_worthOf_8 : decode cX8_worthOf 8 = .ok (.istore 4, 2) := by decide +kernel
theorem dX8_worthOf_10 : decode cX8_worthOf 10 = .ok (.iload 4, 2) := by decide +kernel
theorem dX8_worthOf_12 : decode cX8_worthOf 12 = .ok (.aload_n 0, 1) := by decide +kernel
theorem dX8_worthOf_13 : decode cX8_worthOf 13 = .ok (.getfield 7, 3) := by decide +kernel
theorem dX8_worthOf_16 : decode cX8_worthOf 16 = .ok (.iconst 0, 1) := by decide +kernel
theorem dX8_worthOf_17 : decode cX8_worthOf 17 = .ok (.iaload, 1) := by decide +kernel
theorem dX8_worthOf_18 : decode cX8_worthOf 18 = .ok (.if_icmp .ge 145, 3) := by decide +kernel
theorem dX8_worthOf_21 : decode cX8_worthOf 21 = .ok (.aload_n 0, 1) := by decide +kernel
theorem dX8_worthOf_22 : decode cX8_worthOf 22 = .ok (.getfield 16, 3) := by decide +kernel
theorem dX8_worthOf_25 : decode cX8_worthOf 25 = .ok (.iload 4, 2) := by decide +kernel
theorem dX8_worthOf_27 : decode cX8_worthOf 27 = .ok (.iaload, 1) := by decide +kernel
theorem dX8_worthOf_28 : decode cX8_worthOf 28 = .ok (.bipush (-3), 2) := by decide +kernel
theorem dX8_worthOf_30 : decode cX8_worthOf 30 = .ok (.if_icmp .eq 23, 3) := by decide +kernel
theorem dX8_worthOf_33 : decode cX8_worthOf 33 = .ok (.iload_n 2, 1) := by decide +kernel
theorem dX8_worthOf_34 : decode cX8_worthOf 34 = .ok (.iconst (-1), 1) := by decide +kernel
theorem dX8_worthOf_35 : decode cX8_worthOf 35 = .ok (.if_icmp .eq 14, 3) := by decide +kernel
theorem dX8_worthOf_38 : decode cX8_worthOf 38 = .ok (.aload_n 0, 1) := by decide +kernel
theorem dX8_worthOf_39 : decode cX8_worthOf 39 = .ok (.iload 4, 2) := by decide +kernel
theorem dX8_worthOf_41 : decode cX8_worthOf 41 = .ok (.iconst 1, 1) := by decide +kernel
theorem dX8_worthOf_42 : decode cX8_worthOf 42 = .ok (.invokevirtual 67, 3) := by decide +kernel
theorem dX8_worthOf_45 : decode cX8_worthOf 45 = .ok (.iload_n 2, 1) := by decide +kernel
theorem dX8_worthOf_46 : decode cX8_worthOf 46 = .ok (.if_icmp .ne 7, 3) := by decide +kernel
theorem dX8_worthOf_49 : decode cX8_worthOf 49 = .ok (.iconst 1, 1) := by decide +kernel
theorem dX8_worthOf_50 : decode cX8_worthOf 50 = .ok (.goto 4, 3) := by decide +kernel
theorem dX8_worthOf_53 : decode cX8_worthOf 53 = .ok (.iconst 0, 1) := by decide +kernel
theorem dX8_worthOf_54 : decode cX8_worthOf 54 = .ok (.istore 5, 2) := by decide +kernel
theorem dX8_worthOf_56 : decode cX8_worthOf 56 = .ok (.aload_n 0, 1) := by decide +kernel
theorem dX8_worthOf_57 : decode cX8_worthOf 57 = .ok (.getfield 16, 3) := by decide +kernel
theorem dX8_worthOf_60 : decode cX8_worthOf 60 = .ok (.iload 4, 2) := by decide +kernel
theorem dX8_worthOf_62 : decode cX8_worthOf 62 = .ok (.iaload, 1) := by decide +kernel
theorem dX8_worthOf_63 : decode cX8_worthOf 63 = .ok (.bipush (-2), 2) := by decide +kernel
theorem dX8_worthOf_65 : decode cX8_worthOf 65 = .ok (.if_icmp .ne 7, 3) := by decide +kernel
theorem dX8_worthOf_68 : decode cX8_worthOf 68 = .ok (.iconst 1, 1) := by decide +kernel
theorem dX8_worthOf_69 : decode cX8_worthOf 69 = .ok (.goto 4, 3) := by decide +kernel
theorem dX8_worthOf_72 : decode cX8_worthOf 72 = .ok (.iconst 0, 1) := by decide +kernel
theorem dX8_worthOf_73 : decode cX8_worthOf 73 = .ok (.istore 6, 2) := by decide +kernel
theorem dX8_worthOf_75 : decode cX8_worthOf 75 = .ok (.iload 5, 2) := by decide +kernel
theorem dX8_worthOf_77 : decode cX8_worthOf 77 = .ok (.ifCond .eq 52, 3) := by decide +kernel
theorem dX8_worthOf_80 : decode cX8_worthOf 80 = .ok (.aload_n 0, 1) := by decide +kernel
theorem dX8_worthOf_81 : decode cX8_worthOf 81 = .ok (.getfield 7, 3) := by decide +kernel
theorem dX8_worthOf_84 : decode cX8_worthOf 84 = .ok (.sipush 128, 3) := by decide +kernel
theorem dX8_worthOf_87 : decode cX8_worthOf 87 = .ok (.iaload, 1) := by decide +kernel
theorem dX8_worthOf_88 : decode cX8_worthOf 88 = .ok (.iconst 2, 1) := by decide +kernel
theorem dX8_worthOf_89 : decode cX8_worthOf 89 = .ok (.if_icmp .ge 40, 3) := by decide +kernel
theorem dX8_worthOf_92 : decode cX8_worthOf 92 = .ok (.iload_n 3, 1) := by decide +kernel
theorem dX8_worthOf_93 : decode cX8_worthOf 93 = .ok (.iload 6, 2) := by decide +kernel
theorem dX8_worthOf_95 : decode cX8_worthOf 95 = .ok (.ifCond .ne 7, 3) := by decide +kernel
theorem dX8_worthOf_98 : decode cX8_worthOf 98 = .ok (.iconst 0, 1) := by decide +kernel
theorem dX8_worthOf_99 : decode cX8_worthOf 99 = .ok (.goto 25, 3) := by decide +kernel
theorem dX8_worthOf_102 : decode cX8_worthOf 102 = .ok (.aload_n 0, 1) := by decide +kernel
theorem dX8_worthOf_103 : decode cX8_worthOf 103 = .ok (.getfield 7, 3) := by decide +kernel
theorem dX8_worthOf_106 : decode cX8_worthOf 106 = .ok (.sipush 128, 3) := by decide +kernel
theorem dX8_worthOf_109 : decode cX8_worthOf 109 = .ok (.iaload, 1) := by decide +kernel
theorem dX8_worthOf_110 : decode cX8_worthOf 110 = .ok (.ifCond .ne 7, 3) := by decide +kernel
theorem dX8_worthOf_113 : decode cX8_worthOf 113 = .ok (.iconst 1, 1) := by decide +kernel
theorem dX8_worthOf_114 : decode cX8_worthOf 114 = .ok (.goto 10, 3) := by decide +kernel
theorem dX8_worthOf_117 : decode cX8_worthOf 117 = .ok (.aload_n 0, 1) := by decide +kernel
theorem dX8_worthOf_118 : decode cX8_worthOf 118 = .ok (.iload 4, 2) := by decide +kernel
theorem dX8_worthOf_120 : decode cX8_worthOf 120 = .ok (.iconst 2, 1) := by decide +kernel
theorem dX8_worthOf_121 : decode cX8_worthOf 121 = .ok (.invokevirtual 67, 3) := by decide +kernel
theorem dX8_worthOf_124 : decode cX8_worthOf 124 = .ok (.iadd, 1) := by decide +kernel
theorem dX8_worthOf_125 : decode cX8_worthOf 125 = .ok (.istore_n 3, 1) := by decide +kernel
theorem dX8_worthOf_126 : decode cX8_worthOf 126 = .ok (.goto 31, 3) := by decide +kernel
theorem dX8_worthOf_129 : decode cX8_worthOf 129 = .ok (.iload 5, 2) := by decide +kernel
theorem dX8_worthOf_131 : decode cX8_worthOf 131 = .ok (.ifCond .eq 26, 3) := by decide +kernel
theorem dX8_worthOf_134 : decode cX8_worthOf 134 = .ok (.iload 6, 2) := by decide +kernel
theorem dX8_worthOf_136 : decode cX8_worthOf 136 = .ok (.ifCond .ne 21, 3) := by decide +kernel
theorem dX8_worthOf_139 : decode cX8_worthOf 139 = .ok (.iload_n 3, 1) := by decide +kernel
theorem dX8_worthOf_140 : decode cX8_worthOf 140 = .ok (.aload_n 0, 1) := by decide +kernel
theorem dX8_worthOf_141 : decode cX8_worthOf 141 = .ok (.getfield 16, 3) := by decide +kernel
theorem dX8_worthOf_144 : decode cX8_worthOf 144 = .ok (.iload 4, 2) := by decide +kernel
theorem dX8_worthOf_146 : decode cX8_worthOf 146 = .ok (.iaload, 1) := by decide +kernel
theorem dX8_worthOf_147 : decode cX8_worthOf 147 = .ok (.aload_n 0, 1) := by decide +kernel
theorem dX8_worthOf_148 : decode cX8_worthOf 148 = .ok (.iload 4, 2) := by decide +kernel
theorem dX8_worthOf_150 : decode cX8_worthOf 150 = .ok (.iconst 0, 1) := by decide +kernel
theorem dX8_worthOf_151 : decode cX8_worthOf 151 = .ok (.invokevirtual 67, 3) := by decide +kernel
theorem dX8_worthOf_154 : decode cX8_worthOf 154 = .ok (.isub, 1) := by decide +kernel
theorem dX8_worthOf_155 : decode cX8_worthOf 155 = .ok (.iadd, 1) := by decide +kernel
theorem dX8_worthOf_156 : decode cX8_worthOf 156 = .ok (.istore_n 3, 1) := by decide +kernel
theorem dX8_worthOf_157 : decode cX8_worthOf 157 = .ok (.iinc 4 1, 3) := by decide +kernel
theorem dX8_worthOf_160 : decode cX8_worthOf 160 = .ok (.goto (-150), 3) := by decide +kernel
theorem dX8_worthOf_163 : decode cX8_worthOf 163 = .ok (.iload_n 3, 1) := by decide +kernel
theorem dX8_worthOf_164 : decode cX8_worthOf 164 = .ok (.ireturn, 1) := by decide +kernel
theorem dX8_replay_0 : decode cX8_replay 0 = .ok (.aload_n 0, 1) := by decide +kernel
theorem dX8_replay_1 : decode cX8_replay 1 = .ok (.iload_n 1, 1) := by decide +kernel
theorem dX8_replay_2 : decode cX8_replay 2 = .ok (.iconst 0, 1) := by decide +kernel
theorem dX8_replay_3 : decode cX8_replay 3 = .ok (.bipush 63, 2) := by decide +kernel
theorem dX8_replay_5 : decode cX8_replay 5 = .ok (.invokestatic 59, 3) := by decide +kernel
theorem dX8_replay_8 : decode cX8_replay 8 = .ok (.ifCond .eq 7, 3) := by decide +kernel
theorem dX8_replay_11 : decode cX8_replay 11 = .ok (.iconst 0, 1) := by decide +kernel
theorem dX8_replay_12 : decode cX8_replay 12 = .ok (.goto 4, 3) := by decide +kernel
theorem dX8_replay_15 : decode cX8_replay 15 = .ok (.iconst 1, 1) := by decide +kernel
theorem dX8_replay_16 : decode cX8_replay 16 = .ok (.invokevirtual 75, 3) := by decide +kernel
theorem dX8_replay_19 : decode cX8_replay 19 = .ok (.ifCond .eq 5, 3) := by decide +kernel
theorem dX8_replay_22 : decode cX8_replay 22 = .ok (.iconst 0, 1) := by decide +kernel
theorem dX8_replay_23 : decode cX8_replay 23 = .ok (.ireturn, 1) := by decide +kernel
theorem dX8_replay_24 : decode cX8_replay 24 = .ok (.aload_n 0, 1) := by decide +kernel
theorem dX8_replay_25 : decode cX8_replay 25 = .ok (.iload_n 1, 1) := by decide +kernel
theorem dX8_replay_26 : decode cX8_replay 26 = .ok (.invokevirtual 168, 3) := by decide +kernel
theorem dX8_replay_29 : decode cX8_replay 29 = .ok (.aload_n 0, 1) := by decide +kernel
theorem dX8_replay_30 : decode cX8_replay 30 = .ok (.iconst 1, 1) := by decide +kernel
theorem dX8_replay_31 : decode cX8_replay 31 = .ok (.putfield 171, 3) := by decide +kernel
theorem dX8_replay_34 : decode cX8_replay 34 = .ok (.aload_n 0, 1) := by decide +kernel
theorem dX8_replay_35 : decode cX8_replay 35 = .ok (.aload_n 0, 1) := by decide +kernel
theorem dX8_replay_36 : decode cX8_replay 36 = .ok (.getfield 7, 3) := by decide +kernel
theorem dX8_replay_39 : decode cX8_replay 39 = .ok (.iconst 0, 1) := by decide +kernel
theorem dX8_replay_40 : decode cX8_replay 40 = .ok (.iaload, 1) := by decide +kernel
theorem dX8_replay_41 : decode cX8_replay 41 = .ok (.putfield 175, 3) := by decide +kernel
theorem dX8_replay_44 : decode cX8_replay 44 = .ok (.aload_n 0, 1) := by decide +kernel
theorem dX8_replay_45 : decode cX8_replay 45 = .ok (.aload_n 0, 1) := by decide +kernel
theorem dX8_replay_46 : decode cX8_replay 46 = .ok (.getfield 110, 3) := by decide +kernel
theorem dX8_replay_49 : decode cX8_replay 49 = .ok (.putfield 178, 3) := by decide +kernel
theorem dX8_replay_52 : decode cX8_replay 52 = .ok (.aload_n 0, 1) := by decide +kernel
theorem dX8_replay_53 : decode cX8_replay 53 = .ok (.aload_n 0, 1) := by decide +kernel
theorem dX8_replay_54 : decode cX8_replay 54 = .ok (.getfield 159, 3) := by decide +kernel
theorem dX8_replay_57 : decode cX8_replay 57 = .ok (.putfield 181, 3) := by decide +kernel
theorem dX8_replay_60 : decode cX8_replay 60 = .ok (.iconst 0, 1) := by decide +kernel
theorem dX8_replay_61 : decode cX8_replay 61 = .ok (.istore_n 2, 1) := by decide +kernel
theorem dX8_replay_62 : decode cX8_replay 62 = .ok (.iload_n 2, 1) := by decide +kernel
theorem dX8_replay_63 : decode cX8_replay 63 = .ok (.aload_n 0, 1) := by decide +kernel
theorem dX8_replay_64 : decode cX8_replay 64 = .ok (.getfield 175, 3) := by decide +kernel
theorem dX8_replay_67 : decode cX8_replay 67 = .ok (.if_icmp .ge 21, 3) := by decide +kernel
theorem dX8_replay_70 : decode cX8_replay 70 = .ok (.aload_n 0, 1) := by decide +kernel
theorem dX8_replay_71 : decode cX8_replay 71 = .ok (.getfield 31, 3) := by decide +kernel
theorem dX8_replay_74 : decode cX8_replay 74 = .ok (.iload_n 2, 1) := by decide +kernel
theorem dX8_replay_75 : decode cX8_replay 75 = .ok (.aload_n 0, 1) := by decide +kernel
theorem dX8_replay_76 : decode cX8_replay 76 = .ok (.getfield 16, 3) := by decide +kernel
theorem dX8_replay_79 : decode cX8_replay 79 = .ok (.iload_n 2, 1) := by decide +kernel
theorem dX8_replay_80 : decode cX8_replay 80 = .ok (.iaload, 1) := by decide +kernel
theorem dX8_replay_81 : decode cX8_replay 81 = .ok (.iastore, 1) := by decide +kernel
theorem dX8_replay_82 : decode cX8_replay 82 = .ok (.iinc 2 1, 3) := by decide +kernel
theorem dX8_replay_85 : decode cX8_replay 85 = .ok (.goto (-23), 3) := by decide +kernel
theorem dX8_replay_88 : decode cX8_replay 88 = .ok (.iconst 0, 1) := by decide +kernel
theorem dX8_replay_89 : decode cX8_replay 89 = .ok (.istore_n 2, 1) := by decide +kernel
theorem dX8_replay_90 : decode cX8_replay 90 = .ok (.iload_n 2, 1) := by decide +kernel
theorem dX8_replay_91 : decode cX8_replay 91 = .ok (.aload_n 0, 1) := by decide +kernel
theorem dX8_replay_92 : decode cX8_replay 92 = .ok (.getfield 110, 3) := by decide +kernel
theorem dX8_replay_95 : decode cX8_replay 95 = .ok (.if_icmp .ge 21, 3) := by decide +kernel
theorem dX8_replay_98 : decode cX8_replay 98 = .ok (.aload_n 0, 1) := by decide +kernel
theorem dX8_replay_99 : decode cX8_replay 99 = .ok (.getfield 34, 3) := by decide +kernel
theorem dX8_replay_102 : decode cX8_replay 102 = .ok (.iload_n 2, 1) := by decide +kernel
theorem dX8_replay_103 : decode cX8_replay 103 = .ok (.aload_n 0, 1) := by decide +kernel
theorem dX8_replay_104 : decode cX8_replay 104 = .ok (.getfield 19, 3) := by decide +kernel
theorem dX8_replay_107 : decode cX8_replay 107 = .ok (.iload_n 2, 1) := by decide +kernel
theorem dX8_replay_108 : decode cX8_replay 108 = .ok (.iaload, 1) := by decide +kernel
theorem dX8_replay_109 : decode cX8_replay 109 = .ok (.iastore, 1) := by decide +kernel
theorem dX8_replay_110 : decode cX8_replay 110 = .ok (.iinc 2 1, 3) := by decide +kernel
theorem dX8_replay_113 : decode cX8_replay 113 = .ok (.goto (-23), 3) := by decide +kernel
theorem dX8_replay_116 : decode cX8_replay 116 = .ok (.iconst 0, 1) := by decide +kernel
theorem dX8_replay_117 : decode cX8_replay 117 = .ok (.istore_n 2, 1) := by decide +kernel
theorem dX8_replay_118 : decode cX8_replay 118 = .ok (.iload_n 2, 1) := by decide +kernel
theorem dX8_replay_119 : decode cX8_replay 119 = .ok (.aload_n 0, 1) := by decide +kernel
theorem dX8_replay_120 : decode cX8_replay 120 = .ok (.getfield 159, 3) := by decide +kernel
theorem dX8_replay_123 : decode cX8_replay 123 = .ok (.if_icmp .ge 21, 3) := by decide +kernel
theorem dX8_replay_126 : decode cX8_replay 126 = .ok (.aload_n 0, 1) := by decide +kernel
theorem dX8_replay_127 : decode cX8_replay 127 = .ok (.getfield 37, 3) := by decide +kernel
theorem dX8_replay_130 : decode cX8_replay 130 = .ok (.iload_n 2, 1) := by decide +kernel
theorem dX8_replay_131 : decode cX8_replay 131 = .ok (.aload_n 0, 1) := by decide +kernel
theorem dX8_replay_132 : decode cX8_replay 132 = .ok (.getfield 22, 3) := by decide +kernel
theorem dX8_replay_135 : decode cX8_replay 135 = .ok (.iload_n 2, 1) := by decide +kernel
theorem dX8_replay_136 : decode cX8_replay 136 = .ok (.iaload, 1) := by decide +kernel
theorem dX8_replay_137 : decode cX8_replay 137 = .ok (.iastore, 1) := by decide +kernel
theorem dX8_replay_138 : decode cX8_replay 138 = .ok (.iinc 2 1, 3) := by decide +kernel
theorem dX8_replay_141 : decode cX8_replay 141 = .ok (.goto (-23), 3) := by decide +kernel
theorem dX8_replay_144 : decode cX8_replay 144 = .ok (.aload_n 0, 1) := by decide +kernel
theorem dX8_replay_145 : decode cX8_replay 145 = .ok (.getfield 110, 3) := by decide +kernel
theorem dX8_replay_148 : decode cX8_replay 148 = .ok (.ireturn, 1) := by decide +kernel
theorem dX8_fate_0 : decode cX8_fate 0 = .ok (.aload_n 0, 1) := by decide +kernel
theorem dX8_fate_1 : decode cX8_fate 1 = .ok (.iconst 0, 1) := by decide +kernel
theorem dX8_fate_2 : decode cX8_fate 2 = .ok (.putfield 52, 3) := by decide +kernel
theorem dX8_fate_5 : decode cX8_fate 5 = .ok (.aload_n 0, 1) := by decide +kernel
theorem dX8_fate_6 : decode cX8_fate 6 = .ok (.getfield 171, 3) := by decide +kernel
theorem dX8_fate_9 : decode cX8_fate 9 = .ok (.ifCond .eq 26, 3) := by decide +kernel
theorem dX8_fate_12 : decode cX8_fate 12 = .ok (.iload_n 1, 1) := by decide +kernel
theorem dX8_fate_13 : decode cX8_fate 13 = .ok (.iconst 0, 1) := by decide +kernel
theorem dX8_fate_14 : decode cX8_fate 14 = .ok (.aload_n 0, 1) := by decide +kernel
theorem dX8_fate_15 : decode cX8_fate 15 = .ok (.getfield 175, 3) := by decide +kernel
theorem dX8_fate_18 : decode cX8_fate 18 = .ok (.iconst 1, 1) := by decide +kernel
theorem dX8_fate_19 : decode cX8_fate 19 = .ok (.isub, 1) := by decide +kernel
theorem dX8_fate_20 : decode cX8_fate 20 = .ok (.invokestatic 59, 3) := by decide +kernel
theorem dX8_fate_23 : decode cX8_fate 23 = .ok (.ifCond .eq 12, 3) := by decide +kernel
theorem dX8_fate_26 : decode cX8_fate 26 = .ok (.aload_n 0, 1) := by decide +kernel
theorem dX8_fate_27 : decode cX8_fate 27 = .ok (.getfield 31, 3) := by decide +kernel
theorem dX8_fate_30 : decode cX8_fate 30 = .ok (.iload_n 1, 1) := by decide +kernel
theorem dX8_fate_31 : decode cX8_fate 31 = .ok (.iaload, 1) := by decide +kernel
theorem dX8_fate_32 : decode cX8_fate 32 = .ok (.goto 4, 3) := by decide +kernel
theorem dX8_fate_35 : decode cX8_fate 35 = .ok (.iconst (-1), 1) := by decide +kernel
theorem dX8_fate_36 : decode cX8_fate 36 = .ok (.ireturn, 1) := by decide +kernel
theorem dX8_loadAt_0 : decode cX8_loadAt 0 = .ok (.aload_n 0, 1) := by decide +kernel
theorem dX8_loadAt_1 : decode cX8_loadAt 1 = .ok (.iconst 0, 1) := by decide +kernel
theorem dX8_loadAt_2 : decode cX8_loadAt 2 = .ok (.putfield 52, 3) := by decide +kernel
theorem dX8_loadAt_5 : decode cX8_loadAt 5 = .ok (.aload_n 0, 1) := by decide +kernel
theorem dX8_loadAt_6 : decode cX8_loadAt 6 = .ok (.getfield 171, 3) := by decide +kernel
theorem dX8_loadAt_9 : decode cX8_loadAt 9 = .ok (.ifCond .eq 7, 3) := by decide +kernel
theorem dX8_loadAt_12 : decode cX8_loadAt 12 = .ok (.iload_n 1, 1) := by decide +kernel
theorem dX8_loadAt_13 : decode cX8_loadAt 13 = .ok (.ifCond .ge 7, 3) := by decide +kernel
theorem dX8_loadAt_16 : decode cX8_loadAt 16 = .ok (.iconst (-1), 1) := by decide +kernel
theorem dX8_loadAt_17 : decode cX8_loadAt 17 = .ok (.goto 21, 3) := by decide +kernel
theorem dX8_loadAt_20 : decode cX8_loadAt 20 = .ok (.iload_n 1, 1) := by decide +kernel
theorem dX8_loadAt_21 : decode cX8_loadAt 21 = .ok (.aload_n 0, 1) := by decide +kernel
theorem dX8_loadAt_22 : decode cX8_loadAt 22 = .ok (.getfield 181, 3) := by decide +kernel
theorem dX8_loadAt_25 : decode cX8_loadAt 25 = .ok (.if_icmp .ge 12, 3) := by decide +kernel
theorem dX8_loadAt_28 : decode cX8_loadAt 28 = .ok (.aload_n 0, 1) := by decide +kernel
theorem dX8_loadAt_29 : decode cX8_loadAt 29 = .ok (.getfield 37, 3) := by decide +kernel
theorem dX8_loadAt_32 : decode cX8_loadAt 32 = .ok (.iload_n 1, 1) := by decide +kernel
theorem dX8_loadAt_33 : decode cX8_loadAt 33 = .ok (.iaload, 1) := by decide +kernel
theorem dX8_loadAt_34 : decode cX8_loadAt 34 = .ok (.goto 4, 3) := by decide +kernel
theorem dX8_loadAt_37 : decode cX8_loadAt 37 = .ok (.iconst 0, 1) := by decide +kernel
theorem dX8_loadAt_38 : decode cX8_loadAt 38 = .ok (.ireturn, 1) := by decide +kernel
theorem dX8_peak_0 : decode cX8_peak 0 = .ok (.aload_n 0, 1) := by decide +kernel
theorem dX8_peak_1 : decode cX8_peak 1 = .ok (.iconst 0, 1) := by decide +kernel
theorem dX8_peak_2 : decode cX8_peak 2 = .ok (.putfield 52, 3) := by decide +kernel
theorem dX8_peak_5 : decode cX8_peak 5 = .ok (.aload_n 0, 1) := by decide +kernel
theorem dX8_peak_6 : decode cX8_peak 6 = .ok (.getfield 171, 3) := by decide +kernel
theorem dX8_peak_9 : decode cX8_peak 9 = .ok (.ifCond .eq 7, 3) := by decide +kernel
theorem dX8_peak_12 : decode cX8_peak 12 = .ok (.iconst 0, 1) := by decide +kernel
theorem dX8_peak_13 : decode cX8_peak 13 = .ok (.goto 4, 3) := by decide +kernel
theorem dX8_peak_16 : decode cX8_peak 16 = .ok (.iconst (-1), 1) := by decide +kernel
theorem dX8_peak_17 : decode cX8_peak 17 = .ok (.istore_n 1, 1) := by decide +kernel
theorem dX8_peak_18 : decode cX8_peak 18 = .ok (.iconst 0, 1) := by decide +kernel
theorem dX8_peak_19 : decode cX8_peak 19 = .ok (.istore_n 2, 1) := by decide +kernel
theorem dX8_peak_20 : decode cX8_peak 20 = .ok (.iload_n 2, 1) := by decide +kernel
theorem dX8_peak_21 : decode cX8_peak 21 = .ok (.aload_n 0, 1) := by decide +kernel
theorem dX8_peak_22 : decode cX8_peak 22 = .ok (.getfield 181, 3) := by decide +kernel
theorem dX8_peak_25 : decode cX8_peak 25 = .ok (.if_icmp .ge 30, 3) := by decide +kernel
theorem dX8_peak_28 : decode cX8_peak 28 = .ok (.aload_n 0, 1) := by decide +kernel
theorem dX8_peak_29 : decode cX8_peak 29 = .ok (.getfield 37, 3) := by decide +kernel
theorem dX8_peak_32 : decode cX8_peak 32 = .ok (.iload_n 2, 1) := by decide +kernel
theorem dX8_peak_33 : decode cX8_peak 33 = .ok (.iaload, 1) := by decide +kernel
theorem dX8_peak_34 : decode cX8_peak 34 = .ok (.iload_n 1, 1) := by decide +kernel
theorem dX8_peak_35 : decode cX8_peak 35 = .ok (.if_icmp .le 12, 3) := by decide +kernel
theorem dX8_peak_38 : decode cX8_peak 38 = .ok (.aload_n 0, 1) := by decide +kernel
theorem dX8_peak_39 : decode cX8_peak 39 = .ok (.getfield 37, 3) := by decide +kernel
theorem dX8_peak_42 : decode cX8_peak 42 = .ok (.iload_n 2, 1) := by decide +kernel
theorem dX8_peak_43 : decode cX8_peak 43 = .ok (.iaload, 1) := by decide +kernel
theorem dX8_peak_44 : decode cX8_peak 44 = .ok (.goto 4, 3) := by decide +kernel
theorem dX8_peak_47 : decode cX8_peak 47 = .ok (.iload_n 1, 1) := by decide +kernel
theorem dX8_peak_48 : decode cX8_peak 48 = .ok (.istore_n 1, 1) := by decide +kernel
theorem dX8_peak_49 : decode cX8_peak 49 = .ok (.iinc 2 1, 3) := by decide +kernel
theorem dX8_peak_52 : decode cX8_peak 52 = .ok (.goto (-32), 3) := by decide +kernel
theorem dX8_peak_55 : decode cX8_peak 55 = .ok (.iload_n 1, 1) := by decide +kernel
theorem dX8_peak_56 : decode cX8_peak 56 = .ok (.ireturn, 1) := by decide +kernel
theorem dX8_dropped_0 : decode cX8_dropped 0 = .ok (.aload_n 0, 1) := by decide +kernel
theorem dX8_dropped_1 : decode cX8_dropped 1 = .ok (.iconst 0, 1) := by decide +kernel
theorem dX8_dropped_2 : decode cX8_dropped 2 = .ok (.putfield 52, 3) := by decide +kernel
theorem dX8_dropped_5 : decode cX8_dropped 5 = .ok (.aload_n 0, 1) := by decide +kernel
theorem dX8_dropped_6 : decode cX8_dropped 6 = .ok (.getfield 171, 3) := by decide +kernel
theorem dX8_dropped_9 : decode cX8_dropped 9 = .ok (.ifCond .eq 26, 3) := by decide +kernel
theorem dX8_dropped_12 : decode cX8_dropped 12 = .ok (.iload_n 1, 1) := by decide +kernel
theorem dX8_dropped_13 : decode cX8_dropped 13 = .ok (.iconst 0, 1) := by decide +kernel
theorem dX8_dropped_14 : decode cX8_dropped 14 = .ok (.aload_n 0, 1) := by decide +kernel
theorem dX8_dropped_15 : decode cX8_dropped 15 = .ok (.getfield 178, 3) := by decide +kernel
theorem dX8_dropped_18 : decode cX8_dropped 18 = .ok (.iconst 1, 1) := by decide +kernel
theorem dX8_dropped_19 : decode cX8_dropped 19 = .ok (.isub, 1) := by decide +kernel
theorem dX8_dropped_20 : decode cX8_dropped 20 = .ok (.invokestatic 59, 3) := by decide +kernel
theorem dX8_dropped_23 : decode cX8_dropped 23 = .ok (.ifCond .eq 12, 3) := by decide +kernel
theorem dX8_dropped_26 : decode cX8_dropped 26 = .ok (.aload_n 0, 1) := by decide +kernel
theorem dX8_dropped_27 : decode cX8_dropped 27 = .ok (.getfield 34, 3) := by decide +kernel
theorem dX8_dropped_30 : decode cX8_dropped 30 = .ok (.iload_n 1, 1) := by decide +kernel
theorem dX8_dropped_31 : decode cX8_dropped 31 = .ok (.iaload, 1) := by decide +kernel
theorem dX8_dropped_32 : decode cX8_dropped 32 = .ok (.goto 4, 3) := by decide +kernel
theorem dX8_dropped_35 : decode cX8_dropped 35 = .ok (.iconst (-1), 1) := by decide +kernel
theorem dX8_dropped_36 : decode cX8_dropped 36 = .ok (.ireturn, 1) := by decide +kernel
theorem dX8_worth_0 : decode cX8_worth 0 = .ok (.aload_n 0, 1) := by decide +kernel
theorem dX8_worth_1 : decode cX8_worth 1 = .ok (.iload_n 1, 1) := by decide +kernel
theorem dX8_worth_2 : decode cX8_worth 2 = .ok (.iconst 0, 1) := by decide +kernel
theorem dX8_worth_3 : decode cX8_worth 3 = .ok (.bipush 63, 2) := by decide +kernel
theorem dX8_worth_5 : decode cX8_worth 5 = .ok (.invokestatic 59, 3) := by decide +kernel
theorem dX8_worth_8 : decode cX8_worth 8 = .ok (.ifCond .eq 7, 3) := by decide +kernel
theorem dX8_worth_11 : decode cX8_worth 11 = .ok (.iconst 0, 1) := by decide +kernel
theorem dX8_worth_12 : decode cX8_worth 12 = .ok (.goto 4, 3) := by decide +kernel
theorem dX8_worth_15 : decode cX8_worth 15 = .ok (.iconst 1, 1) := by decide +kernel
theorem dX8_worth_16 : decode cX8_worth 16 = .ok (.invokevirtual 75, 3) := by decide +kernel
theorem dX8_worth_19 : decode cX8_worth 19 = .ok (.ifCond .eq 7, 3) := by decide +kernel
theorem dX8_worth_22 : decode cX8_worth 22 = .ok (.iconst 0, 1) := by decide +kernel
theorem dX8_worth_23 : decode cX8_worth 23 = .ok (.goto 9, 3) := by decide +kernel
theorem dX8_worth_26 : decode cX8_worth 26 = .ok (.aload_n 0, 1) := by decide +kernel
theorem dX8_worth_27 : decode cX8_worth 27 = .ok (.iload_n 1, 1) := by decide +kernel
theorem dX8_worth_28 : decode cX8_worth 28 = .ok (.iconst (-1), 1) := by decide +kernel
theorem dX8_worth_29 : decode cX8_worth 29 = .ok (.invokevirtual 184, 3) := by decide +kernel
theorem dX8_worth_32 : decode cX8_worth 32 = .ok (.ireturn, 1) := by decide +kernel
theorem dX8_worthFor_0 : decode cX8_worthFor 0 = .ok (.aload_n 0, 1) := by decide +kernel
theorem dX8_worthFor_1 : decode cX8_worthFor 1 = .ok (.iload_n 2, 1) := by decide +kernel
theorem dX8_worthFor_2 : decode cX8_worthFor 2 = .ok (.invokestatic 63, 3) := by decide +kernel
theorem dX8_worthFor_5 : decode cX8_worthFor 5 = .ok (.ifCond .ne 7, 3) := by decide +kernel
theorem dX8_worthFor_8 : decode cX8_worthFor 8 = .ok (.iconst 1, 1) := by decide +kernel
theorem dX8_worthFor_9 : decode cX8_worthFor 9 = .ok (.goto 18, 3) := by decide +kernel
theorem dX8_worthFor_12 : decode cX8_worthFor 12 = .ok (.iload_n 1, 1) := by decide +kernel
theorem dX8_worthFor_13 : decode cX8_worthFor 13 = .ok (.iconst 0, 1) := by decide +kernel
theorem dX8_worthFor_14 : decode cX8_worthFor 14 = .ok (.bipush 63, 2) := by decide +kernel
theorem dX8_worthFor_16 : decode cX8_worthFor 16 = .ok (.invokestatic 59, 3) := by decide +kernel
theorem dX8_worthFor_19 : decode cX8_worthFor 19 = .ok (.ifCond .eq 7, 3) := by decide +kernel
theorem dX8_worthFor_22 : decode cX8_worthFor 22 = .ok (.iconst 0, 1) := by decide +kernel
theorem dX8_worthFor_23 : decode cX8_worthFor 23 = .ok (.goto 4, 3) := by decide +kernel
theorem dX8_worthFor_26 : decode cX8_worthFor 26 = .ok (.iconst 2, 1) := by decide +kernel
theorem dX8_worthFor_27 : decode cX8_worthFor 27 = .ok (.invokevirtual 75, 3) := by decide +kernel
theorem dX8_worthFor_30 : decode cX8_worthFor 30 = .ok (.ifCond .eq 7, 3) := by decide +kernel
theorem dX8_worthFor_33 : decode cX8_worthFor 33 = .ok (.iconst 0, 1) := by decide +kernel
theorem dX8_worthFor_34 : decode cX8_worthFor 34 = .ok (.goto 9, 3) := by decide +kernel
theorem dX8_worthFor_37 : decode cX8_worthFor 37 = .ok (.aload_n 0, 1) := by decide +kernel
theorem dX8_worthFor_38 : decode cX8_worthFor 38 = .ok (.iload_n 1, 1) := by decide +kernel
theorem dX8_worthFor_39 : decode cX8_worthFor 39 = .ok (.iload_n 2, 1) := by decide +kernel
theorem dX8_worthFor_40 : decode cX8_worthFor 40 = .ok (.invokevirtual 184, 3) := by decide +kernel
theorem dX8_worthFor_43 : decode cX8_worthFor 43 = .ok (.ireturn, 1) := by decide +kernel
theorem dX8_weighsAll_0 : decode cX8_weighsAll 0 = .ok (.iconst 0, 1) := by decide +kernel
theorem dX8_weighsAll_1 : decode cX8_weighsAll 1 = .ok (.istore_n 2, 1) := by decide +kernel
theorem dX8_weighsAll_2 : decode cX8_weighsAll 2 = .ok (.iload_n 2, 1) := by decide +kernel
theorem dX8_weighsAll_3 : decode cX8_weighsAll 3 = .ok (.bipush 63, 2) := by decide +kernel
theorem dX8_weighsAll_5 : decode cX8_weighsAll 5 = .ok (.if_icmp .gt 21, 3) := by decide +kernel
theorem dX8_weighsAll_8 : decode cX8_weighsAll 8 = .ok (.aload_n 0, 1) := by decide +kernel
theorem dX8_weighsAll_9 : decode cX8_weighsAll 9 = .ok (.getfield 40, 3) := by decide +kernel
theorem dX8_weighsAll_12 : decode cX8_weighsAll 12 = .ok (.iload_n 2, 1) := by decide +kernel
theorem dX8_weighsAll_13 : decode cX8_weighsAll 13 = .ok (.aload_n 0, 1) := by decide +kernel
theorem dX8_weighsAll_14 : decode cX8_weighsAll 14 = .ok (.iload_n 2, 1) := by decide +kernel
theorem dX8_weighsAll_15 : decode cX8_weighsAll 15 = .ok (.iload_n 1, 1) := by decide +kernel
theorem dX8_weighsAll_16 : decode cX8_weighsAll 16 = .ok (.invokevirtual 184, 3) := by decide +kernel
theorem dX8_weighsAll_19 : decode cX8_weighsAll 19 = .ok (.iastore, 1) := by decide +kernel
theorem dX8_weighsAll_20 : decode cX8_weighsAll 20 = .ok (.iinc 2 1, 3) := by decide +kernel
theorem dX8_weighsAll_23 : decode cX8_weighsAll 23 = .ok (.goto (-21), 3) := by decide +kernel
theorem dX8_weighsAll_26 : decode cX8_weighsAll 26 = .ok (.return_, 1) := by decide +kernel
theorem dX8_size_0 : decode cX8_size 0 = .ok (.iconst 0, 1) := by decide +kernel
theorem dX8_size_1 : decode cX8_size 1 = .ok (.istore_n 1, 1) := by decide +kernel
theorem dX8_size_2 : decode cX8_size 2 = .ok (.iconst 0, 1) := by decide +kernel
theorem dX8_size_3 : decode cX8_size 3 = .ok (.istore_n 2, 1) := by decide +kernel
theorem dX8_size_4 : decode cX8_size 4 = .ok (.iload_n 2, 1) := by decide +kernel
theorem dX8_size_5 : decode cX8_size 5 = .ok (.bipush 6, 2) := by decide +kernel
theorem dX8_size_7 : decode cX8_size 7 = .ok (.if_icmp .ge 17, 3) := by decide +kernel
theorem dX8_size_10 : decode cX8_size 10 = .ok (.iload_n 1, 1) := by decide +kernel
theorem dX8_size_11 : decode cX8_size 11 = .ok (.iload_n 0, 1) := by decide +kernel
theorem dX8_size_12 : decode cX8_size 12 = .ok (.iload_n 2, 1) := by decide +kernel
theorem dX8_size_13 : decode cX8_size 13 = .ok (.ishr, 1) := by decide +kernel
theorem dX8_size_14 : decode cX8_size 14 = .ok (.iconst 1, 1) := by decide +kernel
theorem dX8_size_15 : decode cX8_size 15 = .ok (.iand, 1) := by decide +kernel
theorem dX8_size_16 : decode cX8_size 16 = .ok (.iadd, 1) := by decide +kernel
theorem dX8_size_17 : decode cX8_size 17 = .ok (.istore_n 1, 1) := by decide +kernel
theorem dX8_size_18 : decode cX8_size 18 = .ok (.iinc 2 1, 3) := by decide +kernel
theorem dX8_size_21 : decode cX8_size 21 = .ok (.goto (-17), 3) := by decide +kernel
theorem dX8_size_24 : decode cX8_size 24 = .ok (.iload_n 1, 1) := by decide +kernel
theorem dX8_size_25 : decode cX8_size 25 = .ok (.ireturn, 1) := by decide +kernel
theorem dX8_orders_0 : decode cX8_orders 0 = .ok (.iconst 1, 1) := by decide +kernel
theorem dX8_orders_1 : decode cX8_orders 1 = .ok (.istore_n 1, 1) := by decide +kernel
theorem dX8_orders_2 : decode cX8_orders 2 = .ok (.iconst 2, 1) := by decide +kernel
theorem dX8_orders_3 : decode cX8_orders 3 = .ok (.istore_n 2, 1) := by decide +kernel
theorem dX8_orders_4 : decode cX8_orders 4 = .ok (.iload_n 2, 1) := by decide +kernel
theorem dX8_orders_5 : decode cX8_orders 5 = .ok (.iload_n 0, 1) := by decide +kernel
theorem dX8_orders_6 : decode cX8_orders 6 = .ok (.if_icmp .gt 13, 3) := by decide +kernel
theorem dX8_orders_9 : decode cX8_orders 9 = .ok (.iload_n 1, 1) := by decide +kernel
theorem dX8_orders_10 : decode cX8_orders 10 = .ok (.iload_n 2, 1) := by decide +kernel
theorem dX8_orders_11 : decode cX8_orders 11 = .ok (.imul, 1) := by decide +kernel
theorem dX8_orders_12 : decode cX8_orders 12 = .ok (.istore_n 1, 1) := by decide +kernel
theorem dX8_orders_13 : decode cX8_orders 13 = .ok (.iinc 2 1, 3) := by decide +kernel
theorem dX8_orders_16 : decode cX8_orders 16 = .ok (.goto (-12), 3) := by decide +kernel
theorem dX8_orders_19 : decode cX8_orders 19 = .ok (.iconst 2, 1) := by decide +kernel
theorem dX8_orders_20 : decode cX8_orders 20 = .ok (.istore_n 2, 1) := by decide +kernel
theorem dX8_orders_21 : decode cX8_orders 21 = .ok (.iload_n 2, 1) := by decide +kernel
theorem dX8_orders_22 : decode cX8_orders 22 = .ok (.iconst 5, 1) := by decide +kernel
theorem dX8_orders_23 : decode cX8_orders 23 = .ok (.iload_n 0, 1) := by decide +kernel
theorem dX8_orders_24 : decode cX8_orders 24 = .ok (.isub, 1) := by decide +kernel
theorem dX8_orders_25 : decode cX8_orders 25 = .ok (.if_icmp .gt 13, 3) := by decide +kernel
theorem dX8_orders_28 : decode cX8_orders 28 = .ok (.iload_n 1, 1) := by decide +kernel
theorem dX8_orders_29 : decode cX8_orders 29 = .ok (.iload_n 2, 1) := by decide +kernel
theorem dX8_orders_30 : decode cX8_orders 30 = .ok (.imul, 1) := by decide +kernel
theorem dX8_orders_31 : decode cX8_orders 31 = .ok (.istore_n 1, 1) := by decide +kernel
theorem dX8_orders_32 : decode cX8_orders 32 = .ok (.iinc 2 1, 3) := by decide +kernel
theorem dX8_orders_35 : decode cX8_orders 35 = .ok (.goto (-14), 3) := by decide +kernel
theorem dX8_orders_38 : decode cX8_orders 38 = .ok (.iload_n 1, 1) := by decide +kernel
theorem dX8_orders_39 : decode cX8_orders 39 = .ok (.ireturn, 1) := by decide +kernel
theorem dX8_contributions_0 : decode cX8_contributions 0 = .ok (.lconst 0, 1) := by decide +kernel
theorem dX8_contributions_1 : decode cX8_contributions 1 = .ok (.lstore_n 3, 1) := by decide +kernel
theorem dX8_contributions_2 : decode cX8_contributions 2 = .ok (.iconst 0, 1) := by decide +kernel
theorem dX8_contributions_3 : decode cX8_contributions 3 = .ok (.istore 5, 2) := by decide +kernel
theorem dX8_contributions_5 : decode cX8_contributions 5 = .ok (.iload 5, 2) := by decide +kernel
theorem dX8_contributions_7 : decode cX8_contributions 7 = .ok (.bipush 63, 2) := by decide +kernel
theorem dX8_contributions_9 : decode cX8_contributions 9 = .ok (.if_icmp .gt 59, 3) := by decide +kernel
theorem dX8_contributions_12 : decode cX8_contributions 12 = .ok (.iload 5, 2) := by decide +kernel
theorem dX8_contributions_14 : decode cX8_contributions 14 = .ok (.iload_n 1, 1) := by decide +kernel
theorem dX8_contributions_15 : decode cX8_contributions 15 = .ok (.ishr, 1) := by decide +kernel
theorem dX8_contributions_16 : decode cX8_contributions 16 = .ok (.iconst 1, 1) := by decide +kernel
theorem dX8_contributions_17 : decode cX8_contributions 17 = .ok (.iand, 1) := by decide +kernel
theorem dX8_contributions_18 : decode cX8_contributions 18 = .ok (.ifCond .ne 44, 3) := by decide +kernel
theorem dX8_contributions_21 : decode cX8_contributions 21 = .ok (.lload_n 3, 1) := by decide +kernel
theorem dX8_contributions_22 : decode cX8_contributions 22 = .ok (.aload_n 0, 1) := by decide +kernel
theorem dX8_contributions_23 : decode cX8_contributions 23 = .ok (.getfield 40, 3) := by decide +kernel
theorem dX8_contributions_26 : decode cX8_contributions 26 = .ok (.iload 5, 2) := by decide +kernel
theorem dX8_contributions_28 : decode cX8_contributions 28 = .ok (.iconst 1, 1) := by decide +kernel
theorem dX8_contributions_29 : decode cX8_contributions 29 = .ok (.iload_n 1, 1) := by decide +kernel
theorem dX8_contributions_30 : decode cX8_contributions 30 = .ok (.ishl, 1) := by decide +kernel
theorem dX8_contributions_31 : decode cX8_contributions 31 = .ok (.ior, 1) := by decide +kernel
theorem dX8_contributions_32 : decode cX8_contributions 32 = .ok (.iaload, 1) := by decide +kernel
theorem dX8_contributions_33 : decode cX8_contributions 33 = .ok (.aload_n 0, 1) := by decide +kernel
theorem dX8_contributions_34 : decode cX8_contributions 34 = .ok (.getfield 40, 3) := by decide +kernel
theorem dX8_contributions_37 : decode cX8_contributions 37 = .ok (.iload 5, 2) := by decide +kernel
theorem dX8_contributions_39 : decode cX8_contributions 39 = .ok (.iaload, 1) := by decide +kernel
theorem dX8_contributions_40 : decode cX8_contributions 40 = .ok (.isub, 1) := by decide +kernel
theorem dX8_contributions_41 : decode cX8_contributions 41 = .ok (.i2l, 1) := by decide +kernel
theorem dX8_contributions_42 : decode cX8_contributions 42 = .ok (.iload_n 2, 1) := by decide +kernel
theorem dX8_contributions_43 : decode cX8_contributions 43 = .ok (.ifCond .eq 14, 3) := by decide +kernel
theorem dX8_contributions_46 : decode cX8_contributions 46 = .ok (.iload 5, 2) := by decide +kernel
theorem dX8_contributions_48 : decode cX8_contributions 48 = .ok (.invokestatic 187, 3) := by decide +kernel
theorem dX8_contributions_51 : decode cX8_contributions 51 = .ok (.invokestatic 190, 3) := by decide +kernel
theorem dX8_contributions_54 : decode cX8_contributions 54 = .ok (.goto 4, 3) := by decide +kernel
theorem dX8_contributions_57 : decode cX8_contributions 57 = .ok (.iconst 1, 1) := by decide +kernel
theorem dX8_contributions_58 : decode cX8_contributions 58 = .ok (.i2l, 1) := by decide +kernel
theorem dX8_contributions_59 : decode cX8_contributions 59 = .ok (.lmul, 1) := by decide +kernel
theorem dX8_contributions_60 : decode cX8_contributions 60 = .ok (.ladd, 1) := by decide +kernel
theorem dX8_contributions_61 : decode cX8_contributions 61 = .ok (.lstore_n 3, 1) := by decide +kernel
theorem dX8_contributions_62 : decode cX8_contributions 62 = .ok (.iinc 5 1, 3) := by decide +kernel
theorem dX8_contributions_65 : decode cX8_contributions 65 = .ok (.goto (-60), 3) := by decide +kernel
theorem dX8_contributions_68 : decode cX8_contributions 68 = .ok (.lload_n 3, 1) := by decide +kernel
theorem dX8_contributions_69 : decode cX8_contributions 69 = .ok (.lreturn, 1) := by decide +kernel
theorem dX8_partOf_0 : decode cX8_partOf 0 = .ok (.lload_n 0, 1) := by decide +kernel
theorem dX8_partOf_1 : decode cX8_partOf 1 = .ok (.lconst 0, 1) := by decide +kernel
theorem dX8_partOf_2 : decode cX8_partOf 2 = .ok (.lcmp, 1) := by decide +kernel
theorem dX8_partOf_3 : decode cX8_partOf 3 = .ok (.ifCond .ge 8, 3) := by decide +kernel
theorem dX8_partOf_6 : decode cX8_partOf 6 = .ok (.lload_n 0, 1) := by decide +kernel
theorem dX8_partOf_7 : decode cX8_partOf 7 = .ok (.lneg, 1) := by decide +kernel
theorem dX8_partOf_8 : decode cX8_partOf 8 = .ok (.goto 4, 3) := by decide +kernel
theorem dX8_partOf_11 : decode cX8_partOf 11 = .ok (.lload_n 0, 1) := by decide +kernel
theorem dX8_partOf_12 : decode cX8_partOf 12 = .ok (.lstore 5, 2) := by decide +kernel
theorem dX8_partOf_14 : decode cX8_partOf 14 = .ok (.lload_n 2, 1) := by decide +kernel
theorem dX8_partOf_15 : decode cX8_partOf 15 = .ok (.lstore 7, 2) := by decide +kernel
theorem dX8_partOf_17 : decode cX8_partOf 17 = .ok (.lload 5, 2) := by decide +kernel
theorem dX8_partOf_19 : decode cX8_partOf 19 = .ok (.lconst 0, 1) := by decide +kernel
theorem dX8_partOf_20 : decode cX8_partOf 20 = .ok (.lcmp, 1) := by decide +kernel
theorem dX8_partOf_21 : decode cX8_partOf 21 = .ok (.ifCond .eq 21, 3) := by decide +kernel
theorem dX8_partOf_24 : decode cX8_partOf 24 = .ok (.lload 7, 2) := by decide +kernel
theorem dX8_partOf_26 : decode cX8_partOf 26 = .ok (.lload 5, 2) := by decide +kernel
theorem dX8_partOf_28 : decode cX8_partOf 28 = .ok (.lrem, 1) := by decide +kernel
theorem dX8_partOf_29 : decode cX8_partOf 29 = .ok (.lstore 9, 2) := by decide +kernel
theorem dX8_partOf_31 : decode cX8_partOf 31 = .ok (.lload 5, 2) := by decide +kernel
theorem dX8_partOf_33 : decode cX8_partOf 33 = .ok (.lstore 7, 2) := by decide +kernel
theorem dX8_partOf_35 : decode cX8_partOf 35 = .ok (.lload 9, 2) := by decide +kernel
theorem dX8_partOf_37 : decode cX8_partOf 37 = .ok (.lstore 5, 2) := by decide +kernel
theorem dX8_partOf_39 : decode cX8_partOf 39 = .ok (.goto (-22), 3) := by decide +kernel
theorem dX8_partOf_42 : decode cX8_partOf 42 = .ok (.iload 4, 2) := by decide +kernel
theorem dX8_partOf_44 : decode cX8_partOf 44 = .ok (.ifCond .ne 10, 3) := by decide +kernel
theorem dX8_partOf_47 : decode cX8_partOf 47 = .ok (.lload_n 0, 1) := by decide +kernel
theorem dX8_partOf_48 : decode cX8_partOf 48 = .ok (.lload 7, 2) := by decide +kernel
theorem dX8_partOf_50 : decode cX8_partOf 50 = .ok (.ldiv, 1) := by decide +kernel
theorem dX8_partOf_51 : decode cX8_partOf 51 = .ok (.goto 7, 3) := by decide +kernel
theorem dX8_partOf_54 : decode cX8_partOf 54 = .ok (.lload_n 2, 1) := by decide +kernel
theorem dX8_partOf_55 : decode cX8_partOf 55 = .ok (.lload 7, 2) := by decide +kernel
theorem dX8_partOf_57 : decode cX8_partOf 57 = .ok (.ldiv, 1) := by decide +kernel
theorem dX8_partOf_58 : decode cX8_partOf 58 = .ok (.l2i, 1) := by decide +kernel
theorem dX8_partOf_59 : decode cX8_partOf 59 = .ok (.ireturn, 1) := by decide +kernel
theorem dX8_contribution_0 : decode cX8_contribution 0 = .ok (.iload_n 1, 1) := by decide +kernel
theorem dX8_contribution_1 : decode cX8_contribution 1 = .ok (.invokestatic 63, 3) := by decide +kernel
theorem dX8_contribution_4 : decode cX8_contribution 4 = .ok (.istore_n 3, 1) := by decide +kernel
theorem dX8_contribution_5 : decode cX8_contribution 5 = .ok (.aload_n 0, 1) := by decide +kernel
theorem dX8_contribution_6 : decode cX8_contribution 6 = .ok (.iload_n 3, 1) := by decide +kernel
theorem dX8_contribution_7 : decode cX8_contribution 7 = .ok (.ifCond .ne 7, 3) := by decide +kernel
theorem dX8_contribution_10 : decode cX8_contribution 10 = .ok (.iconst 1, 1) := by decide +kernel
theorem dX8_contribution_11 : decode cX8_contribution 11 = .ok (.goto 26, 3) := by decide +kernel
theorem dX8_contribution_14 : decode cX8_contribution 14 = .ok (.iload_n 2, 1) := by decide +kernel
theorem dX8_contribution_15 : decode cX8_contribution 15 = .ok (.iconst 0, 1) := by decide +kernel
theorem dX8_contribution_16 : decode cX8_contribution 16 = .ok (.bipush 63, 2) := by decide +kernel
theorem dX8_contribution_18 : decode cX8_contribution 18 = .ok (.invokestatic 59, 3) := by decide +kernel
theorem dX8_contribution_21 : decode cX8_contribution 21 = .ok (.ifCond .eq 15, 3) := by decide +kernel
theorem dX8_contribution_24 : decode cX8_contribution 24 = .ok (.iload_n 2, 1) := by decide +kernel
theorem dX8_contribution_25 : decode cX8_contribution 25 = .ok (.iload_n 1, 1) := by decide +kernel
theorem dX8_contribution_26 : decode cX8_contribution 26 = .ok (.ishr, 1) := by decide +kernel
theorem dX8_contribution_27 : decode cX8_contribution 27 = .ok (.iconst 1, 1) := by decide +kernel
theorem dX8_contribution_28 : decode cX8_contribution 28 = .ok (.iand, 1) := by decide +kernel
theorem dX8_contribution_29 : decode cX8_contribution 29 = .ok (.ifCond .ne 7, 3) := by decide +kernel
theorem dX8_contribution_32 : decode cX8_contribution 32 = .ok (.iconst 0, 1) := by decide +kernel
theorem dX8_contribution_33 : decode cX8_contribution 33 = .ok (.goto 4, 3) := by decide +kernel
theorem dX8_contribution_36 : decode cX8_contribution 36 = .ok (.iconst 2, 1) := by decide +kernel
theorem dX8_contribution_37 : decode cX8_contribution 37 = .ok (.invokevirtual 75, 3) := by decide +kernel
theorem dX8_contribution_40 : decode cX8_contribution 40 = .ok (.ifCond .eq 5, 3) := by decide +kernel
theorem dX8_contribution_43 : decode cX8_contribution 43 = .ok (.iconst 0, 1) := by decide +kernel
theorem dX8_contribution_44 : decode cX8_contribution 44 = .ok (.ireturn, 1) := by decide +kernel
theorem dX8_contribution_45 : decode cX8_contribution 45 = .ok (.aload_n 0, 1) := by decide +kernel
theorem dX8_contribution_46 : decode cX8_contribution 46 = .ok (.iload_n 2, 1) := by decide +kernel
theorem dX8_contribution_47 : decode cX8_contribution 47 = .ok (.iconst 1, 1) := by decide +kernel
theorem dX8_contribution_48 : decode cX8_contribution 48 = .ok (.iload_n 1, 1) := by decide +kernel
theorem dX8_contribution_49 : decode cX8_contribution 49 = .ok (.ishl, 1) := by decide +kernel
theorem dX8_contribution_50 : decode cX8_contribution 50 = .ok (.ior, 1) := by decide +kernel
theorem dX8_contribution_51 : decode cX8_contribution 51 = .ok (.iconst (-1), 1) := by decide +kernel
theorem dX8_contribution_52 : decode cX8_contribution 52 = .ok (.invokevirtual 184, 3) := by decide +kernel
theorem dX8_contribution_55 : decode cX8_contribution 55 = .ok (.aload_n 0, 1) := by decide +kernel
theorem dX8_contribution_56 : decode cX8_contribution 56 = .ok (.iload_n 2, 1) := by decide +kernel
theorem dX8_contribution_57 : decode cX8_contribution 57 = .ok (.iconst (-1), 1) := by decide +kernel
theorem dX8_contribution_58 : decode cX8_contribution 58 = .ok (.invokevirtual 184, 3) := by decide +kernel
theorem dX8_contribution_61 : decode cX8_contribution 61 = .ok (.isub, 1) := by decide +kernel
theorem dX8_contribution_62 : decode cX8_contribution 62 = .ok (.ireturn, 1) := by decide +kernel
theorem dX8_blame_0 : decode cX8_blame 0 = .ok (.aload_n 0, 1) := by decide +kernel
theorem dX8_blame_1 : decode cX8_blame 1 = .ok (.iload_n 1, 1) := by decide +kernel
theorem dX8_blame_2 : decode cX8_blame 2 = .ok (.invokestatic 63, 3) := by decide +kernel
theorem dX8_blame_5 : decode cX8_blame 5 = .ok (.ifCond .ne 7, 3) := by decide +kernel
theorem dX8_blame_8 : decode cX8_blame 8 = .ok (.iconst 1, 1) := by decide +kernel
theorem dX8_blame_9 : decode cX8_blame 9 = .ok (.goto 17, 3) := by decide +kernel
theorem dX8_blame_12 : decode cX8_blame 12 = .ok (.iload_n 2, 1) := by decide +kernel
theorem dX8_blame_13 : decode cX8_blame 13 = .ok (.iconst 0, 1) := by decide +kernel
theorem dX8_blame_14 : decode cX8_blame 14 = .ok (.iconst 1, 1) := by decide +kernel
theorem dX8_blame_15 : decode cX8_blame 15 = .ok (.invokestatic 59, 3) := by decide +kernel
theorem dX8_blame_18 : decode cX8_blame 18 = .ok (.ifCond .eq 7, 3) := by decide +kernel
theorem dX8_blame_21 : decode cX8_blame 21 = .ok (.iconst 0, 1) := by decide +kernel
theorem dX8_blame_22 : decode cX8_blame 22 = .ok (.goto 4, 3) := by decide +kernel
theorem dX8_blame_25 : decode cX8_blame 25 = .ok (.iconst 2, 1) := by decide +kernel
theorem dX8_blame_26 : decode cX8_blame 26 = .ok (.invokevirtual 75, 3) := by decide +kernel
theorem dX8_blame_29 : decode cX8_blame 29 = .ok (.ifCond .eq 5, 3) := by decide +kernel
theorem dX8_blame_32 : decode cX8_blame 32 = .ok (.iconst 0, 1) := by decide +kernel
theorem dX8_blame_33 : decode cX8_blame 33 = .ok (.ireturn, 1) := by decide +kernel
theorem dX8_blame_34 : decode cX8_blame 34 = .ok (.aload_n 0, 1) := by decide +kernel
theorem dX8_blame_35 : decode cX8_blame 35 = .ok (.iconst (-1), 1) := by decide +kernel
theorem dX8_blame_36 : decode cX8_blame 36 = .ok (.invokevirtual 193, 3) := by decide +kernel
theorem dX8_blame_39 : decode cX8_blame 39 = .ok (.aload_n 0, 1) := by decide +kernel
theorem dX8_blame_40 : decode cX8_blame 40 = .ok (.iload_n 1, 1) := by decide +kernel
theorem dX8_blame_41 : decode cX8_blame 41 = .ok (.iconst 1, 1) := by decide +kernel
theorem dX8_blame_42 : decode cX8_blame 42 = .ok (.invokevirtual 196, 3) := by decide +kernel
theorem dX8_blame_45 : decode cX8_blame 45 = .ok (.ldc2_w 200, 3) := by decide +kernel
theorem dX8_blame_48 : decode cX8_blame 48 = .ok (.iload_n 2, 1) := by decide +kernel
theorem dX8_blame_49 : decode cX8_blame 49 = .ok (.invokestatic 202, 3) := by decide +kernel
theorem dX8_blame_52 : decode cX8_blame 52 = .ok (.ireturn, 1) := by decide +kernel
theorem dX8_blameFor_0 : decode cX8_blameFor 0 = .ok (.aload_n 0, 1) := by decide +kernel
theorem dX8_blameFor_1 : decode cX8_blameFor 1 = .ok (.iload_n 1, 1) := by decide +kernel
theorem dX8_blameFor_2 : decode cX8_blameFor 2 = .ok (.invokestatic 63, 3) := by decide +kernel
theorem dX8_blameFor_5 : decode cX8_blameFor 5 = .ok (.ifCond .eq 10, 3) := by decide +kernel
theorem dX8_blameFor_8 : decode cX8_blameFor 8 = .ok (.iload_n 2, 1) := by decide +kernel
theorem dX8_blameFor_9 : decode cX8_blameFor 9 = .ok (.invokestatic 63, 3) := by decide +kernel
theorem dX8_blameFor_12 : decode cX8_blameFor 12 = .ok (.ifCond .ne 7, 3) := by decide +kernel
theorem dX8_blameFor_15 : decode cX8_blameFor 15 = .ok (.iconst 1, 1) := by decide +kernel
theorem dX8_blameFor_16 : decode cX8_blameFor 16 = .ok (.goto 17, 3) := by decide +kernel
theorem dX8_blameFor_19 : decode cX8_blameFor 19 = .ok (.iload_n 3, 1) := by decide +kernel
theorem dX8_blameFor_20 : decode cX8_blameFor 20 = .ok (.iconst 0, 1) := by decide +kernel
theorem dX8_blameFor_21 : decode cX8_blameFor 21 = .ok (.iconst 1, 1) := by decide +kernel
theorem dX8_blameFor_22 : decode cX8_blameFor 22 = .ok (.invokestatic 59, 3) := by decide +kernel
theorem dX8_blameFor_25 : decode cX8_blameFor 25 = .ok (.ifCond .eq 7, 3) := by decide +kernel
theorem dX8_blameFor_28 : decode cX8_blameFor 28 = .ok (.iconst 0, 1) := by decide +kernel
theorem dX8_blameFor_29 : decode cX8_blameFor 29 = .ok (.goto 4, 3) := by decide +kernel
theorem dX8_blameFor_32 : decode cX8_blameFor 32 = .ok (.iconst 2, 1) := by decide +kernel
theorem dX8_blameFor_33 : decode cX8_blameFor 33 = .ok (.invokevirtual 75, 3) := by decide +kernel
theorem dX8_blameFor_36 : decode cX8_blameFor 36 = .ok (.ifCond .eq 5, 3) := by decide +kernel
theorem dX8_blameFor_39 : decode cX8_blameFor 39 = .ok (.iconst 0, 1) := by decide +kernel
theorem dX8_blameFor_40 : decode cX8_blameFor 40 = .ok (.ireturn, 1) := by decide +kernel
theorem dX8_blameFor_41 : decode cX8_blameFor 41 = .ok (.aload_n 0, 1) := by decide +kernel
theorem dX8_blameFor_42 : decode cX8_blameFor 42 = .ok (.iload_n 2, 1) := by decide +kernel
theorem dX8_blameFor_43 : decode cX8_blameFor 43 = .ok (.invokevirtual 193, 3) := by decide +kernel
theorem dX8_blameFor_46 : decode cX8_blameFor 46 = .ok (.aload_n 0, 1) := by decide +kernel
theorem dX8_blameFor_47 : decode cX8_blameFor 47 = .ok (.iload_n 1, 1) := by decide +kernel
theorem dX8_blameFor_48 : decode cX8_blameFor 48 = .ok (.iconst 1, 1) := by decide +kernel
theorem dX8_blameFor_49 : decode cX8_blameFor 49 = .ok (.invokevirtual 196, 3) := by decide +kernel
theorem dX8_blameFor_52 : decode cX8_blameFor 52 = .ok (.ldc2_w 200, 3) := by decide +kernel
theorem dX8_blameFor_55 : decode cX8_blameFor 55 = .ok (.iload_n 3, 1) := by decide +kernel
theorem dX8_blameFor_56 : decode cX8_blameFor 56 = .ok (.invokestatic 202, 3) := by decide +kernel
theorem dX8_blameFor_59 : decode cX8_blameFor 59 = .ok (.ireturn, 1) := by decide +kernel
theorem dX8_index_0 : decode cX8_index 0 = .ok (.aload_n 0, 1) := by decide +kernel
theorem dX8_index_1 : decode cX8_index 1 = .ok (.iload_n 1, 1) := by decide +kernel
theorem dX8_index_2 : decode cX8_index 2 = .ok (.invokestatic 63, 3) := by decide +kernel
theorem dX8_index_5 : decode cX8_index 5 = .ok (.ifCond .ne 7, 3) := by decide +kernel
theorem dX8_index_8 : decode cX8_index 8 = .ok (.iconst 1, 1) := by decide +kernel
theorem dX8_index_9 : decode cX8_index 9 = .ok (.goto 17, 3) := by decide +kernel
theorem dX8_index_12 : decode cX8_index 12 = .ok (.iload_n 2, 1) := by decide +kernel
theorem dX8_index_13 : decode cX8_index 13 = .ok (.iconst 0, 1) := by decide +kernel
theorem dX8_index_14 : decode cX8_index 14 = .ok (.iconst 1, 1) := by decide +kernel
theorem dX8_index_15 : decode cX8_index 15 = .ok (.invokestatic 59, 3) := by decide +kernel
theorem dX8_index_18 : decode cX8_index 18 = .ok (.ifCond .eq 7, 3) := by decide +kernel
theorem dX8_index_21 : decode cX8_index 21 = .ok (.iconst 0, 1) := by decide +kernel
theorem dX8_index_22 : decode cX8_index 22 = .ok (.goto 4, 3) := by decide +kernel
theorem dX8_index_25 : decode cX8_index 25 = .ok (.iconst 2, 1) := by decide +kernel
theorem dX8_index_26 : decode cX8_index 26 = .ok (.invokevirtual 75, 3) := by decide +kernel
theorem dX8_index_29 : decode cX8_index 29 = .ok (.ifCond .eq 5, 3) := by decide +kernel
theorem dX8_index_32 : decode cX8_index 32 = .ok (.iconst 0, 1) := by decide +kernel
theorem dX8_index_33 : decode cX8_index 33 = .ok (.ireturn, 1) := by decide +kernel
theorem dX8_index_34 : decode cX8_index 34 = .ok (.aload_n 0, 1) := by decide +kernel
theorem dX8_index_35 : decode cX8_index 35 = .ok (.iconst (-1), 1) := by decide +kernel
theorem dX8_index_36 : decode cX8_index 36 = .ok (.invokevirtual 193, 3) := by decide +kernel
theorem dX8_index_39 : decode cX8_index 39 = .ok (.aload_n 0, 1) := by decide +kernel
theorem dX8_index_40 : decode cX8_index 40 = .ok (.iload_n 1, 1) := by decide +kernel
theorem dX8_index_41 : decode cX8_index 41 = .ok (.iconst 0, 1) := by decide +kernel
theorem dX8_index_42 : decode cX8_index 42 = .ok (.invokevirtual 196, 3) := by decide +kernel
theorem dX8_index_45 : decode cX8_index 45 = .ok (.ldc2_w 206, 3) := by decide +kernel
theorem dX8_index_48 : decode cX8_index 48 = .ok (.iload_n 2, 1) := by decide +kernel
theorem dX8_index_49 : decode cX8_index 49 = .ok (.invokestatic 202, 3) := by decide +kernel
theorem dX8_index_52 : decode cX8_index 52 = .ok (.ireturn, 1) := by decide +kernel
theorem dX8_interaction_0 : decode cX8_interaction 0 = .ok (.aload_n 0, 1) := by decide +kernel
theorem dX8_interaction_1 : decode cX8_interaction 1 = .ok (.iload_n 1, 1) := by decide +kernel
theorem dX8_interaction_2 : decode cX8_interaction 2 = .ok (.invokestatic 63, 3) := by decide +kernel
theorem dX8_interaction_5 : decode cX8_interaction 5 = .ok (.ifCond .eq 10, 3) := by decide +kernel
theorem dX8_interaction_8 : decode cX8_interaction 8 = .ok (.iload_n 2, 1) := by decide +kernel
theorem dX8_interaction_9 : decode cX8_interaction 9 = .ok (.invokestatic 63, 3) := by decide +kernel
theorem dX8_interaction_12 : decode cX8_interaction 12 = .ok (.ifCond .ne 7, 3) := by decide +kernel
theorem dX8_interaction_15 : decode cX8_interaction 15 = .ok (.iconst 1, 1) := by decide +kernel
theorem dX8_interaction_16 : decode cX8_interaction 16 = .ok (.goto 22, 3) := by decide +kernel
theorem dX8_interaction_19 : decode cX8_interaction 19 = .ok (.iload_n 1, 1) := by decide +kernel
theorem dX8_interaction_20 : decode cX8_interaction 20 = .ok (.iload_n 2, 1) := by decide +kernel
theorem dX8_interaction_21 : decode cX8_interaction 21 = .ok (.if_icmp .eq 12, 3) := by decide +kernel
theorem dX8_interaction_24 : decode cX8_interaction 24 = .ok (.iload_n 3, 1) := by decide +kernel
theorem dX8_interaction_25 : decode cX8_interaction 25 = .ok (.iconst 0, 1) := by decide +kernel
theorem dX8_interaction_26 : decode cX8_interaction 26 = .ok (.iconst 1, 1) := by decide +kernel
theorem dX8_interaction_27 : decode cX8_interaction 27 = .ok (.invokestatic 59, 3) := by decide +kernel
theorem dX8_interaction_30 : decode cX8_interaction 30 = .ok (.ifCond .ne 7, 3) := by decide +kernel
theorem dX8_interaction_33 : decode cX8_interaction 33 = .ok (.iconst 2, 1) := by decide +kernel
theorem dX8_interaction_34 : decode cX8_interaction 34 = .ok (.goto 4, 3) := by decide +kernel
theorem dX8_interaction_37 : decode cX8_interaction 37 = .ok (.iconst 0, 1) := by decide +kernel
theorem dX8_interaction_38 : decode cX8_interaction 38 = .ok (.invokevirtual 75, 3) := by decide +kernel
theorem dX8_interaction_41 : decode cX8_interaction 41 = .ok (.ifCond .eq 5, 3) := by decide +kernel
theorem dX8_interaction_44 : decode cX8_interaction 44 = .ok (.iconst 0, 1) := by decide +kernel
theorem dX8_interaction_45 : decode cX8_interaction 45 = .ok (.ireturn, 1) := by decide +kernel
theorem dX8_interaction_46 : decode cX8_interaction 46 = .ok (.aload_n 0, 1) := by decide +kernel
theorem dX8_interaction_47 : decode cX8_interaction 47 = .ok (.iconst (-1), 1) := by decide +kernel
theorem dX8_interaction_48 : decode cX8_interaction 48 = .ok (.invokevirtual 193, 3) := by decide +kernel
theorem dX8_interaction_51 : decode cX8_interaction 51 = .ok (.iconst 1, 1) := by decide +kernel
theorem dX8_interaction_52 : decode cX8_interaction 52 = .ok (.iload_n 1, 1) := by decide +kernel
theorem dX8_interaction_53 : decode cX8_interaction 53 = .ok (.ishl, 1) := by decide +kernel
theorem dX8_interaction_54 : decode cX8_interaction 54 = .ok (.istore 4, 2) := by decide +kernel
theorem dX8_interaction_56 : decode cX8_interaction 56 = .ok (.iconst 1, 1) := by decide +kernel
theorem dX8_interaction_57 : decode cX8_interaction 57 = .ok (.iload_n 2, 1) := by decide +kernel
theorem dX8_interaction_58 : decode cX8_interaction 58 = .ok (.ishl, 1) := by decide +kernel
theorem dX8_interaction_59 : decode cX8_interaction 59 = .ok (.istore 5, 2) := by decide +kernel
theorem dX8_interaction_61 : decode cX8_interaction 61 = .ok (.lconst 0, 1) := by decide +kernel
theorem dX8_interaction_62 : decode cX8_interaction 62 = .ok (.lstore 6, 2) := by decide +kernel
theorem dX8_interaction_64 : decode cX8_interaction 64 = .ok (.iconst 0, 1) := by decide +kernel
theorem dX8_interaction_65 : decode cX8_interaction 65 = .ok (.istore 8, 2) := by decide +kernel
theorem dX8_interaction_67 : decode cX8_interaction 67 = .ok (.iload 8, 2) := by decide +kernel
theorem dX8_interaction_69 : decode cX8_interaction 69 = .ok (.bipush 63, 2) := by decide +kernel
theorem dX8_interaction_71 : decode cX8_interaction 71 = .ok (.if_icmp .gt 74, 3) := by decide +kernel
theorem dX8_interaction_74 : decode cX8_interaction 74 = .ok (.iload 8, 2) := by decide +kernel
theorem dX8_interaction_76 : decode cX8_interaction 76 = .ok (.iload 4, 2) := by decide +kernel
theorem dX8_interaction_78 : decode cX8_interaction 78 = .ok (.iand, 1) := by decide +kernel
theorem dX8_interaction_79 : decode cX8_interaction 79 = .ok (.ifCond .ne 60, 3) := by decide +kernel
theorem dX8_interaction_82 : decode cX8_interaction 82 = .ok (.iload 8, 2) := by decide +kernel
theorem dX8_interaction_84 : decode cX8_interaction 84 = .ok (.iload 5, 2) := by decide +kernel
theorem dX8_interaction_86 : decode cX8_interaction 86 = .ok (.iand, 1) := by decide +kernel
theorem dX8_interaction_87 : decode cX8_interaction 87 = .ok (.ifCond .ne 52, 3) := by decide +kernel
theorem dX8_interaction_90 : decode cX8_interaction 90 = .ok (.lload 6, 2) := by decide +kernel
theorem dX8_interaction_92 : decode cX8_interaction 92 = .ok (.aload_n 0, 1) := by decide +kernel
theorem dX8_interaction_93 : decode cX8_interaction 93 = .ok (.getfield 40, 3) := by decide +kernel
theorem dX8_interaction_96 : decode cX8_interaction 96 = .ok (.iload 8, 2) := by decide +kernel
theorem dX8_interaction_98 : decode cX8_interaction 98 = .ok (.iload 4, 2) := by decide +kernel
theorem dX8_interaction_100 : decode cX8_interaction 100 = .ok (.ior, 1) := by decide +kernel
theorem dX8_interaction_101 : decode cX8_interaction 101 = .ok (.iload 5, 2) := by decide +kernel
theorem dX8_interaction_103 : decode cX8_interaction 103 = .ok (.ior, 1) := by decide +kernel
theorem dX8_interaction_104 : decode cX8_interaction 104 = .ok (.iaload, 1) := by decide +kernel
theorem dX8_interaction_105 : decode cX8_interaction 105 = .ok (.aload_n 0, 1) := by decide +kernel
theorem dX8_interaction_106 : decode cX8_interaction 106 = .ok (.getfield 40, 3) := by decide +kernel
theorem dX8_interaction_109 : decode cX8_interaction 109 = .ok (.iload 8, 2) := by decide +kernel
theorem dX8_interaction_111 : decode cX8_interaction 111 = .ok (.iload 4, 2) := by decide +kernel
theorem dX8_interaction_113 : decode cX8_interaction 113 = .ok (.ior, 1) := by decide +kernel
theorem dX8_interaction_114 : decode cX8_interaction 114 = .ok (.iaload, 1) := by decide +kernel
theorem dX8_interaction_115 : decode cX8_interaction 115 = .ok (.isub, 1) := by decide +kernel
theorem dX8_interaction_116 : decode cX8_interaction 116 = .ok (.aload_n 0, 1) := by decide +kernel
theorem dX8_interaction_117 : decode cX8_interaction 117 = .ok (.getfield 40, 3) := by decide +kernel
theorem dX8_interaction_120 : decode cX8_interaction 120 = .ok (.iload 8, 2) := by decide +kernel
theorem dX8_interaction_122 : decode cX8_interaction 122 = .ok (.iload 5, 2) := by decide +kernel
theorem dX8_interaction_124 : decode cX8_interaction 124 = .ok (.ior, 1) := by decide +kernel
theorem dX8_interaction_125 : decode cX8_interaction 125 = .ok (.iaload, 1) := by decide +kernel
theorem dX8_interaction_126 : decode cX8_interaction 126 = .ok (.isub, 1) := by decide +kernel
theorem dX8_interaction_127 : decode cX8_interaction 127 = .ok (.aload_n 0, 1) := by decide +kernel
theorem dX8_interaction_128 : decode cX8_interaction 128 = .ok (.getfield 40, 3) := by decide +kernel
theorem dX8_interaction_131 : decode cX8_interaction 131 = .ok (.iload 8, 2) := by decide +kernel
theorem dX8_interaction_133 : decode cX8_interaction 133 = .ok (.iaload, 1) := by decide +kernel
theorem dX8_interaction_134 : decode cX8_interaction 134 = .ok (.iadd, 1) := by decide +kernel
theorem dX8_interaction_135 : decode cX8_interaction 135 = .ok (.i2l, 1) := by decide +kernel
theorem dX8_interaction_136 : decode cX8_interaction 136 = .ok (.ladd, 1) := by decide +kernel
theorem dX8_interaction_137 : decode cX8_interaction 137 = .ok (.lstore 6, 2) := by decide +kernel
theorem dX8_interaction_139 : decode cX8_interaction 139 = .ok (.iinc 8 1, 3) := by decide +kernel
theorem dX8_interaction_142 : decode cX8_interaction 142 = .ok (.goto (-75), 3) := by decide +kernel
theorem dX8_interaction_145 : decode cX8_interaction 145 = .ok (.lload 6, 2) := by decide +kernel
theorem dX8_interaction_147 : decode cX8_interaction 147 = .ok (.ldc2_w 208, 3) := by decide +kernel
theorem dX8_interaction_150 : decode cX8_interaction 150 = .ok (.iload_n 3, 1) := by decide +kernel
theorem dX8_interaction_151 : decode cX8_interaction 151 = .ok (.invokestatic 202, 3) := by decide +kernel
theorem dX8_interaction_154 : decode cX8_interaction 154 = .ok (.ireturn, 1) := by decide +kernel
theorem dX8_ranked_0 : decode cX8_ranked 0 = .ok (.aload_n 0, 1) := by decide +kernel
theorem dX8_ranked_1 : decode cX8_ranked 1 = .ok (.iload_n 1, 1) := by decide +kernel
theorem dX8_ranked_2 : decode cX8_ranked 2 = .ok (.invokestatic 63, 3) := by decide +kernel
theorem dX8_ranked_5 : decode cX8_ranked 5 = .ok (.ifCond .eq 7, 3) := by decide +kernel
theorem dX8_ranked_8 : decode cX8_ranked 8 = .ok (.iconst 0, 1) := by decide +kernel
theorem dX8_ranked_9 : decode cX8_ranked 9 = .ok (.goto 4, 3) := by decide +kernel
theorem dX8_ranked_12 : decode cX8_ranked 12 = .ok (.iconst 1, 1) := by decide +kernel
theorem dX8_ranked_13 : decode cX8_ranked 13 = .ok (.invokevirtual 75, 3) := by decide +kernel
theorem dX8_ranked_16 : decode cX8_ranked 16 = .ok (.ifCond .eq 5, 3) := by decide +kernel
theorem dX8_ranked_19 : decode cX8_ranked 19 = .ok (.iconst 0, 1) := by decide +kernel
theorem dX8_ranked_20 : decode cX8_ranked 20 = .ok (.ireturn, 1) := by decide +kernel
theorem dX8_ranked_21 : decode cX8_ranked 21 = .ok (.aload_n 0, 1) := by decide +kernel
theorem dX8_ranked_22 : decode cX8_ranked 22 = .ok (.iconst (-1), 1) := by decide +kernel
theorem dX8_ranked_23 : decode cX8_ranked 23 = .ok (.invokevirtual 193, 3) := by decide +kernel
theorem dX8_ranked_26 : decode cX8_ranked 26 = .ok (.iconst 0, 1) := by decide +kernel
theorem dX8_ranked_27 : decode cX8_ranked 27 = .ok (.istore_n 2, 1) := by decide +kernel
theorem dX8_ranked_28 : decode cX8_ranked 28 = .ok (.iconst 0, 1) := by decide +kernel
theorem dX8_ranked_29 : decode cX8_ranked 29 = .ok (.istore_n 3, 1) := by decide +kernel
theorem dX8_ranked_30 : decode cX8_ranked 30 = .ok (.iload_n 3, 1) := by decide +kernel
theorem dX8_ranked_31 : decode cX8_ranked 31 = .ok (.bipush 6, 2) := by decide +kernel
theorem dX8_ranked_33 : decode cX8_ranked 33 = .ok (.if_icmp .ge 86, 3) := by decide +kernel
theorem dX8_ranked_36 : decode cX8_ranked 36 = .ok (.iconst 0, 1) := by decide +kernel
theorem dX8_ranked_37 : decode cX8_ranked 37 = .ok (.istore 4, 2) := by decide +kernel
theorem dX8_ranked_39 : decode cX8_ranked 39 = .ok (.iconst 0, 1) := by decide +kernel
theorem dX8_ranked_40 : decode cX8_ranked 40 = .ok (.istore 5, 2) := by decide +kernel
theorem dX8_ranked_42 : decode cX8_ranked 42 = .ok (.iload 5, 2) := by decide +kernel
theorem dX8_ranked_44 : decode cX8_ranked 44 = .ok (.bipush 6, 2) := by decide +kernel
theorem dX8_ranked_46 : decode cX8_ranked 46 = .ok (.if_icmp .ge 55, 3) := by decide +kernel
theorem dX8_ranked_49 : decode cX8_ranked 49 = .ok (.aload_n 0, 1) := by decide +kernel
theorem dX8_ranked_50 : decode cX8_ranked 50 = .ok (.iload 5, 2) := by decide +kernel
theorem dX8_ranked_52 : decode cX8_ranked 52 = .ok (.iconst 1, 1) := by decide +kernel
theorem dX8_ranked_53 : decode cX8_ranked 53 = .ok (.invokevirtual 196, 3) := by decide +kernel
theorem dX8_ranked_56 : decode cX8_ranked 56 = .ok (.aload_n 0, 1) := by decide +kernel
theorem dX8_ranked_57 : decode cX8_ranked 57 = .ok (.iload_n 3, 1) := by decide +kernel
theorem dX8_ranked_58 : decode cX8_ranked 58 = .ok (.iconst 1, 1) := by decide +kernel
theorem dX8_ranked_59 : decode cX8_ranked 59 = .ok (.invokevirtual 196, 3) := by decide +kernel
theorem dX8_ranked_62 : decode cX8_ranked 62 = .ok (.lsub, 1) := by decide +kernel
theorem dX8_ranked_63 : decode cX8_ranked 63 = .ok (.lstore 6, 2) := by decide +kernel
theorem dX8_ranked_65 : decode cX8_ranked 65 = .ok (.iload 4, 2) := by decide +kernel
theorem dX8_ranked_67 : decode cX8_ranked 67 = .ok (.lload 6, 2) := by decide +kernel
theorem dX8_ranked_69 : decode cX8_ranked 69 = .ok (.lconst 0, 1) := by decide +kernel
theorem dX8_ranked_70 : decode cX8_ranked 70 = .ok (.lcmp, 1) := by decide +kernel
theorem dX8_ranked_71 : decode cX8_ranked 71 = .ok (.ifCond .gt 16, 3) := by decide +kernel
theorem dX8_ranked_74 : decode cX8_ranked 74 = .ok (.lload 6, 2) := by decide +kernel
theorem dX8_ranked_76 : decode cX8_ranked 76 = .ok (.lconst 0, 1) := by decide +kernel
theorem dX8_ranked_77 : decode cX8_ranked 77 = .ok (.lcmp, 1) := by decide +kernel
theorem dX8_ranked_78 : decode cX8_ranked 78 = .ok (.ifCond .ne 13, 3) := by decide +kernel
theorem dX8_ranked_81 : decode cX8_ranked 81 = .ok (.iload 5, 2) := by decide +kernel
theorem dX8_ranked_83 : decode cX8_ranked 83 = .ok (.iload_n 3, 1) := by decide +kernel
theorem dX8_ranked_84 : decode cX8_ranked 84 = .ok (.if_icmp .ge 7, 3) := by decide +kernel
theorem dX8_ranked_87 : decode cX8_ranked 87 = .ok (.iconst 1, 1) := by decide +kernel
theorem dX8_ranked_88 : decode cX8_ranked 88 = .ok (.goto 4, 3) := by decide +kernel
theorem dX8_ranked_91 : decode cX8_ranked 91 = .ok (.iconst 0, 1) := by decide +kernel
theorem dX8_ranked_92 : decode cX8_ranked 92 = .ok (.iadd, 1) := by decide +kernel
theorem dX8_ranked_93 : decode cX8_ranked 93 = .ok (.istore 4, 2) := by decide +kernel
theorem dX8_ranked_95 : decode cX8_ranked 95 = .ok (.iinc 5 1, 3) := by decide +kernel
theorem dX8_ranked_98 : decode cX8_ranked 98 = .ok (.goto (-56), 3) := by decide +kernel
theorem dX8_ranked_101 : decode cX8_ranked 101 = .ok (.iload 4, 2) := by decide +kernel
theorem dX8_ranked_103 : decode cX8_ranked 103 = .ok (.iload_n 1, 1) := by decide +kernel
theorem dX8_ranked_104 : decode cX8_ranked 104 = .ok (.if_icmp .ne 7, 3) := by decide +kernel
theorem dX8_ranked_107 : decode cX8_ranked 107 = .ok (.iload_n 3, 1) := by decide +kernel
theorem dX8_ranked_108 : decode cX8_ranked 108 = .ok (.goto 4, 3) := by decide +kernel
theorem dX8_ranked_111 : decode cX8_ranked 111 = .ok (.iload_n 2, 1) := by decide +kernel
theorem dX8_ranked_112 : decode cX8_ranked 112 = .ok (.istore_n 2, 1) := by decide +kernel
theorem dX8_ranked_113 : decode cX8_ranked 113 = .ok (.iinc 3 1, 3) := by decide +kernel
theorem dX8_ranked_116 : decode cX8_ranked 116 = .ok (.goto (-86), 3) := by decide +kernel
theorem dX8_ranked_119 : decode cX8_ranked 119 = .ok (.iload_n 2, 1) := by decide +kernel
theorem dX8_ranked_120 : decode cX8_ranked 120 = .ok (.ireturn, 1) := by decide +kernel
theorem dX8_shuffles_0 : decode cX8_shuffles 0 = .ok (.iconst 0, 1) := by decide +kernel
theorem dX8_shuffles_1 : decode cX8_shuffles 1 = .ok (.istore_n 1, 1) := by decide +kernel
theorem dX8_shuffles_2 : decode cX8_shuffles 2 = .ok (.iload_n 1, 1) := by decide +kernel
theorem dX8_shuffles_3 : decode cX8_shuffles 3 = .ok (.bipush 6, 2) := by decide +kernel
theorem dX8_shuffles_5 : decode cX8_shuffles 5 = .ok (.if_icmp .ge 16, 3) := by decide +kernel
theorem dX8_shuffles_8 : decode cX8_shuffles 8 = .ok (.aload_n 0, 1) := by decide +kernel
theorem dX8_shuffles_9 : decode cX8_shuffles 9 = .ok (.getfield 43, 3) := by decide +kernel
theorem dX8_shuffles_12 : decode cX8_shuffles 12 = .ok (.iload_n 1, 1) := by decide +kernel
theorem dX8_shuffles_13 : decode cX8_shuffles 13 = .ok (.iload_n 1, 1) := by decide +kernel
theorem dX8_shuffles_14 : decode cX8_shuffles 14 = .ok (.iastore, 1) := by decide +kernel
theorem dX8_shuffles_15 : decode cX8_shuffles 15 = .ok (.iinc 1 1, 3) := by decide +kernel
theorem dX8_shuffles_18 : decode cX8_shuffles 18 = .ok (.goto (-16), 3) := by decide +kernel
theorem dX8_shuffles_21 : decode cX8_shuffles 21 = .ok (.iconst 5, 1) := by decide +kernel
theorem dX8_shuffles_22 : decode cX8_shuffles 22 = .ok (.istore_n 1, 1) := by decide +kernel
theorem dX8_shuffles_23 : decode cX8_shuffles 23 = .ok (.iload_n 1, 1) := by decide +kernel
theorem dX8_shuffles_24 : decode cX8_shuffles 24 = .ok (.ifCond .le 70, 3) := by decide +kernel
theorem dX8_shuffles_27 : decode cX8_shuffles 27 = .ok (.aload_n 0, 1) := by decide +kernel
theorem dX8_shuffles_28 : decode cX8_shuffles 28 = .ok (.ldc2_w 210, 3) := by decide +kernel
theorem dX8_shuffles_31 : decode cX8_shuffles 31 = .ok (.aload_n 0, 1) := by decide +kernel
theorem dX8_shuffles_32 : decode cX8_shuffles 32 = .ok (.getfield 212, 3) := by decide +kernel
theorem dX8_shuffles_35 : decode cX8_shuffles 35 = .ok (.lmul, 1) := by decide +kernel
theorem dX8_shuffles_36 : decode cX8_shuffles 36 = .ok (.ldc2_w 216, 3) := by decide +kernel
theorem dX8_shuffles_39 : decode cX8_shuffles 39 = .ok (.ladd, 1) := by decide +kernel
theorem dX8_shuffles_40 : decode cX8_shuffles 40 = .ok (.ldc2_w 218, 3) := by decide +kernel
theorem dX8_shuffles_43 : decode cX8_shuffles 43 = .ok (.lrem, 1) := by decide +kernel
theorem dX8_shuffles_44 : decode cX8_shuffles 44 = .ok (.putfield 212, 3) := by decide +kernel
theorem dX8_shuffles_47 : decode cX8_shuffles 47 = .ok (.aload_n 0, 1) := by decide +kernel
theorem dX8_shuffles_48 : decode cX8_shuffles 48 = .ok (.getfield 212, 3) := by decide +kernel
theorem dX8_shuffles_51 : decode cX8_shuffles 51 = .ok (.ldc2_w 220, 3) := by decide +kernel
theorem dX8_shuffles_54 : decode cX8_shuffles 54 = .ok (.ldiv, 1) := by decide +kernel
theorem dX8_shuffles_55 : decode cX8_shuffles 55 = .ok (.iload_n 1, 1) := by decide +kernel
theorem dX8_shuffles_56 : decode cX8_shuffles 56 = .ok (.iconst 1, 1) := by decide +kernel
theorem dX8_shuffles_57 : decode cX8_shuffles 57 = .ok (.iadd, 1) := by decide +kernel
theorem dX8_shuffles_58 : decode cX8_shuffles 58 = .ok (.i2l, 1) := by decide +kernel
theorem dX8_shuffles_59 : decode cX8_shuffles 59 = .ok (.lrem, 1) := by decide +kernel
theorem dX8_shuffles_60 : decode cX8_shuffles 60 = .ok (.l2i, 1) := by decide +kernel
theorem dX8_shuffles_61 : decode cX8_shuffles 61 = .ok (.istore_n 2, 1) := by decide +kernel
theorem dX8_shuffles_62 : decode cX8_shuffles 62 = .ok (.aload_n 0, 1) := by decide +kernel
theorem dX8_shuffles_63 : decode cX8_shuffles 63 = .ok (.getfield 43, 3) := by decide +kernel
theorem dX8_shuffles_66 : decode cX8_shuffles 66 = .ok (.iload_n 1, 1) := by decide +kernel
theorem dX8_shuffles_67 : decode cX8_shuffles 67 = .ok (.iaload, 1) := by decide +kernel
theorem dX8_shuffles_68 : decode cX8_shuffles 68 = .ok (.istore_n 3, 1) := by decide +kernel
theorem dX8_shuffles_69 : decode cX8_shuffles 69 = .ok (.aload_n 0, 1) := by decide +kernel
theorem dX8_shuffles_70 : decode cX8_shuffles 70 = .ok (.getfield 43, 3) := by decide +kernel
theorem dX8_shuffles_73 : decode cX8_shuffles 73 = .ok (.iload_n 1, 1) := by decide +kernel
theorem dX8_shuffles_74 : decode cX8_shuffles 74 = .ok (.aload_n 0, 1) := by decide +kernel
theorem dX8_shuffles_75 : decode cX8_shuffles 75 = .ok (.getfield 43, 3) := by decide +kernel
theorem dX8_shuffles_78 : decode cX8_shuffles 78 = .ok (.iload_n 2, 1) := by decide +kernel
theorem dX8_shuffles_79 : decode cX8_shuffles 79 = .ok (.iaload, 1) := by decide +kernel
theorem dX8_shuffles_80 : decode cX8_shuffles 80 = .ok (.iastore, 1) := by decide +kernel
theorem dX8_shuffles_81 : decode cX8_shuffles 81 = .ok (.aload_n 0, 1) := by decide +kernel
theorem dX8_shuffles_82 : decode cX8_shuffles 82 = .ok (.getfield 43, 3) := by decide +kernel
theorem dX8_shuffles_85 : decode cX8_shuffles 85 = .ok (.iload_n 2, 1) := by decide +kernel
theorem dX8_shuffles_86 : decode cX8_shuffles 86 = .ok (.iload_n 3, 1) := by decide +kernel
theorem dX8_shuffles_87 : decode cX8_shuffles 87 = .ok (.iastore, 1) := by decide +kernel
theorem dX8_shuffles_88 : decode cX8_shuffles 88 = .ok (.iinc 1 (-1), 3) := by decide +kernel
theorem dX8_shuffles_91 : decode cX8_shuffles 91 = .ok (.goto (-68), 3) := by decide +kernel
theorem dX8_shuffles_94 : decode cX8_shuffles 94 = .ok (.return_, 1) := by decide +kernel
theorem dX8_sampled_0 : decode cX8_sampled 0 = .ok (.aload_n 0, 1) := by decide +kernel
theorem dX8_sampled_1 : decode cX8_sampled 1 = .ok (.iload_n 1, 1) := by decide +kernel
theorem dX8_sampled_2 : decode cX8_sampled 2 = .ok (.invokestatic 63, 3) := by decide +kernel
theorem dX8_sampled_5 : decode cX8_sampled 5 = .ok (.ifCond .ne 7, 3) := by decide +kernel
theorem dX8_sampled_8 : decode cX8_sampled 8 = .ok (.iconst 1, 1) := by decide +kernel
theorem dX8_sampled_9 : decode cX8_sampled 9 = .ok (.goto 22, 3) := by decide +kernel
theorem dX8_sampled_12 : decode cX8_sampled 12 = .ok (.iload_n 2, 1) := by decide +kernel
theorem dX8_sampled_13 : decode cX8_sampled 13 = .ok (.iconst 1, 1) := by decide +kernel
theorem dX8_sampled_14 : decode cX8_sampled 14 = .ok (.bipush 100, 2) := by decide +kernel
theorem dX8_sampled_16 : decode cX8_sampled 16 = .ok (.invokestatic 59, 3) := by decide +kernel
theorem dX8_sampled_19 : decode cX8_sampled 19 = .ok (.ifCond .eq 11, 3) := by decide +kernel
theorem dX8_sampled_22 : decode cX8_sampled 22 = .ok (.iload_n 3, 1) := by decide +kernel
theorem dX8_sampled_23 : decode cX8_sampled 23 = .ok (.ifCond .lt 7, 3) := by decide +kernel
theorem dX8_sampled_26 : decode cX8_sampled 26 = .ok (.iconst 0, 1) := by decide +kernel
theorem dX8_sampled_27 : decode cX8_sampled 27 = .ok (.goto 4, 3) := by decide +kernel
theorem dX8_sampled_30 : decode cX8_sampled 30 = .ok (.iconst 2, 1) := by decide +kernel
theorem dX8_sampled_31 : decode cX8_sampled 31 = .ok (.invokevirtual 75, 3) := by decide +kernel
theorem dX8_sampled_34 : decode cX8_sampled 34 = .ok (.ifCond .eq 5, 3) := by decide +kernel
theorem dX8_sampled_37 : decode cX8_sampled 37 = .ok (.iconst 0, 1) := by decide +kernel
theorem dX8_sampled_38 : decode cX8_sampled 38 = .ok (.ireturn, 1) := by decide +kernel
theorem dX8_sampled_39 : decode cX8_sampled 39 = .ok (.aload_n 0, 1) := by decide +kernel
theorem dX8_sampled_40 : decode cX8_sampled 40 = .ok (.iconst (-1), 1) := by decide +kernel
theorem dX8_sampled_41 : decode cX8_sampled 41 = .ok (.invokevirtual 193, 3) := by decide +kernel
theorem dX8_sampled_44 : decode cX8_sampled 44 = .ok (.aload_n 0, 1) := by decide +kernel
theorem dX8_sampled_45 : decode cX8_sampled 45 = .ok (.iload_n 3, 1) := by decide +kernel
theorem dX8_sampled_46 : decode cX8_sampled 46 = .ok (.i2l, 1) := by decide +kernel
theorem dX8_sampled_47 : decode cX8_sampled 47 = .ok (.putfield 212, 3) := by decide +kernel
theorem dX8_sampled_50 : decode cX8_sampled 50 = .ok (.iconst 0, 1) := by decide +kernel
theorem dX8_sampled_51 : decode cX8_sampled 51 = .ok (.istore 4, 2) := by decide +kernel
theorem dX8_sampled_53 : decode cX8_sampled 53 = .ok (.iconst 0, 1) := by decide +kernel
theorem dX8_sampled_54 : decode cX8_sampled 54 = .ok (.istore 5, 2) := by decide +kernel
theorem dX8_sampled_56 : decode cX8_sampled 56 = .ok (.iload 5, 2) := by decide +kernel
theorem dX8_sampled_58 : decode cX8_sampled 58 = .ok (.iload_n 2, 1) := by decide +kernel
theorem dX8_sampled_59 : decode cX8_sampled 59 = .ok (.if_icmp .ge 74, 3) := by decide +kernel
theorem dX8_sampled_62 : decode cX8_sampled 62 = .ok (.aload_n 0, 1) := by decide +kernel
theorem dX8_sampled_63 : decode cX8_sampled 63 = .ok (.invokevirtual 222, 3) := by decide +kernel
theorem dX8_sampled_66 : decode cX8_sampled 66 = .ok (.iconst 0, 1) := by decide +kernel
theorem dX8_sampled_67 : decode cX8_sampled 67 = .ok (.istore 6, 2) := by decide +kernel
theorem dX8_sampled_69 : decode cX8_sampled 69 = .ok (.iconst 0, 1) := by decide +kernel
theorem dX8_sampled_70 : decode cX8_sampled 70 = .ok (.istore 7, 2) := by decide +kernel
theorem dX8_sampled_72 : decode cX8_sampled 72 = .ok (.aload_n 0, 1) := by decide +kernel
theorem dX8_sampled_73 : decode cX8_sampled 73 = .ok (.getfield 43, 3) := by decide +kernel
theorem dX8_sampled_76 : decode cX8_sampled 76 = .ok (.iload 7, 2) := by decide +kernel
theorem dX8_sampled_78 : decode cX8_sampled 78 = .ok (.iaload, 1) := by decide +kernel
theorem dX8_sampled_79 : decode cX8_sampled 79 = .ok (.iload_n 1, 1) := by decide +kernel
theorem dX8_sampled_80 : decode cX8_sampled 80 = .ok (.if_icmp .eq 23, 3) := by decide +kernel
theorem dX8_sampled_83 : decode cX8_sampled 83 = .ok (.iload 6, 2) := by decide +kernel
theorem dX8_sampled_85 : decode cX8_sampled 85 = .ok (.iconst 1, 1) := by decide +kernel
theorem dX8_sampled_86 : decode cX8_sampled 86 = .ok (.aload_n 0, 1) := by decide +kernel
theorem dX8_sampled_87 : decode cX8_sampled 87 = .ok (.getfield 43, 3) := by decide +kernel
theorem dX8_sampled_90 : decode cX8_sampled 90 = .ok (.iload 7, 2) := by decide +kernel
theorem dX8_sampled_92 : decode cX8_sampled 92 = .ok (.iaload, 1) := by decide +kernel
theorem dX8_sampled_93 : decode cX8_sampled 93 = .ok (.ishl, 1) := by decide +kernel
theorem dX8_sampled_94 : decode cX8_sampled 94 = .ok (.ior, 1) := by decide +kernel
theorem dX8_sampled_95 : decode cX8_sampled 95 = .ok (.istore 6, 2) := by decide +kernel
theorem dX8_sampled_97 : decode cX8_sampled 97 = .ok (.iinc 7 1, 3) := by decide +kernel
theorem dX8_sampled_100 : decode cX8_sampled 100 = .ok (.goto (-28), 3) := by decide +kernel
theorem dX8_sampled_103 : decode cX8_sampled 103 = .ok (.iload 4, 2) := by decide +kernel
theorem dX8_sampled_105 : decode cX8_sampled 105 = .ok (.aload_n 0, 1) := by decide +kernel
theorem dX8_sampled_106 : decode cX8_sampled 106 = .ok (.getfield 40, 3) := by decide +kernel
theorem dX8_sampled_109 : decode cX8_sampled 109 = .ok (.iload 6, 2) := by decide +kernel
theorem dX8_sampled_111 : decode cX8_sampled 111 = .ok (.iconst 1, 1) := by decide +kernel
theorem dX8_sampled_112 : decode cX8_sampled 112 = .ok (.iload_n 1, 1) := by decide +kernel
theorem dX8_sampled_113 : decode cX8_sampled 113 = .ok (.ishl, 1) := by decide +kernel
theorem dX8_sampled_114 : decode cX8_sampled 114 = .ok (.ior, 1) := by decide +kernel
theorem dX8_sampled_115 : decode cX8_sampled 115 = .ok (.iaload, 1) := by decide +kernel
theorem dX8_sampled_116 : decode cX8_sampled 116 = .ok (.aload_n 0, 1) := by decide +kernel
theorem dX8_sampled_117 : decode cX8_sampled 117 = .ok (.getfield 40, 3) := by decide +kernel
theorem dX8_sampled_120 : decode cX8_sampled 120 = .ok (.iload 6, 2) := by decide +kernel
theorem dX8_sampled_122 : decode cX8_sampled 122 = .ok (.iaload, 1) := by decide +kernel
theorem dX8_sampled_123 : decode cX8_sampled 123 = .ok (.isub, 1) := by decide +kernel
theorem dX8_sampled_124 : decode cX8_sampled 124 = .ok (.iadd, 1) := by decide +kernel
theorem dX8_sampled_125 : decode cX8_sampled 125 = .ok (.istore 4, 2) := by decide +kernel
theorem dX8_sampled_127 : decode cX8_sampled 127 = .ok (.iinc 5 1, 3) := by decide +kernel
theorem dX8_sampled_130 : decode cX8_sampled 130 = .ok (.goto (-74), 3) := by decide +kernel
theorem dX8_sampled_133 : decode cX8_sampled 133 = .ok (.iload 4, 2) := by decide +kernel
theorem dX8_sampled_135 : decode cX8_sampled 135 = .ok (.ireturn, 1) := by decide +kernel
theorem dX8_isDropped_0 : decode cX8_isDropped 0 = .ok (.aload_n 0, 1) := by decide +kernel
theorem dX8_isDropped_1 : decode cX8_isDropped 1 = .ok (.iload_n 2, 1) := by decide +kernel
theorem dX8_isDropped_2 : decode cX8_isDropped 2 = .ok (.invokevirtual 168, 3) := by decide +kernel
theorem dX8_isDropped_5 : decode cX8_isDropped 5 = .ok (.aload_n 0, 1) := by decide +kernel
theorem dX8_isDropped_6 : decode cX8_isDropped 6 = .ok (.getfield 16, 3) := by decide +kernel
theorem dX8_isDropped_9 : decode cX8_isDropped 9 = .ok (.iload_n 1, 1) := by decide +kernel
theorem dX8_isDropped_10 : decode cX8_isDropped 10 = .ok (.iaload, 1) := by decide +kernel
theorem dX8_isDropped_11 : decode cX8_isDropped 11 = .ok (.bipush (-2), 2) := by decide +kernel
theorem dX8_isDropped_13 : decode cX8_isDropped 13 = .ok (.if_icmp .ne 7, 3) := by decide +kernel
theorem dX8_isDropped_16 : decode cX8_isDropped 16 = .ok (.iconst 1, 1) := by decide +kernel
theorem dX8_isDropped_17 : decode cX8_isDropped 17 = .ok (.goto 4, 3) := by decide +kernel
theorem dX8_isDropped_20 : decode cX8_isDropped 20 = .ok (.iconst 0, 1) := by decide +kernel
theorem dX8_isDropped_21 : decode cX8_isDropped 21 = .ok (.ireturn, 1) := by decide +kernel
theorem dX8_smallest_0 : decode cX8_smallest 0 = .ok (.iconst (-1), 1) := by decide +kernel
theorem dX8_smallest_1 : decode cX8_smallest 1 = .ok (.istore_n 2, 1) := by decide +kernel
theorem dX8_smallest_2 : decode cX8_smallest 2 = .ok (.aload_n 0, 1) := by decide +kernel
theorem dX8_smallest_3 : decode cX8_smallest 3 = .ok (.iconst 0, 1) := by decide +kernel
theorem dX8_smallest_4 : decode cX8_smallest 4 = .ok (.putfield 225, 3) := by decide +kernel
theorem dX8_smallest_7 : decode cX8_smallest 7 = .ok (.aload_n 0, 1) := by decide +kernel
theorem dX8_smallest_8 : decode cX8_smallest 8 = .ok (.iload_n 1, 1) := by decide +kernel
theorem dX8_smallest_9 : decode cX8_smallest 9 = .ok (.bipush 63, 2) := by decide +kernel
theorem dX8_smallest_11 : decode cX8_smallest 11 = .ok (.invokevirtual 228, 3) := by decide +kernel
theorem dX8_smallest_14 : decode cX8_smallest 14 = .ok (.ifCond .ne 5, 3) := by decide +kernel
theorem dX8_smallest_17 : decode cX8_smallest 17 = .ok (.iconst 0, 1) := by decide +kernel
theorem dX8_smallest_18 : decode cX8_smallest 18 = .ok (.ireturn, 1) := by decide +kernel
theorem dX8_smallest_19 : decode cX8_smallest 19 = .ok (.iconst 1, 1) := by decide +kernel
theorem dX8_smallest_20 : decode cX8_smallest 20 = .ok (.istore_n 3, 1) := by decide +kernel
theorem dX8_smallest_21 : decode cX8_smallest 21 = .ok (.iload_n 3, 1) := by decide +kernel
theorem dX8_smallest_22 : decode cX8_smallest 22 = .ok (.bipush 63, 2) := by decide +kernel
theorem dX8_smallest_24 : decode cX8_smallest 24 = .ok (.if_icmp .gt 117, 3) := by decide +kernel
theorem dX8_smallest_27 : decode cX8_smallest 27 = .ok (.iload_n 3, 1) := by decide +kernel
theorem dX8_smallest_28 : decode cX8_smallest 28 = .ok (.aload_n 0, 1) := by decide +kernel
theorem dX8_smallest_29 : decode cX8_smallest 29 = .ok (.iload_n 1, 1) := by decide +kernel
theorem dX8_smallest_30 : decode cX8_smallest 30 = .ok (.iconst 1, 1) := by decide +kernel
theorem dX8_smallest_31 : decode cX8_smallest 31 = .ok (.invokevirtual 67, 3) := by decide +kernel
theorem dX8_smallest_34 : decode cX8_smallest 34 = .ok (.ishr, 1) := by decide +kernel
theorem dX8_smallest_35 : decode cX8_smallest 35 = .ok (.iconst 1, 1) := by decide +kernel
theorem dX8_smallest_36 : decode cX8_smallest 36 = .ok (.iand, 1) := by decide +kernel
theorem dX8_smallest_37 : decode cX8_smallest 37 = .ok (.ifCond .ne 23, 3) := by decide +kernel
theorem dX8_smallest_40 : decode cX8_smallest 40 = .ok (.iload_n 2, 1) := by decide +kernel
theorem dX8_smallest_41 : decode cX8_smallest 41 = .ok (.iconst (-1), 1) := by decide +kernel
theorem dX8_smallest_42 : decode cX8_smallest 42 = .ok (.if_icmp .eq 14, 3) := by decide +kernel
theorem dX8_smallest_45 : decode cX8_smallest 45 = .ok (.iload_n 3, 1) := by decide +kernel
theorem dX8_smallest_46 : decode cX8_smallest 46 = .ok (.invokestatic 187, 3) := by decide +kernel
theorem dX8_smallest_49 : decode cX8_smallest 49 = .ok (.iload_n 2, 1) := by decide +kernel
theorem dX8_smallest_50 : decode cX8_smallest 50 = .ok (.invokestatic 187, 3) := by decide +kernel
theorem dX8_smallest_53 : decode cX8_smallest 53 = .ok (.if_icmp .gt 7, 3) := by decide +kernel
theorem dX8_smallest_56 : decode cX8_smallest 56 = .ok (.iconst 1, 1) := by decide +kernel
theorem dX8_smallest_57 : decode cX8_smallest 57 = .ok (.goto 4, 3) := by decide +kernel
theorem dX8_smallest_60 : decode cX8_smallest 60 = .ok (.iconst 0, 1) := by decide +kernel
theorem dX8_smallest_61 : decode cX8_smallest 61 = .ok (.istore 4, 2) := by decide +kernel
theorem dX8_smallest_63 : decode cX8_smallest 63 = .ok (.iload 4, 2) := by decide +kernel
theorem dX8_smallest_65 : decode cX8_smallest 65 = .ok (.ifCond .eq 70, 3) := by decide +kernel
theorem dX8_smallest_68 : decode cX8_smallest 68 = .ok (.aload_n 0, 1) := by decide +kernel
theorem dX8_smallest_69 : decode cX8_smallest 69 = .ok (.iload_n 1, 1) := by decide +kernel
theorem dX8_smallest_70 : decode cX8_smallest 70 = .ok (.bipush 63, 2) := by decide +kernel
theorem dX8_smallest_72 : decode cX8_smallest 72 = .ok (.iload_n 3, 1) := by decide +kernel
theorem dX8_smallest_73 : decode cX8_smallest 73 = .ok (.iconst (-1), 1) := by decide +kernel
theorem dX8_smallest_74 : decode cX8_smallest 74 = .ok (.ixor, 1) := by decide +kernel
theorem dX8_smallest_75 : decode cX8_smallest 75 = .ok (.iand, 1) := by decide +kernel
theorem dX8_smallest_76 : decode cX8_smallest 76 = .ok (.invokevirtual 228, 3) := by decide +kernel
theorem dX8_smallest_79 : decode cX8_smallest 79 = .ok (.ifCond .ne 56, 3) := by decide +kernel
theorem dX8_smallest_82 : decode cX8_smallest 82 = .ok (.iload_n 2, 1) := by decide +kernel
theorem dX8_smallest_83 : decode cX8_smallest 83 = .ok (.iconst (-1), 1) := by decide +kernel
theorem dX8_smallest_84 : decode cX8_smallest 84 = .ok (.if_icmp .eq 14, 3) := by decide +kernel
theorem dX8_smallest_87 : decode cX8_smallest 87 = .ok (.iload_n 3, 1) := by decide +kernel
theorem dX8_smallest_88 : decode cX8_smallest 88 = .ok (.invokestatic 187, 3) := by decide +kernel
theorem dX8_smallest_91 : decode cX8_smallest 91 = .ok (.iload_n 2, 1) := by decide +kernel
theorem dX8_smallest_92 : decode cX8_smallest 92 = .ok (.invokestatic 187, 3) := by decide +kernel
theorem dX8_smallest_95 : decode cX8_smallest 95 = .ok (.if_icmp .ge 7, 3) := by decide +kernel
theorem dX8_smallest_98 : decode cX8_smallest 98 = .ok (.iconst 1, 1) := by decide +kernel
theorem dX8_smallest_99 : decode cX8_smallest 99 = .ok (.goto 4, 3) := by decide +kernel
theorem dX8_smallest_102 : decode cX8_smallest 102 = .ok (.iconst 0, 1) := by decide +kernel
theorem dX8_smallest_103 : decode cX8_smallest 103 = .ok (.istore 5, 2) := by decide +kernel
theorem dX8_smallest_105 : decode cX8_smallest 105 = .ok (.aload_n 0, 1) := by decide +kernel
theorem dX8_smallest_106 : decode cX8_smallest 106 = .ok (.iload 5, 2) := by decide +kernel
theorem dX8_smallest_108 : decode cX8_smallest 108 = .ok (.ifCond .eq 7, 3) := by decide +kernel
theorem dX8_smallest_111 : decode cX8_smallest 111 = .ok (.iload_n 3, 1) := by decide +kernel
theorem dX8_smallest_112 : decode cX8_smallest 112 = .ok (.goto 9, 3) := by decide +kernel
theorem dX8_smallest_115 : decode cX8_smallest 115 = .ok (.aload_n 0, 1) := by decide +kernel
theorem dX8_smallest_116 : decode cX8_smallest 116 = .ok (.getfield 225, 3) := by decide +kernel
theorem dX8_smallest_119 : decode cX8_smallest 119 = .ok (.iload_n 3, 1) := by decide +kernel
theorem dX8_smallest_120 : decode cX8_smallest 120 = .ok (.ior, 1) := by decide +kernel
theorem dX8_smallest_121 : decode cX8_smallest 121 = .ok (.putfield 225, 3) := by decide +kernel
theorem dX8_smallest_124 : decode cX8_smallest 124 = .ok (.iload 5, 2) := by decide +kernel
theorem dX8_smallest_126 : decode cX8_smallest 126 = .ok (.ifCond .eq 7, 3) := by decide +kernel
theorem dX8_smallest_129 : decode cX8_smallest 129 = .ok (.iload_n 3, 1) := by decide +kernel
theorem dX8_smallest_130 : decode cX8_smallest 130 = .ok (.goto 4, 3) := by decide +kernel
theorem dX8_smallest_133 : decode cX8_smallest 133 = .ok (.iload_n 2, 1) := by decide +kernel
theorem dX8_smallest_134 : decode cX8_smallest 134 = .ok (.istore_n 2, 1) := by decide +kernel
theorem dX8_smallest_135 : decode cX8_smallest 135 = .ok (.iinc 3 1, 3) := by decide +kernel
theorem dX8_smallest_138 : decode cX8_smallest 138 = .ok (.goto (-117), 3) := by decide +kernel
theorem dX8_smallest_141 : decode cX8_smallest 141 = .ok (.iload_n 2, 1) := by decide +kernel
theorem dX8_smallest_142 : decode cX8_smallest 142 = .ok (.ireturn, 1) := by decide +kernel
theorem dX8_cause_0 : decode cX8_cause 0 = .ok (.aload_n 0, 1) := by decide +kernel
theorem dX8_cause_1 : decode cX8_cause 1 = .ok (.aload_n 0, 1) := by decide +kernel
theorem dX8_cause_2 : decode cX8_cause 2 = .ok (.iload_n 1, 1) := by decide +kernel
theorem dX8_cause_3 : decode cX8_cause 3 = .ok (.invokevirtual 84, 3) := by decide +kernel
theorem dX8_cause_6 : decode cX8_cause 6 = .ok (.ifCond .eq 7, 3) := by decide +kernel
theorem dX8_cause_9 : decode cX8_cause 9 = .ok (.iconst 0, 1) := by decide +kernel
theorem dX8_cause_10 : decode cX8_cause 10 = .ok (.goto 4, 3) := by decide +kernel
theorem dX8_cause_13 : decode cX8_cause 13 = .ok (.iconst 1, 1) := by decide +kernel
theorem dX8_cause_14 : decode cX8_cause 14 = .ok (.invokevirtual 75, 3) := by decide +kernel
theorem dX8_cause_17 : decode cX8_cause 17 = .ok (.ifCond .eq 7, 3) := by decide +kernel
theorem dX8_cause_20 : decode cX8_cause 20 = .ok (.iconst 0, 1) := by decide +kernel
theorem dX8_cause_21 : decode cX8_cause 21 = .ok (.goto 8, 3) := by decide +kernel
theorem dX8_cause_24 : decode cX8_cause 24 = .ok (.aload_n 0, 1) := by decide +kernel
theorem dX8_cause_25 : decode cX8_cause 25 = .ok (.iload_n 1, 1) := by decide +kernel
theorem dX8_cause_26 : decode cX8_cause 26 = .ok (.invokevirtual 231, 3) := by decide +kernel
theorem dX8_cause_29 : decode cX8_cause 29 = .ok (.ireturn, 1) := by decide +kernel
theorem dX8_suspects_0 : decode cX8_suspects 0 = .ok (.aload_n 0, 1) := by decide +kernel
theorem dX8_suspects_1 : decode cX8_suspects 1 = .ok (.aload_n 0, 1) := by decide +kernel
theorem dX8_suspects_2 : decode cX8_suspects 2 = .ok (.iload_n 1, 1) := by decide +kernel
theorem dX8_suspects_3 : decode cX8_suspects 3 = .ok (.invokevirtual 84, 3) := by decide +kernel
theorem dX8_suspects_6 : decode cX8_suspects 6 = .ok (.ifCond .eq 7, 3) := by decide +kernel
theorem dX8_suspects_9 : decode cX8_suspects 9 = .ok (.iconst 0, 1) := by decide +kernel
theorem dX8_suspects_10 : decode cX8_suspects 10 = .ok (.goto 4, 3) := by decide +kernel
theorem dX8_suspects_13 : decode cX8_suspects 13 = .ok (.iconst 1, 1) := by decide +kernel
theorem dX8_suspects_14 : decode cX8_suspects 14 = .ok (.invokevirtual 75, 3) := by decide +kernel
theorem dX8_suspects_17 : decode cX8_suspects 17 = .ok (.ifCond .eq 5, 3) := by decide +kernel
theorem dX8_suspects_20 : decode cX8_suspects 20 = .ok (.iconst 0, 1) := by decide +kernel
theorem dX8_suspects_21 : decode cX8_suspects 21 = .ok (.ireturn, 1) := by decide +kernel
theorem dX8_suspects_22 : decode cX8_suspects 22 = .ok (.aload_n 0, 1) := by decide +kernel
theorem dX8_suspects_23 : decode cX8_suspects 23 = .ok (.iload_n 1, 1) := by decide +kernel
theorem dX8_suspects_24 : decode cX8_suspects 24 = .ok (.invokevirtual 231, 3) := by decide +kernel
theorem dX8_suspects_27 : decode cX8_suspects 27 = .ok (.istore_n 2, 1) := by decide +kernel
theorem dX8_suspects_28 : decode cX8_suspects 28 = .ok (.iload_n 2, 1) := by decide +kernel
theorem dX8_suspects_29 : decode cX8_suspects 29 = .ok (.ifCond .gt 7, 3) := by decide +kernel
theorem dX8_suspects_32 : decode cX8_suspects 32 = .ok (.iconst 0, 1) := by decide +kernel
theorem dX8_suspects_33 : decode cX8_suspects 33 = .ok (.goto 7, 3) := by decide +kernel
theorem dX8_suspects_36 : decode cX8_suspects 36 = .ok (.aload_n 0, 1) := by decide +kernel
theorem dX8_suspects_37 : decode cX8_suspects 37 = .ok (.getfield 225, 3) := by decide +kernel
theorem dX8_suspects_40 : decode cX8_suspects 40 = .ok (.ireturn, 1) := by decide +kernel
theorem dX8_capacityFor_0 : decode cX8_capacityFor 0 = .ok (.aload_n 0, 1) := by decide +kernel
theorem dX8_capacityFor_1 : decode cX8_capacityFor 1 = .ok (.iload_n 1, 1) := by decide +kernel
theorem dX8_capacityFor_2 : decode cX8_capacityFor 2 = .ok (.ifCond .lt 7, 3) := by decide +kernel
theorem dX8_capacityFor_5 : decode cX8_capacityFor 5 = .ok (.iconst 0, 1) := by decide +kernel
theorem dX8_capacityFor_6 : decode cX8_capacityFor 6 = .ok (.goto 4, 3) := by decide +kernel
theorem dX8_capacityFor_9 : decode cX8_capacityFor 9 = .ok (.iconst 1, 1) := by decide +kernel
theorem dX8_capacityFor_10 : decode cX8_capacityFor 10 = .ok (.invokevirtual 75, 3) := by decide +kernel
theorem dX8_capacityFor_13 : decode cX8_capacityFor 13 = .ok (.ifCond .eq 5, 3) := by decide +kernel
theorem dX8_capacityFor_16 : decode cX8_capacityFor 16 = .ok (.iconst 0, 1) := by decide +kernel
theorem dX8_capacityFor_17 : decode cX8_capacityFor 17 = .ok (.ireturn, 1) := by decide +kernel
theorem dX8_capacityFor_18 : decode cX8_capacityFor 18 = .ok (.aload_n 0, 1) := by decide +kernel
theorem dX8_capacityFor_19 : decode cX8_capacityFor 19 = .ok (.getfield 7, 3) := by decide +kernel
theorem dX8_capacityFor_22 : decode cX8_capacityFor 22 = .ok (.bipush 121, 2) := by decide +kernel
theorem dX8_capacityFor_24 : decode cX8_capacityFor 24 = .ok (.iaload, 1) := by decide +kernel
theorem dX8_capacityFor_25 : decode cX8_capacityFor 25 = .ok (.istore_n 2, 1) := by decide +kernel
theorem dX8_capacityFor_26 : decode cX8_capacityFor 26 = .ok (.iconst (-1), 1) := by decide +kernel
theorem dX8_capacityFor_27 : decode cX8_capacityFor 27 = .ok (.istore_n 3, 1) := by decide +kernel
theorem dX8_capacityFor_28 : decode cX8_capacityFor 28 = .ok (.iconst 1, 1) := by decide +kernel
theorem dX8_capacityFor_29 : decode cX8_capacityFor 29 = .ok (.istore 4, 2) := by decide +kernel
theorem dX8_capacityFor_31 : decode cX8_capacityFor 31 = .ok (.iload 4, 2) := by decide +kernel
theorem dX8_capacityFor_33 : decode cX8_capacityFor 33 = .ok (.sipush 1000, 3) := by decide +kernel
theorem dX8_capacityFor_36 : decode cX8_capacityFor 36 = .ok (.if_icmp .gt 44, 3) := by decide +kernel
theorem dX8_capacityFor_39 : decode cX8_capacityFor 39 = .ok (.iload_n 3, 1) := by decide +kernel
theorem dX8_capacityFor_40 : decode cX8_capacityFor 40 = .ok (.iconst (-1), 1) := by decide +kernel
theorem dX8_capacityFor_41 : decode cX8_capacityFor 41 = .ok (.if_icmp .ne 39, 3) := by decide +kernel
theorem dX8_capacityFor_44 : decode cX8_capacityFor 44 = .ok (.aload_n 0, 1) := by decide +kernel
theorem dX8_capacityFor_45 : decode cX8_capacityFor 45 = .ok (.getfield 7, 3) := by decide +kernel
theorem dX8_capacityFor_48 : decode cX8_capacityFor 48 = .ok (.bipush 121, 2) := by decide +kernel
theorem dX8_capacityFor_50 : decode cX8_capacityFor 50 = .ok (.iload 4, 2) := by decide +kernel
theorem dX8_capacityFor_52 : decode cX8_capacityFor 52 = .ok (.iastore, 1) := by decide +kernel
theorem dX8_capacityFor_53 : decode cX8_capacityFor 53 = .ok (.aload_n 0, 1) := by decide +kernel
theorem dX8_capacityFor_54 : decode cX8_capacityFor 54 = .ok (.bipush 63, 2) := by decide +kernel
theorem dX8_capacityFor_56 : decode cX8_capacityFor 56 = .ok (.invokevirtual 168, 3) := by decide +kernel
theorem dX8_capacityFor_59 : decode cX8_capacityFor 59 = .ok (.aload_n 0, 1) := by decide +kernel
theorem dX8_capacityFor_60 : decode cX8_capacityFor 60 = .ok (.getfield 110, 3) := by decide +kernel
theorem dX8_capacityFor_63 : decode cX8_capacityFor 63 = .ok (.iload_n 1, 1) := by decide +kernel
theorem dX8_capacityFor_64 : decode cX8_capacityFor 64 = .ok (.if_icmp .gt 8, 3) := by decide +kernel
theorem dX8_capacityFor_67 : decode cX8_capacityFor 67 = .ok (.iload 4, 2) := by decide +kernel
theorem dX8_capacityFor_69 : decode cX8_capacityFor 69 = .ok (.goto 4, 3) := by decide +kernel
theorem dX8_capacityFor_72 : decode cX8_capacityFor 72 = .ok (.iconst (-1), 1) := by decide +kernel
theorem dX8_capacityFor_73 : decode cX8_capacityFor 73 = .ok (.istore_n 3, 1) := by decide +kernel
theorem dX8_capacityFor_74 : decode cX8_capacityFor 74 = .ok (.iinc 4 1, 3) := by decide +kernel
theorem dX8_capacityFor_77 : decode cX8_capacityFor 77 = .ok (.goto (-46), 3) := by decide +kernel
theorem dX8_capacityFor_80 : decode cX8_capacityFor 80 = .ok (.aload_n 0, 1) := by decide +kernel
theorem dX8_capacityFor_81 : decode cX8_capacityFor 81 = .ok (.getfield 7, 3) := by decide +kernel
theorem dX8_capacityFor_84 : decode cX8_capacityFor 84 = .ok (.bipush 121, 2) := by decide +kernel
theorem dX8_capacityFor_86 : decode cX8_capacityFor 86 = .ok (.iload_n 2, 1) := by decide +kernel
theorem dX8_capacityFor_87 : decode cX8_capacityFor 87 = .ok (.iastore, 1) := by decide +kernel
theorem dX8_capacityFor_88 : decode cX8_capacityFor 88 = .ok (.iload_n 3, 1) := by decide +kernel
theorem dX8_capacityFor_89 : decode cX8_capacityFor 89 = .ok (.ireturn, 1) := by decide +kernel
theorem dX8_bestPolicy_0 : decode cX8_bestPolicy 0 = .ok (.aload_n 0, 1) := by decide +kernel
theorem dX8_bestPolicy_1 : decode cX8_bestPolicy 1 = .ok (.iconst 0, 1) := by decide +kernel
theorem dX8_bestPolicy_2 : decode cX8_bestPolicy 2 = .ok (.putfield 52, 3) := by decide +kernel
theorem dX8_bestPolicy_5 : decode cX8_bestPolicy 5 = .ok (.aload_n 0, 1) := by decide +kernel
theorem dX8_bestPolicy_6 : decode cX8_bestPolicy 6 = .ok (.getfield 7, 3) := by decide +kernel
theorem dX8_bestPolicy_9 : decode cX8_bestPolicy 9 = .ok (.bipush 123, 2) := by decide +kernel
theorem dX8_bestPolicy_11 : decode cX8_bestPolicy 11 = .ok (.iaload, 1) := by decide +kernel
theorem dX8_bestPolicy_12 : decode cX8_bestPolicy 12 = .ok (.istore_n 1, 1) := by decide +kernel
theorem dX8_bestPolicy_13 : decode cX8_bestPolicy 13 = .ok (.iconst 0, 1) := by decide +kernel
theorem dX8_bestPolicy_14 : decode cX8_bestPolicy 14 = .ok (.istore_n 2, 1) := by decide +kernel
theorem dX8_bestPolicy_15 : decode cX8_bestPolicy 15 = .ok (.iconst 0, 1) := by decide +kernel
theorem dX8_bestPolicy_16 : decode cX8_bestPolicy 16 = .ok (.istore_n 3, 1) := by decide +kernel
theorem dX8_bestPolicy_17 : decode cX8_bestPolicy 17 = .ok (.iconst 0, 1) := by decide +kernel
theorem dX8_bestPolicy_18 : decode cX8_bestPolicy 18 = .ok (.istore 4, 2) := by decide +kernel
theorem dX8_bestPolicy_20 : decode cX8_bestPolicy 20 = .ok (.iload 4, 2) := by decide +kernel
theorem dX8_bestPolicy_22 : decode cX8_bestPolicy 22 = .ok (.iconst 4, 1) := by decide +kernel
theorem dX8_bestPolicy_23 : decode cX8_bestPolicy 23 = .ok (.if_icmp .gt 63, 3) := by decide +kernel
theorem dX8_bestPolicy_26 : decode cX8_bestPolicy 26 = .ok (.aload_n 0, 1) := by decide +kernel
theorem dX8_bestPolicy_27 : decode cX8_bestPolicy 27 = .ok (.getfield 7, 3) := by decide +kernel
theorem dX8_bestPolicy_30 : decode cX8_bestPolicy 30 = .ok (.bipush 123, 2) := by decide +kernel
theorem dX8_bestPolicy_32 : decode cX8_bestPolicy 32 = .ok (.iload 4, 2) := by decide +kernel
theorem dX8_bestPolicy_34 : decode cX8_bestPolicy 34 = .ok (.iastore, 1) := by decide +kernel
theorem dX8_bestPolicy_35 : decode cX8_bestPolicy 35 = .ok (.aload_n 0, 1) := by decide +kernel
theorem dX8_bestPolicy_36 : decode cX8_bestPolicy 36 = .ok (.bipush 63, 2) := by decide +kernel
theorem dX8_bestPolicy_38 : decode cX8_bestPolicy 38 = .ok (.iconst (-1), 1) := by decide +kernel
theorem dX8_bestPolicy_39 : decode cX8_bestPolicy 39 = .ok (.invokevirtual 184, 3) := by decide +kernel
theorem dX8_bestPolicy_42 : decode cX8_bestPolicy 42 = .ok (.istore 5, 2) := by decide +kernel
theorem dX8_bestPolicy_44 : decode cX8_bestPolicy 44 = .ok (.iload 4, 2) := by decide +kernel
theorem dX8_bestPolicy_46 : decode cX8_bestPolicy 46 = .ok (.ifCond .eq 9, 3) := by decide +kernel
theorem dX8_bestPolicy_49 : decode cX8_bestPolicy 49 = .ok (.iload 5, 2) := by decide +kernel
theorem dX8_bestPolicy_51 : decode cX8_bestPolicy 51 = .ok (.iload_n 3, 1) := by decide +kernel
theorem dX8_bestPolicy_52 : decode cX8_bestPolicy 52 = .ok (.if_icmp .ge 8, 3) := by decide +kernel
theorem dX8_bestPolicy_55 : decode cX8_bestPolicy 55 = .ok (.iload 4, 2) := by decide +kernel
theorem dX8_bestPolicy_57 : decode cX8_bestPolicy 57 = .ok (.goto 4, 3) := by decide +kernel
theorem dX8_bestPolicy_60 : decode cX8_bestPolicy 60 = .ok (.iload_n 2, 1) := by decide +kernel
theorem dX8_bestPolicy_61 : decode cX8_bestPolicy 61 = .ok (.istore_n 2, 1) := by decide +kernel
theorem dX8_bestPolicy_62 : decode cX8_bestPolicy 62 = .ok (.iload 4, 2) := by decide +kernel
theorem dX8_bestPolicy_64 : decode cX8_bestPolicy 64 = .ok (.ifCond .eq 9, 3) := by decide +kernel
theorem dX8_bestPolicy_67 : decode cX8_bestPolicy 67 = .ok (.iload 5, 2) := by decide +kernel
theorem dX8_bestPolicy_69 : decode cX8_bestPolicy 69 = .ok (.iload_n 3, 1) := by decide +kernel
theorem dX8_bestPolicy_70 : decode cX8_bestPolicy 70 = .ok (.if_icmp .ge 8, 3) := by decide +kernel
theorem dX8_bestPolicy_73 : decode cX8_bestPolicy 73 = .ok (.iload 5, 2) := by decide +kernel
theorem dX8_bestPolicy_75 : decode cX8_bestPolicy 75 = .ok (.goto 4, 3) := by decide +kernel
theorem dX8_bestPolicy_78 : decode cX8_bestPolicy 78 = .ok (.iload_n 3, 1) := by decide +kernel
theorem dX8_bestPolicy_79 : decode cX8_bestPolicy 79 = .ok (.istore_n 3, 1) := by decide +kernel
theorem dX8_bestPolicy_80 : decode cX8_bestPolicy 80 = .ok (.iinc 4 1, 3) := by decide +kernel
theorem dX8_bestPolicy_83 : decode cX8_bestPolicy 83 = .ok (.goto (-63), 3) := by decide +kernel
theorem dX8_bestPolicy_86 : decode cX8_bestPolicy 86 = .ok (.aload_n 0, 1) := by decide +kernel
theorem dX8_bestPolicy_87 : decode cX8_bestPolicy 87 = .ok (.getfield 7, 3) := by decide +kernel
theorem dX8_bestPolicy_90 : decode cX8_bestPolicy 90 = .ok (.bipush 123, 2) := by decide +kernel
theorem dX8_bestPolicy_92 : decode cX8_bestPolicy 92 = .ok (.iload_n 1, 1) := by decide +kernel
theorem dX8_bestPolicy_93 : decode cX8_bestPolicy 93 = .ok (.iastore, 1) := by decide +kernel
theorem dX8_bestPolicy_94 : decode cX8_bestPolicy 94 = .ok (.iload_n 2, 1) := by decide +kernel
theorem dX8_bestPolicy_95 : decode cX8_bestPolicy 95 = .ok (.ireturn, 1) := by decide +kernel
theorem dX8_type_0 : decode cX8_type 0 = .ok (.aload_n 0, 1) := by decide +kernel
theorem dX8_type_1 : decode cX8_type 1 = .ok (.iload_n 1, 1) := by decide +kernel
theorem dX8_type_2 : decode cX8_type 2 = .ok (.bipush 32, 2) := by decide +kernel
theorem dX8_type_4 : decode cX8_type 4 = .ok (.bipush 126, 2) := by decide +kernel
theorem dX8_type_6 : decode cX8_type 6 = .ok (.invokestatic 59, 3) := by decide +kernel
theorem dX8_type_9 : decode cX8_type 9 = .ok (.ifCond .ne 7, 3) := by decide +kernel
theorem dX8_type_12 : decode cX8_type 12 = .ok (.iconst 1, 1) := by decide +kernel
theorem dX8_type_13 : decode cX8_type 13 = .ok (.goto 17, 3) := by decide +kernel
theorem dX8_type_16 : decode cX8_type 16 = .ok (.aload_n 0, 1) := by decide +kernel
theorem dX8_type_17 : decode cX8_type 17 = .ok (.getfield 234, 3) := by decide +kernel
theorem dX8_type_20 : decode cX8_type 20 = .ok (.bipush 120, 2) := by decide +kernel
theorem dX8_type_22 : decode cX8_type 22 = .ok (.if_icmp .ne 7, 3) := by decide +kernel
theorem dX8_type_25 : decode cX8_type 25 = .ok (.iconst 2, 1) := by decide +kernel
theorem dX8_type_26 : decode cX8_type 26 = .ok (.goto 4, 3) := by decide +kernel
theorem dX8_type_29 : decode cX8_type 29 = .ok (.iconst 0, 1) := by decide +kernel
theorem dX8_type_30 : decode cX8_type 30 = .ok (.invokevirtual 75, 3) := by decide +kernel
theorem dX8_type_33 : decode cX8_type 33 = .ok (.ifCond .eq 5, 3) := by decide +kernel
theorem dX8_type_36 : decode cX8_type 36 = .ok (.iconst 0, 1) := by decide +kernel
theorem dX8_type_37 : decode cX8_type 37 = .ok (.ireturn, 1) := by decide +kernel
theorem dX8_type_38 : decode cX8_type 38 = .ok (.aload_n 0, 1) := by decide +kernel
theorem dX8_type_39 : decode cX8_type 39 = .ok (.getfield 46, 3) := by decide +kernel
theorem dX8_type_42 : decode cX8_type 42 = .ok (.aload_n 0, 1) := by decide +kernel
theorem dX8_type_43 : decode cX8_type 43 = .ok (.getfield 234, 3) := by decide +kernel
theorem dX8_type_46 : decode cX8_type 46 = .ok (.iload_n 1, 1) := by decide +kernel
theorem dX8_type_47 : decode cX8_type 47 = .ok (.iastore, 1) := by decide +kernel
theorem dX8_type_48 : decode cX8_type 48 = .ok (.aload_n 0, 1) := by decide +kernel
theorem dX8_type_49 : decode cX8_type 49 = .ok (.dup, 1) := by decide +kernel
theorem dX8_type_50 : decode cX8_type 50 = .ok (.getfield 234, 3) := by decide +kernel
theorem dX8_type_53 : decode cX8_type 53 = .ok (.iconst 1, 1) := by decide +kernel
theorem dX8_type_54 : decode cX8_type 54 = .ok (.iadd, 1) := by decide +kernel
theorem dX8_type_55 : decode cX8_type 55 = .ok (.putfield 234, 3) := by decide +kernel
theorem dX8_type_58 : decode cX8_type 58 = .ok (.aload_n 0, 1) := by decide +kernel
theorem dX8_type_59 : decode cX8_type 59 = .ok (.getfield 234, 3) := by decide +kernel
theorem dX8_type_62 : decode cX8_type 62 = .ok (.ireturn, 1) := by decide +kernel
theorem dX8_clearText_0 : decode cX8_clearText 0 = .ok (.aload_n 0, 1) := by decide +kernel
theorem dX8_clearText_1 : decode cX8_clearText 1 = .ok (.iconst 0, 1) := by decide +kernel
theorem dX8_clearText_2 : decode cX8_clearText 2 = .ok (.putfield 52, 3) := by decide +kernel
theorem dX8_clearText_5 : decode cX8_clearText 5 = .ok (.aload_n 0, 1) := by decide +kernel
theorem dX8_clearText_6 : decode cX8_clearText 6 = .ok (.getfield 234, 3) := by decide +kernel
theorem dX8_clearText_9 : decode cX8_clearText 9 = .ok (.istore_n 1, 1) := by decide +kernel
theorem dX8_clearText_10 : decode cX8_clearText 10 = .ok (.aload_n 0, 1) := by decide +kernel
theorem dX8_clearText_11 : decode cX8_clearText 11 = .ok (.iconst 0, 1) := by decide +kernel
theorem dX8_clearText_12 : decode cX8_clearText 12 = .ok (.putfield 234, 3) := by decide +kernel
theorem dX8_clearText_15 : decode cX8_clearText 15 = .ok (.iload_n 1, 1) := by decide +kernel
theorem dX8_clearText_16 : decode cX8_clearText 16 = .ok (.ireturn, 1) := by decide +kernel
theorem dX8_at_0 : decode cX8_at 0 = .ok (.iload_n 1, 1) := by decide +kernel
theorem dX8_at_1 : decode cX8_at 1 = .ok (.aload_n 0, 1) := by decide +kernel
theorem dX8_at_2 : decode cX8_at 2 = .ok (.getfield 234, 3) := by decide +kernel
theorem dX8_at_5 : decode cX8_at 5 = .ok (.if_icmp .ge 12, 3) := by decide +kernel
theorem dX8_at_8 : decode cX8_at 8 = .ok (.aload_n 0, 1) := by decide +kernel
theorem dX8_at_9 : decode cX8_at 9 = .ok (.getfield 46, 3) := by decide +kernel
theorem dX8_at_12 : decode cX8_at 12 = .ok (.iload_n 1, 1) := by decide +kernel
theorem dX8_at_13 : decode cX8_at 13 = .ok (.iaload, 1) := by decide +kernel
theorem dX8_at_14 : decode cX8_at 14 = .ok (.goto 4, 3) := by decide +kernel
theorem dX8_at_17 : decode cX8_at 17 = .ok (.iconst 0, 1) := by decide +kernel
theorem dX8_at_18 : decode cX8_at 18 = .ok (.ireturn, 1) := by decide +kernel
theorem dX8_skipsSpaces_0 : decode cX8_skipsSpaces 0 = .ok (.aload_n 0, 1) := by decide +kernel
theorem dX8_skipsSpaces_1 : decode cX8_skipsSpaces 1 = .ok (.aload_n 0, 1) := by decide +kernel
theorem dX8_skipsSpaces_2 : decode cX8_skipsSpaces 2 = .ok (.getfield 237, 3) := by decide +kernel
theorem dX8_skipsSpaces_5 : decode cX8_skipsSpaces 5 = .ok (.invokevirtual 240, 3) := by decide +kernel
theorem dX8_skipsSpaces_8 : decode cX8_skipsSpaces 8 = .ok (.bipush 32, 2) := by decide +kernel
theorem dX8_skipsSpaces_10 : decode cX8_skipsSpaces 10 = .ok (.if_icmp .ne 16, 3) := by decide +kernel
theorem dX8_skipsSpaces_13 : decode cX8_skipsSpaces 13 = .ok (.aload_n 0, 1) := by decide +kernel
theorem dX8_skipsSpaces_14 : decode cX8_skipsSpaces 14 = .ok (.dup, 1) := by decide +kernel
theorem dX8_skipsSpaces_15 : decode cX8_skipsSpaces 15 = .ok (.getfield 237, 3) := by decide +kernel
theorem dX8_skipsSpaces_18 : decode cX8_skipsSpaces 18 = .ok (.iconst 1, 1) := by decide +kernel
theorem dX8_skipsSpaces_19 : decode cX8_skipsSpaces 19 = .ok (.iadd, 1) := by decide +kernel
theorem dX8_skipsSpaces_20 : decode cX8_skipsSpaces 20 = .ok (.putfield 237, 3) := by decide +kernel
theorem dX8_skipsSpaces_23 : decode cX8_skipsSpaces 23 = .ok (.goto (-23), 3) := by decide +kernel
theorem dX8_skipsSpaces_26 : decode cX8_skipsSpaces 26 = .ok (.return_, 1) := by decide +kernel
theorem dX8_isLetter_0 : decode cX8_isLetter 0 = .ok (.iload_n 0, 1) := by decide +kernel
theorem dX8_isLetter_1 : decode cX8_isLetter 1 = .ok (.bipush 97, 2) := by decide +kernel
theorem dX8_isLetter_3 : decode cX8_isLetter 3 = .ok (.bipush 122, 2) := by decide +kernel
theorem dX8_isLetter_5 : decode cX8_isLetter 5 = .ok (.invokestatic 59, 3) := by decide +kernel
theorem dX8_isLetter_8 : decode cX8_isLetter 8 = .ok (.ireturn, 1) := by decide +kernel
theorem dX8_isDigit_0 : decode cX8_isDigit 0 = .ok (.iload_n 0, 1) := by decide +kernel
theorem dX8_isDigit_1 : decode cX8_isDigit 1 = .ok (.bipush 48, 2) := by decide +kernel
theorem dX8_isDigit_3 : decode cX8_isDigit 3 = .ok (.bipush 57, 2) := by decide +kernel
theorem dX8_isDigit_5 : decode cX8_isDigit 5 = .ok (.invokestatic 59, 3) := by decide +kernel
theorem dX8_isDigit_8 : decode cX8_isDigit 8 = .ok (.ireturn, 1) := by decide +kernel
theorem dX8_word_0 : decode cX8_word 0 = .ok (.lconst 0, 1) := by decide +kernel
theorem dX8_word_1 : decode cX8_word 1 = .ok (.lstore_n 1, 1) := by decide +kernel
theorem dX8_word_2 : decode cX8_word 2 = .ok (.iconst 0, 1) := by decide +kernel
theorem dX8_word_3 : decode cX8_word 3 = .ok (.istore_n 3, 1) := by decide +kernel
theorem dX8_word_4 : decode cX8_word 4 = .ok (.aload_n 0, 1) := by decide +kernel
theorem dX8_word_5 : decode cX8_word 5 = .ok (.aload_n 0, 1) := by decide +kernel
theorem dX8_word_6 : decode cX8_word 6 = .ok (.getfield 237, 3) := by decide +kernel
theorem dX8_word_9 : decode cX8_word 9 = .ok (.invokevirtual 240, 3) := by decide +kernel
theorem dX8_word_12 : decode cX8_word 12 = .ok (.invokestatic 243, 3) := by decide +kernel
theorem dX8_word_15 : decode cX8_word 15 = .ok (.ifCond .eq 41, 3) := by decide +kernel
theorem dX8_word_18 : decode cX8_word 18 = .ok (.ldc2_w 246, 3) := by decide +kernel
theorem dX8_word_21 : decode cX8_word 21 = .ok (.lload_n 1, 1) := by decide +kernel
theorem dX8_word_22 : decode cX8_word 22 = .ok (.lmul, 1) := by decide +kernel
theorem dX8_word_23 : decode cX8_word 23 = .ok (.aload_n 0, 1) := by decide +kernel
theorem dX8_word_24 : decode cX8_word 24 = .ok (.aload_n 0, 1) := by decide +kernel
theorem dX8_word_25 : decode cX8_word 25 = .ok (.getfield 237, 3) := by decide +kernel
theorem dX8_word_28 : decode cX8_word 28 = .ok (.invokevirtual 240, 3) := by decide +kernel
theorem dX8_word_31 : decode cX8_word 31 = .ok (.i2l, 1) := by decide +kernel
theorem dX8_word_32 : decode cX8_word 32 = .ok (.ladd, 1) := by decide +kernel
theorem dX8_word_33 : decode cX8_word 33 = .ok (.ldc2_w 248, 3) := by decide +kernel
theorem dX8_word_36 : decode cX8_word 36 = .ok (.lsub, 1) := by decide +kernel
theorem dX8_word_37 : decode cX8_word 37 = .ok (.lconst 1, 1) := by decide +kernel
theorem dX8_word_38 : decode cX8_word 38 = .ok (.ladd, 1) := by decide +kernel
theorem dX8_word_39 : decode cX8_word 39 = .ok (.lstore_n 1, 1) := by decide +kernel
theorem dX8_word_40 : decode cX8_word 40 = .ok (.aload_n 0, 1) := by decide +kernel
theorem dX8_word_41 : decode cX8_word 41 = .ok (.dup, 1) := by decide +kernel
theorem dX8_word_42 : decode cX8_word 42 = .ok (.getfield 237, 3) := by decide +kernel
theorem dX8_word_45 : decode cX8_word 45 = .ok (.iconst 1, 1) := by decide +kernel
theorem dX8_word_46 : decode cX8_word 46 = .ok (.iadd, 1) := by decide +kernel
theorem dX8_word_47 : decode cX8_word 47 = .ok (.putfield 237, 3) := by decide +kernel
theorem dX8_word_50 : decode cX8_word 50 = .ok (.iinc 3 1, 3) := by decide +kernel
theorem dX8_word_53 : decode cX8_word 53 = .ok (.goto (-49), 3) := by decide +kernel
theorem dX8_word_56 : decode cX8_word 56 = .ok (.iload_n 3, 1) := by decide +kernel
theorem dX8_word_57 : decode cX8_word 57 = .ok (.bipush 9, 2) := by decide +kernel
theorem dX8_word_59 : decode cX8_word 59 = .ok (.if_icmp .le 7, 3) := by decide +kernel
theorem dX8_word_62 : decode cX8_word 62 = .ok (.lconst 0, 1) := by decide +kernel
theorem dX8_word_63 : decode cX8_word 63 = .ok (.goto 4, 3) := by decide +kernel
theorem dX8_word_66 : decode cX8_word 66 = .ok (.lload_n 1, 1) := by decide +kernel
theorem dX8_word_67 : decode cX8_word 67 = .ok (.lreturn, 1) := by decide +kernel
theorem dX8_meant_0 : decode cX8_meant 0 = .ok (.lload_n 0, 1) := by decide +kernel
theorem dX8_meant_1 : decode cX8_meant 1 = .ok (.ldc2_w 250, 3) := by decide +kernel
theorem dX8_meant_4 : decode cX8_meant 4 = .ok (.lcmp, 1) := by decide +kernel
theorem dX8_meant_5 : decode cX8_meant 5 = .ok (.ifCond .ne 5, 3) := by decide +kernel
theorem dX8_meant_8 : decode cX8_meant 8 = .ok (.iconst 1, 1) := by decide +kernel
theorem dX8_meant_9 : decode cX8_meant 9 = .ok (.ireturn, 1) := by decide +kernel
theorem dX8_meant_10 : decode cX8_meant 10 = .ok (.lload_n 0, 1) := by decide +kernel
theorem dX8_meant_11 : decode cX8_meant 11 = .ok (.ldc2_w 252, 3) := by decide +kernel
theorem dX8_meant_14 : decode cX8_meant 14 = .ok (.lcmp, 1) := by decide +kernel
theorem dX8_meant_15 : decode cX8_meant 15 = .ok (.ifCond .ne 6, 3) := by decide +kernel
theorem dX8_meant_18 : decode cX8_meant 18 = .ok (.bipush 121, 2) := by decide +kernel
theorem dX8_meant_20 : decode cX8_meant 20 = .ok (.ireturn, 1) := by decide +kernel
theorem dX8_meant_21 : decode cX8_meant 21 = .ok (.lload_n 0, 1) := by decide +kernel
theorem dX8_meant_22 : decode cX8_meant 22 = .ok (.ldc2_w 254, 3) := by decide +kernel
theorem dX8_meant_25 : decode cX8_meant 25 = .ok (.lcmp, 1) := by decide +kernel
theorem dX8_meant_26 : decode cX8_meant 26 = .ok (.ifCond .ne 6, 3) := by decide +kernel
theorem dX8_meant_29 : decode cX8_meant 29 = .ok (.bipush 122, 2) := by decide +kernel
theorem dX8_meant_31 : decode cX8_meant 31 = .ok (.ireturn, 1) := by decide +kernel
theorem dX8_meant_32 : decode cX8_meant 32 = .ok (.lload_n 0, 1) := by decide +kernel
theorem dX8_meant_33 : decode cX8_meant 33 = .ok (.ldc2_w 256, 3) := by decide +kernel
theorem dX8_meant_36 : decode cX8_meant 36 = .ok (.lcmp, 1) := by decide +kernel
theorem dX8_meant_37 : decode cX8_meant 37 = .ok (.ifCond .ne 6, 3) := by decide +kernel
theorem dX8_meant_40 : decode cX8_meant 40 = .ok (.bipush 123, 2) := by decide +kernel
theorem dX8_meant_42 : decode cX8_meant 42 = .ok (.ireturn, 1) := by decide +kernel
theorem dX8_meant_43 : decode cX8_meant 43 = .ok (.lload_n 0, 1) := by decide +kernel
theorem dX8_meant_44 : decode cX8_meant 44 = .ok (.ldc2_w 258, 3) := by decide +kernel
theorem dX8_meant_47 : decode cX8_meant 47 = .ok (.lcmp, 1) := by decide +kernel
theorem dX8_meant_48 : decode cX8_meant 48 = .ok (.ifCond .ne 6, 3) := by decide +kernel
theorem dX8_meant_51 : decode cX8_meant 51 = .ok (.bipush 124, 2) := by decide +kernel
theorem dX8_meant_53 : decode cX8_meant 53 = .ok (.ireturn, 1) := by decide +kernel
theorem dX8_meant_54 : decode cX8_meant 54 = .ok (.lload_n 0, 1) := by decide +kernel
theorem dX8_meant_55 : decode cX8_meant 55 = .ok (.ldc2_w 260, 3) := by decide +kernel
theorem dX8_meant_58 : decode cX8_meant 58 = .ok (.lcmp, 1) := by decide +kernel
theorem dX8_meant_59 : decode cX8_meant 59 = .ok (.ifCond .ne 7, 3) := by decide +kernel
theorem dX8_meant_62 : decode cX8_meant 62 = .ok (.sipush 129, 3) := by decide +kernel
theorem dX8_meant_65 : decode cX8_meant 65 = .ok (.ireturn, 1) := by decide +kernel
theorem dX8_meant_66 : decode cX8_meant 66 = .ok (.lload_n 0, 1) := by decide +kernel
theorem dX8_meant_67 : decode cX8_meant 67 = .ok (.ldc2_w 262, 3) := by decide +kernel
theorem dX8_meant_70 : decode cX8_meant 70 = .ok (.lcmp, 1) := by decide +kernel
theorem dX8_meant_71 : decode cX8_meant 71 = .ok (.ifCond .ne 7, 3) := by decide +kernel
theorem dX8_meant_74 : decode cX8_meant 74 = .ok (.sipush 128, 3) := by decide +kernel
theorem dX8_meant_77 : decode cX8_meant 77 = .ok (.ireturn, 1) := by decide +kernel
theorem dX8_meant_78 : decode cX8_meant 78 = .ok (.iconst (-1), 1) := by decide +kernel
theorem dX8_meant_79 : decode cX8_meant 79 = .ok (.ireturn, 1) := by decide +kernel
theorem dX8_readsNumber_0 : decode cX8_readsNumber 0 = .ok (.aload_n 0, 1) := by decide +kernel
theorem dX8_readsNumber_1 : decode cX8_readsNumber 1 = .ok (.invokevirtual 264, 3) := by decide +kernel
theorem dX8_readsNumber_4 : decode cX8_readsNumber 4 = .ok (.aload_n 0, 1) := by decide +kernel
theorem dX8_readsNumber_5 : decode cX8_readsNumber 5 = .ok (.getfield 237, 3) := by decide +kernel
theorem dX8_readsNumber_8 : decode cX8_readsNumber 8 = .ok (.istore_n 2, 1) := by decide +kernel
theorem dX8_readsNumber_9 : decode cX8_readsNumber 9 = .ok (.iconst 0, 1) := by decide +kernel
theorem dX8_readsNumber_10 : decode cX8_readsNumber 10 = .ok (.istore_n 3, 1) := by decide +kernel
theorem dX8_readsNumber_11 : decode cX8_readsNumber 11 = .ok (.aload_n 0, 1) := by decide +kernel
theorem dX8_readsNumber_12 : decode cX8_readsNumber 12 = .ok (.aload_n 0, 1) := by decide +kernel
theorem dX8_readsNumber_13 : decode cX8_readsNumber 13 = .ok (.getfield 237, 3) := by decide +kernel
theorem dX8_readsNumber_16 : decode cX8_readsNumber 16 = .ok (.invokevirtual 240, 3) := by decide +kernel
theorem dX8_readsNumber_19 : decode cX8_readsNumber 19 = .ok (.invokestatic 267, 3) := by decide +kernel
theorem dX8_readsNumber_22 : decode cX8_readsNumber 22 = .ok (.ifCond .eq 43, 3) := by decide +kernel
theorem dX8_readsNumber_25 : decode cX8_readsNumber 25 = .ok (.aload_n 0, 1) := by decide +kernel
theorem dX8_readsNumber_26 : decode cX8_readsNumber 26 = .ok (.getfield 237, 3) := by decide +kernel
theorem dX8_readsNumber_29 : decode cX8_readsNumber 29 = .ok (.iload_n 2, 1) := by decide +kernel
theorem dX8_readsNumber_30 : decode cX8_readsNumber 30 = .ok (.iconst 5, 1) := by decide +kernel
theorem dX8_readsNumber_31 : decode cX8_readsNumber 31 = .ok (.iadd, 1) := by decide +kernel
theorem dX8_readsNumber_32 : decode cX8_readsNumber 32 = .ok (.if_icmp .ge 33, 3) := by decide +kernel
theorem dX8_readsNumber_35 : decode cX8_readsNumber 35 = .ok (.bipush 10, 2) := by decide +kernel
theorem dX8_readsNumber_37 : decode cX8_readsNumber 37 = .ok (.iload_n 3, 1) := by decide +kernel
theorem dX8_readsNumber_38 : decode cX8_readsNumber 38 = .ok (.imul, 1) := by decide +kernel
theorem dX8_readsNumber_39 : decode cX8_readsNumber 39 = .ok (.aload_n 0, 1) := by decide +kernel
theorem dX8_readsNumber_40 : decode cX8_readsNumber 40 = .ok (.aload_n 0, 1) := by decide +kernel
theorem dX8_readsNumber_41 : decode cX8_readsNumber 41 = .ok (.getfield 237, 3) := by decide +kernel
theorem dX8_readsNumber_44 : decode cX8_readsNumber 44 = .ok (.invokevirtual 240, 3) := by decide +kernel
theorem dX8_readsNumber_47 : decode cX8_readsNumber 47 = .ok (.iadd, 1) := by decide +kernel
theorem dX8_readsNumber_48 : decode cX8_readsNumber 48 = .ok (.bipush 48, 2) := by decide +kernel
theorem dX8_readsNumber_50 : decode cX8_readsNumber 50 = .ok (.isub, 1) := by decide +kernel
theorem dX8_readsNumber_51 : decode cX8_readsNumber 51 = .ok (.istore_n 3, 1) := by decide +kernel
theorem dX8_readsNumber_52 : decode cX8_readsNumber 52 = .ok (.aload_n 0, 1) := by decide +kernel
theorem dX8_readsNumber_53 : decode cX8_readsNumber 53 = .ok (.dup, 1) := by decide +kernel
theorem dX8_readsNumber_54 : decode cX8_readsNumber 54 = .ok (.getfield 237, 3) := by decide +kernel
theorem dX8_readsNumber_57 : decode cX8_readsNumber 57 = .ok (.iconst 1, 1) := by decide +kernel
theorem dX8_readsNumber_58 : decode cX8_readsNumber 58 = .ok (.iadd, 1) := by decide +kernel
theorem dX8_readsNumber_59 : decode cX8_readsNumber 59 = .ok (.putfield 237, 3) := by decide +kernel
theorem dX8_readsNumber_62 : decode cX8_readsNumber 62 = .ok (.goto (-51), 3) := by decide +kernel
theorem dX8_readsNumber_65 : decode cX8_readsNumber 65 = .ok (.aload_n 0, 1) := by decide +kernel
theorem dX8_readsNumber_66 : decode cX8_readsNumber 66 = .ok (.getfield 49, 3) := by decide +kernel
theorem dX8_readsNumber_69 : decode cX8_readsNumber 69 = .ok (.iload_n 1, 1) := by decide +kernel
theorem dX8_readsNumber_70 : decode cX8_readsNumber 70 = .ok (.iload_n 3, 1) := by decide +kernel
theorem dX8_readsNumber_71 : decode cX8_readsNumber 71 = .ok (.iastore, 1) := by decide +kernel
theorem dX8_readsNumber_72 : decode cX8_readsNumber 72 = .ok (.aload_n 0, 1) := by decide +kernel
theorem dX8_readsNumber_73 : decode cX8_readsNumber 73 = .ok (.getfield 237, 3) := by decide +kernel
theorem dX8_readsNumber_76 : decode cX8_readsNumber 76 = .ok (.iload_n 2, 1) := by decide +kernel
theorem dX8_readsNumber_77 : decode cX8_readsNumber 77 = .ok (.if_icmp .eq 13, 3) := by decide +kernel
theorem dX8_readsNumber_80 : decode cX8_readsNumber 80 = .ok (.aload_n 0, 1) := by decide +kernel
theorem dX8_readsNumber_81 : decode cX8_readsNumber 81 = .ok (.getfield 237, 3) := by decide +kernel
theorem dX8_readsNumber_84 : decode cX8_readsNumber 84 = .ok (.iload_n 2, 1) := by decide +kernel
theorem dX8_readsNumber_85 : decode cX8_readsNumber 85 = .ok (.iconst 5, 1) := by decide +kernel
theorem dX8_readsNumber_86 : decode cX8_readsNumber 86 = .ok (.iadd, 1) := by decide +kernel
theorem dX8_readsNumber_87 : decode cX8_readsNumber 87 = .ok (.if_icmp .ne 10, 3) := by decide +kernel
theorem dX8_readsNumber_90 : decode cX8_readsNumber 90 = .ok (.aload_n 0, 1) := by decide +kernel
theorem dX8_readsNumber_91 : decode cX8_readsNumber 91 = .ok (.iload_n 2, 1) := by decide +kernel
theorem dX8_readsNumber_92 : decode cX8_readsNumber 92 = .ok (.putfield 237, 3) := by decide +kernel
theorem dX8_readsNumber_95 : decode cX8_readsNumber 95 = .ok (.iconst 0, 1) := by decide +kernel
theorem dX8_readsNumber_96 : decode cX8_readsNumber 96 = .ok (.ireturn, 1) := by decide +kernel
theorem dX8_readsNumber_97 : decode cX8_readsNumber 97 = .ok (.iconst 1, 1) := by decide +kernel
theorem dX8_readsNumber_98 : decode cX8_readsNumber 98 = .ok (.ireturn, 1) := by decide +kernel
theorem dX8_reads_0 : decode cX8_reads 0 = .ok (.aload_n 0, 1) := by decide +kernel
theorem dX8_reads_1 : decode cX8_reads 1 = .ok (.iconst 0, 1) := by decide +kernel
theorem dX8_reads_2 : decode cX8_reads 2 = .ok (.putfield 237, 3) := by decide +kernel
theorem dX8_reads_5 : decode cX8_reads 5 = .ok (.aload_n 0, 1) := by decide +kernel
theorem dX8_reads_6 : decode cX8_reads 6 = .ok (.iconst 0, 1) := by decide +kernel
theorem dX8_reads_7 : decode cX8_reads 7 = .ok (.putfield 270, 3) := by decide +kernel
theorem dX8_reads_10 : decode cX8_reads 10 = .ok (.aload_n 0, 1) := by decide +kernel
theorem dX8_reads_11 : decode cX8_reads 11 = .ok (.invokevirtual 264, 3) := by decide +kernel
theorem dX8_reads_14 : decode cX8_reads 14 = .ok (.aload_n 0, 1) := by decide +kernel
theorem dX8_reads_15 : decode cX8_reads 15 = .ok (.getfield 237, 3) := by decide +kernel
theorem dX8_reads_18 : decode cX8_reads 18 = .ok (.aload_n 0, 1) := by decide +kernel
theorem dX8_reads_19 : decode cX8_reads 19 = .ok (.getfield 234, 3) := by decide +kernel
theorem dX8_reads_22 : decode cX8_reads 22 = .ok (.if_icmp .ge 142, 3) := by decide +kernel
theorem dX8_reads_25 : decode cX8_reads 25 = .ok (.aload_n 0, 1) := by decide +kernel
theorem dX8_reads_26 : decode cX8_reads 26 = .ok (.getfield 237, 3) := by decide +kernel
theorem dX8_reads_29 : decode cX8_reads 29 = .ok (.istore_n 1, 1) := by decide +kernel
theorem dX8_reads_30 : decode cX8_reads 30 = .ok (.aload_n 0, 1) := by decide +kernel
theorem dX8_reads_31 : decode cX8_reads 31 = .ok (.invokevirtual 273, 3) := by decide +kernel
theorem dX8_reads_34 : decode cX8_reads 34 = .ok (.invokestatic 277, 3) := by decide +kernel
theorem dX8_reads_37 : decode cX8_reads 37 = .ok (.istore_n 2, 1) := by decide +kernel
theorem dX8_reads_38 : decode cX8_reads 38 = .ok (.iload_n 2, 1) := by decide +kernel
theorem dX8_reads_39 : decode cX8_reads 39 = .ok (.iconst (-1), 1) := by decide +kernel
theorem dX8_reads_40 : decode cX8_reads 40 = .ok (.if_icmp .ne 5, 3) := by decide +kernel
theorem dX8_reads_43 : decode cX8_reads 43 = .ok (.iload_n 1, 1) := by decide +kernel
theorem dX8_reads_44 : decode cX8_reads 44 = .ok (.ireturn, 1) := by decide +kernel
theorem dX8_reads_45 : decode cX8_reads 45 = .ok (.aload_n 0, 1) := by decide +kernel
theorem dX8_reads_46 : decode cX8_reads 46 = .ok (.getfield 49, 3) := by decide +kernel
theorem dX8_reads_49 : decode cX8_reads 49 = .ok (.iconst 4, 1) := by decide +kernel
theorem dX8_reads_50 : decode cX8_reads 50 = .ok (.aload_n 0, 1) := by decide +kernel
theorem dX8_reads_51 : decode cX8_reads 51 = .ok (.getfield 270, 3) := by decide +kernel
theorem dX8_reads_54 : decode cX8_reads 54 = .ok (.imul, 1) := by decide +kernel
theorem dX8_reads_55 : decode cX8_reads 55 = .ok (.iload_n 2, 1) := by decide +kernel
theorem dX8_reads_56 : decode cX8_reads 56 = .ok (.iastore, 1) := by decide +kernel
theorem dX8_reads_57 : decode cX8_reads 57 = .ok (.iload_n 2, 1) := by decide +kernel
theorem dX8_reads_58 : decode cX8_reads 58 = .ok (.iconst 1, 1) := by decide +kernel
theorem dX8_reads_59 : decode cX8_reads 59 = .ok (.if_icmp .ne 7, 3) := by decide +kernel
theorem dX8_reads_62 : decode cX8_reads 62 = .ok (.iconst 3, 1) := by decide +kernel
theorem dX8_reads_63 : decode cX8_reads 63 = .ok (.goto 15, 3) := by decide +kernel
theorem dX8_reads_66 : decode cX8_reads 66 = .ok (.iload_n 2, 1) := by decide +kernel
theorem dX8_reads_67 : decode cX8_reads 67 = .ok (.sipush 129, 3) := by decide +kernel
theorem dX8_reads_70 : decode cX8_reads 70 = .ok (.if_icmp .ne 7, 3) := by decide +kernel
theorem dX8_reads_73 : decode cX8_reads 73 = .ok (.iconst 2, 1) := by decide +kernel
theorem dX8_reads_74 : decode cX8_reads 74 = .ok (.goto 4, 3) := by decide +kernel
theorem dX8_reads_77 : decode cX8_reads 77 = .ok (.iconst 1, 1) := by decide +kernel
theorem dX8_reads_78 : decode cX8_reads 78 = .ok (.istore_n 3, 1) := by decide +kernel
theorem dX8_reads_79 : decode cX8_reads 79 = .ok (.iconst 1, 1) := by decide +kernel
theorem dX8_reads_80 : decode cX8_reads 80 = .ok (.istore 4, 2) := by decide +kernel
theorem dX8_reads_82 : decode cX8_reads 82 = .ok (.iload 4, 2) := by decide +kernel
theorem dX8_reads_84 : decode cX8_reads 84 = .ok (.iload_n 3, 1) := by decide +kernel
theorem dX8_reads_85 : decode cX8_reads 85 = .ok (.if_icmp .gt 30, 3) := by decide +kernel
theorem dX8_reads_88 : decode cX8_reads 88 = .ok (.aload_n 0, 1) := by decide +kernel
theorem dX8_reads_89 : decode cX8_reads 89 = .ok (.iconst 4, 1) := by decide +kernel
theorem dX8_reads_90 : decode cX8_reads 90 = .ok (.aload_n 0, 1) := by decide +kernel
theorem dX8_reads_91 : decode cX8_reads 91 = .ok (.getfield 270, 3) := by decide +kernel
theorem dX8_reads_94 : decode cX8_reads 94 = .ok (.imul, 1) := by decide +kernel
theorem dX8_reads_95 : decode cX8_reads 95 = .ok (.iload 4, 2) := by decide +kernel
theorem dX8_reads_97 : decode cX8_reads 97 = .ok (.iadd, 1) := by decide +kernel
theorem dX8_reads_98 : decode cX8_reads 98 = .ok (.invokevirtual 281, 3) := by decide +kernel
theorem dX8_reads_101 : decode cX8_reads 101 = .ok (.ifCond .ne 8, 3) := by decide +kernel
theorem dX8_reads_104 : decode cX8_reads 104 = .ok (.aload_n 0, 1) := by decide +kernel
theorem dX8_reads_105 : decode cX8_reads 105 = .ok (.getfield 237, 3) := by decide +kernel
theorem dX8_reads_108 : decode cX8_reads 108 = .ok (.ireturn, 1) := by decide +kernel
theorem dX8_reads_109 : decode cX8_reads 109 = .ok (.iinc 4 1, 3) := by decide +kernel
theorem dX8_reads_112 : decode cX8_reads 112 = .ok (.goto (-30), 3) := by decide +kernel
theorem dX8_reads_115 : decode cX8_reads 115 = .ok (.aload_n 0, 1) := by decide +kernel
theorem dX8_reads_116 : decode cX8_reads 116 = .ok (.invokevirtual 264, 3) := by decide +kernel
theorem dX8_reads_119 : decode cX8_reads 119 = .ok (.aload_n 0, 1) := by decide +kernel
theorem dX8_reads_120 : decode cX8_reads 120 = .ok (.aload_n 0, 1) := by decide +kernel
theorem dX8_reads_121 : decode cX8_reads 121 = .ok (.getfield 237, 3) := by decide +kernel
theorem dX8_reads_124 : decode cX8_reads 124 = .ok (.invokevirtual 240, 3) := by decide +kernel
theorem dX8_reads_127 : decode cX8_reads 127 = .ok (.bipush 59, 2) := by decide +kernel
theorem dX8_reads_129 : decode cX8_reads 129 = .ok (.if_icmp .eq 8, 3) := by decide +kernel
theorem dX8_reads_132 : decode cX8_reads 132 = .ok (.aload_n 0, 1) := by decide +kernel
theorem dX8_reads_133 : decode cX8_reads 133 = .ok (.getfield 237, 3) := by decide +kernel
theorem dX8_reads_136 : decode cX8_reads 136 = .ok (.ireturn, 1) := by decide +kernel
theorem dX8_reads_137 : decode cX8_reads 137 = .ok (.aload_n 0, 1) := by decide +kernel
theorem dX8_reads_138 : decode cX8_reads 138 = .ok (.dup, 1) := by decide +kernel
theorem dX8_reads_139 : decode cX8_reads 139 = .ok (.getfield 237, 3) := by decide +kernel
theorem dX8_reads_142 : decode cX8_reads 142 = .ok (.iconst 1, 1) := by decide +kernel
theorem dX8_reads_143 : decode cX8_reads 143 = .ok (.iadd, 1) := by decide +kernel
theorem dX8_reads_144 : decode cX8_reads 144 = .ok (.putfield 237, 3) := by decide +kernel
theorem dX8_reads_147 : decode cX8_reads 147 = .ok (.aload_n 0, 1) := by decide +kernel
theorem dX8_reads_148 : decode cX8_reads 148 = .ok (.dup, 1) := by decide +kernel
theorem dX8_reads_149 : decode cX8_reads 149 = .ok (.getfield 270, 3) := by decide +kernel
theorem dX8_reads_152 : decode cX8_reads 152 = .ok (.iconst 1, 1) := by decide +kernel
theorem dX8_reads_153 : decode cX8_reads 153 = .ok (.iadd, 1) := by decide +kernel
theorem dX8_reads_154 : decode cX8_reads 154 = .ok (.putfield 270, 3) := by decide +kernel
theorem dX8_reads_157 : decode cX8_reads 157 = .ok (.aload_n 0, 1) := by decide +kernel
theorem dX8_reads_158 : decode cX8_reads 158 = .ok (.invokevirtual 264, 3) := by decide +kernel
theorem dX8_reads_161 : decode cX8_reads 161 = .ok (.goto (-147), 3) := by decide +kernel
theorem dX8_reads_164 : decode cX8_reads 164 = .ok (.iconst (-1), 1) := by decide +kernel
theorem dX8_reads_165 : decode cX8_reads 165 = .ok (.ireturn, 1) := by decide +kernel
theorem dX8_fault_0 : decode cX8_fault 0 = .ok (.aload_n 0, 1) := by decide +kernel
theorem dX8_fault_1 : decode cX8_fault 1 = .ok (.iconst 0, 1) := by decide +kernel
theorem dX8_fault_2 : decode cX8_fault 2 = .ok (.putfield 52, 3) := by decide +kernel
theorem dX8_fault_5 : decode cX8_fault 5 = .ok (.aload_n 0, 1) := by decide +kernel
theorem dX8_fault_6 : decode cX8_fault 6 = .ok (.invokevirtual 284, 3) := by decide +kernel
theorem dX8_fault_9 : decode cX8_fault 9 = .ok (.ireturn, 1) := by decide +kernel
theorem dX8_does_0 : decode cX8_does 0 = .ok (.aload_n 0, 1) := by decide +kernel
theorem dX8_does_1 : decode cX8_does 1 = .ok (.getfield 49, 3) := by decide +kernel
theorem dX8_does_4 : decode cX8_does 4 = .ok (.iconst 4, 1) := by decide +kernel
theorem dX8_does_5 : decode cX8_does 5 = .ok (.iload_n 1, 1) := by decide +kernel
theorem dX8_does_6 : decode cX8_does 6 = .ok (.imul, 1) := by decide +kernel
theorem dX8_does_7 : decode cX8_does 7 = .ok (.iaload, 1) := by decide +kernel
theorem dX8_does_8 : decode cX8_does 8 = .ok (.istore_n 2, 1) := by decide +kernel
theorem dX8_does_9 : decode cX8_does 9 = .ok (.aload_n 0, 1) := by decide +kernel
theorem dX8_does_10 : decode cX8_does 10 = .ok (.getfield 49, 3) := by decide +kernel
theorem dX8_does_13 : decode cX8_does 13 = .ok (.iconst 4, 1) := by decide +kernel
theorem dX8_does_14 : decode cX8_does 14 = .ok (.iload_n 1, 1) := by decide +kernel
theorem dX8_does_15 : decode cX8_does 15 = .ok (.imul, 1) := by decide +kernel
theorem dX8_does_16 : decode cX8_does 16 = .ok (.iconst 1, 1) := by decide +kernel
theorem dX8_does_17 : decode cX8_does 17 = .ok (.iadd, 1) := by decide +kernel
theorem dX8_does_18 : decode cX8_does 18 = .ok (.iaload, 1) := by decide +kernel
theorem dX8_does_19 : decode cX8_does 19 = .ok (.istore_n 3, 1) := by decide +kernel
theorem dX8_does_20 : decode cX8_does 20 = .ok (.aload_n 0, 1) := by decide +kernel
theorem dX8_does_21 : decode cX8_does 21 = .ok (.getfield 49, 3) := by decide +kernel
theorem dX8_does_24 : decode cX8_does 24 = .ok (.iconst 4, 1) := by decide +kernel
theorem dX8_does_25 : decode cX8_does 25 = .ok (.iload_n 1, 1) := by decide +kernel
theorem dX8_does_26 : decode cX8_does 26 = .ok (.imul, 1) := by decide +kernel
theorem dX8_does_27 : decode cX8_does 27 = .ok (.iconst 2, 1) := by decide +kernel
theorem dX8_does_28 : decode cX8_does 28 = .ok (.iadd, 1) := by decide +kernel
theorem dX8_does_29 : decode cX8_does 29 = .ok (.iaload, 1) := by decide +kernel
theorem dX8_does_30 : decode cX8_does 30 = .ok (.istore 4, 2) := by decide +kernel
theorem dX8_does_32 : decode cX8_does 32 = .ok (.iload_n 2, 1) := by decide +kernel
theorem dX8_does_33 : decode cX8_does 33 = .ok (.iconst 1, 1) := by decide +kernel
theorem dX8_does_34 : decode cX8_does 34 = .ok (.if_icmp .ne 61, 3) := by decide +kernel
theorem dX8_does_37 : decode cX8_does 37 = .ok (.aload_n 0, 1) := by decide +kernel
theorem dX8_does_38 : decode cX8_does 38 = .ok (.iload_n 3, 1) := by decide +kernel
theorem dX8_does_39 : decode cX8_does 39 = .ok (.iload 4, 2) := by decide +kernel
theorem dX8_does_41 : decode cX8_does 41 = .ok (.aload_n 0, 1) := by decide +kernel
theorem dX8_does_42 : decode cX8_does 42 = .ok (.getfield 49, 3) := by decide +kernel
theorem dX8_does_45 : decode cX8_does 45 = .ok (.iconst 4, 1) := by decide +kernel
theorem dX8_does_46 : decode cX8_does 46 = .ok (.iload_n 1, 1) := by decide +kernel
theorem dX8_does_47 : decode cX8_does 47 = .ok (.imul, 1) := by decide +kernel
theorem dX8_does_48 : decode cX8_does 48 = .ok (.iconst 3, 1) := by decide +kernel
theorem dX8_does_49 : decode cX8_does 49 = .ok (.iadd, 1) := by decide +kernel
theorem dX8_does_50 : decode cX8_does 50 = .ok (.iaload, 1) := by decide +kernel
theorem dX8_does_51 : decode cX8_does 51 = .ok (.invokevirtual 71, 3) := by decide +kernel
theorem dX8_does_54 : decode cX8_does 54 = .ok (.ifCond .ne 7, 3) := by decide +kernel
theorem dX8_does_57 : decode cX8_does 57 = .ok (.iconst 1, 1) := by decide +kernel
theorem dX8_does_58 : decode cX8_does 58 = .ok (.goto 4, 3) := by decide +kernel
theorem dX8_does_61 : decode cX8_does 61 = .ok (.iconst 0, 1) := by decide +kernel
theorem dX8_does_62 : decode cX8_does 62 = .ok (.istore 5, 2) := by decide +kernel
theorem dX8_does_64 : decode cX8_does 64 = .ok (.iload 5, 2) := by decide +kernel
theorem dX8_does_66 : decode cX8_does 66 = .ok (.ifCond .eq 23, 3) := by decide +kernel
theorem dX8_does_69 : decode cX8_does 69 = .ok (.aload_n 0, 1) := by decide +kernel
theorem dX8_does_70 : decode cX8_does 70 = .ok (.iload_n 3, 1) := by decide +kernel
theorem dX8_does_71 : decode cX8_does 71 = .ok (.iload 4, 2) := by decide +kernel
theorem dX8_does_73 : decode cX8_does 73 = .ok (.aload_n 0, 1) := by decide +kernel
theorem dX8_does_74 : decode cX8_does 74 = .ok (.getfield 49, 3) := by decide +kernel
theorem dX8_does_77 : decode cX8_does 77 = .ok (.iconst 4, 1) := by decide +kernel
theorem dX8_does_78 : decode cX8_does 78 = .ok (.iload_n 1, 1) := by decide +kernel
theorem dX8_does_79 : decode cX8_does 79 = .ok (.imul, 1) := by decide +kernel
theorem dX8_does_80 : decode cX8_does 80 = .ok (.iconst 3, 1) := by decide +kernel
theorem dX8_does_81 : decode cX8_does 81 = .ok (.iadd, 1) := by decide +kernel
theorem dX8_does_82 : decode cX8_does 82 = .ok (.iaload, 1) := by decide +kernel
theorem dX8_does_83 : decode cX8_does 83 = .ok (.invokevirtual 81, 3) := by decide +kernel
theorem dX8_does_86 : decode cX8_does 86 = .ok (.goto 4, 3) := by decide +kernel
theorem dX8_does_89 : decode cX8_does 89 = .ok (.iconst (-1), 1) := by decide +kernel
theorem dX8_does_90 : decode cX8_does 90 = .ok (.istore 6, 2) := by decide +kernel
theorem dX8_does_92 : decode cX8_does 92 = .ok (.iload 5, 2) := by decide +kernel
theorem dX8_does_94 : decode cX8_does 94 = .ok (.ireturn, 1) := by decide +kernel
theorem dX8_does_95 : decode cX8_does 95 = .ok (.iload_n 2, 1) := by decide +kernel
theorem dX8_does_96 : decode cX8_does 96 = .ok (.sipush 129, 3) := by decide +kernel
theorem dX8_does_99 : decode cX8_does 99 = .ok (.if_icmp .ne 29, 3) := by decide +kernel
theorem dX8_does_102 : decode cX8_does 102 = .ok (.iload_n 3, 1) := by decide +kernel
theorem dX8_does_103 : decode cX8_does 103 = .ok (.invokestatic 63, 3) := by decide +kernel
theorem dX8_does_106 : decode cX8_does 106 = .ok (.ifCond .eq 18, 3) := by decide +kernel
theorem dX8_does_109 : decode cX8_does 109 = .ok (.iload 4, 2) := by decide +kernel
theorem dX8_does_111 : decode cX8_does 111 = .ok (.iconst 0, 1) := by decide +kernel
theorem dX8_does_112 : decode cX8_does 112 = .ok (.bipush 9, 2) := by decide +kernel
theorem dX8_does_114 : decode cX8_does 114 = .ok (.invokestatic 59, 3) := by decide +kernel
theorem dX8_does_117 : decode cX8_does 117 = .ok (.ifCond .eq 7, 3) := by decide +kernel
theorem dX8_does_120 : decode cX8_does 120 = .ok (.iconst 1, 1) := by decide +kernel
theorem dX8_does_121 : decode cX8_does 121 = .ok (.goto 12, 3) := by decide +kernel
theorem dX8_does_124 : decode cX8_does 124 = .ok (.iconst 0, 1) := by decide +kernel
theorem dX8_does_125 : decode cX8_does 125 = .ok (.goto 8, 3) := by decide +kernel
theorem dX8_does_128 : decode cX8_does 128 = .ok (.iload_n 2, 1) := by decide +kernel
theorem dX8_does_129 : decode cX8_does 129 = .ok (.iload_n 3, 1) := by decide +kernel
theorem dX8_does_130 : decode cX8_does 130 = .ok (.invokestatic 94, 3) := by decide +kernel
theorem dX8_does_133 : decode cX8_does 133 = .ok (.istore 5, 2) := by decide +kernel
theorem dX8_does_135 : decode cX8_does 135 = .ok (.iload 5, 2) := by decide +kernel
theorem dX8_does_137 : decode cX8_does 137 = .ok (.ifCond .eq 37, 3) := by decide +kernel
theorem dX8_does_140 : decode cX8_does 140 = .ok (.aload_n 0, 1) := by decide +kernel
theorem dX8_does_141 : decode cX8_does 141 = .ok (.getfield 7, 3) := by decide +kernel
theorem dX8_does_144 : decode cX8_does 144 = .ok (.iload_n 2, 1) := by decide +kernel
theorem dX8_does_145 : decode cX8_does 145 = .ok (.sipush 129, 3) := by decide +kernel
theorem dX8_does_148 : decode cX8_does 148 = .ok (.if_icmp .ne 11, 3) := by decide +kernel
theorem dX8_does_151 : decode cX8_does 151 = .ok (.sipush 129, 3) := by decide +kernel
theorem dX8_does_154 : decode cX8_does 154 = .ok (.iload_n 3, 1) := by decide +kernel
theorem dX8_does_155 : decode cX8_does 155 = .ok (.iadd, 1) := by decide +kernel
theorem dX8_does_156 : decode cX8_does 156 = .ok (.goto 4, 3) := by decide +kernel
theorem dX8_does_159 : decode cX8_does 159 = .ok (.iload_n 2, 1) := by decide +kernel
theorem dX8_does_160 : decode cX8_does 160 = .ok (.iload_n 2, 1) := by decide +kernel
theorem dX8_does_161 : decode cX8_does 161 = .ok (.sipush 129, 3) := by decide +kernel
theorem dX8_does_164 : decode cX8_does 164 = .ok (.if_icmp .ne 8, 3) := by decide +kernel
theorem dX8_does_167 : decode cX8_does 167 = .ok (.iload 4, 2) := by decide +kernel
theorem dX8_does_169 : decode cX8_does 169 = .ok (.goto 4, 3) := by decide +kernel
theorem dX8_does_172 : decode cX8_does 172 = .ok (.iload_n 3, 1) := by decide +kernel
theorem dX8_does_173 : decode cX8_does 173 = .ok (.iastore, 1) := by decide +kernel
theorem dX8_does_174 : decode cX8_does 174 = .ok (.iload 5, 2) := by decide +kernel
theorem dX8_does_176 : decode cX8_does 176 = .ok (.ireturn, 1) := by decide +kernel
theorem dX8_run_0 : decode cX8_run 0 = .ok (.aload_n 0, 1) := by decide +kernel
theorem dX8_run_1 : decode cX8_run 1 = .ok (.aload_n 0, 1) := by decide +kernel
theorem dX8_run_2 : decode cX8_run 2 = .ok (.invokevirtual 284, 3) := by decide +kernel
theorem dX8_run_5 : decode cX8_run 5 = .ok (.iconst (-1), 1) := by decide +kernel
theorem dX8_run_6 : decode cX8_run 6 = .ok (.if_icmp .ne 7, 3) := by decide +kernel
theorem dX8_run_9 : decode cX8_run 9 = .ok (.iconst 0, 1) := by decide +kernel
theorem dX8_run_10 : decode cX8_run 10 = .ok (.goto 4, 3) := by decide +kernel
theorem dX8_run_13 : decode cX8_run 13 = .ok (.iconst 1, 1) := by decide +kernel
theorem dX8_run_14 : decode cX8_run 14 = .ok (.invokevirtual 75, 3) := by decide +kernel
theorem dX8_run_17 : decode cX8_run 17 = .ok (.ifCond .eq 5, 3) := by decide +kernel
theorem dX8_run_20 : decode cX8_run 20 = .ok (.iconst 0, 1) := by decide +kernel
theorem dX8_run_21 : decode cX8_run 21 = .ok (.ireturn, 1) := by decide +kernel
theorem dX8_run_22 : decode cX8_run 22 = .ok (.aload_n 0, 1) := by decide +kernel
theorem dX8_run_23 : decode cX8_run 23 = .ok (.invokevirtual 78, 3) := by decide +kernel
theorem dX8_run_26 : decode cX8_run 26 = .ok (.iconst 0, 1) := by decide +kernel
theorem dX8_run_27 : decode cX8_run 27 = .ok (.istore_n 1, 1) := by decide +kernel
theorem dX8_run_28 : decode cX8_run 28 = .ok (.iconst 0, 1) := by decide +kernel
theorem dX8_run_29 : decode cX8_run 29 = .ok (.istore_n 2, 1) := by decide +kernel
theorem dX8_run_30 : decode cX8_run 30 = .ok (.iload_n 2, 1) := by decide +kernel
theorem dX8_run_31 : decode cX8_run 31 = .ok (.aload_n 0, 1) := by decide +kernel
theorem dX8_run_32 : decode cX8_run 32 = .ok (.getfield 270, 3) := by decide +kernel
theorem dX8_run_35 : decode cX8_run 35 = .ok (.if_icmp .ge 25, 3) := by decide +kernel
theorem dX8_run_38 : decode cX8_run 38 = .ok (.iload_n 1, 1) := by decide +kernel
theorem dX8_run_39 : decode cX8_run 39 = .ok (.aload_n 0, 1) := by decide +kernel
theorem dX8_run_40 : decode cX8_run 40 = .ok (.iload_n 2, 1) := by decide +kernel
theorem dX8_run_41 : decode cX8_run 41 = .ok (.invokevirtual 287, 3) := by decide +kernel
theorem dX8_run_44 : decode cX8_run 44 = .ok (.ifCond .eq 7, 3) := by decide +kernel
theorem dX8_run_47 : decode cX8_run 47 = .ok (.iconst 1, 1) := by decide +kernel
theorem dX8_run_48 : decode cX8_run 48 = .ok (.goto 4, 3) := by decide +kernel
theorem dX8_run_51 : decode cX8_run 51 = .ok (.iconst 0, 1) := by decide +kernel
theorem dX8_run_52 : decode cX8_run 52 = .ok (.iadd, 1) := by decide +kernel
theorem dX8_run_53 : decode cX8_run 53 = .ok (.istore_n 1, 1) := by decide +kernel
theorem dX8_run_54 : decode cX8_run 54 = .ok (.iinc 2 1, 3) := by decide +kernel
theorem dX8_run_57 : decode cX8_run 57 = .ok (.goto (-27), 3) := by decide +kernel
theorem dX8_run_60 : decode cX8_run 60 = .ok (.iload_n 1, 1) := by decide +kernel
theorem dX8_run_61 : decode cX8_run 61 = .ok (.ireturn, 1) := by decide +kernel
theorem dX8_undo_0 : decode cX8_undo 0 = .ok (.aload_n 0, 1) := by decide +kernel
theorem dX8_undo_1 : decode cX8_undo 1 = .ok (.aload_n 0, 1) := by decide +kernel
theorem dX8_undo_2 : decode cX8_undo 2 = .ok (.getfield 56, 3) := by decide +kernel
theorem dX8_undo_5 : decode cX8_undo 5 = .ok (.ifCond .le 7, 3) := by decide +kernel
theorem dX8_undo_8 : decode cX8_undo 8 = .ok (.iconst 0, 1) := by decide +kernel
theorem dX8_undo_9 : decode cX8_undo 9 = .ok (.goto 4, 3) := by decide +kernel
theorem dX8_undo_12 : decode cX8_undo 12 = .ok (.iconst 1, 1) := by decide +kernel
theorem dX8_undo_13 : decode cX8_undo 13 = .ok (.invokevirtual 75, 3) := by decide +kernel
theorem dX8_undo_16 : decode cX8_undo 16 = .ok (.ifCond .eq 5, 3) := by decide +kernel
theorem dX8_undo_19 : decode cX8_undo 19 = .ok (.iconst 0, 1) := by decide +kernel
theorem dX8_undo_20 : decode cX8_undo 20 = .ok (.ireturn, 1) := by decide +kernel
theorem dX8_undo_21 : decode cX8_undo 21 = .ok (.aload_n 0, 1) := by decide +kernel
theorem dX8_undo_22 : decode cX8_undo 22 = .ok (.dup, 1) := by decide +kernel
theorem dX8_undo_23 : decode cX8_undo 23 = .ok (.getfield 56, 3) := by decide +kernel
theorem dX8_undo_26 : decode cX8_undo 26 = .ok (.iconst 1, 1) := by decide +kernel
theorem dX8_undo_27 : decode cX8_undo 27 = .ok (.isub, 1) := by decide +kernel
theorem dX8_undo_28 : decode cX8_undo 28 = .ok (.putfield 56, 3) := by decide +kernel
theorem dX8_undo_31 : decode cX8_undo 31 = .ok (.iconst 0, 1) := by decide +kernel
theorem dX8_undo_32 : decode cX8_undo 32 = .ok (.istore_n 1, 1) := by decide +kernel
theorem dX8_undo_33 : decode cX8_undo 33 = .ok (.iload_n 1, 1) := by decide +kernel
theorem dX8_undo_34 : decode cX8_undo 34 = .ok (.sipush 135, 3) := by decide +kernel
theorem dX8_undo_37 : decode cX8_undo 37 = .ok (.if_icmp .ge 30, 3) := by decide +kernel
theorem dX8_undo_40 : decode cX8_undo 40 = .ok (.aload_n 0, 1) := by decide +kernel
theorem dX8_undo_41 : decode cX8_undo 41 = .ok (.getfield 7, 3) := by decide +kernel
theorem dX8_undo_44 : decode cX8_undo 44 = .ok (.iload_n 1, 1) := by decide +kernel
theorem dX8_undo_45 : decode cX8_undo 45 = .ok (.aload_n 0, 1) := by decide +kernel
theorem dX8_undo_46 : decode cX8_undo 46 = .ok (.getfield 13, 3) := by decide +kernel
theorem dX8_undo_49 : decode cX8_undo 49 = .ok (.sipush 135, 3) := by decide +kernel
theorem dX8_undo_52 : decode cX8_undo 52 = .ok (.aload_n 0, 1) := by decide +kernel
theorem dX8_undo_53 : decode cX8_undo 53 = .ok (.getfield 56, 3) := by decide +kernel
theorem dX8_undo_56 : decode cX8_undo 56 = .ok (.imul, 1) := by decide +kernel
theorem dX8_undo_57 : decode cX8_undo 57 = .ok (.iload_n 1, 1) := by decide +kernel
theorem dX8_undo_58 : decode cX8_undo 58 = .ok (.iadd, 1) := by decide +kernel
theorem dX8_undo_59 : decode cX8_undo 59 = .ok (.iaload, 1) := by decide +kernel
theorem dX8_undo_60 : decode cX8_undo 60 = .ok (.iastore, 1) := by decide +kernel
theorem dX8_undo_61 : decode cX8_undo 61 = .ok (.iinc 1 1, 3) := by decide +kernel
theorem dX8_undo_64 : decode cX8_undo 64 = .ok (.goto (-31), 3) := by decide +kernel
theorem dX8_undo_67 : decode cX8_undo 67 = .ok (.aload_n 0, 1) := by decide +kernel
theorem dX8_undo_68 : decode cX8_undo 68 = .ok (.getfield 56, 3) := by decide +kernel
theorem dX8_undo_71 : decode cX8_undo 71 = .ok (.ireturn, 1) := by decide +kernel
theorem dX8_checksum_0 : decode cX8_checksum 0 = .ok (.aload_n 0, 1) := by decide +kernel
theorem dX8_checksum_1 : decode cX8_checksum 1 = .ok (.iconst 0, 1) := by decide +kernel
theorem dX8_checksum_2 : decode cX8_checksum 2 = .ok (.putfield 52, 3) := by decide +kernel
theorem dX8_checksum_5 : decode cX8_checksum 5 = .ok (.ldc2_w 290, 3) := by decide +kernel
theorem dX8_checksum_8 : decode cX8_checksum 8 = .ok (.aload_n 0, 1) := by decide +kernel
theorem dX8_checksum_9 : decode cX8_checksum 9 = .ok (.getfield 7, 3) := by decide +kernel
theorem dX8_checksum_12 : decode cX8_checksum 12 = .ok (.iconst 0, 1) := by decide +kernel
theorem dX8_checksum_13 : decode cX8_checksum 13 = .ok (.iaload, 1) := by decide +kernel
theorem dX8_checksum_14 : decode cX8_checksum 14 = .ok (.i2l, 1) := by decide +kernel
theorem dX8_checksum_15 : decode cX8_checksum 15 = .ok (.ladd, 1) := by decide +kernel
theorem dX8_checksum_16 : decode cX8_checksum 16 = .ok (.lstore_n 1, 1) := by decide +kernel
theorem dX8_checksum_17 : decode cX8_checksum 17 = .ok (.iconst 0, 1) := by decide +kernel
theorem dX8_checksum_18 : decode cX8_checksum 18 = .ok (.istore_n 3, 1) := by decide +kernel
theorem dX8_checksum_19 : decode cX8_checksum 19 = .ok (.iload_n 3, 1) := by decide +kernel
theorem dX8_checksum_20 : decode cX8_checksum 20 = .ok (.iconst 3, 1) := by decide +kernel
theorem dX8_checksum_21 : decode cX8_checksum 21 = .ok (.aload_n 0, 1) := by decide +kernel
theorem dX8_checksum_22 : decode cX8_checksum 22 = .ok (.getfield 7, 3) := by decide +kernel
theorem dX8_checksum_25 : decode cX8_checksum 25 = .ok (.iconst 0, 1) := by decide +kernel
theorem dX8_checksum_26 : decode cX8_checksum 26 = .ok (.iaload, 1) := by decide +kernel
theorem dX8_checksum_27 : decode cX8_checksum 27 = .ok (.imul, 1) := by decide +kernel
theorem dX8_checksum_28 : decode cX8_checksum 28 = .ok (.if_icmp .ge 25, 3) := by decide +kernel
theorem dX8_checksum_31 : decode cX8_checksum 31 = .ok (.ldc2_w 292, 3) := by decide +kernel
theorem dX8_checksum_34 : decode cX8_checksum 34 = .ok (.lload_n 1, 1) := by decide +kernel
theorem dX8_checksum_35 : decode cX8_checksum 35 = .ok (.lmul, 1) := by decide +kernel
theorem dX8_checksum_36 : decode cX8_checksum 36 = .ok (.aload_n 0, 1) := by decide +kernel
theorem dX8_checksum_37 : decode cX8_checksum 37 = .ok (.getfield 7, 3) := by decide +kernel
theorem dX8_checksum_40 : decode cX8_checksum 40 = .ok (.iconst 1, 1) := by decide +kernel
theorem dX8_checksum_41 : decode cX8_checksum 41 = .ok (.iload_n 3, 1) := by decide +kernel
theorem dX8_checksum_42 : decode cX8_checksum 42 = .ok (.iadd, 1) := by decide +kernel
theorem dX8_checksum_43 : decode cX8_checksum 43 = .ok (.iaload, 1) := by decide +kernel
theorem dX8_checksum_44 : decode cX8_checksum 44 = .ok (.i2l, 1) := by decide +kernel
theorem dX8_checksum_45 : decode cX8_checksum 45 = .ok (.ladd, 1) := by decide +kernel
theorem dX8_checksum_46 : decode cX8_checksum 46 = .ok (.lstore_n 1, 1) := by decide +kernel
theorem dX8_checksum_47 : decode cX8_checksum 47 = .ok (.iinc 3 1, 3) := by decide +kernel
theorem dX8_checksum_50 : decode cX8_checksum 50 = .ok (.goto (-31), 3) := by decide +kernel
theorem dX8_checksum_53 : decode cX8_checksum 53 = .ok (.bipush 121, 2) := by decide +kernel
theorem dX8_checksum_55 : decode cX8_checksum 55 = .ok (.istore_n 3, 1) := by decide +kernel
theorem dX8_checksum_56 : decode cX8_checksum 56 = .ok (.iload_n 3, 1) := by decide +kernel
theorem dX8_checksum_57 : decode cX8_checksum 57 = .ok (.sipush 135, 3) := by decide +kernel
theorem dX8_checksum_60 : decode cX8_checksum 60 = .ok (.if_icmp .ge 23, 3) := by decide +kernel
theorem dX8_checksum_63 : decode cX8_checksum 63 = .ok (.ldc2_w 292, 3) := by decide +kernel
theorem dX8_checksum_66 : decode cX8_checksum 66 = .ok (.lload_n 1, 1) := by decide +kernel
theorem dX8_checksum_67 : decode cX8_checksum 67 = .ok (.lmul, 1) := by decide +kernel
theorem dX8_checksum_68 : decode cX8_checksum 68 = .ok (.aload_n 0, 1) := by decide +kernel
theorem dX8_checksum_69 : decode cX8_checksum 69 = .ok (.getfield 7, 3) := by decide +kernel
theorem dX8_checksum_72 : decode cX8_checksum 72 = .ok (.iload_n 3, 1) := by decide +kernel
theorem dX8_checksum_73 : decode cX8_checksum 73 = .ok (.iaload, 1) := by decide +kernel
theorem dX8_checksum_74 : decode cX8_checksum 74 = .ok (.i2l, 1) := by decide +kernel
theorem dX8_checksum_75 : decode cX8_checksum 75 = .ok (.ladd, 1) := by decide +kernel
theorem dX8_checksum_76 : decode cX8_checksum 76 = .ok (.lstore_n 1, 1) := by decide +kernel
theorem dX8_checksum_77 : decode cX8_checksum 77 = .ok (.iinc 3 1, 3) := by decide +kernel
theorem dX8_checksum_80 : decode cX8_checksum 80 = .ok (.goto (-24), 3) := by decide +kernel
theorem dX8_checksum_83 : decode cX8_checksum 83 = .ok (.iconst 0, 1) := by decide +kernel
theorem dX8_checksum_84 : decode cX8_checksum 84 = .ok (.istore_n 3, 1) := by decide +kernel
theorem dX8_checksum_85 : decode cX8_checksum 85 = .ok (.iload_n 3, 1) := by decide +kernel
theorem dX8_checksum_86 : decode cX8_checksum 86 = .ok (.bipush 63, 2) := by decide +kernel
theorem dX8_checksum_88 : decode cX8_checksum 88 = .ok (.if_icmp .gt 23, 3) := by decide +kernel
theorem dX8_checksum_91 : decode cX8_checksum 91 = .ok (.ldc2_w 292, 3) := by decide +kernel
theorem dX8_checksum_94 : decode cX8_checksum 94 = .ok (.lload_n 1, 1) := by decide +kernel
theorem dX8_checksum_95 : decode cX8_checksum 95 = .ok (.lmul, 1) := by decide +kernel
theorem dX8_checksum_96 : decode cX8_checksum 96 = .ok (.aload_n 0, 1) := by decide +kernel
theorem dX8_checksum_97 : decode cX8_checksum 97 = .ok (.iload_n 3, 1) := by decide +kernel
theorem dX8_checksum_98 : decode cX8_checksum 98 = .ok (.iconst (-1), 1) := by decide +kernel
theorem dX8_checksum_99 : decode cX8_checksum 99 = .ok (.invokevirtual 184, 3) := by decide +kernel
theorem dX8_checksum_102 : decode cX8_checksum 102 = .ok (.i2l, 1) := by decide +kernel
theorem dX8_checksum_103 : decode cX8_checksum 103 = .ok (.ladd, 1) := by decide +kernel
theorem dX8_checksum_104 : decode cX8_checksum 104 = .ok (.lstore_n 1, 1) := by decide +kernel
theorem dX8_checksum_105 : decode cX8_checksum 105 = .ok (.iinc 3 1, 3) := by decide +kernel
theorem dX8_checksum_108 : decode cX8_checksum 108 = .ok (.goto (-23), 3) := by decide +kernel
theorem dX8_checksum_111 : decode cX8_checksum 111 = .ok (.ldc2_w 292, 3) := by decide +kernel
theorem dX8_checksum_114 : decode cX8_checksum 114 = .ok (.lload_n 1, 1) := by decide +kernel
theorem dX8_checksum_115 : decode cX8_checksum 115 = .ok (.lmul, 1) := by decide +kernel
theorem dX8_checksum_116 : decode cX8_checksum 116 = .ok (.aload_n 0, 1) := by decide +kernel
theorem dX8_checksum_117 : decode cX8_checksum 117 = .ok (.getfield 234, 3) := by decide +kernel
theorem dX8_checksum_120 : decode cX8_checksum 120 = .ok (.i2l, 1) := by decide +kernel
theorem dX8_checksum_121 : decode cX8_checksum 121 = .ok (.ladd, 1) := by decide +kernel
theorem dX8_checksum_122 : decode cX8_checksum 122 = .ok (.lstore_n 1, 1) := by decide +kernel
theorem dX8_checksum_123 : decode cX8_checksum 123 = .ok (.ldc2_w 292, 3) := by decide +kernel
theorem dX8_checksum_126 : decode cX8_checksum 126 = .ok (.lload_n 1, 1) := by decide +kernel
theorem dX8_checksum_127 : decode cX8_checksum 127 = .ok (.lmul, 1) := by decide +kernel
theorem dX8_checksum_128 : decode cX8_checksum 128 = .ok (.aload_n 0, 1) := by decide +kernel
theorem dX8_checksum_129 : decode cX8_checksum 129 = .ok (.getfield 56, 3) := by decide +kernel
theorem dX8_checksum_132 : decode cX8_checksum 132 = .ok (.i2l, 1) := by decide +kernel
theorem dX8_checksum_133 : decode cX8_checksum 133 = .ok (.ladd, 1) := by decide +kernel
theorem dX8_checksum_134 : decode cX8_checksum 134 = .ok (.lreturn, 1) := by decide +kernel
