theorem dX8_init_0 : decode cX8_init 0 = .ok (.aload_n 0, 1) := by decide +kernel
theorem dX8_init_1 : decode cX8_init 1 = .ok (.invokespecial 1, 3) := by decide +kernel
theorem dX8_init_4 : decode cX8_init 4 = .ok (.aload_n 0, 1) := by decide +kernel
theorem dX8_init_5 : decode cX8_init 5 = .ok (.iconst 3, 1) := by decide +kernel
theorem dX8_init_6 : decode cX8_init 6 = .ok (.newarray .int, 2) := by decide +kernel
theorem dX8_init_8 : decode cX8_init 8 = .ok (.putfield 7, 3) := by decide +kernel
theorem dX8_init_11 : decode cX8_init 11 = .ok (.aload_n 0, 1) := by decide +kernel
theorem dX8_init_12 : decode cX8_init 12 = .ok (.bipush 60, 2) := by decide +kernel
theorem dX8_init_14 : decode cX8_init 14 = .ok (.newarray .int, 2) := by decide +kernel
theorem dX8_init_16 : decode cX8_init 16 = .ok (.putfield 13, 3) := by decide +kernel
theorem dX8_init_19 : decode cX8_init 19 = .ok (.aload_n 0, 1) := by decide +kernel
theorem dX8_init_20 : decode cX8_init 20 = .ok (.bipush 8, 2) := by decide +kernel
theorem dX8_init_22 : decode cX8_init 22 = .ok (.newarray .int, 2) := by decide +kernel
theorem dX8_init_24 : decode cX8_init 24 = .ok (.putfield 16, 3) := by decide +kernel
theorem dX8_init_27 : decode cX8_init 27 = .ok (.aload_n 0, 1) := by decide +kernel
theorem dX8_init_28 : decode cX8_init 28 = .ok (.bipush 12, 2) := by decide +kernel
theorem dX8_init_30 : decode cX8_init 30 = .ok (.newarray .int, 2) := by decide +kernel
theorem dX8_init_32 : decode cX8_init 32 = .ok (.putfield 19, 3) := by decide +kernel
theorem dX8_init_35 : decode cX8_init 35 = .ok (.aload_n 0, 1) := by decide +kernel
theorem dX8_init_36 : decode cX8_init 36 = .ok (.bipush 12, 2) := by decide +kernel
theorem dX8_init_38 : decode cX8_init 38 = .ok (.newarray .int, 2) := by decide +kernel
theorem dX8_init_40 : decode cX8_init 40 = .ok (.putfield 22, 3) := by decide +kernel
theorem dX8_init_43 : decode cX8_init 43 = .ok (.aload_n 0, 1) := by decide +kernel
theorem dX8_init_44 : decode cX8_init 44 = .ok (.bipush 12, 2) := by decide +kernel
theorem dX8_init_46 : decode cX8_init 46 = .ok (.newarray .int, 2) := by decide +kernel
theorem dX8_init_48 : decode cX8_init 48 = .ok (.putfield 25, 3) := by decide +kernel
theorem dX8_init_51 : decode cX8_init 51 = .ok (.aload_n 0, 1) := by decide +kernel
theorem dX8_init_52 : decode cX8_init 52 = .ok (.bipush 12, 2) := by decide +kernel
theorem dX8_init_54 : decode cX8_init 54 = .ok (.newarray .int, 2) := by decide +kernel
theorem dX8_init_56 : decode cX8_init 56 = .ok (.putfield 28, 3) := by decide +kernel
theorem dX8_init_59 : decode cX8_init 59 = .ok (.aload_n 0, 1) := by decide +kernel
theorem dX8_init_60 : decode cX8_init 60 = .ok (.iconst 1, 1) := by decide +kernel
theorem dX8_init_61 : decode cX8_init 61 = .ok (.putfield 31, 3) := by decide +kernel
theorem dX8_init_64 : decode cX8_init 64 = .ok (.aload_n 0, 1) := by decide +kernel
theorem dX8_init_65 : decode cX8_init 65 = .ok (.bipush 8, 2) := by decide +kernel
theorem dX8_init_67 : decode cX8_init 67 = .ok (.newarray .int, 2) := by decide +kernel
theorem dX8_init_69 : decode cX8_init 69 = .ok (.putfield 35, 3) := by decide +kernel
theorem dX8_init_72 : decode cX8_init 72 = .ok (.aload_n 0, 1) := by decide +kernel
theorem dX8_init_73 : decode cX8_init 73 = .ok (.sipush 8000, 3) := by decide +kernel
theorem dX8_init_76 : decode cX8_init 76 = .ok (.newarray .int, 2) := by decide +kernel
theorem dX8_init_78 : decode cX8_init 78 = .ok (.putfield 38, 3) := by decide +kernel
theorem dX8_init_81 : decode cX8_init 81 = .ok (.aload_n 0, 1) := by decide +kernel
theorem dX8_init_82 : decode cX8_init 82 = .ok (.sipush 512, 3) := by decide +kernel
theorem dX8_init_85 : decode cX8_init 85 = .ok (.newarray .int, 2) := by decide +kernel
theorem dX8_init_87 : decode cX8_init 87 = .ok (.putfield 41, 3) := by decide +kernel
theorem dX8_init_90 : decode cX8_init 90 = .ok (.aload_n 0, 1) := by decide +kernel
theorem dX8_init_91 : decode cX8_init 91 = .ok (.sipush 512, 3) := by decide +kernel
theorem dX8_init_94 : decode cX8_init 94 = .ok (.newarray .int, 2) := by decide +kernel
theorem dX8_init_96 : decode cX8_init 96 = .ok (.putfield 44, 3) := by decide +kernel
theorem dX8_init_99 : decode cX8_init 99 = .ok (.aload_n 0, 1) := by decide +kernel
theorem dX8_init_100 : decode cX8_init 100 = .ok (.bipush 60, 2) := by decide +kernel
theorem dX8_init_102 : decode cX8_init 102 = .ok (.newarray .long, 2) := by decide +kernel
theorem dX8_init_104 : decode cX8_init 104 = .ok (.putfield 47, 3) := by decide +kernel
theorem dX8_init_107 : decode cX8_init 107 = .ok (.aload_n 0, 1) := by decide +kernel
theorem dX8_init_108 : decode cX8_init 108 = .ok (.sipush 1200, 3) := by decide +kernel
theorem dX8_init_111 : decode cX8_init 111 = .ok (.newarray .long, 2) := by decide +kernel
theorem dX8_init_113 : decode cX8_init 113 = .ok (.putfield 51, 3) := by decide +kernel
theorem dX8_init_116 : decode cX8_init 116 = .ok (.aload_n 0, 1) := by decide +kernel
theorem dX8_init_117 : decode cX8_init 117 = .ok (.bipush 24, 2) := by decide +kernel
theorem dX8_init_119 : decode cX8_init 119 = .ok (.newarray .int, 2) := by decide +kernel
theorem dX8_init_121 : decode cX8_init 121 = .ok (.putfield 54, 3) := by decide +kernel
theorem dX8_init_124 : decode cX8_init 124 = .ok (.aload_n 0, 1) := by decide +kernel
theorem dX8_init_125 : decode cX8_init 125 = .ok (.bipush 100, 2) := by decide +kernel
theorem dX8_init_127 : decode cX8_init 127 = .ok (.putfield 57, 3) := by decide +kernel
theorem dX8_init_130 : decode cX8_init 130 = .ok (.aload_n 0, 1) := by decide +kernel
theorem dX8_init_131 : decode cX8_init 131 = .ok (.sipush 600, 3) := by decide +kernel
theorem dX8_init_134 : decode cX8_init 134 = .ok (.newarray .int, 2) := by decide +kernel
theorem dX8_init_136 : decode cX8_init 136 = .ok (.putfield 60, 3) := by decide +kernel
theorem dX8_init_139 : decode cX8_init 139 = .ok (.aload_n 0, 1) := by decide +kernel
theorem dX8_init_140 : decode cX8_init 140 = .ok (.sipush 30001, 3) := by decide +kernel
theorem dX8_init_143 : decode cX8_init 143 = .ok (.newarray .int, 2) := by decide +kernel
theorem dX8_init_145 : decode cX8_init 145 = .ok (.putfield 63, 3) := by decide +kernel
theorem dX8_init_148 : decode cX8_init 148 = .ok (.aload_n 0, 1) := by decide +kernel
theorem dX8_init_149 : decode cX8_init 149 = .ok (.sipush 8000, 3) := by decide +kernel
theorem dX8_init_152 : decode cX8_init 152 = .ok (.newarray .int, 2) := by decide +kernel
theorem dX8_init_154 : decode cX8_init 154 = .ok (.putfield 66, 3) := by decide +kernel
theorem dX8_init_157 : decode cX8_init 157 = .ok (.aload_n 0, 1) := by decide +kernel
theorem dX8_init_158 : decode cX8_init 158 = .ok (.sipush 201, 3) := by decide +kernel
theorem dX8_init_161 : decode cX8_init 161 = .ok (.newarray .double, 2) := by decide +kernel
theorem dX8_init_163 : decode cX8_init 163 = .ok (.putfield 69, 3) := by decide +kernel
theorem dX8_init_166 : decode cX8_init 166 = .ok (.aload_n 0, 1) := by decide +kernel
theorem dX8_init_167 : decode cX8_init 167 = .ok (.sipush 201, 3) := by decide +kernel
theorem dX8_init_170 : decode cX8_init 170 = .ok (.newarray .double, 2) := by decide +kernel
theorem dX8_init_172 : decode cX8_init 172 = .ok (.putfield 73, 3) := by decide +kernel
theorem dX8_init_175 : decode cX8_init 175 = .ok (.aload_n 0, 1) := by decide +kernel
theorem dX8_init_176 : decode cX8_init 176 = .ok (.sipush 201, 3) := by decide +kernel
theorem dX8_init_179 : decode cX8_init 179 = .ok (.newarray .double, 2) := by decide +kernel
theorem dX8_init_181 : decode cX8_init 181 = .ok (.putfield 76, 3) := by decide +kernel
theorem dX8_init_184 : decode cX8_init 184 = .ok (.iconst 0, 1) := by decide +kernel
theorem dX8_init_185 : decode cX8_init 185 = .ok (.istore_n 1, 1) := by decide +kernel
theorem dX8_init_186 : decode cX8_init 186 = .ok (.iload_n 1, 1) := by decide +kernel
theorem dX8_init_187 : decode cX8_init 187 = .ok (.iconst 3, 1) := by decide +kernel
theorem dX8_init_188 : decode cX8_init 188 = .ok (.if_icmp .ge 16, 3) := by decide +kernel
theorem dX8_init_191 : decode cX8_init 191 = .ok (.aload_n 0, 1) := by decide +kernel
theorem dX8_init_192 : decode cX8_init 192 = .ok (.getfield 7, 3) := by decide +kernel
theorem dX8_init_195 : decode cX8_init 195 = .ok (.iload_n 1, 1) := by decide +kernel
theorem dX8_init_196 : decode cX8_init 196 = .ok (.iconst 4, 1) := by decide +kernel
theorem dX8_init_197 : decode cX8_init 197 = .ok (.iastore, 1) := by decide +kernel
theorem dX8_init_198 : decode cX8_init 198 = .ok (.iinc 1 1, 3) := by decide +kernel
theorem dX8_init_201 : decode cX8_init 201 = .ok (.goto (-15), 3) := by decide +kernel
theorem dX8_init_204 : decode cX8_init 204 = .ok (.return_, 1) := by decide +kernel
theorem dX8_in_0 : decode cX8_in 0 = .ok (.lload_n 0, 1) := by decide +kernel
theorem dX8_in_1 : decode cX8_in 1 = .ok (.lload_n 2, 1) := by decide +kernel
theorem dX8_in_2 : decode cX8_in 2 = .ok (.lcmp, 1) := by decide +kernel
theorem dX8_in_3 : decode cX8_in 3 = .ok (.ifCond .lt 14, 3) := by decide +kernel
theorem dX8_in_6 : decode cX8_in 6 = .ok (.lload_n 0, 1) := by decide +kernel
theorem dX8_in_7 : decode cX8_in 7 = .ok (.lload 4, 2) := by decide +kernel
theorem dX8_in_9 : decode cX8_in 9 = .ok (.lcmp, 1) := by decide +kernel
theorem dX8_in_10 : decode cX8_in 10 = .ok (.ifCond .gt 7, 3) := by decide +kernel
theorem dX8_in_13 : decode cX8_in 13 = .ok (.iconst 1, 1) := by decide +kernel
theorem dX8_in_14 : decode cX8_in 14 = .ok (.goto 4, 3) := by decide +kernel
theorem dX8_in_17 : decode cX8_in 17 = .ok (.iconst 0, 1) := by decide +kernel
theorem dX8_in_18 : decode cX8_in 18 = .ok (.ireturn, 1) := by decide +kernel
theorem dX8_isReel_0 : decode cX8_isReel 0 = .ok (.iload_n 0, 1) := by decide +kernel
theorem dX8_isReel_1 : decode cX8_isReel 1 = .ok (.i2l, 1) := by decide +kernel
theorem dX8_isReel_2 : decode cX8_isReel 2 = .ok (.lconst 0, 1) := by decide +kernel
theorem dX8_isReel_3 : decode cX8_isReel 3 = .ok (.ldc2_w 79, 3) := by decide +kernel
theorem dX8_isReel_6 : decode cX8_isReel 6 = .ok (.invokestatic 81, 3) := by decide +kernel
theorem dX8_isReel_9 : decode cX8_isReel 9 = .ok (.ireturn, 1) := by decide +kernel
theorem dX8_isStop_0 : decode cX8_isStop 0 = .ok (.iload_n 1, 1) := by decide +kernel
theorem dX8_isStop_1 : decode cX8_isStop 1 = .ok (.invokestatic 85, 3) := by decide +kernel
theorem dX8_isStop_4 : decode cX8_isStop 4 = .ok (.ifCond .eq 25, 3) := by decide +kernel
theorem dX8_isStop_7 : decode cX8_isStop 7 = .ok (.iload_n 2, 1) := by decide +kernel
theorem dX8_isStop_8 : decode cX8_isStop 8 = .ok (.i2l, 1) := by decide +kernel
theorem dX8_isStop_9 : decode cX8_isStop 9 = .ok (.lconst 0, 1) := by decide +kernel
theorem dX8_isStop_10 : decode cX8_isStop 10 = .ok (.aload_n 0, 1) := by decide +kernel
theorem dX8_isStop_11 : decode cX8_isStop 11 = .ok (.getfield 7, 3) := by decide +kernel
theorem dX8_isStop_14 : decode cX8_isStop 14 = .ok (.iload_n 1, 1) := by decide +kernel
theorem dX8_isStop_15 : decode cX8_isStop 15 = .ok (.iaload, 1) := by decide +kernel
theorem dX8_isStop_16 : decode cX8_isStop 16 = .ok (.iconst 1, 1) := by decide +kernel
theorem dX8_isStop_17 : decode cX8_isStop 17 = .ok (.isub, 1) := by decide +kernel
theorem dX8_isStop_18 : decode cX8_isStop 18 = .ok (.i2l, 1) := by decide +kernel
theorem dX8_isStop_19 : decode cX8_isStop 19 = .ok (.invokestatic 81, 3) := by decide +kernel
theorem dX8_isStop_22 : decode cX8_isStop 22 = .ok (.ifCond .eq 7, 3) := by decide +kernel
theorem dX8_isStop_25 : decode cX8_isStop 25 = .ok (.iconst 1, 1) := by decide +kernel
theorem dX8_isStop_26 : decode cX8_isStop 26 = .ok (.goto 4, 3) := by decide +kernel
theorem dX8_isStop_29 : decode cX8_isStop 29 = .ok (.iconst 0, 1) := by decide +kernel
theorem dX8_isStop_30 : decode cX8_isStop 30 = .ok (.ireturn, 1) := by decide +kernel
theorem dX8_reel_0 : decode cX8_reel 0 = .ok (.iload_n 1, 1) := by decide +kernel
theorem dX8_reel_1 : decode cX8_reel 1 = .ok (.invokestatic 85, 3) := by decide +kernel
theorem dX8_reel_4 : decode cX8_reel 4 = .ok (.ifCond .eq 17, 3) := by decide +kernel
theorem dX8_reel_7 : decode cX8_reel 7 = .ok (.iload_n 2, 1) := by decide +kernel
theorem dX8_reel_8 : decode cX8_reel 8 = .ok (.i2l, 1) := by decide +kernel
theorem dX8_reel_9 : decode cX8_reel 9 = .ok (.ldc2_w 89, 3) := by decide +kernel
theorem dX8_reel_12 : decode cX8_reel 12 = .ok (.ldc2_w 91, 3) := by decide +kernel
theorem dX8_reel_15 : decode cX8_reel 15 = .ok (.invokestatic 81, 3) := by decide +kernel
theorem dX8_reel_18 : decode cX8_reel 18 = .ok (.ifCond .ne 6, 3) := by decide +kernel
theorem dX8_reel_21 : decode cX8_reel 21 = .ok (.bipush (-2), 2) := by decide +kernel
theorem dX8_reel_23 : decode cX8_reel 23 = .ok (.ireturn, 1) := by decide +kernel
theorem dX8_reel_24 : decode cX8_reel 24 = .ok (.aload_n 0, 1) := by decide +kernel
theorem dX8_reel_25 : decode cX8_reel 25 = .ok (.getfield 7, 3) := by decide +kernel
theorem dX8_reel_28 : decode cX8_reel 28 = .ok (.iload_n 1, 1) := by decide +kernel
theorem dX8_reel_29 : decode cX8_reel 29 = .ok (.iload_n 2, 1) := by decide +kernel
theorem dX8_reel_30 : decode cX8_reel 30 = .ok (.iastore, 1) := by decide +kernel
theorem dX8_reel_31 : decode cX8_reel 31 = .ok (.iconst 0, 1) := by decide +kernel
theorem dX8_reel_32 : decode cX8_reel 32 = .ok (.istore_n 3, 1) := by decide +kernel
theorem dX8_reel_33 : decode cX8_reel 33 = .ok (.iload_n 3, 1) := by decide +kernel
theorem dX8_reel_34 : decode cX8_reel 34 = .ok (.bipush 20, 2) := by decide +kernel
theorem dX8_reel_36 : decode cX8_reel 36 = .ok (.if_icmp .ge 21, 3) := by decide +kernel
theorem dX8_reel_39 : decode cX8_reel 39 = .ok (.aload_n 0, 1) := by decide +kernel
theorem dX8_reel_40 : decode cX8_reel 40 = .ok (.getfield 13, 3) := by decide +kernel
theorem dX8_reel_43 : decode cX8_reel 43 = .ok (.bipush 20, 2) := by decide +kernel
theorem dX8_reel_45 : decode cX8_reel 45 = .ok (.iload_n 1, 1) := by decide +kernel
theorem dX8_reel_46 : decode cX8_reel 46 = .ok (.imul, 1) := by decide +kernel
theorem dX8_reel_47 : decode cX8_reel 47 = .ok (.iload_n 3, 1) := by decide +kernel
theorem dX8_reel_48 : decode cX8_reel 48 = .ok (.iadd, 1) := by decide +kernel
theorem dX8_reel_49 : decode cX8_reel 49 = .ok (.iconst 0, 1) := by decide +kernel
theorem dX8_reel_50 : decode cX8_reel 50 = .ok (.iastore, 1) := by decide +kernel
theorem dX8_reel_51 : decode cX8_reel 51 = .ok (.iinc 3 1, 3) := by decide +kernel
theorem dX8_reel_54 : decode cX8_reel 54 = .ok (.goto (-21), 3) := by decide +kernel
theorem dX8_reel_57 : decode cX8_reel 57 = .ok (.aload_n 0, 1) := by decide +kernel
theorem dX8_reel_58 : decode cX8_reel 58 = .ok (.iconst 0, 1) := by decide +kernel
theorem dX8_reel_59 : decode cX8_reel 59 = .ok (.putfield 93, 3) := by decide +kernel
theorem dX8_reel_62 : decode cX8_reel 62 = .ok (.aload_n 0, 1) := by decide +kernel
theorem dX8_reel_63 : decode cX8_reel 63 = .ok (.iconst 0, 1) := by decide +kernel
theorem dX8_reel_64 : decode cX8_reel 64 = .ok (.putfield 96, 3) := by decide +kernel
theorem dX8_reel_67 : decode cX8_reel 67 = .ok (.iconst 1, 1) := by decide +kernel
theorem dX8_reel_68 : decode cX8_reel 68 = .ok (.ireturn, 1) := by decide +kernel
theorem dX8_picture_0 : decode cX8_picture 0 = .ok (.aload_n 0, 1) := by decide +kernel
theorem dX8_picture_1 : decode cX8_picture 1 = .ok (.iload_n 1, 1) := by decide +kernel
theorem dX8_picture_2 : decode cX8_picture 2 = .ok (.iload_n 2, 1) := by decide +kernel
theorem dX8_picture_3 : decode cX8_picture 3 = .ok (.invokevirtual 100, 3) := by decide +kernel
theorem dX8_picture_6 : decode cX8_picture 6 = .ok (.ifCond .eq 15, 3) := by decide +kernel
theorem dX8_picture_9 : decode cX8_picture 9 = .ok (.iload_n 3, 1) := by decide +kernel
theorem dX8_picture_10 : decode cX8_picture 10 = .ok (.i2l, 1) := by decide +kernel
theorem dX8_picture_11 : decode cX8_picture 11 = .ok (.lconst 0, 1) := by decide +kernel
theorem dX8_picture_12 : decode cX8_picture 12 = .ok (.ldc2_w 104, 3) := by decide +kernel
theorem dX8_picture_15 : decode cX8_picture 15 = .ok (.invokestatic 81, 3) := by decide +kernel
theorem dX8_picture_18 : decode cX8_picture 18 = .ok (.ifCond .ne 6, 3) := by decide +kernel
theorem dX8_picture_21 : decode cX8_picture 21 = .ok (.bipush (-2), 2) := by decide +kernel
theorem dX8_picture_23 : decode cX8_picture 23 = .ok (.ireturn, 1) := by decide +kernel
theorem dX8_picture_24 : decode cX8_picture 24 = .ok (.aload_n 0, 1) := by decide +kernel
theorem dX8_picture_25 : decode cX8_picture 25 = .ok (.getfield 13, 3) := by decide +kernel
theorem dX8_picture_28 : decode cX8_picture 28 = .ok (.bipush 20, 2) := by decide +kernel
theorem dX8_picture_30 : decode cX8_picture 30 = .ok (.iload_n 1, 1) := by decide +kernel
theorem dX8_picture_31 : decode cX8_picture 31 = .ok (.imul, 1) := by decide +kernel
theorem dX8_picture_32 : decode cX8_picture 32 = .ok (.iload_n 2, 1) := by decide +kernel
theorem dX8_picture_33 : decode cX8_picture 33 = .ok (.iadd, 1) := by decide +kernel
theorem dX8_picture_34 : decode cX8_picture 34 = .ok (.iaload, 1) := by decide +kernel
theorem dX8_picture_35 : decode cX8_picture 35 = .ok (.istore 4, 2) := by decide +kernel
theorem dX8_picture_37 : decode cX8_picture 37 = .ok (.aload_n 0, 1) := by decide +kernel
theorem dX8_picture_38 : decode cX8_picture 38 = .ok (.getfield 13, 3) := by decide +kernel
theorem dX8_picture_41 : decode cX8_picture 41 = .ok (.bipush 20, 2) := by decide +kernel
theorem dX8_picture_43 : decode cX8_picture 43 = .ok (.iload_n 1, 1) := by decide +kernel
theorem dX8_picture_44 : decode cX8_picture 44 = .ok (.imul, 1) := by decide +kernel
theorem dX8_picture_45 : decode cX8_picture 45 = .ok (.iload_n 2, 1) := by decide +kernel
theorem dX8_picture_46 : decode cX8_picture 46 = .ok (.iadd, 1) := by decide +kernel
theorem dX8_picture_47 : decode cX8_picture 47 = .ok (.iload_n 3, 1) := by decide +kernel
theorem dX8_picture_48 : decode cX8_picture 48 = .ok (.iastore, 1) := by decide +kernel
theorem dX8_picture_49 : decode cX8_picture 49 = .ok (.aload_n 0, 1) := by decide +kernel
theorem dX8_picture_50 : decode cX8_picture 50 = .ok (.iconst 0, 1) := by decide +kernel
theorem dX8_picture_51 : decode cX8_picture 51 = .ok (.putfield 96, 3) := by decide +kernel
theorem dX8_picture_54 : decode cX8_picture 54 = .ok (.iload 4, 2) := by decide +kernel
theorem dX8_picture_56 : decode cX8_picture 56 = .ok (.ireturn, 1) := by decide +kernel
theorem dX8_at_0 : decode cX8_at 0 = .ok (.aload_n 0, 1) := by decide +kernel
theorem dX8_at_1 : decode cX8_at 1 = .ok (.iload_n 1, 1) := by decide +kernel
theorem dX8_at_2 : decode cX8_at 2 = .ok (.iload_n 2, 1) := by decide +kernel
theorem dX8_at_3 : decode cX8_at 3 = .ok (.invokevirtual 100, 3) := by decide +kernel
theorem dX8_at_6 : decode cX8_at 6 = .ok (.ifCond .eq 17, 3) := by decide +kernel
theorem dX8_at_9 : decode cX8_at 9 = .ok (.aload_n 0, 1) := by decide +kernel
theorem dX8_at_10 : decode cX8_at 10 = .ok (.getfield 13, 3) := by decide +kernel
theorem dX8_at_13 : decode cX8_at 13 = .ok (.bipush 20, 2) := by decide +kernel
theorem dX8_at_15 : decode cX8_at 15 = .ok (.iload_n 1, 1) := by decide +kernel
theorem dX8_at_16 : decode cX8_at 16 = .ok (.imul, 1) := by decide +kernel
theorem dX8_at_17 : decode cX8_at 17 = .ok (.iload_n 2, 1) := by decide +kernel
theorem dX8_at_18 : decode cX8_at 18 = .ok (.iadd, 1) := by decide +kernel
theorem dX8_at_19 : decode cX8_at 19 = .ok (.iaload, 1) := by decide +kernel
theorem dX8_at_20 : decode cX8_at 20 = .ok (.goto 5, 3) := by decide +kernel
theorem dX8_at_23 : decode cX8_at 23 = .ok (.bipush (-2), 2) := by decide +kernel
theorem dX8_at_25 : decode cX8_at 25 = .ok (.ireturn, 1) := by decide +kernel
theorem dX8_count_0 : decode cX8_count 0 = .ok (.iload_n 1, 1) := by decide +kernel
theorem dX8_count_1 : decode cX8_count 1 = .ok (.i2l, 1) := by decide +kernel
theorem dX8_count_2 : decode cX8_count 2 = .ok (.lconst 0, 1) := by decide +kernel
theorem dX8_count_3 : decode cX8_count 3 = .ok (.ldc2_w 104, 3) := by decide +kernel
theorem dX8_count_6 : decode cX8_count 6 = .ok (.invokestatic 81, 3) := by decide +kernel
theorem dX8_count_9 : decode cX8_count 9 = .ok (.ifCond .eq 15, 3) := by decide +kernel
theorem dX8_count_12 : decode cX8_count 12 = .ok (.iload_n 2, 1) := by decide +kernel
theorem dX8_count_13 : decode cX8_count 13 = .ok (.i2l, 1) := by decide +kernel
theorem dX8_count_14 : decode cX8_count 14 = .ok (.lconst 0, 1) := by decide +kernel
theorem dX8_count_15 : decode cX8_count 15 = .ok (.ldc2_w 91, 3) := by decide +kernel
theorem dX8_count_18 : decode cX8_count 18 = .ok (.invokestatic 81, 3) := by decide +kernel
theorem dX8_count_21 : decode cX8_count 21 = .ok (.ifCond .ne 6, 3) := by decide +kernel
theorem dX8_count_24 : decode cX8_count 24 = .ok (.bipush (-2), 2) := by decide +kernel
theorem dX8_count_26 : decode cX8_count 26 = .ok (.ireturn, 1) := by decide +kernel
theorem dX8_count_27 : decode cX8_count 27 = .ok (.aload_n 0, 1) := by decide +kernel
theorem dX8_count_28 : decode cX8_count 28 = .ok (.getfield 16, 3) := by decide +kernel
theorem dX8_count_31 : decode cX8_count 31 = .ok (.iload_n 1, 1) := by decide +kernel
theorem dX8_count_32 : decode cX8_count 32 = .ok (.iaload, 1) := by decide +kernel
theorem dX8_count_33 : decode cX8_count 33 = .ok (.istore_n 3, 1) := by decide +kernel
theorem dX8_count_34 : decode cX8_count 34 = .ok (.aload_n 0, 1) := by decide +kernel
theorem dX8_count_35 : decode cX8_count 35 = .ok (.getfield 16, 3) := by decide +kernel
theorem dX8_count_38 : decode cX8_count 38 = .ok (.iload_n 1, 1) := by decide +kernel
theorem dX8_count_39 : decode cX8_count 39 = .ok (.iload_n 2, 1) := by decide +kernel
theorem dX8_count_40 : decode cX8_count 40 = .ok (.iastore, 1) := by decide +kernel
theorem dX8_count_41 : decode cX8_count 41 = .ok (.iload_n 3, 1) := by decide +kernel
theorem dX8_count_42 : decode cX8_count 42 = .ok (.ireturn, 1) := by decide +kernel
theorem dX8_lay_0 : decode cX8_lay 0 = .ok (.iload_n 1, 1) := by decide +kernel
theorem dX8_lay_1 : decode cX8_lay 1 = .ok (.invokestatic 85, 3) := by decide +kernel
theorem dX8_lay_4 : decode cX8_lay 4 = .ok (.ifCond .ne 6, 3) := by decide +kernel
theorem dX8_lay_7 : decode cX8_lay 7 = .ok (.bipush (-2), 2) := by decide +kernel
theorem dX8_lay_9 : decode cX8_lay 9 = .ok (.ireturn, 1) := by decide +kernel
theorem dX8_lay_10 : decode cX8_lay 10 = .ok (.iconst 0, 1) := by decide +kernel
theorem dX8_lay_11 : decode cX8_lay 11 = .ok (.istore_n 2, 1) := by decide +kernel
theorem dX8_lay_12 : decode cX8_lay 12 = .ok (.iconst 0, 1) := by decide +kernel
theorem dX8_lay_13 : decode cX8_lay 13 = .ok (.istore_n 3, 1) := by decide +kernel
theorem dX8_lay_14 : decode cX8_lay 14 = .ok (.iload_n 3, 1) := by decide +kernel
theorem dX8_lay_15 : decode cX8_lay 15 = .ok (.bipush 8, 2) := by decide +kernel
theorem dX8_lay_17 : decode cX8_lay 17 = .ok (.if_icmp .ge 25, 3) := by decide +kernel
theorem dX8_lay_20 : decode cX8_lay 20 = .ok (.iload_n 2, 1) := by decide +kernel
theorem dX8_lay_21 : decode cX8_lay 21 = .ok (.aload_n 0, 1) := by decide +kernel
theorem dX8_lay_22 : decode cX8_lay 22 = .ok (.getfield 16, 3) := by decide +kernel
theorem dX8_lay_25 : decode cX8_lay 25 = .ok (.iload_n 3, 1) := by decide +kernel
theorem dX8_lay_26 : decode cX8_lay 26 = .ok (.iaload, 1) := by decide +kernel
theorem dX8_lay_27 : decode cX8_lay 27 = .ok (.iadd, 1) := by decide +kernel
theorem dX8_lay_28 : decode cX8_lay 28 = .ok (.istore_n 2, 1) := by decide +kernel
theorem dX8_lay_29 : decode cX8_lay 29 = .ok (.aload_n 0, 1) := by decide +kernel
theorem dX8_lay_30 : decode cX8_lay 30 = .ok (.getfield 35, 3) := by decide +kernel
theorem dX8_lay_33 : decode cX8_lay 33 = .ok (.iload_n 3, 1) := by decide +kernel
theorem dX8_lay_34 : decode cX8_lay 34 = .ok (.iconst 0, 1) := by decide +kernel
theorem dX8_lay_35 : decode cX8_lay 35 = .ok (.iastore, 1) := by decide +kernel
theorem dX8_lay_36 : decode cX8_lay 36 = .ok (.iinc 3 1, 3) := by decide +kernel
theorem dX8_lay_39 : decode cX8_lay 39 = .ok (.goto (-25), 3) := by decide +kernel
theorem dX8_lay_42 : decode cX8_lay 42 = .ok (.iload_n 2, 1) := by decide +kernel
theorem dX8_lay_43 : decode cX8_lay 43 = .ok (.i2l, 1) := by decide +kernel
theorem dX8_lay_44 : decode cX8_lay 44 = .ok (.ldc2_w 89, 3) := by decide +kernel
theorem dX8_lay_47 : decode cX8_lay 47 = .ok (.ldc2_w 91, 3) := by decide +kernel
theorem dX8_lay_50 : decode cX8_lay 50 = .ok (.invokestatic 81, 3) := by decide +kernel
theorem dX8_lay_53 : decode cX8_lay 53 = .ok (.ifCond .ne 6, 3) := by decide +kernel
theorem dX8_lay_56 : decode cX8_lay 56 = .ok (.bipush (-3), 2) := by decide +kernel
theorem dX8_lay_58 : decode cX8_lay 58 = .ok (.ireturn, 1) := by decide +kernel
theorem dX8_lay_59 : decode cX8_lay 59 = .ok (.aload_n 0, 1) := by decide +kernel
theorem dX8_lay_60 : decode cX8_lay 60 = .ok (.getfield 7, 3) := by decide +kernel
theorem dX8_lay_63 : decode cX8_lay 63 = .ok (.iload_n 1, 1) := by decide +kernel
theorem dX8_lay_64 : decode cX8_lay 64 = .ok (.iload_n 2, 1) := by decide +kernel
theorem dX8_lay_65 : decode cX8_lay 65 = .ok (.iastore, 1) := by decide +kernel
theorem dX8_lay_66 : decode cX8_lay 66 = .ok (.iconst 0, 1) := by decide +kernel
theorem dX8_lay_67 : decode cX8_lay 67 = .ok (.istore_n 3, 1) := by decide +kernel
theorem dX8_lay_68 : decode cX8_lay 68 = .ok (.iload_n 3, 1) := by decide +kernel
theorem dX8_lay_69 : decode cX8_lay 69 = .ok (.iload_n 2, 1) := by decide +kernel
theorem dX8_lay_70 : decode cX8_lay 70 = .ok (.if_icmp .ge 115, 3) := by decide +kernel
theorem dX8_lay_73 : decode cX8_lay 73 = .ok (.iconst (-1), 1) := by decide +kernel
theorem dX8_lay_74 : decode cX8_lay 74 = .ok (.istore 4, 2) := by decide +kernel
theorem dX8_lay_76 : decode cX8_lay 76 = .ok (.iconst 0, 1) := by decide +kernel
theorem dX8_lay_77 : decode cX8_lay 77 = .ok (.istore 5, 2) := by decide +kernel
theorem dX8_lay_79 : decode cX8_lay 79 = .ok (.iconst 0, 1) := by decide +kernel
theorem dX8_lay_80 : decode cX8_lay 80 = .ok (.istore 6, 2) := by decide +kernel
theorem dX8_lay_82 : decode cX8_lay 82 = .ok (.iload 6, 2) := by decide +kernel
theorem dX8_lay_84 : decode cX8_lay 84 = .ok (.bipush 8, 2) := by decide +kernel
theorem dX8_lay_86 : decode cX8_lay 86 = .ok (.if_icmp .ge 69, 3) := by decide +kernel
theorem dX8_lay_89 : decode cX8_lay 89 = .ok (.aload_n 0, 1) := by decide +kernel
theorem dX8_lay_90 : decode cX8_lay 90 = .ok (.getfield 16, 3) := by decide +kernel
theorem dX8_lay_93 : decode cX8_lay 93 = .ok (.iload 6, 2) := by decide +kernel
theorem dX8_lay_95 : decode cX8_lay 95 = .ok (.iaload, 1) := by decide +kernel
theorem dX8_lay_96 : decode cX8_lay 96 = .ok (.iload_n 3, 1) := by decide +kernel
theorem dX8_lay_97 : decode cX8_lay 97 = .ok (.iconst 1, 1) := by decide +kernel
theorem dX8_lay_98 : decode cX8_lay 98 = .ok (.iadd, 1) := by decide +kernel
theorem dX8_lay_99 : decode cX8_lay 99 = .ok (.imul, 1) := by decide +kernel
theorem dX8_lay_100 : decode cX8_lay 100 = .ok (.iload_n 2, 1) := by decide +kernel
theorem dX8_lay_101 : decode cX8_lay 101 = .ok (.aload_n 0, 1) := by decide +kernel
theorem dX8_lay_102 : decode cX8_lay 102 = .ok (.getfield 35, 3) := by decide +kernel
theorem dX8_lay_105 : decode cX8_lay 105 = .ok (.iload 6, 2) := by decide +kernel
theorem dX8_lay_107 : decode cX8_lay 107 = .ok (.iaload, 1) := by decide +kernel
theorem dX8_lay_108 : decode cX8_lay 108 = .ok (.imul, 1) := by decide +kernel
theorem dX8_lay_109 : decode cX8_lay 109 = .ok (.isub, 1) := by decide +kernel
theorem dX8_lay_110 : decode cX8_lay 110 = .ok (.istore 7, 2) := by decide +kernel
theorem dX8_lay_112 : decode cX8_lay 112 = .ok (.aload_n 0, 1) := by decide +kernel
theorem dX8_lay_113 : decode cX8_lay 113 = .ok (.getfield 35, 3) := by decide +kernel
theorem dX8_lay_116 : decode cX8_lay 116 = .ok (.iload 6, 2) := by decide +kernel
theorem dX8_lay_118 : decode cX8_lay 118 = .ok (.iaload, 1) := by decide +kernel
theorem dX8_lay_119 : decode cX8_lay 119 = .ok (.aload_n 0, 1) := by decide +kernel
theorem dX8_lay_120 : decode cX8_lay 120 = .ok (.getfield 16, 3) := by decide +kernel
theorem dX8_lay_123 : decode cX8_lay 123 = .ok (.iload 6, 2) := by decide +kernel
theorem dX8_lay_125 : decode cX8_lay 125 = .ok (.iaload, 1) := by decide +kernel
theorem dX8_lay_126 : decode cX8_lay 126 = .ok (.if_icmp .ge 23, 3) := by decide +kernel
theorem dX8_lay_129 : decode cX8_lay 129 = .ok (.iload 4, 2) := by decide +kernel
theorem dX8_lay_131 : decode cX8_lay 131 = .ok (.ifCond .lt 10, 3) := by decide +kernel
theorem dX8_lay_134 : decode cX8_lay 134 = .ok (.iload 7, 2) := by decide +kernel
theorem dX8_lay_136 : decode cX8_lay 136 = .ok (.iload 5, 2) := by decide +kernel
theorem dX8_lay_138 : decode cX8_lay 138 = .ok (.if_icmp .le 11, 3) := by decide +kernel
theorem dX8_lay_141 : decode cX8_lay 141 = .ok (.iload 6, 2) := by decide +kernel
theorem dX8_lay_143 : decode cX8_lay 143 = .ok (.istore 4, 2) := by decide +kernel
theorem dX8_lay_145 : decode cX8_lay 145 = .ok (.iload 7, 2) := by decide +kernel
theorem dX8_lay_147 : decode cX8_lay 147 = .ok (.istore 5, 2) := by decide +kernel
theorem dX8_lay_149 : decode cX8_lay 149 = .ok (.iinc 6 1, 3) := by decide +kernel
theorem dX8_lay_152 : decode cX8_lay 152 = .ok (.goto (-70), 3) := by decide +kernel
theorem dX8_lay_155 : decode cX8_lay 155 = .ok (.aload_n 0, 1) := by decide +kernel
theorem dX8_lay_156 : decode cX8_lay 156 = .ok (.getfield 13, 3) := by decide +kernel
theorem dX8_lay_159 : decode cX8_lay 159 = .ok (.bipush 20, 2) := by decide +kernel
theorem dX8_lay_161 : decode cX8_lay 161 = .ok (.iload_n 1, 1) := by decide +kernel
theorem dX8_lay_162 : decode cX8_lay 162 = .ok (.imul, 1) := by decide +kernel
theorem dX8_lay_163 : decode cX8_lay 163 = .ok (.iload_n 3, 1) := by decide +kernel
theorem dX8_lay_164 : decode cX8_lay 164 = .ok (.iadd, 1) := by decide +kernel
theorem dX8_lay_165 : decode cX8_lay 165 = .ok (.iload 4, 2) := by decide +kernel
theorem dX8_lay_167 : decode cX8_lay 167 = .ok (.iastore, 1) := by decide +kernel
theorem dX8_lay_168 : decode cX8_lay 168 = .ok (.aload_n 0, 1) := by decide +kernel
theorem dX8_lay_169 : decode cX8_lay 169 = .ok (.getfield 35, 3) := by decide +kernel
theorem dX8_lay_172 : decode cX8_lay 172 = .ok (.iload 4, 2) := by decide +kernel
theorem dX8_lay_174 : decode cX8_lay 174 = .ok (.dup2, 1) := by decide +kernel
theorem dX8_lay_175 : decode cX8_lay 175 = .ok (.iaload, 1) := by decide +kernel
theorem dX8_lay_176 : decode cX8_lay 176 = .ok (.iconst 1, 1) := by decide +kernel
theorem dX8_lay_177 : decode cX8_lay 177 = .ok (.iadd, 1) := by decide +kernel
theorem dX8_lay_178 : decode cX8_lay 178 = .ok (.iastore, 1) := by decide +kernel
theorem dX8_lay_179 : decode cX8_lay 179 = .ok (.iinc 3 1, 3) := by decide +kernel
theorem dX8_lay_182 : decode cX8_lay 182 = .ok (.goto (-114), 3) := by decide +kernel
theorem dX8_lay_185 : decode cX8_lay 185 = .ok (.aload_n 0, 1) := by decide +kernel
theorem dX8_lay_186 : decode cX8_lay 186 = .ok (.iconst 0, 1) := by decide +kernel
theorem dX8_lay_187 : decode cX8_lay 187 = .ok (.putfield 93, 3) := by decide +kernel
theorem dX8_lay_190 : decode cX8_lay 190 = .ok (.aload_n 0, 1) := by decide +kernel
theorem dX8_lay_191 : decode cX8_lay 191 = .ok (.iconst 0, 1) := by decide +kernel
theorem dX8_lay_192 : decode cX8_lay 192 = .ok (.putfield 96, 3) := by decide +kernel
theorem dX8_lay_195 : decode cX8_lay 195 = .ok (.iload_n 2, 1) := by decide +kernel
theorem dX8_lay_196 : decode cX8_lay 196 = .ok (.ireturn, 1) := by decide +kernel
theorem dX8_pay_0 : decode cX8_pay 0 = .ok (.iload_n 1, 1) := by decide +kernel
theorem dX8_pay_1 : decode cX8_pay 1 = .ok (.i2l, 1) := by decide +kernel
theorem dX8_pay_2 : decode cX8_pay 2 = .ok (.ldc2_w 106, 3) := by decide +kernel
theorem dX8_pay_5 : decode cX8_pay 5 = .ok (.ldc2_w 104, 3) := by decide +kernel
theorem dX8_pay_8 : decode cX8_pay 8 = .ok (.invokestatic 81, 3) := by decide +kernel
theorem dX8_pay_11 : decode cX8_pay 11 = .ok (.ifCond .eq 44, 3) := by decide +kernel
theorem dX8_pay_14 : decode cX8_pay 14 = .ok (.iload_n 2, 1) := by decide +kernel
theorem dX8_pay_15 : decode cX8_pay 15 = .ok (.i2l, 1) := by decide +kernel
theorem dX8_pay_16 : decode cX8_pay 16 = .ok (.ldc2_w 106, 3) := by decide +kernel
theorem dX8_pay_19 : decode cX8_pay 19 = .ok (.ldc2_w 104, 3) := by decide +kernel
theorem dX8_pay_22 : decode cX8_pay 22 = .ok (.invokestatic 81, 3) := by decide +kernel
theorem dX8_pay_25 : decode cX8_pay 25 = .ok (.ifCond .eq 30, 3) := by decide +kernel
theorem dX8_pay_28 : decode cX8_pay 28 = .ok (.iload_n 3, 1) := by decide +kernel
theorem dX8_pay_29 : decode cX8_pay 29 = .ok (.i2l, 1) := by decide +kernel
theorem dX8_pay_30 : decode cX8_pay 30 = .ok (.ldc2_w 106, 3) := by decide +kernel
theorem dX8_pay_33 : decode cX8_pay 33 = .ok (.ldc2_w 104, 3) := by decide +kernel
theorem dX8_pay_36 : decode cX8_pay 36 = .ok (.invokestatic 81, 3) := by decide +kernel
theorem dX8_pay_39 : decode cX8_pay 39 = .ok (.ifCond .eq 16, 3) := by decide +kernel
theorem dX8_pay_42 : decode cX8_pay 42 = .ok (.iload 4, 2) := by decide +kernel
theorem dX8_pay_44 : decode cX8_pay 44 = .ok (.i2l, 1) := by decide +kernel
theorem dX8_pay_45 : decode cX8_pay 45 = .ok (.lconst 0, 1) := by decide +kernel
theorem dX8_pay_46 : decode cX8_pay 46 = .ok (.ldc2_w 108, 3) := by decide +kernel
theorem dX8_pay_49 : decode cX8_pay 49 = .ok (.invokestatic 81, 3) := by decide +kernel
theorem dX8_pay_52 : decode cX8_pay 52 = .ok (.ifCond .ne 6, 3) := by decide +kernel
theorem dX8_pay_55 : decode cX8_pay 55 = .ok (.bipush (-2), 2) := by decide +kernel
theorem dX8_pay_57 : decode cX8_pay 57 = .ok (.ireturn, 1) := by decide +kernel
theorem dX8_pay_58 : decode cX8_pay 58 = .ok (.aload_n 0, 1) := by decide +kernel
theorem dX8_pay_59 : decode cX8_pay 59 = .ok (.getfield 110, 3) := by decide +kernel
theorem dX8_pay_62 : decode cX8_pay 62 = .ok (.bipush 12, 2) := by decide +kernel
theorem dX8_pay_64 : decode cX8_pay 64 = .ok (.if_icmp .ne 6, 3) := by decide +kernel
theorem dX8_pay_67 : decode cX8_pay 67 = .ok (.bipush (-4), 2) := by decide +kernel
theorem dX8_pay_69 : decode cX8_pay 69 = .ok (.ireturn, 1) := by decide +kernel
theorem dX8_pay_70 : decode cX8_pay 70 = .ok (.aload_n 0, 1) := by decide +kernel
theorem dX8_pay_71 : decode cX8_pay 71 = .ok (.getfield 19, 3) := by decide +kernel
theorem dX8_pay_74 : decode cX8_pay 74 = .ok (.aload_n 0, 1) := by decide +kernel
theorem dX8_pay_75 : decode cX8_pay 75 = .ok (.getfield 110, 3) := by decide +kernel
theorem dX8_pay_78 : decode cX8_pay 78 = .ok (.iload_n 1, 1) := by decide +kernel
theorem dX8_pay_79 : decode cX8_pay 79 = .ok (.iastore, 1) := by decide +kernel
theorem dX8_pay_80 : decode cX8_pay 80 = .ok (.aload_n 0, 1) := by decide +kernel
theorem dX8_pay_81 : decode cX8_pay 81 = .ok (.getfield 22, 3) := by decide +kernel
theorem dX8_pay_84 : decode cX8_pay 84 = .ok (.aload_n 0, 1) := by decide +kernel
theorem dX8_pay_85 : decode cX8_pay 85 = .ok (.getfield 110, 3) := by decide +kernel
theorem dX8_pay_88 : decode cX8_pay 88 = .ok (.iload_n 2, 1) := by decide +kernel
theorem dX8_pay_89 : decode cX8_pay 89 = .ok (.iastore, 1) := by decide +kernel
theorem dX8_pay_90 : decode cX8_pay 90 = .ok (.aload_n 0, 1) := by decide +kernel
theorem dX8_pay_91 : decode cX8_pay 91 = .ok (.getfield 25, 3) := by decide +kernel
theorem dX8_pay_94 : decode cX8_pay 94 = .ok (.aload_n 0, 1) := by decide +kernel
theorem dX8_pay_95 : decode cX8_pay 95 = .ok (.getfield 110, 3) := by decide +kernel
theorem dX8_pay_98 : decode cX8_pay 98 = .ok (.iload_n 3, 1) := by decide +kernel
theorem dX8_pay_99 : decode cX8_pay 99 = .ok (.iastore, 1) := by decide +kernel
theorem dX8_pay_100 : decode cX8_pay 100 = .ok (.aload_n 0, 1) := by decide +kernel
theorem dX8_pay_101 : decode cX8_pay 101 = .ok (.getfield 28, 3) := by decide +kernel
theorem dX8_pay_104 : decode cX8_pay 104 = .ok (.aload_n 0, 1) := by decide +kernel
theorem dX8_pay_105 : decode cX8_pay 105 = .ok (.getfield 110, 3) := by decide +kernel
theorem dX8_pay_108 : decode cX8_pay 108 = .ok (.iload 4, 2) := by decide +kernel
theorem dX8_pay_110 : decode cX8_pay 110 = .ok (.iastore, 1) := by decide +kernel
theorem dX8_pay_111 : decode cX8_pay 111 = .ok (.aload_n 0, 1) := by decide +kernel
theorem dX8_pay_112 : decode cX8_pay 112 = .ok (.dup, 1) := by decide +kernel
theorem dX8_pay_113 : decode cX8_pay 113 = .ok (.getfield 110, 3) := by decide +kernel
theorem dX8_pay_116 : decode cX8_pay 116 = .ok (.iconst 1, 1) := by decide +kernel
theorem dX8_pay_117 : decode cX8_pay 117 = .ok (.iadd, 1) := by decide +kernel
theorem dX8_pay_118 : decode cX8_pay 118 = .ok (.putfield 110, 3) := by decide +kernel
theorem dX8_pay_121 : decode cX8_pay 121 = .ok (.aload_n 0, 1) := by decide +kernel
theorem dX8_pay_122 : decode cX8_pay 122 = .ok (.iconst 0, 1) := by decide +kernel
theorem dX8_pay_123 : decode cX8_pay 123 = .ok (.putfield 96, 3) := by decide +kernel
theorem dX8_pay_126 : decode cX8_pay 126 = .ok (.aload_n 0, 1) := by decide +kernel
theorem dX8_pay_127 : decode cX8_pay 127 = .ok (.getfield 110, 3) := by decide +kernel
theorem dX8_pay_130 : decode cX8_pay 130 = .ok (.iconst 1, 1) := by decide +kernel
theorem dX8_pay_131 : decode cX8_pay 131 = .ok (.isub, 1) := by decide +kernel
theorem dX8_pay_132 : decode cX8_pay 132 = .ok (.ireturn, 1) := by decide +kernel
theorem dX8_clear_0 : decode cX8_clear 0 = .ok (.aload_n 0, 1) := by decide +kernel
theorem dX8_clear_1 : decode cX8_clear 1 = .ok (.getfield 110, 3) := by decide +kernel
theorem dX8_clear_4 : decode cX8_clear 4 = .ok (.istore_n 1, 1) := by decide +kernel
theorem dX8_clear_5 : decode cX8_clear 5 = .ok (.aload_n 0, 1) := by decide +kernel
theorem dX8_clear_6 : decode cX8_clear 6 = .ok (.iconst 0, 1) := by decide +kernel
theorem dX8_clear_7 : decode cX8_clear 7 = .ok (.putfield 110, 3) := by decide +kernel
theorem dX8_clear_10 : decode cX8_clear 10 = .ok (.aload_n 0, 1) := by decide +kernel
theorem dX8_clear_11 : decode cX8_clear 11 = .ok (.iconst 0, 1) := by decide +kernel
theorem dX8_clear_12 : decode cX8_clear 12 = .ok (.putfield 96, 3) := by decide +kernel
theorem dX8_clear_15 : decode cX8_clear 15 = .ok (.iload_n 1, 1) := by decide +kernel
theorem dX8_clear_16 : decode cX8_clear 16 = .ok (.ireturn, 1) := by decide +kernel
theorem dX8_lines_0 : decode cX8_lines 0 = .ok (.iload_n 1, 1) := by decide +kernel
theorem dX8_lines_1 : decode cX8_lines 1 = .ok (.i2l, 1) := by decide +kernel
theorem dX8_lines_2 : decode cX8_lines 2 = .ok (.lconst 1, 1) := by decide +kernel
theorem dX8_lines_3 : decode cX8_lines 3 = .ok (.ldc2_w 113, 3) := by decide +kernel
theorem dX8_lines_6 : decode cX8_lines 6 = .ok (.invokestatic 81, 3) := by decide +kernel
theorem dX8_lines_9 : decode cX8_lines 9 = .ok (.ifCond .ne 6, 3) := by decide +kernel
theorem dX8_lines_12 : decode cX8_lines 12 = .ok (.bipush (-2), 2) := by decide +kernel
theorem dX8_lines_14 : decode cX8_lines 14 = .ok (.ireturn, 1) := by decide +kernel
theorem dX8_lines_15 : decode cX8_lines 15 = .ok (.aload_n 0, 1) := by decide +kernel
theorem dX8_lines_16 : decode cX8_lines 16 = .ok (.getfield 31, 3) := by decide +kernel
theorem dX8_lines_19 : decode cX8_lines 19 = .ok (.istore_n 2, 1) := by decide +kernel
theorem dX8_lines_20 : decode cX8_lines 20 = .ok (.aload_n 0, 1) := by decide +kernel
theorem dX8_lines_21 : decode cX8_lines 21 = .ok (.iload_n 1, 1) := by decide +kernel
theorem dX8_lines_22 : decode cX8_lines 22 = .ok (.putfield 31, 3) := by decide +kernel
theorem dX8_lines_25 : decode cX8_lines 25 = .ok (.aload_n 0, 1) := by decide +kernel
theorem dX8_lines_26 : decode cX8_lines 26 = .ok (.iconst 0, 1) := by decide +kernel
theorem dX8_lines_27 : decode cX8_lines 27 = .ok (.putfield 96, 3) := by decide +kernel
theorem dX8_lines_30 : decode cX8_lines 30 = .ok (.iload_n 2, 1) := by decide +kernel
theorem dX8_lines_31 : decode cX8_lines 31 = .ok (.ireturn, 1) := by decide +kernel
theorem dX8_rowOf_0 : decode cX8_rowOf 0 = .ok (.iconst 0, 1) := by decide +kernel
theorem dX8_rowOf_1 : decode cX8_rowOf 1 = .ok (.istore 4, 2) := by decide +kernel
theorem dX8_rowOf_3 : decode cX8_rowOf 3 = .ok (.iload 4, 2) := by decide +kernel
theorem dX8_rowOf_5 : decode cX8_rowOf 5 = .ok (.aload_n 0, 1) := by decide +kernel
theorem dX8_rowOf_6 : decode cX8_rowOf 6 = .ok (.getfield 110, 3) := by decide +kernel
theorem dX8_rowOf_9 : decode cX8_rowOf 9 = .ok (.if_icmp .ge 75, 3) := by decide +kernel
theorem dX8_rowOf_12 : decode cX8_rowOf 12 = .ok (.aload_n 0, 1) := by decide +kernel
theorem dX8_rowOf_13 : decode cX8_rowOf 13 = .ok (.getfield 19, 3) := by decide +kernel
theorem dX8_rowOf_16 : decode cX8_rowOf 16 = .ok (.iload 4, 2) := by decide +kernel
theorem dX8_rowOf_18 : decode cX8_rowOf 18 = .ok (.iaload, 1) := by decide +kernel
theorem dX8_rowOf_19 : decode cX8_rowOf 19 = .ok (.ifCond .lt 14, 3) := by decide +kernel
theorem dX8_rowOf_22 : decode cX8_rowOf 22 = .ok (.aload_n 0, 1) := by decide +kernel
theorem dX8_rowOf_23 : decode cX8_rowOf 23 = .ok (.getfield 19, 3) := by decide +kernel
theorem dX8_rowOf_26 : decode cX8_rowOf 26 = .ok (.iload 4, 2) := by decide +kernel
theorem dX8_rowOf_28 : decode cX8_rowOf 28 = .ok (.iaload, 1) := by decide +kernel
theorem dX8_rowOf_29 : decode cX8_rowOf 29 = .ok (.iload_n 1, 1) := by decide +kernel
theorem dX8_rowOf_30 : decode cX8_rowOf 30 = .ok (.if_icmp .ne 48, 3) := by decide +kernel
theorem dX8_rowOf_33 : decode cX8_rowOf 33 = .ok (.aload_n 0, 1) := by decide +kernel
theorem dX8_rowOf_34 : decode cX8_rowOf 34 = .ok (.getfield 22, 3) := by decide +kernel
theorem dX8_rowOf_37 : decode cX8_rowOf 37 = .ok (.iload 4, 2) := by decide +kernel
theorem dX8_rowOf_39 : decode cX8_rowOf 39 = .ok (.iaload, 1) := by decide +kernel
theorem dX8_rowOf_40 : decode cX8_rowOf 40 = .ok (.ifCond .lt 14, 3) := by decide +kernel
theorem dX8_rowOf_43 : decode cX8_rowOf 43 = .ok (.aload_n 0, 1) := by decide +kernel
theorem dX8_rowOf_44 : decode cX8_rowOf 44 = .ok (.getfield 22, 3) := by decide +kernel
theorem dX8_rowOf_47 : decode cX8_rowOf 47 = .ok (.iload 4, 2) := by decide +kernel
theorem dX8_rowOf_49 : decode cX8_rowOf 49 = .ok (.iaload, 1) := by decide +kernel
theorem dX8_rowOf_50 : decode cX8_rowOf 50 = .ok (.iload_n 2, 1) := by decide +kernel
theorem dX8_rowOf_51 : decode cX8_rowOf 51 = .ok (.if_icmp .ne 27, 3) := by decide +kernel
theorem dX8_rowOf_54 : decode cX8_rowOf 54 = .ok (.aload_n 0, 1) := by decide +kernel
theorem dX8_rowOf_55 : decode cX8_rowOf 55 = .ok (.getfield 25, 3) := by decide +kernel
theorem dX8_rowOf_58 : decode cX8_rowOf 58 = .ok (.iload 4, 2) := by decide +kernel
theorem dX8_rowOf_60 : decode cX8_rowOf 60 = .ok (.iaload, 1) := by decide +kernel
theorem dX8_rowOf_61 : decode cX8_rowOf 61 = .ok (.ifCond .lt 14, 3) := by decide +kernel
theorem dX8_rowOf_64 : decode cX8_rowOf 64 = .ok (.aload_n 0, 1) := by decide +kernel
theorem dX8_rowOf_65 : decode cX8_rowOf 65 = .ok (.getfield 25, 3) := by decide +kernel
theorem dX8_rowOf_68 : decode cX8_rowOf 68 = .ok (.iload 4, 2) := by decide +kernel
theorem dX8_rowOf_70 : decode cX8_rowOf 70 = .ok (.iaload, 1) := by decide +kernel
theorem dX8_rowOf_71 : decode cX8_rowOf 71 = .ok (.iload_n 3, 1) := by decide +kernel
theorem dX8_rowOf_72 : decode cX8_rowOf 72 = .ok (.if_icmp .ne 6, 3) := by decide +kernel
theorem dX8_rowOf_75 : decode cX8_rowOf 75 = .ok (.iload 4, 2) := by decide +kernel
theorem dX8_rowOf_77 : decode cX8_rowOf 77 = .ok (.ireturn, 1) := by decide +kernel
theorem dX8_rowOf_78 : decode cX8_rowOf 78 = .ok (.iinc 4 1, 3) := by decide +kernel
theorem dX8_rowOf_81 : decode cX8_rowOf 81 = .ok (.goto (-78), 3) := by decide +kernel
theorem dX8_rowOf_84 : decode cX8_rowOf 84 = .ok (.iconst (-1), 1) := by decide +kernel
theorem dX8_rowOf_85 : decode cX8_rowOf 85 = .ok (.ireturn, 1) := by decide +kernel
theorem dX8_allEndings_0 : decode cX8_allEndings 0 = .ok (.aload_n 0, 1) := by decide +kernel
theorem dX8_allEndings_1 : decode cX8_allEndings 1 = .ok (.getfield 7, 3) := by decide +kernel
theorem dX8_allEndings_4 : decode cX8_allEndings 4 = .ok (.iconst 0, 1) := by decide +kernel
theorem dX8_allEndings_5 : decode cX8_allEndings 5 = .ok (.iaload, 1) := by decide +kernel
theorem dX8_allEndings_6 : decode cX8_allEndings 6 = .ok (.aload_n 0, 1) := by decide +kernel
theorem dX8_allEndings_7 : decode cX8_allEndings 7 = .ok (.getfield 7, 3) := by decide +kernel
theorem dX8_allEndings_10 : decode cX8_allEndings 10 = .ok (.iconst 1, 1) := by decide +kernel
theorem dX8_allEndings_11 : decode cX8_allEndings 11 = .ok (.iaload, 1) := by decide +kernel
theorem dX8_allEndings_12 : decode cX8_allEndings 12 = .ok (.imul, 1) := by decide +kernel
theorem dX8_allEndings_13 : decode cX8_allEndings 13 = .ok (.aload_n 0, 1) := by decide +kernel
theorem dX8_allEndings_14 : decode cX8_allEndings 14 = .ok (.getfield 7, 3) := by decide +kernel
theorem dX8_allEndings_17 : decode cX8_allEndings 17 = .ok (.iconst 2, 1) := by decide +kernel
theorem dX8_allEndings_18 : decode cX8_allEndings 18 = .ok (.iaload, 1) := by decide +kernel
theorem dX8_allEndings_19 : decode cX8_allEndings 19 = .ok (.imul, 1) := by decide +kernel
theorem dX8_allEndings_20 : decode cX8_allEndings 20 = .ok (.ireturn, 1) := by decide +kernel
theorem dX8_shown_0 : decode cX8_shown 0 = .ok (.aload_n 0, 1) := by decide +kernel
theorem dX8_shown_1 : decode cX8_shown 1 = .ok (.getfield 7, 3) := by decide +kernel
theorem dX8_shown_4 : decode cX8_shown 4 = .ok (.iload_n 1, 1) := by decide +kernel
theorem dX8_shown_5 : decode cX8_shown 5 = .ok (.iaload, 1) := by decide +kernel
theorem dX8_shown_6 : decode cX8_shown 6 = .ok (.istore 4, 2) := by decide +kernel
theorem dX8_shown_8 : decode cX8_shown 8 = .ok (.aload_n 0, 1) := by decide +kernel
theorem dX8_shown_9 : decode cX8_shown 9 = .ok (.getfield 13, 3) := by decide +kernel
theorem dX8_shown_12 : decode cX8_shown 12 = .ok (.bipush 20, 2) := by decide +kernel
theorem dX8_shown_14 : decode cX8_shown 14 = .ok (.iload_n 1, 1) := by decide +kernel
theorem dX8_shown_15 : decode cX8_shown 15 = .ok (.imul, 1) := by decide +kernel
theorem dX8_shown_16 : decode cX8_shown 16 = .ok (.iload_n 2, 1) := by decide +kernel
theorem dX8_shown_17 : decode cX8_shown 17 = .ok (.iload_n 3, 1) := by decide +kernel
theorem dX8_shown_18 : decode cX8_shown 18 = .ok (.iadd, 1) := by decide +kernel
theorem dX8_shown_19 : decode cX8_shown 19 = .ok (.iload 4, 2) := by decide +kernel
theorem dX8_shown_21 : decode cX8_shown 21 = .ok (.iadd, 1) := by decide +kernel
theorem dX8_shown_22 : decode cX8_shown 22 = .ok (.iload 4, 2) := by decide +kernel
theorem dX8_shown_24 : decode cX8_shown 24 = .ok (.irem, 1) := by decide +kernel
theorem dX8_shown_25 : decode cX8_shown 25 = .ok (.iadd, 1) := by decide +kernel
theorem dX8_shown_26 : decode cX8_shown 26 = .ok (.iaload, 1) := by decide +kernel
theorem dX8_shown_27 : decode cX8_shown 27 = .ok (.ireturn, 1) := by decide +kernel
theorem dX8_payOf_0 : decode cX8_payOf 0 = .ok (.iconst 0, 1) := by decide +kernel
theorem dX8_payOf_1 : decode cX8_payOf 1 = .ok (.istore 4, 2) := by decide +kernel
theorem dX8_payOf_3 : decode cX8_payOf 3 = .ok (.iconst 0, 1) := by decide +kernel
theorem dX8_payOf_4 : decode cX8_payOf 4 = .ok (.istore 5, 2) := by decide +kernel
theorem dX8_payOf_6 : decode cX8_payOf 6 = .ok (.iload 5, 2) := by decide +kernel
theorem dX8_payOf_8 : decode cX8_payOf 8 = .ok (.aload_n 0, 1) := by decide +kernel
theorem dX8_payOf_9 : decode cX8_payOf 9 = .ok (.getfield 31, 3) := by decide +kernel
theorem dX8_payOf_12 : decode cX8_payOf 12 = .ok (.if_icmp .ge 73, 3) := by decide +kernel
theorem dX8_payOf_15 : decode cX8_payOf 15 = .ok (.iload 5, 2) := by decide +kernel
theorem dX8_payOf_17 : decode cX8_payOf 17 = .ok (.ifCond .ne 7, 3) := by decide +kernel
theorem dX8_payOf_20 : decode cX8_payOf 20 = .ok (.iconst 0, 1) := by decide +kernel
theorem dX8_payOf_21 : decode cX8_payOf 21 = .ok (.goto 14, 3) := by decide +kernel
theorem dX8_payOf_24 : decode cX8_payOf 24 = .ok (.iload 5, 2) := by decide +kernel
theorem dX8_payOf_26 : decode cX8_payOf 26 = .ok (.iconst 1, 1) := by decide +kernel
theorem dX8_payOf_27 : decode cX8_payOf 27 = .ok (.if_icmp .ne 7, 3) := by decide +kernel
theorem dX8_payOf_30 : decode cX8_payOf 30 = .ok (.iconst (-1), 1) := by decide +kernel
theorem dX8_payOf_31 : decode cX8_payOf 31 = .ok (.goto 4, 3) := by decide +kernel
theorem dX8_payOf_34 : decode cX8_payOf 34 = .ok (.iconst 1, 1) := by decide +kernel
theorem dX8_payOf_35 : decode cX8_payOf 35 = .ok (.istore 6, 2) := by decide +kernel
theorem dX8_payOf_37 : decode cX8_payOf 37 = .ok (.iload 4, 2) := by decide +kernel
theorem dX8_payOf_39 : decode cX8_payOf 39 = .ok (.aload_n 0, 1) := by decide +kernel
theorem dX8_payOf_40 : decode cX8_payOf 40 = .ok (.getfield 41, 3) := by decide +kernel
theorem dX8_payOf_43 : decode cX8_payOf 43 = .ok (.bipush 64, 2) := by decide +kernel
theorem dX8_payOf_45 : decode cX8_payOf 45 = .ok (.aload_n 0, 1) := by decide +kernel
theorem dX8_payOf_46 : decode cX8_payOf 46 = .ok (.iconst 0, 1) := by decide +kernel
theorem dX8_payOf_47 : decode cX8_payOf 47 = .ok (.iload_n 1, 1) := by decide +kernel
theorem dX8_payOf_48 : decode cX8_payOf 48 = .ok (.iload 6, 2) := by decide +kernel
theorem dX8_payOf_50 : decode cX8_payOf 50 = .ok (.invokevirtual 115, 3) := by decide +kernel
theorem dX8_payOf_53 : decode cX8_payOf 53 = .ok (.imul, 1) := by decide +kernel
theorem dX8_payOf_54 : decode cX8_payOf 54 = .ok (.bipush 8, 2) := by decide +kernel
theorem dX8_payOf_56 : decode cX8_payOf 56 = .ok (.aload_n 0, 1) := by decide +kernel
theorem dX8_payOf_57 : decode cX8_payOf 57 = .ok (.iconst 1, 1) := by decide +kernel
theorem dX8_payOf_58 : decode cX8_payOf 58 = .ok (.iload_n 2, 1) := by decide +kernel
theorem dX8_payOf_59 : decode cX8_payOf 59 = .ok (.iload 6, 2) := by decide +kernel
theorem dX8_payOf_61 : decode cX8_payOf 61 = .ok (.invokevirtual 115, 3) := by decide +kernel
theorem dX8_payOf_64 : decode cX8_payOf 64 = .ok (.imul, 1) := by decide +kernel
theorem dX8_payOf_65 : decode cX8_payOf 65 = .ok (.iadd, 1) := by decide +kernel
theorem dX8_payOf_66 : decode cX8_payOf 66 = .ok (.aload_n 0, 1) := by decide +kernel
theorem dX8_payOf_67 : decode cX8_payOf 67 = .ok (.iconst 2, 1) := by decide +kernel
theorem dX8_payOf_68 : decode cX8_payOf 68 = .ok (.iload_n 3, 1) := by decide +kernel
theorem dX8_payOf_69 : decode cX8_payOf 69 = .ok (.iload 6, 2) := by decide +kernel
theorem dX8_payOf_71 : decode cX8_payOf 71 = .ok (.invokevirtual 115, 3) := by decide +kernel
theorem dX8_payOf_74 : decode cX8_payOf 74 = .ok (.iadd, 1) := by decide +kernel
theorem dX8_payOf_75 : decode cX8_payOf 75 = .ok (.iaload, 1) := by decide +kernel
theorem dX8_payOf_76 : decode cX8_payOf 76 = .ok (.iadd, 1) := by decide +kernel
theorem dX8_payOf_77 : decode cX8_payOf 77 = .ok (.istore 4, 2) := by decide +kernel
theorem dX8_payOf_79 : decode cX8_payOf 79 = .ok (.iinc 5 1, 3) := by decide +kernel
theorem dX8_payOf_82 : decode cX8_payOf 82 = .ok (.goto (-76), 3) := by decide +kernel
theorem dX8_payOf_85 : decode cX8_payOf 85 = .ok (.iload 4, 2) := by decide +kernel
theorem dX8_payOf_87 : decode cX8_payOf 87 = .ok (.ireturn, 1) := by decide +kernel
theorem dX8_place_0 : decode cX8_place 0 = .ok (.sipush 400, 3) := by decide +kernel
theorem dX8_place_3 : decode cX8_place 3 = .ok (.iload_n 0, 1) := by decide +kernel
theorem dX8_place_4 : decode cX8_place 4 = .ok (.imul, 1) := by decide +kernel
theorem dX8_place_5 : decode cX8_place 5 = .ok (.bipush 20, 2) := by decide +kernel
theorem dX8_place_7 : decode cX8_place 7 = .ok (.iload_n 1, 1) := by decide +kernel
theorem dX8_place_8 : decode cX8_place 8 = .ok (.imul, 1) := by decide +kernel
theorem dX8_place_9 : decode cX8_place 9 = .ok (.iadd, 1) := by decide +kernel
theorem dX8_place_10 : decode cX8_place 10 = .ok (.iload_n 2, 1) := by decide +kernel
theorem dX8_place_11 : decode cX8_place 11 = .ok (.iadd, 1) := by decide +kernel
theorem dX8_place_12 : decode cX8_place 12 = .ok (.ireturn, 1) := by decide +kernel
theorem dX8_layOut_0 : decode cX8_layOut 0 = .ok (.aload_n 0, 1) := by decide +kernel
theorem dX8_layOut_1 : decode cX8_layOut 1 = .ok (.getfield 96, 3) := by decide +kernel
theorem dX8_layOut_4 : decode cX8_layOut 4 = .ok (.ifCond .eq 4, 3) := by decide +kernel
theorem dX8_layOut_7 : decode cX8_layOut 7 = .ok (.return_, 1) := by decide +kernel
theorem dX8_layOut_8 : decode cX8_layOut 8 = .ok (.iconst 0, 1) := by decide +kernel
theorem dX8_layOut_9 : decode cX8_layOut 9 = .ok (.istore_n 1, 1) := by decide +kernel
theorem dX8_layOut_10 : decode cX8_layOut 10 = .ok (.iload_n 1, 1) := by decide +kernel
theorem dX8_layOut_11 : decode cX8_layOut 11 = .ok (.sipush 512, 3) := by decide +kernel
theorem dX8_layOut_14 : decode cX8_layOut 14 = .ok (.if_icmp .ge 64, 3) := by decide +kernel
theorem dX8_layOut_17 : decode cX8_layOut 17 = .ok (.aload_n 0, 1) := by decide +kernel
theorem dX8_layOut_18 : decode cX8_layOut 18 = .ok (.getfield 44, 3) := by decide +kernel
theorem dX8_layOut_21 : decode cX8_layOut 21 = .ok (.iload_n 1, 1) := by decide +kernel
theorem dX8_layOut_22 : decode cX8_layOut 22 = .ok (.aload_n 0, 1) := by decide +kernel
theorem dX8_layOut_23 : decode cX8_layOut 23 = .ok (.iload_n 1, 1) := by decide +kernel
theorem dX8_layOut_24 : decode cX8_layOut 24 = .ok (.bipush 64, 2) := by decide +kernel
theorem dX8_layOut_26 : decode cX8_layOut 26 = .ok (.idiv, 1) := by decide +kernel
theorem dX8_layOut_27 : decode cX8_layOut 27 = .ok (.iload_n 1, 1) := by decide +kernel
theorem dX8_layOut_28 : decode cX8_layOut 28 = .ok (.bipush 8, 2) := by decide +kernel
theorem dX8_layOut_30 : decode cX8_layOut 30 = .ok (.idiv, 1) := by decide +kernel
theorem dX8_layOut_31 : decode cX8_layOut 31 = .ok (.bipush 8, 2) := by decide +kernel
theorem dX8_layOut_33 : decode cX8_layOut 33 = .ok (.irem, 1) := by decide +kernel
theorem dX8_layOut_34 : decode cX8_layOut 34 = .ok (.iload_n 1, 1) := by decide +kernel
theorem dX8_layOut_35 : decode cX8_layOut 35 = .ok (.bipush 8, 2) := by decide +kernel
theorem dX8_layOut_37 : decode cX8_layOut 37 = .ok (.irem, 1) := by decide +kernel
theorem dX8_layOut_38 : decode cX8_layOut 38 = .ok (.invokevirtual 119, 3) := by decide +kernel
theorem dX8_layOut_41 : decode cX8_layOut 41 = .ok (.iastore, 1) := by decide +kernel
theorem dX8_layOut_42 : decode cX8_layOut 42 = .ok (.aload_n 0, 1) := by decide +kernel
theorem dX8_layOut_43 : decode cX8_layOut 43 = .ok (.getfield 41, 3) := by decide +kernel
theorem dX8_layOut_46 : decode cX8_layOut 46 = .ok (.iload_n 1, 1) := by decide +kernel
theorem dX8_layOut_47 : decode cX8_layOut 47 = .ok (.aload_n 0, 1) := by decide +kernel
theorem dX8_layOut_48 : decode cX8_layOut 48 = .ok (.getfield 44, 3) := by decide +kernel
theorem dX8_layOut_51 : decode cX8_layOut 51 = .ok (.iload_n 1, 1) := by decide +kernel
theorem dX8_layOut_52 : decode cX8_layOut 52 = .ok (.iaload, 1) := by decide +kernel
theorem dX8_layOut_53 : decode cX8_layOut 53 = .ok (.ifCond .ge 7, 3) := by decide +kernel
theorem dX8_layOut_56 : decode cX8_layOut 56 = .ok (.iconst 0, 1) := by decide +kernel
theorem dX8_layOut_57 : decode cX8_layOut 57 = .ok (.goto 14, 3) := by decide +kernel
theorem dX8_layOut_60 : decode cX8_layOut 60 = .ok (.aload_n 0, 1) := by decide +kernel
theorem dX8_layOut_61 : decode cX8_layOut 61 = .ok (.getfield 28, 3) := by decide +kernel
theorem dX8_layOut_64 : decode cX8_layOut 64 = .ok (.aload_n 0, 1) := by decide +kernel
theorem dX8_layOut_65 : decode cX8_layOut 65 = .ok (.getfield 44, 3) := by decide +kernel
theorem dX8_layOut_68 : decode cX8_layOut 68 = .ok (.iload_n 1, 1) := by decide +kernel
theorem dX8_layOut_69 : decode cX8_layOut 69 = .ok (.iaload, 1) := by decide +kernel
theorem dX8_layOut_70 : decode cX8_layOut 70 = .ok (.iaload, 1) := by decide +kernel
theorem dX8_layOut_71 : decode cX8_layOut 71 = .ok (.iastore, 1) := by decide +kernel
theorem dX8_layOut_72 : decode cX8_layOut 72 = .ok (.iinc 1 1, 3) := by decide +kernel
theorem dX8_layOut_75 : decode cX8_layOut 75 = .ok (.goto (-65), 3) := by decide +kernel
theorem dX8_layOut_78 : decode cX8_layOut 78 = .ok (.iconst 0, 1) := by decide +kernel
theorem dX8_layOut_79 : decode cX8_layOut 79 = .ok (.istore_n 1, 1) := by decide +kernel
theorem dX8_layOut_80 : decode cX8_layOut 80 = .ok (.iload_n 1, 1) := by decide +kernel
theorem dX8_layOut_81 : decode cX8_layOut 81 = .ok (.bipush 60, 2) := by decide +kernel
theorem dX8_layOut_83 : decode cX8_layOut 83 = .ok (.if_icmp .ge 16, 3) := by decide +kernel
theorem dX8_layOut_86 : decode cX8_layOut 86 = .ok (.aload_n 0, 1) := by decide +kernel
theorem dX8_layOut_87 : decode cX8_layOut 87 = .ok (.getfield 47, 3) := by decide +kernel
theorem dX8_layOut_90 : decode cX8_layOut 90 = .ok (.iload_n 1, 1) := by decide +kernel
theorem dX8_layOut_91 : decode cX8_layOut 91 = .ok (.lconst 0, 1) := by decide +kernel
theorem dX8_layOut_92 : decode cX8_layOut 92 = .ok (.lastore, 1) := by decide +kernel
theorem dX8_layOut_93 : decode cX8_layOut 93 = .ok (.iinc 1 1, 3) := by decide +kernel
theorem dX8_layOut_96 : decode cX8_layOut 96 = .ok (.goto (-16), 3) := by decide +kernel
theorem dX8_layOut_99 : decode cX8_layOut 99 = .ok (.iconst 0, 1) := by decide +kernel
theorem dX8_layOut_100 : decode cX8_layOut 100 = .ok (.istore_n 1, 1) := by decide +kernel
theorem dX8_layOut_101 : decode cX8_layOut 101 = .ok (.iload_n 1, 1) := by decide +kernel
theorem dX8_layOut_102 : decode cX8_layOut 102 = .ok (.sipush 1200, 3) := by decide +kernel
theorem dX8_layOut_105 : decode cX8_layOut 105 = .ok (.if_icmp .ge 16, 3) := by decide +kernel
theorem dX8_layOut_108 : decode cX8_layOut 108 = .ok (.aload_n 0, 1) := by decide +kernel
theorem dX8_layOut_109 : decode cX8_layOut 109 = .ok (.getfield 51, 3) := by decide +kernel
theorem dX8_layOut_112 : decode cX8_layOut 112 = .ok (.iload_n 1, 1) := by decide +kernel
theorem dX8_layOut_113 : decode cX8_layOut 113 = .ok (.lconst 0, 1) := by decide +kernel
theorem dX8_layOut_114 : decode cX8_layOut 114 = .ok (.lastore, 1) := by decide +kernel
theorem dX8_layOut_115 : decode cX8_layOut 115 = .ok (.iinc 1 1, 3) := by decide +kernel
theorem dX8_layOut_118 : decode cX8_layOut 118 = .ok (.goto (-17), 3) := by decide +kernel
theorem dX8_layOut_121 : decode cX8_layOut 121 = .ok (.aload_n 0, 1) := by decide +kernel
theorem dX8_layOut_122 : decode cX8_layOut 122 = .ok (.lconst 0, 1) := by decide +kernel
theorem dX8_layOut_123 : decode cX8_layOut 123 = .ok (.putfield 122, 3) := by decide +kernel
theorem dX8_layOut_126 : decode cX8_layOut 126 = .ok (.aload_n 0, 1) := by decide +kernel
theorem dX8_layOut_127 : decode cX8_layOut 127 = .ok (.iconst 0, 1) := by decide +kernel
theorem dX8_layOut_128 : decode cX8_layOut 128 = .ok (.putfield 126, 3) := by decide +kernel
theorem dX8_layOut_131 : decode cX8_layOut 131 = .ok (.iconst 0, 1) := by decide +kernel
theorem dX8_layOut_132 : decode cX8_layOut 132 = .ok (.istore_n 1, 1) := by decide +kernel
theorem dX8_layOut_133 : decode cX8_layOut 133 = .ok (.iload_n 1, 1) := by decide +kernel
theorem dX8_layOut_134 : decode cX8_layOut 134 = .ok (.aload_n 0, 1) := by decide +kernel
theorem dX8_layOut_135 : decode cX8_layOut 135 = .ok (.getfield 7, 3) := by decide +kernel
theorem dX8_layOut_138 : decode cX8_layOut 138 = .ok (.iconst 0, 1) := by decide +kernel
theorem dX8_layOut_139 : decode cX8_layOut 139 = .ok (.iaload, 1) := by decide +kernel
theorem dX8_layOut_140 : decode cX8_layOut 140 = .ok (.if_icmp .ge 199, 3) := by decide +kernel
theorem dX8_layOut_143 : decode cX8_layOut 143 = .ok (.iconst 0, 1) := by decide +kernel
theorem dX8_layOut_144 : decode cX8_layOut 144 = .ok (.istore_n 2, 1) := by decide +kernel
theorem dX8_layOut_145 : decode cX8_layOut 145 = .ok (.iload_n 2, 1) := by decide +kernel
theorem dX8_layOut_146 : decode cX8_layOut 146 = .ok (.aload_n 0, 1) := by decide +kernel
theorem dX8_layOut_147 : decode cX8_layOut 147 = .ok (.getfield 7, 3) := by decide +kernel
theorem dX8_layOut_150 : decode cX8_layOut 150 = .ok (.iconst 1, 1) := by decide +kernel
theorem dX8_layOut_151 : decode cX8_layOut 151 = .ok (.iaload, 1) := by decide +kernel
theorem dX8_layOut_152 : decode cX8_layOut 152 = .ok (.if_icmp .ge 181, 3) := by decide +kernel
theorem dX8_layOut_155 : decode cX8_layOut 155 = .ok (.iconst 0, 1) := by decide +kernel
theorem dX8_layOut_156 : decode cX8_layOut 156 = .ok (.istore_n 3, 1) := by decide +kernel
theorem dX8_layOut_157 : decode cX8_layOut 157 = .ok (.iload_n 3, 1) := by decide +kernel
theorem dX8_layOut_158 : decode cX8_layOut 158 = .ok (.aload_n 0, 1) := by decide +kernel
theorem dX8_layOut_159 : decode cX8_layOut 159 = .ok (.getfield 7, 3) := by decide +kernel
theorem dX8_layOut_162 : decode cX8_layOut 162 = .ok (.iconst 2, 1) := by decide +kernel
theorem dX8_layOut_163 : decode cX8_layOut 163 = .ok (.iaload, 1) := by decide +kernel
theorem dX8_layOut_164 : decode cX8_layOut 164 = .ok (.if_icmp .ge 163, 3) := by decide +kernel
theorem dX8_layOut_167 : decode cX8_layOut 167 = .ok (.aload_n 0, 1) := by decide +kernel
theorem dX8_layOut_168 : decode cX8_layOut 168 = .ok (.iload_n 1, 1) := by decide +kernel
theorem dX8_layOut_169 : decode cX8_layOut 169 = .ok (.iload_n 2, 1) := by decide +kernel
theorem dX8_layOut_170 : decode cX8_layOut 170 = .ok (.iload_n 3, 1) := by decide +kernel
theorem dX8_layOut_171 : decode cX8_layOut 171 = .ok (.invokevirtual 129, 3) := by decide +kernel
theorem dX8_layOut_174 : decode cX8_layOut 174 = .ok (.istore 4, 2) := by decide +kernel
theorem dX8_layOut_176 : decode cX8_layOut 176 = .ok (.aload_n 0, 1) := by decide +kernel
theorem dX8_layOut_177 : decode cX8_layOut 177 = .ok (.getfield 38, 3) := by decide +kernel
theorem dX8_layOut_180 : decode cX8_layOut 180 = .ok (.iload_n 1, 1) := by decide +kernel
theorem dX8_layOut_181 : decode cX8_layOut 181 = .ok (.iload_n 2, 1) := by decide +kernel
theorem dX8_layOut_182 : decode cX8_layOut 182 = .ok (.iload_n 3, 1) := by decide +kernel
theorem dX8_layOut_183 : decode cX8_layOut 183 = .ok (.invokestatic 132, 3) := by decide +kernel
theorem dX8_layOut_186 : decode cX8_layOut 186 = .ok (.iload 4, 2) := by decide +kernel
theorem dX8_layOut_188 : decode cX8_layOut 188 = .ok (.iastore, 1) := by decide +kernel
theorem dX8_layOut_189 : decode cX8_layOut 189 = .ok (.aload_n 0, 1) := by decide +kernel
theorem dX8_layOut_190 : decode cX8_layOut 190 = .ok (.dup, 1) := by decide +kernel
theorem dX8_layOut_191 : decode cX8_layOut 191 = .ok (.getfield 122, 3) := by decide +kernel
theorem dX8_layOut_194 : decode cX8_layOut 194 = .ok (.iload 4, 2) := by decide +kernel
theorem dX8_layOut_196 : decode cX8_layOut 196 = .ok (.i2l, 1) := by decide +kernel
theorem dX8_layOut_197 : decode cX8_layOut 197 = .ok (.ladd, 1) := by decide +kernel
theorem dX8_layOut_198 : decode cX8_layOut 198 = .ok (.putfield 122, 3) := by decide +kernel
theorem dX8_layOut_201 : decode cX8_layOut 201 = .ok (.aload_n 0, 1) := by decide +kernel
theorem dX8_layOut_202 : decode cX8_layOut 202 = .ok (.dup, 1) := by decide +kernel
theorem dX8_layOut_203 : decode cX8_layOut 203 = .ok (.getfield 126, 3) := by decide +kernel
theorem dX8_layOut_206 : decode cX8_layOut 206 = .ok (.iload 4, 2) := by decide +kernel
theorem dX8_layOut_208 : decode cX8_layOut 208 = .ok (.ifCond .le 7, 3) := by decide +kernel
theorem dX8_layOut_211 : decode cX8_layOut 211 = .ok (.iconst 1, 1) := by decide +kernel
theorem dX8_layOut_212 : decode cX8_layOut 212 = .ok (.goto 4, 3) := by decide +kernel
theorem dX8_layOut_215 : decode cX8_layOut 215 = .ok (.iconst 0, 1) := by decide +kernel
theorem dX8_layOut_216 : decode cX8_layOut 216 = .ok (.iadd, 1) := by decide +kernel
theorem dX8_layOut_217 : decode cX8_layOut 217 = .ok (.putfield 126, 3) := by decide +kernel
theorem dX8_layOut_220 : decode cX8_layOut 220 = .ok (.aload_n 0, 1) := by decide +kernel
theorem dX8_layOut_221 : decode cX8_layOut 221 = .ok (.getfield 47, 3) := by decide +kernel
theorem dX8_layOut_224 : decode cX8_layOut 224 = .ok (.iload_n 1, 1) := by decide +kernel
theorem dX8_layOut_225 : decode cX8_layOut 225 = .ok (.dup2, 1) := by decide +kernel
theorem dX8_layOut_226 : decode cX8_layOut 226 = .ok (.laload, 1) := by decide +kernel
theorem dX8_layOut_227 : decode cX8_layOut 227 = .ok (.iload 4, 2) := by decide +kernel
theorem dX8_layOut_229 : decode cX8_layOut 229 = .ok (.i2l, 1) := by decide +kernel
theorem dX8_layOut_230 : decode cX8_layOut 230 = .ok (.ladd, 1) := by decide +kernel
theorem dX8_layOut_231 : decode cX8_layOut 231 = .ok (.lastore, 1) := by decide +kernel
theorem dX8_layOut_232 : decode cX8_layOut 232 = .ok (.aload_n 0, 1) := by decide +kernel
theorem dX8_layOut_233 : decode cX8_layOut 233 = .ok (.getfield 47, 3) := by decide +kernel
theorem dX8_layOut_236 : decode cX8_layOut 236 = .ok (.bipush 20, 2) := by decide +kernel
theorem dX8_layOut_238 : decode cX8_layOut 238 = .ok (.iload_n 2, 1) := by decide +kernel
theorem dX8_layOut_239 : decode cX8_layOut 239 = .ok (.iadd, 1) := by decide +kernel
theorem dX8_layOut_240 : decode cX8_layOut 240 = .ok (.dup2, 1) := by decide +kernel
theorem dX8_layOut_241 : decode cX8_layOut 241 = .ok (.laload, 1) := by decide +kernel
theorem dX8_layOut_242 : decode cX8_layOut 242 = .ok (.iload 4, 2) := by decide +kernel
theorem dX8_layOut_244 : decode cX8_layOut 244 = .ok (.i2l, 1) := by decide +kernel
theorem dX8_layOut_245 : decode cX8_layOut 245 = .ok (.ladd, 1) := by decide +kernel
theorem dX8_layOut_246 : decode cX8_layOut 246 = .ok (.lastore, 1) := by decide +kernel
theorem dX8_layOut_247 : decode cX8_layOut 247 = .ok (.aload_n 0, 1) := by decide +kernel
theorem dX8_layOut_248 : decode cX8_layOut 248 = .ok (.getfield 47, 3) := by decide +kernel
theorem dX8_layOut_251 : decode cX8_layOut 251 = .ok (.bipush 40, 2) := by decide +kernel
theorem dX8_layOut_253 : decode cX8_layOut 253 = .ok (.iload_n 3, 1) := by decide +kernel
theorem dX8_layOut_254 : decode cX8_layOut 254 = .ok (.iadd, 1) := by decide +kernel
theorem dX8_layOut_255 : decode cX8_layOut 255 = .ok (.dup2, 1) := by decide +kernel
theorem dX8_layOut_256 : decode cX8_layOut 256 = .ok (.laload, 1) := by decide +kernel
theorem dX8_layOut_257 : decode cX8_layOut 257 = .ok (.iload 4, 2) := by decide +kernel
theorem dX8_layOut_259 : decode cX8_layOut 259 = .ok (.i2l, 1) := by decide +kernel
theorem dX8_layOut_260 : decode cX8_layOut 260 = .ok (.ladd, 1) := by decide +kernel
theorem dX8_layOut_261 : decode cX8_layOut 261 = .ok (.lastore, 1) := by decide +kernel
theorem dX8_layOut_262 : decode cX8_layOut 262 = .ok (.aload_n 0, 1) := by decide +kernel
theorem dX8_layOut_263 : decode cX8_layOut 263 = .ok (.getfield 51, 3) := by decide +kernel
theorem dX8_layOut_266 : decode cX8_layOut 266 = .ok (.bipush 20, 2) := by decide +kernel
theorem dX8_layOut_268 : decode cX8_layOut 268 = .ok (.iload_n 1, 1) := by decide +kernel
theorem dX8_layOut_269 : decode cX8_layOut 269 = .ok (.imul, 1) := by decide +kernel
theorem dX8_layOut_270 : decode cX8_layOut 270 = .ok (.iload_n 2, 1) := by decide +kernel
theorem dX8_layOut_271 : decode cX8_layOut 271 = .ok (.iadd, 1) := by decide +kernel
theorem dX8_layOut_272 : decode cX8_layOut 272 = .ok (.dup2, 1) := by decide +kernel
theorem dX8_layOut_273 : decode cX8_layOut 273 = .ok (.laload, 1) := by decide +kernel
theorem dX8_layOut_274 : decode cX8_layOut 274 = .ok (.iload 4, 2) := by decide +kernel
theorem dX8_layOut_276 : decode cX8_layOut 276 = .ok (.i2l, 1) := by decide +kernel
theorem dX8_layOut_277 : decode cX8_layOut 277 = .ok (.ladd, 1) := by decide +kernel
theorem dX8_layOut_278 : decode cX8_layOut 278 = .ok (.lastore, 1) := by decide +kernel
theorem dX8_layOut_279 : decode cX8_layOut 279 = .ok (.aload_n 0, 1) := by decide +kernel
theorem dX8_layOut_280 : decode cX8_layOut 280 = .ok (.getfield 51, 3) := by decide +kernel
theorem dX8_layOut_283 : decode cX8_layOut 283 = .ok (.sipush 400, 3) := by decide +kernel
theorem dX8_layOut_286 : decode cX8_layOut 286 = .ok (.bipush 20, 2) := by decide +kernel
theorem dX8_layOut_288 : decode cX8_layOut 288 = .ok (.iload_n 1, 1) := by decide +kernel
theorem dX8_layOut_289 : decode cX8_layOut 289 = .ok (.imul, 1) := by decide +kernel
theorem dX8_layOut_290 : decode cX8_layOut 290 = .ok (.iadd, 1) := by decide +kernel
theorem dX8_layOut_291 : decode cX8_layOut 291 = .ok (.iload_n 3, 1) := by decide +kernel
theorem dX8_layOut_292 : decode cX8_layOut 292 = .ok (.iadd, 1) := by decide +kernel
theorem dX8_layOut_293 : decode cX8_layOut 293 = .ok (.dup2, 1) := by decide +kernel
theorem dX8_layOut_294 : decode cX8_layOut 294 = .ok (.laload, 1) := by decide +kernel
theorem dX8_layOut_295 : decode cX8_layOut 295 = .ok (.iload 4, 2) := by decide +kernel
theorem dX8_layOut_297 : decode cX8_layOut 297 = .ok (.i2l, 1) := by decide +kernel
theorem dX8_layOut_298 : decode cX8_layOut 298 = .ok (.ladd, 1) := by decide +kernel
theorem dX8_layOut_299 : decode cX8_layOut 299 = .ok (.lastore, 1) := by decide +kernel
theorem dX8_layOut_300 : decode cX8_layOut 300 = .ok (.aload_n 0, 1) := by decide +kernel
theorem dX8_layOut_301 : decode cX8_layOut 301 = .ok (.getfield 51, 3) := by decide +kernel
theorem dX8_layOut_304 : decode cX8_layOut 304 = .ok (.sipush 800, 3) := by decide +kernel
theorem dX8_layOut_307 : decode cX8_layOut 307 = .ok (.bipush 20, 2) := by decide +kernel
theorem dX8_layOut_309 : decode cX8_layOut 309 = .ok (.iload_n 2, 1) := by decide +kernel
theorem dX8_layOut_310 : decode cX8_layOut 310 = .ok (.imul, 1) := by decide +kernel
theorem dX8_layOut_311 : decode cX8_layOut 311 = .ok (.iadd, 1) := by decide +kernel
theorem dX8_layOut_312 : decode cX8_layOut 312 = .ok (.iload_n 3, 1) := by decide +kernel
theorem dX8_layOut_313 : decode cX8_layOut 313 = .ok (.iadd, 1) := by decide +kernel
theorem dX8_layOut_314 : decode cX8_layOut 314 = .ok (.dup2, 1) := by decide +kernel
theorem dX8_layOut_315 : decode cX8_layOut 315 = .ok (.laload, 1) := by decide +kernel
theorem dX8_layOut_316 : decode cX8_layOut 316 = .ok (.iload 4, 2) := by decide +kernel
theorem dX8_layOut_318 : decode cX8_layOut 318 = .ok (.i2l, 1) := by decide +kernel
theorem dX8_layOut_319 : decode cX8_layOut 319 = .ok (.ladd, 1) := by decide +kernel
theorem dX8_layOut_320 : decode cX8_layOut 320 = .ok (.lastore, 1) := by decide +kernel
theorem dX8_layOut_321 : decode cX8_layOut 321 = .ok (.iinc 3 1, 3) := by decide +kernel
theorem dX8_layOut_324 : decode cX8_layOut 324 = .ok (.goto (-167), 3) := by decide +kernel
theorem dX8_layOut_327 : decode cX8_layOut 327 = .ok (.iinc 2 1, 3) := by decide +kernel
theorem dX8_layOut_330 : decode cX8_layOut 330 = .ok (.goto (-185), 3) := by decide +kernel
theorem dX8_layOut_333 : decode cX8_layOut 333 = .ok (.iinc 1 1, 3) := by decide +kernel
theorem dX8_layOut_336 : decode cX8_layOut 336 = .ok (.goto (-203), 3) := by decide +kernel
theorem dX8_layOut_339 : decode cX8_layOut 339 = .ok (.aload_n 0, 1) := by decide +kernel
theorem dX8_layOut_340 : decode cX8_layOut 340 = .ok (.iconst 1, 1) := by decide +kernel
theorem dX8_layOut_341 : decode cX8_layOut 341 = .ok (.putfield 96, 3) := by decide +kernel
theorem dX8_layOut_344 : decode cX8_layOut 344 = .ok (.return_, 1) := by decide +kernel
theorem dX8_isEnding_0 : decode cX8_isEnding 0 = .ok (.aload_n 0, 1) := by decide +kernel
theorem dX8_isEnding_1 : decode cX8_isEnding 1 = .ok (.iconst 0, 1) := by decide +kernel
theorem dX8_isEnding_2 : decode cX8_isEnding 2 = .ok (.iload_n 1, 1) := by decide +kernel
theorem dX8_isEnding_3 : decode cX8_isEnding 3 = .ok (.invokevirtual 100, 3) := by decide +kernel
theorem dX8_isEnding_6 : decode cX8_isEnding 6 = .ok (.ifCond .eq 25, 3) := by decide +kernel
theorem dX8_isEnding_9 : decode cX8_isEnding 9 = .ok (.aload_n 0, 1) := by decide +kernel
theorem dX8_isEnding_10 : decode cX8_isEnding 10 = .ok (.iconst 1, 1) := by decide +kernel
theorem dX8_isEnding_11 : decode cX8_isEnding 11 = .ok (.iload_n 2, 1) := by decide +kernel
theorem dX8_isEnding_12 : decode cX8_isEnding 12 = .ok (.invokevirtual 100, 3) := by decide +kernel
theorem dX8_isEnding_15 : decode cX8_isEnding 15 = .ok (.ifCond .eq 16, 3) := by decide +kernel
theorem dX8_isEnding_18 : decode cX8_isEnding 18 = .ok (.aload_n 0, 1) := by decide +kernel
theorem dX8_isEnding_19 : decode cX8_isEnding 19 = .ok (.iconst 2, 1) := by decide +kernel
theorem dX8_isEnding_20 : decode cX8_isEnding 20 = .ok (.iload_n 3, 1) := by decide +kernel
theorem dX8_isEnding_21 : decode cX8_isEnding 21 = .ok (.invokevirtual 100, 3) := by decide +kernel
theorem dX8_isEnding_24 : decode cX8_isEnding 24 = .ok (.ifCond .eq 7, 3) := by decide +kernel
theorem dX8_isEnding_27 : decode cX8_isEnding 27 = .ok (.iconst 1, 1) := by decide +kernel
theorem dX8_isEnding_28 : decode cX8_isEnding 28 = .ok (.goto 4, 3) := by decide +kernel
theorem dX8_isEnding_31 : decode cX8_isEnding 31 = .ok (.iconst 0, 1) := by decide +kernel
theorem dX8_isEnding_32 : decode cX8_isEnding 32 = .ok (.ireturn, 1) := by decide +kernel
theorem dX8_ending_0 : decode cX8_ending 0 = .ok (.aload_n 0, 1) := by decide +kernel
theorem dX8_ending_1 : decode cX8_ending 1 = .ok (.iload_n 1, 1) := by decide +kernel
theorem dX8_ending_2 : decode cX8_ending 2 = .ok (.iload_n 2, 1) := by decide +kernel
theorem dX8_ending_3 : decode cX8_ending 3 = .ok (.iload_n 3, 1) := by decide +kernel
theorem dX8_ending_4 : decode cX8_ending 4 = .ok (.invokevirtual 135, 3) := by decide +kernel
theorem dX8_ending_7 : decode cX8_ending 7 = .ok (.ifCond .ne 6, 3) := by decide +kernel
theorem dX8_ending_10 : decode cX8_ending 10 = .ok (.bipush (-2), 2) := by decide +kernel
theorem dX8_ending_12 : decode cX8_ending 12 = .ok (.ireturn, 1) := by decide +kernel
theorem dX8_ending_13 : decode cX8_ending 13 = .ok (.aload_n 0, 1) := by decide +kernel
theorem dX8_ending_14 : decode cX8_ending 14 = .ok (.invokevirtual 139, 3) := by decide +kernel
theorem dX8_ending_17 : decode cX8_ending 17 = .ok (.aload_n 0, 1) := by decide +kernel
theorem dX8_ending_18 : decode cX8_ending 18 = .ok (.getfield 38, 3) := by decide +kernel
theorem dX8_ending_21 : decode cX8_ending 21 = .ok (.iload_n 1, 1) := by decide +kernel
theorem dX8_ending_22 : decode cX8_ending 22 = .ok (.iload_n 2, 1) := by decide +kernel
theorem dX8_ending_23 : decode cX8_ending 23 = .ok (.iload_n 3, 1) := by decide +kernel
theorem dX8_ending_24 : decode cX8_ending 24 = .ok (.invokestatic 132, 3) := by decide +kernel
theorem dX8_ending_27 : decode cX8_ending 27 = .ok (.iaload, 1) := by decide +kernel
theorem dX8_ending_28 : decode cX8_ending 28 = .ok (.ireturn, 1) := by decide +kernel
theorem dX8_playedBest_0 : decode cX8_playedBest 0 = .ok (.lconst 0, 1) := by decide +kernel
theorem dX8_playedBest_1 : decode cX8_playedBest 1 = .ok (.lstore_n 1, 1) := by decide +kernel
theorem dX8_playedBest_2 : decode cX8_playedBest 2 = .ok (.iconst 0, 1) := by decide +kernel
theorem dX8_playedBest_3 : decode cX8_playedBest 3 = .ok (.istore_n 3, 1) := by decide +kernel
theorem dX8_playedBest_4 : decode cX8_playedBest 4 = .ok (.iload_n 3, 1) := by decide +kernel
theorem dX8_playedBest_5 : decode cX8_playedBest 5 = .ok (.aload_n 0, 1) := by decide +kernel
theorem dX8_playedBest_6 : decode cX8_playedBest 6 = .ok (.getfield 7, 3) := by decide +kernel
theorem dX8_playedBest_9 : decode cX8_playedBest 9 = .ok (.iconst 0, 1) := by decide +kernel
theorem dX8_playedBest_10 : decode cX8_playedBest 10 = .ok (.iaload, 1) := by decide +kernel
theorem dX8_playedBest_11 : decode cX8_playedBest 11 = .ok (.if_icmp .ge 70, 3) := by decide +kernel
theorem dX8_playedBest_14 : decode cX8_playedBest 14 = .ok (.iconst 0, 1) := by decide +kernel
theorem dX8_playedBest_15 : decode cX8_playedBest 15 = .ok (.istore 4, 2) := by decide +kernel
theorem dX8_playedBest_17 : decode cX8_playedBest 17 = .ok (.iload 4, 2) := by decide +kernel
theorem dX8_playedBest_19 : decode cX8_playedBest 19 = .ok (.aload_n 0, 1) := by decide +kernel
theorem dX8_playedBest_20 : decode cX8_playedBest 20 = .ok (.getfield 7, 3) := by decide +kernel
theorem dX8_playedBest_23 : decode cX8_playedBest 23 = .ok (.iconst 1, 1) := by decide +kernel
theorem dX8_playedBest_24 : decode cX8_playedBest 24 = .ok (.iaload, 1) := by decide +kernel
theorem dX8_playedBest_25 : decode cX8_playedBest 25 = .ok (.if_icmp .ge 50, 3) := by decide +kernel
theorem dX8_playedBest_28 : decode cX8_playedBest 28 = .ok (.iconst 0, 1) := by decide +kernel
theorem dX8_playedBest_29 : decode cX8_playedBest 29 = .ok (.istore 5, 2) := by decide +kernel
theorem dX8_playedBest_31 : decode cX8_playedBest 31 = .ok (.iload 5, 2) := by decide +kernel
theorem dX8_playedBest_33 : decode cX8_playedBest 33 = .ok (.aload_n 0, 1) := by decide +kernel
theorem dX8_playedBest_34 : decode cX8_playedBest 34 = .ok (.getfield 7, 3) := by decide +kernel
theorem dX8_playedBest_37 : decode cX8_playedBest 37 = .ok (.iconst 2, 1) := by decide +kernel
theorem dX8_playedBest_38 : decode cX8_playedBest 38 = .ok (.iaload, 1) := by decide +kernel
theorem dX8_playedBest_39 : decode cX8_playedBest 39 = .ok (.if_icmp .ge 30, 3) := by decide +kernel
theorem dX8_playedBest_42 : decode cX8_playedBest 42 = .ok (.lload_n 1, 1) := by decide +kernel
theorem dX8_playedBest_43 : decode cX8_playedBest 43 = .ok (.aload_n 0, 1) := by decide +kernel
theorem dX8_playedBest_44 : decode cX8_playedBest 44 = .ok (.iload_n 3, 1) := by decide +kernel
theorem dX8_playedBest_45 : decode cX8_playedBest 45 = .ok (.iload 4, 2) := by decide +kernel
theorem dX8_playedBest_47 : decode cX8_playedBest 47 = .ok (.iload 5, 2) := by decide +kernel
theorem dX8_playedBest_49 : decode cX8_playedBest 49 = .ok (.aload_n 0, 1) := by decide +kernel
theorem dX8_playedBest_50 : decode cX8_playedBest 50 = .ok (.iload_n 3, 1) := by decide +kernel
theorem dX8_playedBest_51 : decode cX8_playedBest 51 = .ok (.iload 4, 2) := by decide +kernel
theorem dX8_playedBest_53 : decode cX8_playedBest 53 = .ok (.iload 5, 2) := by decide +kernel
theorem dX8_playedBest_55 : decode cX8_playedBest 55 = .ok (.invokevirtual 142, 3) := by decide +kernel
theorem dX8_playedBest_58 : decode cX8_playedBest 58 = .ok (.invokevirtual 145, 3) := by decide +kernel
theorem dX8_playedBest_61 : decode cX8_playedBest 61 = .ok (.ladd, 1) := by decide +kernel
theorem dX8_playedBest_62 : decode cX8_playedBest 62 = .ok (.lstore_n 1, 1) := by decide +kernel
theorem dX8_playedBest_63 : decode cX8_playedBest 63 = .ok (.iinc 5 1, 3) := by decide +kernel
theorem dX8_playedBest_66 : decode cX8_playedBest 66 = .ok (.goto (-35), 3) := by decide +kernel
theorem dX8_playedBest_69 : decode cX8_playedBest 69 = .ok (.iinc 4 1, 3) := by decide +kernel
theorem dX8_playedBest_72 : decode cX8_playedBest 72 = .ok (.goto (-55), 3) := by decide +kernel
theorem dX8_playedBest_75 : decode cX8_playedBest 75 = .ok (.iinc 3 1, 3) := by decide +kernel
theorem dX8_playedBest_78 : decode cX8_playedBest 78 = .ok (.goto (-74), 3) := by decide +kernel
theorem dX8_playedBest_81 : decode cX8_playedBest 81 = .ok (.lload_n 1, 1) := by decide +kernel
theorem dX8_playedBest_82 : decode cX8_playedBest 82 = .ok (.lreturn, 1) := by decide +kernel
theorem dX8_all_0 : decode cX8_all 0 = .ok (.aload_n 0, 1) := by decide +kernel
theorem dX8_all_1 : decode cX8_all 1 = .ok (.invokevirtual 139, 3) := by decide +kernel
theorem dX8_all_4 : decode cX8_all 4 = .ok (.iload_n 1, 1) := by decide +kernel
theorem dX8_all_5 : decode cX8_all 5 = .ok (.tableswitch 78 0 4 #[35, 41, 46, 52, 73], 35) := by decide +kernel
theorem dX8_all_40 : decode cX8_all 40 = .ok (.aload_n 0, 1) := by decide +kernel
theorem dX8_all_41 : decode cX8_all 41 = .ok (.invokevirtual 149, 3) := by decide +kernel
theorem dX8_all_44 : decode cX8_all 44 = .ok (.i2l, 1) := by decide +kernel
theorem dX8_all_45 : decode cX8_all 45 = .ok (.lreturn, 1) := by decide +kernel
theorem dX8_all_46 : decode cX8_all 46 = .ok (.aload_n 0, 1) := by decide +kernel
theorem dX8_all_47 : decode cX8_all 47 = .ok (.getfield 122, 3) := by decide +kernel
theorem dX8_all_50 : decode cX8_all 50 = .ok (.lreturn, 1) := by decide +kernel
theorem dX8_all_51 : decode cX8_all 51 = .ok (.aload_n 0, 1) := by decide +kernel
theorem dX8_all_52 : decode cX8_all 52 = .ok (.getfield 126, 3) := by decide +kernel
theorem dX8_all_55 : decode cX8_all 55 = .ok (.i2l, 1) := by decide +kernel
theorem dX8_all_56 : decode cX8_all 56 = .ok (.lreturn, 1) := by decide +kernel
theorem dX8_all_57 : decode cX8_all 57 = .ok (.aload_n 0, 1) := by decide +kernel
theorem dX8_all_58 : decode cX8_all 58 = .ok (.getfield 122, 3) := by decide +kernel
theorem dX8_all_61 : decode cX8_all 61 = .ok (.ldc2_w 153, 3) := by decide +kernel
theorem dX8_all_64 : decode cX8_all 64 = .ok (.lmul, 1) := by decide +kernel
theorem dX8_all_65 : decode cX8_all 65 = .ok (.aload_n 0, 1) := by decide +kernel
theorem dX8_all_66 : decode cX8_all 66 = .ok (.invokevirtual 149, 3) := by decide +kernel
theorem dX8_all_69 : decode cX8_all 69 = .ok (.i2l, 1) := by decide +kernel
theorem dX8_all_70 : decode cX8_all 70 = .ok (.aload_n 0, 1) := by decide +kernel
theorem dX8_all_71 : decode cX8_all 71 = .ok (.getfield 31, 3) := by decide +kernel
theorem dX8_all_74 : decode cX8_all 74 = .ok (.i2l, 1) := by decide +kernel
theorem dX8_all_75 : decode cX8_all 75 = .ok (.lmul, 1) := by decide +kernel
theorem dX8_all_76 : decode cX8_all 76 = .ok (.ldiv, 1) := by decide +kernel
theorem dX8_all_77 : decode cX8_all 77 = .ok (.lreturn, 1) := by decide +kernel
theorem dX8_all_78 : decode cX8_all 78 = .ok (.aload_n 0, 1) := by decide +kernel
theorem dX8_all_79 : decode cX8_all 79 = .ok (.invokevirtual 155, 3) := by decide +kernel
theorem dX8_all_82 : decode cX8_all 82 = .ok (.lreturn, 1) := by decide +kernel
theorem dX8_all_83 : decode cX8_all 83 = .ok (.ldc2_w 159, 3) := by decide +kernel
theorem dX8_all_86 : decode cX8_all 86 = .ok (.lreturn, 1) := by decide +kernel
theorem dX8_middles_0 : decode cX8_middles 0 = .ok (.iconst 0, 1) := by decide +kernel
theorem dX8_middles_1 : decode cX8_middles 1 = .ok (.istore_n 3, 1) := by decide +kernel
theorem dX8_middles_2 : decode cX8_middles 2 = .ok (.iconst 0, 1) := by decide +kernel
theorem dX8_middles_3 : decode cX8_middles 3 = .ok (.istore 4, 2) := by decide +kernel
theorem dX8_middles_5 : decode cX8_middles 5 = .ok (.iload 4, 2) := by decide +kernel
theorem dX8_middles_7 : decode cX8_middles 7 = .ok (.aload_n 0, 1) := by decide +kernel
theorem dX8_middles_8 : decode cX8_middles 8 = .ok (.getfield 7, 3) := by decide +kernel
theorem dX8_middles_11 : decode cX8_middles 11 = .ok (.iload_n 1, 1) := by decide +kernel
theorem dX8_middles_12 : decode cX8_middles 12 = .ok (.iaload, 1) := by decide +kernel
theorem dX8_middles_13 : decode cX8_middles 13 = .ok (.if_icmp .ge 33, 3) := by decide +kernel
theorem dX8_middles_16 : decode cX8_middles 16 = .ok (.iload_n 3, 1) := by decide +kernel
theorem dX8_middles_17 : decode cX8_middles 17 = .ok (.aload_n 0, 1) := by decide +kernel
theorem dX8_middles_18 : decode cX8_middles 18 = .ok (.getfield 13, 3) := by decide +kernel
theorem dX8_middles_21 : decode cX8_middles 21 = .ok (.bipush 20, 2) := by decide +kernel
theorem dX8_middles_23 : decode cX8_middles 23 = .ok (.iload_n 1, 1) := by decide +kernel
theorem dX8_middles_24 : decode cX8_middles 24 = .ok (.imul, 1) := by decide +kernel
theorem dX8_middles_25 : decode cX8_middles 25 = .ok (.iload 4, 2) := by decide +kernel
theorem dX8_middles_27 : decode cX8_middles 27 = .ok (.iadd, 1) := by decide +kernel
theorem dX8_middles_28 : decode cX8_middles 28 = .ok (.iaload, 1) := by decide +kernel
theorem dX8_middles_29 : decode cX8_middles 29 = .ok (.iload_n 2, 1) := by decide +kernel
theorem dX8_middles_30 : decode cX8_middles 30 = .ok (.if_icmp .ne 7, 3) := by decide +kernel
theorem dX8_middles_33 : decode cX8_middles 33 = .ok (.iconst 1, 1) := by decide +kernel
theorem dX8_middles_34 : decode cX8_middles 34 = .ok (.goto 4, 3) := by decide +kernel
theorem dX8_middles_37 : decode cX8_middles 37 = .ok (.iconst 0, 1) := by decide +kernel
theorem dX8_middles_38 : decode cX8_middles 38 = .ok (.iadd, 1) := by decide +kernel
theorem dX8_middles_39 : decode cX8_middles 39 = .ok (.istore_n 3, 1) := by decide +kernel
theorem dX8_middles_40 : decode cX8_middles 40 = .ok (.iinc 4 1, 3) := by decide +kernel
theorem dX8_middles_43 : decode cX8_middles 43 = .ok (.goto (-38), 3) := by decide +kernel
theorem dX8_middles_46 : decode cX8_middles 46 = .ok (.iload_n 3, 1) := by decide +kernel
theorem dX8_middles_47 : decode cX8_middles 47 = .ok (.ireturn, 1) := by decide +kernel
theorem dX8_rows_0 : decode cX8_rows 0 = .ok (.iload_n 1, 1) := by decide +kernel
theorem dX8_rows_1 : decode cX8_rows 1 = .ok (.i2l, 1) := by decide +kernel
theorem dX8_rows_2 : decode cX8_rows 2 = .ok (.lconst 0, 1) := by decide +kernel
theorem dX8_rows_3 : decode cX8_rows 3 = .ok (.aload_n 0, 1) := by decide +kernel
theorem dX8_rows_4 : decode cX8_rows 4 = .ok (.getfield 110, 3) := by decide +kernel
theorem dX8_rows_7 : decode cX8_rows 7 = .ok (.iconst 1, 1) := by decide +kernel
theorem dX8_rows_8 : decode cX8_rows 8 = .ok (.isub, 1) := by decide +kernel
theorem dX8_rows_9 : decode cX8_rows 9 = .ok (.i2l, 1) := by decide +kernel
theorem dX8_rows_10 : decode cX8_rows 10 = .ok (.invokestatic 81, 3) := by decide +kernel
theorem dX8_rows_13 : decode cX8_rows 13 = .ok (.ifCond .ne 6, 3) := by decide +kernel
theorem dX8_rows_16 : decode cX8_rows 16 = .ok (.bipush (-2), 2) := by decide +kernel
theorem dX8_rows_18 : decode cX8_rows 18 = .ok (.ireturn, 1) := by decide +kernel
theorem dX8_rows_19 : decode cX8_rows 19 = .ok (.aload_n 0, 1) := by decide +kernel
theorem dX8_rows_20 : decode cX8_rows 20 = .ok (.invokevirtual 139, 3) := by decide +kernel
theorem dX8_rows_23 : decode cX8_rows 23 = .ok (.iconst 0, 1) := by decide +kernel
theorem dX8_rows_24 : decode cX8_rows 24 = .ok (.istore_n 2, 1) := by decide +kernel
theorem dX8_rows_25 : decode cX8_rows 25 = .ok (.iconst 0, 1) := by decide +kernel
theorem dX8_rows_26 : decode cX8_rows 26 = .ok (.istore_n 3, 1) := by decide +kernel
theorem dX8_rows_27 : decode cX8_rows 27 = .ok (.iload_n 3, 1) := by decide +kernel
theorem dX8_rows_28 : decode cX8_rows 28 = .ok (.sipush 512, 3) := by decide +kernel
theorem dX8_rows_31 : decode cX8_rows 31 = .ok (.if_icmp .ge 58, 3) := by decide +kernel
theorem dX8_rows_34 : decode cX8_rows 34 = .ok (.iload_n 2, 1) := by decide +kernel
theorem dX8_rows_35 : decode cX8_rows 35 = .ok (.aload_n 0, 1) := by decide +kernel
theorem dX8_rows_36 : decode cX8_rows 36 = .ok (.getfield 44, 3) := by decide +kernel
theorem dX8_rows_39 : decode cX8_rows 39 = .ok (.iload_n 3, 1) := by decide +kernel
theorem dX8_rows_40 : decode cX8_rows 40 = .ok (.iaload, 1) := by decide +kernel
theorem dX8_rows_41 : decode cX8_rows 41 = .ok (.iload_n 1, 1) := by decide +kernel
theorem dX8_rows_42 : decode cX8_rows 42 = .ok (.if_icmp .ne 38, 3) := by decide +kernel
theorem dX8_rows_45 : decode cX8_rows 45 = .ok (.aload_n 0, 1) := by decide +kernel
theorem dX8_rows_46 : decode cX8_rows 46 = .ok (.iconst 0, 1) := by decide +kernel
theorem dX8_rows_47 : decode cX8_rows 47 = .ok (.iload_n 3, 1) := by decide +kernel
theorem dX8_rows_48 : decode cX8_rows 48 = .ok (.bipush 64, 2) := by decide +kernel
theorem dX8_rows_50 : decode cX8_rows 50 = .ok (.idiv, 1) := by decide +kernel
theorem dX8_rows_51 : decode cX8_rows 51 = .ok (.invokevirtual 161, 3) := by decide +kernel
theorem dX8_rows_54 : decode cX8_rows 54 = .ok (.aload_n 0, 1) := by decide +kernel
theorem dX8_rows_55 : decode cX8_rows 55 = .ok (.iconst 1, 1) := by decide +kernel
theorem dX8_rows_56 : decode cX8_rows 56 = .ok (.iload_n 3, 1) := by decide +kernel
theorem dX8_rows_57 : decode cX8_rows 57 = .ok (.bipush 8, 2) := by decide +kernel
theorem dX8_rows_59 : decode cX8_rows 59 = .ok (.idiv, 1) := by decide +kernel
theorem dX8_rows_60 : decode cX8_rows 60 = .ok (.bipush 8, 2) := by decide +kernel
theorem dX8_rows_62 : decode cX8_rows 62 = .ok (.irem, 1) := by decide +kernel
theorem dX8_rows_63 : decode cX8_rows 63 = .ok (.invokevirtual 161, 3) := by decide +kernel
theorem dX8_rows_66 : decode cX8_rows 66 = .ok (.imul, 1) := by decide +kernel
theorem dX8_rows_67 : decode cX8_rows 67 = .ok (.aload_n 0, 1) := by decide +kernel
theorem dX8_rows_68 : decode cX8_rows 68 = .ok (.iconst 2, 1) := by decide +kernel
theorem dX8_rows_69 : decode cX8_rows 69 = .ok (.iload_n 3, 1) := by decide +kernel
theorem dX8_rows_70 : decode cX8_rows 70 = .ok (.bipush 8, 2) := by decide +kernel
theorem dX8_rows_72 : decode cX8_rows 72 = .ok (.irem, 1) := by decide +kernel
theorem dX8_rows_73 : decode cX8_rows 73 = .ok (.invokevirtual 161, 3) := by decide +kernel
theorem dX8_rows_76 : decode cX8_rows 76 = .ok (.imul, 1) := by decide +kernel
theorem dX8_rows_77 : decode cX8_rows 77 = .ok (.goto 4, 3) := by decide +kernel
theorem dX8_rows_80 : decode cX8_rows 80 = .ok (.iconst 0, 1) := by decide +kernel
theorem dX8_rows_81 : decode cX8_rows 81 = .ok (.iadd, 1) := by decide +kernel
theorem dX8_rows_82 : decode cX8_rows 82 = .ok (.istore_n 2, 1) := by decide +kernel
theorem dX8_rows_83 : decode cX8_rows 83 = .ok (.iinc 3 1, 3) := by decide +kernel
theorem dX8_rows_86 : decode cX8_rows 86 = .ok (.goto (-59), 3) := by decide +kernel
theorem dX8_rows_89 : decode cX8_rows 89 = .ok (.iload_n 2, 1) := by decide +kernel
theorem dX8_rows_90 : decode cX8_rows 90 = .ok (.ireturn, 1) := by decide +kernel
theorem dX8_nears_0 : decode cX8_nears 0 = .ok (.iconst 0, 1) := by decide +kernel
theorem dX8_nears_1 : decode cX8_nears 1 = .ok (.istore_n 3, 1) := by decide +kernel
theorem dX8_nears_2 : decode cX8_nears 2 = .ok (.iconst 0, 1) := by decide +kernel
theorem dX8_nears_3 : decode cX8_nears 3 = .ok (.istore 4, 2) := by decide +kernel
theorem dX8_nears_5 : decode cX8_nears 5 = .ok (.iload 4, 2) := by decide +kernel
theorem dX8_nears_7 : decode cX8_nears 7 = .ok (.aload_n 0, 1) := by decide +kernel
theorem dX8_nears_8 : decode cX8_nears 8 = .ok (.getfield 7, 3) := by decide +kernel
theorem dX8_nears_11 : decode cX8_nears 11 = .ok (.iload_n 1, 1) := by decide +kernel
theorem dX8_nears_12 : decode cX8_nears 12 = .ok (.iaload, 1) := by decide +kernel
theorem dX8_nears_13 : decode cX8_nears 13 = .ok (.if_icmp .ge 53, 3) := by decide +kernel
theorem dX8_nears_16 : decode cX8_nears 16 = .ok (.iload_n 3, 1) := by decide +kernel
theorem dX8_nears_17 : decode cX8_nears 17 = .ok (.aload_n 0, 1) := by decide +kernel
theorem dX8_nears_18 : decode cX8_nears 18 = .ok (.iload_n 1, 1) := by decide +kernel
theorem dX8_nears_19 : decode cX8_nears 19 = .ok (.iload 4, 2) := by decide +kernel
theorem dX8_nears_21 : decode cX8_nears 21 = .ok (.iconst 0, 1) := by decide +kernel
theorem dX8_nears_22 : decode cX8_nears 22 = .ok (.invokevirtual 115, 3) := by decide +kernel
theorem dX8_nears_25 : decode cX8_nears 25 = .ok (.iload_n 2, 1) := by decide +kernel
theorem dX8_nears_26 : decode cX8_nears 26 = .ok (.if_icmp .eq 31, 3) := by decide +kernel
theorem dX8_nears_29 : decode cX8_nears 29 = .ok (.aload_n 0, 1) := by decide +kernel
theorem dX8_nears_30 : decode cX8_nears 30 = .ok (.iload_n 1, 1) := by decide +kernel
theorem dX8_nears_31 : decode cX8_nears 31 = .ok (.iload 4, 2) := by decide +kernel
theorem dX8_nears_33 : decode cX8_nears 33 = .ok (.iconst (-1), 1) := by decide +kernel
theorem dX8_nears_34 : decode cX8_nears 34 = .ok (.invokevirtual 115, 3) := by decide +kernel
theorem dX8_nears_37 : decode cX8_nears 37 = .ok (.iload_n 2, 1) := by decide +kernel
theorem dX8_nears_38 : decode cX8_nears 38 = .ok (.if_icmp .eq 15, 3) := by decide +kernel
theorem dX8_nears_41 : decode cX8_nears 41 = .ok (.aload_n 0, 1) := by decide +kernel
theorem dX8_nears_42 : decode cX8_nears 42 = .ok (.iload_n 1, 1) := by decide +kernel
theorem dX8_nears_43 : decode cX8_nears 43 = .ok (.iload 4, 2) := by decide +kernel
theorem dX8_nears_45 : decode cX8_nears 45 = .ok (.iconst 1, 1) := by decide +kernel
theorem dX8_nears_46 : decode cX8_nears 46 = .ok (.invokevirtual 115, 3) := by decide +kernel
theorem dX8_nears_49 : decode cX8_nears 49 = .ok (.iload_n 2, 1) := by decide +kernel
theorem dX8_nears_50 : decode cX8_nears 50 = .ok (.if_icmp .ne 7, 3) := by decide +kernel
theorem dX8_nears_53 : decode cX8_nears 53 = .ok (.iconst 1, 1) := by decide +kernel
theorem dX8_nears_54 : decode cX8_nears 54 = .ok (.goto 4, 3) := by decide +kernel
theorem dX8_nears_57 : decode cX8_nears 57 = .ok (.iconst 0, 1) := by decide +kernel
theorem dX8_nears_58 : decode cX8_nears 58 = .ok (.iadd, 1) := by decide +kernel
theorem dX8_nears_59 : decode cX8_nears 59 = .ok (.istore_n 3, 1) := by decide +kernel
theorem dX8_nears_60 : decode cX8_nears 60 = .ok (.iinc 4 1, 3) := by decide +kernel
theorem dX8_nears_63 : decode cX8_nears 63 = .ok (.goto (-58), 3) := by decide +kernel
theorem dX8_nears_66 : decode cX8_nears 66 = .ok (.iload_n 3, 1) := by decide +kernel
theorem dX8_nears_67 : decode cX8_nears 67 = .ok (.ireturn, 1) := by decide +kernel
theorem dX8_misses_0 : decode cX8_misses 0 = .ok (.iload_n 1, 1) := by decide +kernel
theorem dX8_misses_1 : decode cX8_misses 1 = .ok (.i2l, 1) := by decide +kernel
theorem dX8_misses_2 : decode cX8_misses 2 = .ok (.lconst 0, 1) := by decide +kernel
theorem dX8_misses_3 : decode cX8_misses 3 = .ok (.ldc2_w 104, 3) := by decide +kernel
theorem dX8_misses_6 : decode cX8_misses 6 = .ok (.invokestatic 81, 3) := by decide +kernel
theorem dX8_misses_9 : decode cX8_misses 9 = .ok (.ifCond .ne 6, 3) := by decide +kernel
theorem dX8_misses_12 : decode cX8_misses 12 = .ok (.bipush (-2), 2) := by decide +kernel
theorem dX8_misses_14 : decode cX8_misses 14 = .ok (.ireturn, 1) := by decide +kernel
theorem dX8_misses_15 : decode cX8_misses 15 = .ok (.aload_n 0, 1) := by decide +kernel
theorem dX8_misses_16 : decode cX8_misses 16 = .ok (.iconst 0, 1) := by decide +kernel
theorem dX8_misses_17 : decode cX8_misses 17 = .ok (.iload_n 1, 1) := by decide +kernel
theorem dX8_misses_18 : decode cX8_misses 18 = .ok (.invokevirtual 161, 3) := by decide +kernel
theorem dX8_misses_21 : decode cX8_misses 21 = .ok (.aload_n 0, 1) := by decide +kernel
theorem dX8_misses_22 : decode cX8_misses 22 = .ok (.iconst 1, 1) := by decide +kernel
theorem dX8_misses_23 : decode cX8_misses 23 = .ok (.iload_n 1, 1) := by decide +kernel
theorem dX8_misses_24 : decode cX8_misses 24 = .ok (.invokevirtual 161, 3) := by decide +kernel
theorem dX8_misses_27 : decode cX8_misses 27 = .ok (.imul, 1) := by decide +kernel
theorem dX8_misses_28 : decode cX8_misses 28 = .ok (.aload_n 0, 1) := by decide +kernel
theorem dX8_misses_29 : decode cX8_misses 29 = .ok (.iconst 2, 1) := by decide +kernel
theorem dX8_misses_30 : decode cX8_misses 30 = .ok (.iload_n 1, 1) := by decide +kernel
theorem dX8_misses_31 : decode cX8_misses 31 = .ok (.invokevirtual 165, 3) := by decide +kernel
theorem dX8_misses_34 : decode cX8_misses 34 = .ok (.imul, 1) := by decide +kernel
theorem dX8_misses_35 : decode cX8_misses 35 = .ok (.aload_n 0, 1) := by decide +kernel
theorem dX8_misses_36 : decode cX8_misses 36 = .ok (.iconst 0, 1) := by decide +kernel
theorem dX8_misses_37 : decode cX8_misses 37 = .ok (.iload_n 1, 1) := by decide +kernel
theorem dX8_misses_38 : decode cX8_misses 38 = .ok (.invokevirtual 161, 3) := by decide +kernel
theorem dX8_misses_41 : decode cX8_misses 41 = .ok (.aload_n 0, 1) := by decide +kernel
theorem dX8_misses_42 : decode cX8_misses 42 = .ok (.iconst 1, 1) := by decide +kernel
theorem dX8_misses_43 : decode cX8_misses 43 = .ok (.iload_n 1, 1) := by decide +kernel
theorem dX8_misses_44 : decode cX8_misses 44 = .ok (.invokevirtual 165, 3) := by decide +kernel
theorem dX8_misses_47 : decode cX8_misses 47 = .ok (.imul, 1) := by decide +kernel
theorem dX8_misses_48 : decode cX8_misses 48 = .ok (.aload_n 0, 1) := by decide +kernel
theorem dX8_misses_49 : decode cX8_misses 49 = .ok (.iconst 2, 1) := by decide +kernel
theorem dX8_misses_50 : decode cX8_misses 50 = .ok (.iload_n 1, 1) := by decide +kernel
theorem dX8_misses_51 : decode cX8_misses 51 = .ok (.invokevirtual 161, 3) := by decide +kernel
theorem dX8_misses_54 : decode cX8_misses 54 = .ok (.imul, 1) := by decide +kernel
theorem dX8_misses_55 : decode cX8_misses 55 = .ok (.iadd, 1) := by decide +kernel
theorem dX8_misses_56 : decode cX8_misses 56 = .ok (.aload_n 0, 1) := by decide +kernel
theorem dX8_misses_57 : decode cX8_misses 57 = .ok (.iconst 0, 1) := by decide +kernel
theorem dX8_misses_58 : decode cX8_misses 58 = .ok (.iload_n 1, 1) := by decide +kernel
theorem dX8_misses_59 : decode cX8_misses 59 = .ok (.invokevirtual 165, 3) := by decide +kernel
theorem dX8_misses_62 : decode cX8_misses 62 = .ok (.aload_n 0, 1) := by decide +kernel
theorem dX8_misses_63 : decode cX8_misses 63 = .ok (.iconst 1, 1) := by decide +kernel
theorem dX8_misses_64 : decode cX8_misses 64 = .ok (.iload_n 1, 1) := by decide +kernel
theorem dX8_misses_65 : decode cX8_misses 65 = .ok (.invokevirtual 161, 3) := by decide +kernel
theorem dX8_misses_68 : decode cX8_misses 68 = .ok (.imul, 1) := by decide +kernel
theorem dX8_misses_69 : decode cX8_misses 69 = .ok (.aload_n 0, 1) := by decide +kernel
theorem dX8_misses_70 : decode cX8_misses 70 = .ok (.iconst 2, 1) := by decide +kernel
theorem dX8_misses_71 : decode cX8_misses 71 = .ok (.iload_n 1, 1) := by decide +kernel
theorem dX8_misses_72 : decode cX8_misses 72 = .ok (.invokevirtual 161, 3) := by decide +kernel
theorem dX8_misses_75 : decode cX8_misses 75 = .ok (.imul, 1) := by decide +kernel
theorem dX8_misses_76 : decode cX8_misses 76 = .ok (.iadd, 1) := by decide +kernel
theorem dX8_misses_77 : decode cX8_misses 77 = .ok (.ireturn, 1) := by decide +kernel
theorem dX8_worthOf_0 : decode cX8_worthOf 0 = .ok (.iload 4, 2) := by decide +kernel
theorem dX8_worthOf_2 : decode cX8_worthOf 2 = .ok (.tableswitch 146 0 6 #[42, 51, 62, 76, 92, 106, 126], 42) := by decide +kernel
theorem dX8_worthOf_44 : decode cX8_worthOf 44 = .ok (.aload_n 0, 1) := by decide +kernel
theorem dX8_worthOf_45 : decode cX8_worthOf 45 = .ok (.getfield 122, 3) := by decide +kernel
theorem dX8_worthOf_48 : decode cX8_worthOf 48 = .ok (.lstore 5, 2) := by decide +kernel
theorem dX8_worthOf_50 : decode cX8_worthOf 50 = .ok (.goto 112, 3) := by decide +kernel
theorem dX8_worthOf_53 : decode cX8_worthOf 53 = .ok (.aload_n 0, 1) := by decide +kernel
theorem dX8_worthOf_54 : decode cX8_worthOf 54 = .ok (.getfield 47, 3) := by decide +kernel
theorem dX8_worthOf_57 : decode cX8_worthOf 57 = .ok (.iload_n 1, 1) := by decide +kernel
theorem dX8_worthOf_58 : decode cX8_worthOf 58 = .ok (.laload, 1) := by decide +kernel
theorem dX8_worthOf_59 : decode cX8_worthOf 59 = .ok (.lstore 5, 2) := by decide +kernel
theorem dX8_worthOf_61 : decode cX8_worthOf 61 = .ok (.goto 101, 3) := by decide +kernel
theorem dX8_worthOf_64 : decode cX8_worthOf 64 = .ok (.aload_n 0, 1) := by decide +kernel
theorem dX8_worthOf_65 : decode cX8_worthOf 65 = .ok (.getfield 47, 3) := by decide +kernel
theorem dX8_worthOf_68 : decode cX8_worthOf 68 = .ok (.bipush 20, 2) := by decide +kernel
theorem dX8_worthOf_70 : decode cX8_worthOf 70 = .ok (.iload_n 2, 1) := by decide +kernel
theorem dX8_worthOf_71 : decode cX8_worthOf 71 = .ok (.iadd, 1) := by decide +kernel
theorem dX8_worthOf_72 : decode cX8_worthOf 72 = .ok (.laload, 1) := by decide +kernel
theorem dX8_worthOf_73 : decode cX8_worthOf 73 = .ok (.lstore 5, 2) := by decide +kernel
theorem dX8_worthOf_75 : decode cX8_worthOf 75 = .ok (.goto 87, 3) := by decide +kernel
theorem dX8_worthOf_78 : decode cX8_worthOf 78 = .ok (.aload_n 0, 1) := by decide +kernel
theorem dX8_worthOf_79 : decode cX8_worthOf 79 = .ok (.getfield 51, 3) := by decide +kernel
theorem dX8_worthOf_82 : decode cX8_worthOf 82 = .ok (.bipush 20, 2) := by decide +kernel
theorem dX8_worthOf_84 : decode cX8_worthOf 84 = .ok (.iload_n 1, 1) := by decide +kernel
theorem dX8_worthOf_85 : decode cX8_worthOf 85 = .ok (.imul, 1) := by decide +kernel
theorem dX8_worthOf_86 : decode cX8_worthOf 86 = .ok (.iload_n 2, 1) := by decide +kernel
theorem dX8_worthOf_87 : decode cX8_worthOf 87 = .ok (.iadd, 1) := by decide +kernel
theorem dX8_worthOf_88 : decode cX8_worthOf 88 = .ok (.laload, 1) := by decide +kernel
theorem dX8_worthOf_89 : decode cX8_worthOf 89 = .ok (.lstore 5, 2) := by decide +kernel
theorem dX8_worthOf_91 : decode cX8_worthOf 91 = .ok (.goto 71, 3) := by decide +kernel
theorem dX8_worthOf_94 : decode cX8_worthOf 94 = .ok (.aload_n 0, 1) := by decide +kernel
theorem dX8_worthOf_95 : decode cX8_worthOf 95 = .ok (.getfield 47, 3) := by decide +kernel
theorem dX8_worthOf_98 : decode cX8_worthOf 98 = .ok (.bipush 40, 2) := by decide +kernel
theorem dX8_worthOf_100 : decode cX8_worthOf 100 = .ok (.iload_n 3, 1) := by decide +kernel
theorem dX8_worthOf_101 : decode cX8_worthOf 101 = .ok (.iadd, 1) := by decide +kernel
theorem dX8_worthOf_102 : decode cX8_worthOf 102 = .ok (.laload, 1) := by decide +kernel
theorem dX8_worthOf_103 : decode cX8_worthOf 103 = .ok (.lstore 5, 2) := by decide +kernel
theorem dX8_worthOf_105 : decode cX8_worthOf 105 = .ok (.goto 57, 3) := by decide +kernel
theorem dX8_worthOf_108 : decode cX8_worthOf 108 = .ok (.aload_n 0, 1) := by decide +kernel
theorem dX8_worthOf_109 : decode cX8_worthOf 109 = .ok (.getfield 51, 3) := by decide +kernel
theorem dX8_worthOf_112 : decode cX8_worthOf 112 = .ok (.sipush 400, 3) := by decide +kernel
theorem dX8_worthOf_115 : decode cX8_worthOf 115 = .ok (.bipush 20, 2) := by decide +kernel
theorem dX8_worthOf_117 : decode cX8_worthOf 117 = .ok (.iload_n 1, 1) := by decide +kernel
theorem dX8_worthOf_118 : decode cX8_worthOf 118 = .ok (.imul, 1) := by decide +kernel
theorem dX8_worthOf_119 : decode cX8_worthOf 119 = .ok (.iadd, 1) := by decide +kernel
theorem dX8_worthOf_120 : decode cX8_worthOf 120 = .ok (.iload_n 3, 1) := by decide +kernel
theorem dX8_worthOf_121 : decode cX8_worthOf 121 = .ok (.iadd, 1) := by decide +kernel
theorem dX8_worthOf_122 : decode cX8_worthOf 122 = .ok (.laload, 1) := by decide +kernel
theorem dX8_worthOf_123 : decode cX8_worthOf 123 = .ok (.lstore 5, 2) := by decide +kernel
theorem dX8_worthOf_125 : decode cX8_worthOf 125 = .ok (.goto 37, 3) := by decide +kernel
theorem dX8_worthOf_128 : decode cX8_worthOf 128 = .ok (.aload_n 0, 1) := by decide +kernel
theorem dX8_worthOf_129 : decode cX8_worthOf 129 = .ok (.getfield 51, 3) := by decide +kernel
theorem dX8_worthOf_132 : decode cX8_worthOf 132 = .ok (.sipush 800, 3) := by decide +kernel
theorem dX8_worthOf_135 : decode cX8_worthOf 135 = .ok (.bipush 20, 2) := by decide +kernel
theorem dX8_worthOf_137 : decode cX8_worthOf 137 = .ok (.iload_n 2, 1) := by decide +kernel
theorem dX8_worthOf_138 : decode cX8_worthOf 138 = .ok (.imul, 1) := by decide +kernel
theorem dX8_worthOf_139 : decode cX8_worthOf 139 = .ok (.iadd, 1) := by decide +kernel
theorem dX8_worthOf_140 : decode cX8_worthOf 140 = .ok (.iload_n 3, 1) := by decide +kernel
theorem dX8_worthOf_141 : decode cX8_worthOf 141 = .ok (.iadd, 1) := by decide +kernel
theorem dX8_worthOf_142 : decode cX8_worthOf 142 = .ok (.laload, 1) := by decide +kernel
theorem dX8_worthOf_143 : decode cX8_worthOf 143 = .ok (.lstore 5, 2) := by decide +kernel
theorem dX8_worthOf_145 : decode cX8_worthOf 145 = .ok (.goto 17, 3) := by decide +kernel
theorem dX8_worthOf_148 : decode cX8_worthOf 148 = .ok (.aload_n 0, 1) := by decide +kernel
theorem dX8_worthOf_149 : decode cX8_worthOf 149 = .ok (.getfield 38, 3) := by decide +kernel
theorem dX8_worthOf_152 : decode cX8_worthOf 152 = .ok (.iload_n 1, 1) := by decide +kernel
theorem dX8_worthOf_153 : decode cX8_worthOf 153 = .ok (.iload_n 2, 1) := by decide +kernel
theorem dX8_worthOf_154 : decode cX8_worthOf 154 = .ok (.iload_n 3, 1) := by decide +kernel
theorem dX8_worthOf_155 : decode cX8_worthOf 155 = .ok (.invokestatic 132, 3) := by decide +kernel
theorem dX8_worthOf_158 : decode cX8_worthOf 158 = .ok (.iaload, 1) := by decide +kernel
theorem dX8_worthOf_159 : decode cX8_worthOf 159 = .ok (.i2l, 1) := by decide +kernel
theorem dX8_worthOf_160 : decode cX8_worthOf 160 = .ok (.lstore 5, 2) := by decide +kernel
theorem dX8_worthOf_162 : decode cX8_worthOf 162 = .ok (.iconst 0, 1) := by decide +kernel
theorem dX8_worthOf_163 : decode cX8_worthOf 163 = .ok (.istore 7, 2) := by decide +kernel
theorem dX8_worthOf_165 : decode cX8_worthOf 165 = .ok (.iload 7, 2) := by decide +kernel
theorem dX8_worthOf_167 : decode cX8_worthOf 167 = .ok (.iconst 3, 1) := by decide +kernel
theorem dX8_worthOf_168 : decode cX8_worthOf 168 = .ok (.if_icmp .ge 37, 3) := by decide +kernel
theorem dX8_worthOf_171 : decode cX8_worthOf 171 = .ok (.lload 5, 2) := by decide +kernel
theorem dX8_worthOf_173 : decode cX8_worthOf 173 = .ok (.iload 4, 2) := by decide +kernel
theorem dX8_worthOf_175 : decode cX8_worthOf 175 = .ok (.iload 7, 2) := by decide +kernel
theorem dX8_worthOf_177 : decode cX8_worthOf 177 = .ok (.ishr, 1) := by decide +kernel
theorem dX8_worthOf_178 : decode cX8_worthOf 178 = .ok (.iconst 1, 1) := by decide +kernel
theorem dX8_worthOf_179 : decode cX8_worthOf 179 = .ok (.iand, 1) := by decide +kernel
theorem dX8_worthOf_180 : decode cX8_worthOf 180 = .ok (.iconst 1, 1) := by decide +kernel
theorem dX8_worthOf_181 : decode cX8_worthOf 181 = .ok (.if_icmp .ne 14, 3) := by decide +kernel
theorem dX8_worthOf_184 : decode cX8_worthOf 184 = .ok (.aload_n 0, 1) := by decide +kernel
theorem dX8_worthOf_185 : decode cX8_worthOf 185 = .ok (.getfield 7, 3) := by decide +kernel
theorem dX8_worthOf_188 : decode cX8_worthOf 188 = .ok (.iload 7, 2) := by decide +kernel
theorem dX8_worthOf_190 : decode cX8_worthOf 190 = .ok (.iaload, 1) := by decide +kernel
theorem dX8_worthOf_191 : decode cX8_worthOf 191 = .ok (.i2l, 1) := by decide +kernel
theorem dX8_worthOf_192 : decode cX8_worthOf 192 = .ok (.goto 4, 3) := by decide +kernel
theorem dX8_worthOf_195 : decode cX8_worthOf 195 = .ok (.lconst 1, 1) := by decide +kernel
theorem dX8_worthOf_196 : decode cX8_worthOf 196 = .ok (.lmul, 1) := by decide +kernel
theorem dX8_worthOf_197 : decode cX8_worthOf 197 = .ok (.lstore 5, 2) := by decide +kernel
theorem dX8_worthOf_199 : decode cX8_worthOf 199 = .ok (.iinc 7 1, 3) := by decide +kernel
theorem dX8_worthOf_202 : decode cX8_worthOf 202 = .ok (.goto (-37), 3) := by decide +kernel
theorem dX8_worthOf_205 : decode cX8_worthOf 205 = .ok (.lload 5, 2) := by decide +kernel
theorem dX8_worthOf_207 : decode cX8_worthOf 207 = .ok (.lreturn, 1) := by decide +kernel
theorem dX8_holdOf_0 : decode cX8_holdOf 0 = .ok (.iconst 0, 1) := by decide +kernel
theorem dX8_holdOf_1 : decode cX8_holdOf 1 = .ok (.istore 4, 2) := by decide +kernel
theorem dX8_holdOf_3 : decode cX8_holdOf 3 = .ok (.iconst 1, 1) := by decide +kernel
theorem dX8_holdOf_4 : decode cX8_holdOf 4 = .ok (.istore 5, 2) := by decide +kernel
theorem dX8_holdOf_6 : decode cX8_holdOf 6 = .ok (.iload 5, 2) := by decide +kernel
theorem dX8_holdOf_8 : decode cX8_holdOf 8 = .ok (.bipush 8, 2) := by decide +kernel
theorem dX8_holdOf_10 : decode cX8_holdOf 10 = .ok (.if_icmp .ge 40, 3) := by decide +kernel
theorem dX8_holdOf_13 : decode cX8_holdOf 13 = .ok (.aload_n 0, 1) := by decide +kernel
theorem dX8_holdOf_14 : decode cX8_holdOf 14 = .ok (.iload_n 1, 1) := by decide +kernel
theorem dX8_holdOf_15 : decode cX8_holdOf 15 = .ok (.iload_n 2, 1) := by decide +kernel
theorem dX8_holdOf_16 : decode cX8_holdOf 16 = .ok (.iload_n 3, 1) := by decide +kernel
theorem dX8_holdOf_17 : decode cX8_holdOf 17 = .ok (.iload 5, 2) := by decide +kernel
theorem dX8_holdOf_19 : decode cX8_holdOf 19 = .ok (.invokevirtual 145, 3) := by decide +kernel
theorem dX8_holdOf_22 : decode cX8_holdOf 22 = .ok (.aload_n 0, 1) := by decide +kernel
theorem dX8_holdOf_23 : decode cX8_holdOf 23 = .ok (.iload_n 1, 1) := by decide +kernel
theorem dX8_holdOf_24 : decode cX8_holdOf 24 = .ok (.iload_n 2, 1) := by decide +kernel
theorem dX8_holdOf_25 : decode cX8_holdOf 25 = .ok (.iload_n 3, 1) := by decide +kernel
theorem dX8_holdOf_26 : decode cX8_holdOf 26 = .ok (.iload 4, 2) := by decide +kernel
theorem dX8_holdOf_28 : decode cX8_holdOf 28 = .ok (.invokevirtual 145, 3) := by decide +kernel
theorem dX8_holdOf_31 : decode cX8_holdOf 31 = .ok (.lcmp, 1) := by decide +kernel
theorem dX8_holdOf_32 : decode cX8_holdOf 32 = .ok (.ifCond .le 8, 3) := by decide +kernel
theorem dX8_holdOf_35 : decode cX8_holdOf 35 = .ok (.iload 5, 2) := by decide +kernel
theorem dX8_holdOf_37 : decode cX8_holdOf 37 = .ok (.goto 5, 3) := by decide +kernel
theorem dX8_holdOf_40 : decode cX8_holdOf 40 = .ok (.iload 4, 2) := by decide +kernel
theorem dX8_holdOf_42 : decode cX8_holdOf 42 = .ok (.istore 4, 2) := by decide +kernel
theorem dX8_holdOf_44 : decode cX8_holdOf 44 = .ok (.iinc 5 1, 3) := by decide +kernel
theorem dX8_holdOf_47 : decode cX8_holdOf 47 = .ok (.goto (-41), 3) := by decide +kernel
theorem dX8_holdOf_50 : decode cX8_holdOf 50 = .ok (.iload 4, 2) := by decide +kernel
theorem dX8_holdOf_52 : decode cX8_holdOf 52 = .ok (.ireturn, 1) := by decide +kernel
theorem dX8_worth_0 : decode cX8_worth 0 = .ok (.aload_n 0, 1) := by decide +kernel
theorem dX8_worth_1 : decode cX8_worth 1 = .ok (.iload_n 1, 1) := by decide +kernel
theorem dX8_worth_2 : decode cX8_worth 2 = .ok (.iload_n 2, 1) := by decide +kernel
theorem dX8_worth_3 : decode cX8_worth 3 = .ok (.iload_n 3, 1) := by decide +kernel
theorem dX8_worth_4 : decode cX8_worth 4 = .ok (.invokevirtual 135, 3) := by decide +kernel
theorem dX8_worth_7 : decode cX8_worth 7 = .ok (.ifCond .eq 16, 3) := by decide +kernel
theorem dX8_worth_10 : decode cX8_worth 10 = .ok (.iload 4, 2) := by decide +kernel
theorem dX8_worth_12 : decode cX8_worth 12 = .ok (.i2l, 1) := by decide +kernel
theorem dX8_worth_13 : decode cX8_worth 13 = .ok (.lconst 0, 1) := by decide +kernel
theorem dX8_worth_14 : decode cX8_worth 14 = .ok (.ldc2_w 104, 3) := by decide +kernel
theorem dX8_worth_17 : decode cX8_worth 17 = .ok (.invokestatic 81, 3) := by decide +kernel
theorem dX8_worth_20 : decode cX8_worth 20 = .ok (.ifCond .ne 7, 3) := by decide +kernel
theorem dX8_worth_23 : decode cX8_worth 23 = .ok (.ldc2_w 159, 3) := by decide +kernel
theorem dX8_worth_26 : decode cX8_worth 26 = .ok (.lreturn, 1) := by decide +kernel
theorem dX8_worth_27 : decode cX8_worth 27 = .ok (.aload_n 0, 1) := by decide +kernel
theorem dX8_worth_28 : decode cX8_worth 28 = .ok (.invokevirtual 139, 3) := by decide +kernel
theorem dX8_worth_31 : decode cX8_worth 31 = .ok (.aload_n 0, 1) := by decide +kernel
theorem dX8_worth_32 : decode cX8_worth 32 = .ok (.iload_n 1, 1) := by decide +kernel
theorem dX8_worth_33 : decode cX8_worth 33 = .ok (.iload_n 2, 1) := by decide +kernel
theorem dX8_worth_34 : decode cX8_worth 34 = .ok (.iload_n 3, 1) := by decide +kernel
theorem dX8_worth_35 : decode cX8_worth 35 = .ok (.iload 4, 2) := by decide +kernel
theorem dX8_worth_37 : decode cX8_worth 37 = .ok (.invokevirtual 145, 3) := by decide +kernel
theorem dX8_worth_40 : decode cX8_worth 40 = .ok (.lreturn, 1) := by decide +kernel
theorem dX8_hold_0 : decode cX8_hold 0 = .ok (.aload_n 0, 1) := by decide +kernel
theorem dX8_hold_1 : decode cX8_hold 1 = .ok (.iload_n 1, 1) := by decide +kernel
theorem dX8_hold_2 : decode cX8_hold 2 = .ok (.iload_n 2, 1) := by decide +kernel
theorem dX8_hold_3 : decode cX8_hold 3 = .ok (.iload_n 3, 1) := by decide +kernel
theorem dX8_hold_4 : decode cX8_hold 4 = .ok (.invokevirtual 135, 3) := by decide +kernel
theorem dX8_hold_7 : decode cX8_hold 7 = .ok (.ifCond .ne 6, 3) := by decide +kernel
theorem dX8_hold_10 : decode cX8_hold 10 = .ok (.bipush (-2), 2) := by decide +kernel
theorem dX8_hold_12 : decode cX8_hold 12 = .ok (.ireturn, 1) := by decide +kernel
theorem dX8_hold_13 : decode cX8_hold 13 = .ok (.aload_n 0, 1) := by decide +kernel
theorem dX8_hold_14 : decode cX8_hold 14 = .ok (.invokevirtual 139, 3) := by decide +kernel
theorem dX8_hold_17 : decode cX8_hold 17 = .ok (.aload_n 0, 1) := by decide +kernel
theorem dX8_hold_18 : decode cX8_hold 18 = .ok (.iload_n 1, 1) := by decide +kernel
theorem dX8_hold_19 : decode cX8_hold 19 = .ok (.iload_n 2, 1) := by decide +kernel
theorem dX8_hold_20 : decode cX8_hold 20 = .ok (.iload_n 3, 1) := by decide +kernel
theorem dX8_hold_21 : decode cX8_hold 21 = .ok (.invokevirtual 142, 3) := by decide +kernel
theorem dX8_hold_24 : decode cX8_hold 24 = .ok (.ireturn, 1) := by decide +kernel
theorem dX8_nudge_0 : decode cX8_nudge 0 = .ok (.aload_n 0, 1) := by decide +kernel
theorem dX8_nudge_1 : decode cX8_nudge 1 = .ok (.iload_n 1, 1) := by decide +kernel
theorem dX8_nudge_2 : decode cX8_nudge 2 = .ok (.iload_n 2, 1) := by decide +kernel
theorem dX8_nudge_3 : decode cX8_nudge 3 = .ok (.iload_n 3, 1) := by decide +kernel
theorem dX8_nudge_4 : decode cX8_nudge 4 = .ok (.invokevirtual 135, 3) := by decide +kernel
theorem dX8_nudge_7 : decode cX8_nudge 7 = .ok (.ifCond .eq 27, 3) := by decide +kernel
theorem dX8_nudge_10 : decode cX8_nudge 10 = .ok (.iload 4, 2) := by decide +kernel
theorem dX8_nudge_12 : decode cX8_nudge 12 = .ok (.i2l, 1) := by decide +kernel
theorem dX8_nudge_13 : decode cX8_nudge 13 = .ok (.lconst 0, 1) := by decide +kernel
theorem dX8_nudge_14 : decode cX8_nudge 14 = .ok (.ldc2_w 168, 3) := by decide +kernel
theorem dX8_nudge_17 : decode cX8_nudge 17 = .ok (.invokestatic 81, 3) := by decide +kernel
theorem dX8_nudge_20 : decode cX8_nudge 20 = .ok (.ifCond .eq 14, 3) := by decide +kernel
theorem dX8_nudge_23 : decode cX8_nudge 23 = .ok (.iload 5, 2) := by decide +kernel
theorem dX8_nudge_25 : decode cX8_nudge 25 = .ok (.i2l, 1) := by decide +kernel
theorem dX8_nudge_26 : decode cX8_nudge 26 = .ok (.lconst 0, 1) := by decide +kernel
theorem dX8_nudge_27 : decode cX8_nudge 27 = .ok (.lconst 1, 1) := by decide +kernel
theorem dX8_nudge_28 : decode cX8_nudge 28 = .ok (.invokestatic 81, 3) := by decide +kernel
theorem dX8_nudge_31 : decode cX8_nudge 31 = .ok (.ifCond .ne 6, 3) := by decide +kernel
theorem dX8_nudge_34 : decode cX8_nudge 34 = .ok (.bipush (-2), 2) := by decide +kernel
theorem dX8_nudge_36 : decode cX8_nudge 36 = .ok (.ireturn, 1) := by decide +kernel
theorem dX8_nudge_37 : decode cX8_nudge 37 = .ok (.aload_n 0, 1) := by decide +kernel
theorem dX8_nudge_38 : decode cX8_nudge 38 = .ok (.invokevirtual 139, 3) := by decide +kernel
theorem dX8_nudge_41 : decode cX8_nudge 41 = .ok (.iconst (-1), 1) := by decide +kernel
theorem dX8_nudge_42 : decode cX8_nudge 42 = .ok (.istore 6, 2) := by decide +kernel
theorem dX8_nudge_44 : decode cX8_nudge 44 = .ok (.iconst 0, 1) := by decide +kernel
theorem dX8_nudge_45 : decode cX8_nudge 45 = .ok (.istore 7, 2) := by decide +kernel
theorem dX8_nudge_47 : decode cX8_nudge 47 = .ok (.iconst 0, 1) := by decide +kernel
theorem dX8_nudge_48 : decode cX8_nudge 48 = .ok (.istore 8, 2) := by decide +kernel
theorem dX8_nudge_50 : decode cX8_nudge 50 = .ok (.iload 8, 2) := by decide +kernel
theorem dX8_nudge_52 : decode cX8_nudge 52 = .ok (.iload 4, 2) := by decide +kernel
theorem dX8_nudge_54 : decode cX8_nudge 54 = .ok (.if_icmp .gt 124, 3) := by decide +kernel
theorem dX8_nudge_57 : decode cX8_nudge 57 = .ok (.iconst 0, 1) := by decide +kernel
theorem dX8_nudge_58 : decode cX8_nudge 58 = .ok (.istore 9, 2) := by decide +kernel
theorem dX8_nudge_60 : decode cX8_nudge 60 = .ok (.iload 9, 2) := by decide +kernel
theorem dX8_nudge_62 : decode cX8_nudge 62 = .ok (.iload 8, 2) := by decide +kernel
theorem dX8_nudge_64 : decode cX8_nudge 64 = .ok (.if_icmp .gt 108, 3) := by decide +kernel
theorem dX8_nudge_67 : decode cX8_nudge 67 = .ok (.iconst 0, 1) := by decide +kernel
theorem dX8_nudge_68 : decode cX8_nudge 68 = .ok (.istore 10, 2) := by decide +kernel
theorem dX8_nudge_70 : decode cX8_nudge 70 = .ok (.iload 9, 2) := by decide +kernel
theorem dX8_nudge_72 : decode cX8_nudge 72 = .ok (.iload 10, 2) := by decide +kernel
theorem dX8_nudge_74 : decode cX8_nudge 74 = .ok (.iadd, 1) := by decide +kernel
theorem dX8_nudge_75 : decode cX8_nudge 75 = .ok (.iload 8, 2) := by decide +kernel
theorem dX8_nudge_77 : decode cX8_nudge 77 = .ok (.if_icmp .gt 89, 3) := by decide +kernel
theorem dX8_nudge_80 : decode cX8_nudge 80 = .ok (.iload 8, 2) := by decide +kernel
theorem dX8_nudge_82 : decode cX8_nudge 82 = .ok (.iload 9, 2) := by decide +kernel
theorem dX8_nudge_84 : decode cX8_nudge 84 = .ok (.isub, 1) := by decide +kernel
theorem dX8_nudge_85 : decode cX8_nudge 85 = .ok (.iload 10, 2) := by decide +kernel
theorem dX8_nudge_87 : decode cX8_nudge 87 = .ok (.isub, 1) := by decide +kernel
theorem dX8_nudge_88 : decode cX8_nudge 88 = .ok (.istore 11, 2) := by decide +kernel
theorem dX8_nudge_90 : decode cX8_nudge 90 = .ok (.aload_n 0, 1) := by decide +kernel
theorem dX8_nudge_91 : decode cX8_nudge 91 = .ok (.getfield 38, 3) := by decide +kernel
theorem dX8_nudge_94 : decode cX8_nudge 94 = .ok (.iload_n 1, 1) := by decide +kernel
theorem dX8_nudge_95 : decode cX8_nudge 95 = .ok (.iload 9, 2) := by decide +kernel
theorem dX8_nudge_97 : decode cX8_nudge 97 = .ok (.iadd, 1) := by decide +kernel
theorem dX8_nudge_98 : decode cX8_nudge 98 = .ok (.aload_n 0, 1) := by decide +kernel
theorem dX8_nudge_99 : decode cX8_nudge 99 = .ok (.getfield 7, 3) := by decide +kernel
theorem dX8_nudge_102 : decode cX8_nudge 102 = .ok (.iconst 0, 1) := by decide +kernel
theorem dX8_nudge_103 : decode cX8_nudge 103 = .ok (.iaload, 1) := by decide +kernel
theorem dX8_nudge_104 : decode cX8_nudge 104 = .ok (.irem, 1) := by decide +kernel
theorem dX8_nudge_105 : decode cX8_nudge 105 = .ok (.iload_n 2, 1) := by decide +kernel
theorem dX8_nudge_106 : decode cX8_nudge 106 = .ok (.iload 10, 2) := by decide +kernel
theorem dX8_nudge_108 : decode cX8_nudge 108 = .ok (.iadd, 1) := by decide +kernel
theorem dX8_nudge_109 : decode cX8_nudge 109 = .ok (.aload_n 0, 1) := by decide +kernel
theorem dX8_nudge_110 : decode cX8_nudge 110 = .ok (.getfield 7, 3) := by decide +kernel
theorem dX8_nudge_113 : decode cX8_nudge 113 = .ok (.iconst 1, 1) := by decide +kernel
theorem dX8_nudge_114 : decode cX8_nudge 114 = .ok (.iaload, 1) := by decide +kernel
theorem dX8_nudge_115 : decode cX8_nudge 115 = .ok (.irem, 1) := by decide +kernel
theorem dX8_nudge_116 : decode cX8_nudge 116 = .ok (.iload_n 3, 1) := by decide +kernel
theorem dX8_nudge_117 : decode cX8_nudge 117 = .ok (.iload 11, 2) := by decide +kernel
theorem dX8_nudge_119 : decode cX8_nudge 119 = .ok (.iadd, 1) := by decide +kernel
theorem dX8_nudge_120 : decode cX8_nudge 120 = .ok (.aload_n 0, 1) := by decide +kernel
theorem dX8_nudge_121 : decode cX8_nudge 121 = .ok (.getfield 7, 3) := by decide +kernel
theorem dX8_nudge_124 : decode cX8_nudge 124 = .ok (.iconst 2, 1) := by decide +kernel
theorem dX8_nudge_125 : decode cX8_nudge 125 = .ok (.iaload, 1) := by decide +kernel
theorem dX8_nudge_126 : decode cX8_nudge 126 = .ok (.irem, 1) := by decide +kernel
theorem dX8_nudge_127 : decode cX8_nudge 127 = .ok (.invokestatic 132, 3) := by decide +kernel
theorem dX8_nudge_130 : decode cX8_nudge 130 = .ok (.iaload, 1) := by decide +kernel
theorem dX8_nudge_131 : decode cX8_nudge 131 = .ok (.istore 12, 2) := by decide +kernel
theorem dX8_nudge_133 : decode cX8_nudge 133 = .ok (.iload 12, 2) := by decide +kernel
theorem dX8_nudge_135 : decode cX8_nudge 135 = .ok (.iload 6, 2) := by decide +kernel
theorem dX8_nudge_137 : decode cX8_nudge 137 = .ok (.if_icmp .le 23, 3) := by decide +kernel
theorem dX8_nudge_140 : decode cX8_nudge 140 = .ok (.iload 12, 2) := by decide +kernel
theorem dX8_nudge_142 : decode cX8_nudge 142 = .ok (.istore 6, 2) := by decide +kernel
theorem dX8_nudge_144 : decode cX8_nudge 144 = .ok (.bipush 100, 2) := by decide +kernel
theorem dX8_nudge_146 : decode cX8_nudge 146 = .ok (.iload 9, 2) := by decide +kernel
theorem dX8_nudge_148 : decode cX8_nudge 148 = .ok (.imul, 1) := by decide +kernel
theorem dX8_nudge_149 : decode cX8_nudge 149 = .ok (.bipush 10, 2) := by decide +kernel
theorem dX8_nudge_151 : decode cX8_nudge 151 = .ok (.iload 10, 2) := by decide +kernel
theorem dX8_nudge_153 : decode cX8_nudge 153 = .ok (.imul, 1) := by decide +kernel
theorem dX8_nudge_154 : decode cX8_nudge 154 = .ok (.iadd, 1) := by decide +kernel
theorem dX8_nudge_155 : decode cX8_nudge 155 = .ok (.iload 11, 2) := by decide +kernel
theorem dX8_nudge_157 : decode cX8_nudge 157 = .ok (.iadd, 1) := by decide +kernel
theorem dX8_nudge_158 : decode cX8_nudge 158 = .ok (.istore 7, 2) := by decide +kernel
theorem dX8_nudge_160 : decode cX8_nudge 160 = .ok (.iinc 10 1, 3) := by decide +kernel
theorem dX8_nudge_163 : decode cX8_nudge 163 = .ok (.goto (-93), 3) := by decide +kernel
theorem dX8_nudge_166 : decode cX8_nudge 166 = .ok (.iinc 9 1, 3) := by decide +kernel
theorem dX8_nudge_169 : decode cX8_nudge 169 = .ok (.goto (-109), 3) := by decide +kernel
theorem dX8_nudge_172 : decode cX8_nudge 172 = .ok (.iinc 8 1, 3) := by decide +kernel
theorem dX8_nudge_175 : decode cX8_nudge 175 = .ok (.goto (-125), 3) := by decide +kernel
theorem dX8_nudge_178 : decode cX8_nudge 178 = .ok (.iload 5, 2) := by decide +kernel
theorem dX8_nudge_180 : decode cX8_nudge 180 = .ok (.ifCond .ne 8, 3) := by decide +kernel
theorem dX8_nudge_183 : decode cX8_nudge 183 = .ok (.iload 6, 2) := by decide +kernel
theorem dX8_nudge_185 : decode cX8_nudge 185 = .ok (.goto 5, 3) := by decide +kernel
theorem dX8_nudge_188 : decode cX8_nudge 188 = .ok (.iload 7, 2) := by decide +kernel
theorem dX8_nudge_190 : decode cX8_nudge 190 = .ok (.ireturn, 1) := by decide +kernel
theorem dX8_sumByCounts_0 : decode cX8_sumByCounts 0 = .ok (.lconst 0, 1) := by decide +kernel
theorem dX8_sumByCounts_1 : decode cX8_sumByCounts 1 = .ok (.lstore_n 1, 1) := by decide +kernel
theorem dX8_sumByCounts_2 : decode cX8_sumByCounts 2 = .ok (.iconst 0, 1) := by decide +kernel
theorem dX8_sumByCounts_3 : decode cX8_sumByCounts 3 = .ok (.istore_n 3, 1) := by decide +kernel
theorem dX8_sumByCounts_4 : decode cX8_sumByCounts 4 = .ok (.iload_n 3, 1) := by decide +kernel
theorem dX8_sumByCounts_5 : decode cX8_sumByCounts 5 = .ok (.sipush 512, 3) := by decide +kernel
theorem dX8_sumByCounts_8 : decode cX8_sumByCounts 8 = .ok (.if_icmp .ge 61, 3) := by decide +kernel
theorem dX8_sumByCounts_11 : decode cX8_sumByCounts 11 = .ok (.lload_n 1, 1) := by decide +kernel
theorem dX8_sumByCounts_12 : decode cX8_sumByCounts 12 = .ok (.aload_n 0, 1) := by decide +kernel
theorem dX8_sumByCounts_13 : decode cX8_sumByCounts 13 = .ok (.getfield 41, 3) := by decide +kernel
theorem dX8_sumByCounts_16 : decode cX8_sumByCounts 16 = .ok (.iload_n 3, 1) := by decide +kernel
theorem dX8_sumByCounts_17 : decode cX8_sumByCounts 17 = .ok (.iaload, 1) := by decide +kernel
theorem dX8_sumByCounts_18 : decode cX8_sumByCounts 18 = .ok (.i2l, 1) := by decide +kernel
theorem dX8_sumByCounts_19 : decode cX8_sumByCounts 19 = .ok (.aload_n 0, 1) := by decide +kernel
theorem dX8_sumByCounts_20 : decode cX8_sumByCounts 20 = .ok (.getfield 54, 3) := by decide +kernel
theorem dX8_sumByCounts_23 : decode cX8_sumByCounts 23 = .ok (.iload_n 3, 1) := by decide +kernel
theorem dX8_sumByCounts_24 : decode cX8_sumByCounts 24 = .ok (.bipush 64, 2) := by decide +kernel
theorem dX8_sumByCounts_26 : decode cX8_sumByCounts 26 = .ok (.idiv, 1) := by decide +kernel
theorem dX8_sumByCounts_27 : decode cX8_sumByCounts 27 = .ok (.iaload, 1) := by decide +kernel
theorem dX8_sumByCounts_28 : decode cX8_sumByCounts 28 = .ok (.i2l, 1) := by decide +kernel
theorem dX8_sumByCounts_29 : decode cX8_sumByCounts 29 = .ok (.lmul, 1) := by decide +kernel
theorem dX8_sumByCounts_30 : decode cX8_sumByCounts 30 = .ok (.aload_n 0, 1) := by decide +kernel
theorem dX8_sumByCounts_31 : decode cX8_sumByCounts 31 = .ok (.getfield 54, 3) := by decide +kernel
theorem dX8_sumByCounts_34 : decode cX8_sumByCounts 34 = .ok (.bipush 8, 2) := by decide +kernel
theorem dX8_sumByCounts_36 : decode cX8_sumByCounts 36 = .ok (.iload_n 3, 1) := by decide +kernel
theorem dX8_sumByCounts_37 : decode cX8_sumByCounts 37 = .ok (.bipush 8, 2) := by decide +kernel
theorem dX8_sumByCounts_39 : decode cX8_sumByCounts 39 = .ok (.idiv, 1) := by decide +kernel
theorem dX8_sumByCounts_40 : decode cX8_sumByCounts 40 = .ok (.bipush 8, 2) := by decide +kernel
theorem dX8_sumByCounts_42 : decode cX8_sumByCounts 42 = .ok (.irem, 1) := by decide +kernel
theorem dX8_sumByCounts_43 : decode cX8_sumByCounts 43 = .ok (.iadd, 1) := by decide +kernel
theorem dX8_sumByCounts_44 : decode cX8_sumByCounts 44 = .ok (.iaload, 1) := by decide +kernel
theorem dX8_sumByCounts_45 : decode cX8_sumByCounts 45 = .ok (.i2l, 1) := by decide +kernel
theorem dX8_sumByCounts_46 : decode cX8_sumByCounts 46 = .ok (.lmul, 1) := by decide +kernel
theorem dX8_sumByCounts_47 : decode cX8_sumByCounts 47 = .ok (.aload_n 0, 1) := by decide +kernel
theorem dX8_sumByCounts_48 : decode cX8_sumByCounts 48 = .ok (.getfield 54, 3) := by decide +kernel
theorem dX8_sumByCounts_51 : decode cX8_sumByCounts 51 = .ok (.bipush 16, 2) := by decide +kernel
theorem dX8_sumByCounts_53 : decode cX8_sumByCounts 53 = .ok (.iload_n 3, 1) := by decide +kernel
theorem dX8_sumByCounts_54 : decode cX8_sumByCounts 54 = .ok (.bipush 8, 2) := by decide +kernel
theorem dX8_sumByCounts_56 : decode cX8_sumByCounts 56 = .ok (.irem, 1) := by decide +kernel
theorem dX8_sumByCounts_57 : decode cX8_sumByCounts 57 = .ok (.iadd, 1) := by decide +kernel
theorem dX8_sumByCounts_58 : decode cX8_sumByCounts 58 = .ok (.iaload, 1) := by decide +kernel
theorem dX8_sumByCounts_59 : decode cX8_sumByCounts 59 = .ok (.i2l, 1) := by decide +kernel
theorem dX8_sumByCounts_60 : decode cX8_sumByCounts 60 = .ok (.lmul, 1) := by decide +kernel
theorem dX8_sumByCounts_61 : decode cX8_sumByCounts 61 = .ok (.ladd, 1) := by decide +kernel
theorem dX8_sumByCounts_62 : decode cX8_sumByCounts 62 = .ok (.lstore_n 1, 1) := by decide +kernel
theorem dX8_sumByCounts_63 : decode cX8_sumByCounts 63 = .ok (.iinc 3 1, 3) := by decide +kernel
theorem dX8_sumByCounts_66 : decode cX8_sumByCounts 66 = .ok (.goto (-62), 3) := by decide +kernel
theorem dX8_sumByCounts_69 : decode cX8_sumByCounts 69 = .ok (.lload_n 1, 1) := by decide +kernel
theorem dX8_sumByCounts_70 : decode cX8_sumByCounts 70 = .ok (.aload_n 0, 1) := by decide +kernel
theorem dX8_sumByCounts_71 : decode cX8_sumByCounts 71 = .ok (.getfield 31, 3) := by decide +kernel
theorem dX8_sumByCounts_74 : decode cX8_sumByCounts 74 = .ok (.i2l, 1) := by decide +kernel
theorem dX8_sumByCounts_75 : decode cX8_sumByCounts 75 = .ok (.lmul, 1) := by decide +kernel
theorem dX8_sumByCounts_76 : decode cX8_sumByCounts 76 = .ok (.lreturn, 1) := by decide +kernel
theorem dX8_change_0 : decode cX8_change 0 = .ok (.iload_n 1, 1) := by decide +kernel
theorem dX8_change_1 : decode cX8_change 1 = .ok (.invokestatic 85, 3) := by decide +kernel
theorem dX8_change_4 : decode cX8_change 4 = .ok (.ifCond .eq 28, 3) := by decide +kernel
theorem dX8_change_7 : decode cX8_change 7 = .ok (.iload_n 2, 1) := by decide +kernel
theorem dX8_change_8 : decode cX8_change 8 = .ok (.i2l, 1) := by decide +kernel
theorem dX8_change_9 : decode cX8_change 9 = .ok (.lconst 0, 1) := by decide +kernel
theorem dX8_change_10 : decode cX8_change 10 = .ok (.ldc2_w 170, 3) := by decide +kernel
theorem dX8_change_13 : decode cX8_change 13 = .ok (.invokestatic 81, 3) := by decide +kernel
theorem dX8_change_16 : decode cX8_change 16 = .ok (.ifCond .eq 16, 3) := by decide +kernel
theorem dX8_change_19 : decode cX8_change 19 = .ok (.iload_n 3, 1) := by decide +kernel
theorem dX8_change_20 : decode cX8_change 20 = .ok (.i2l, 1) := by decide +kernel
theorem dX8_change_21 : decode cX8_change 21 = .ok (.iload_n 2, 1) := by decide +kernel
theorem dX8_change_22 : decode cX8_change 22 = .ok (.i2l, 1) := by decide +kernel
theorem dX8_change_23 : decode cX8_change 23 = .ok (.ldc2_w 170, 3) := by decide +kernel
theorem dX8_change_26 : decode cX8_change 26 = .ok (.invokestatic 81, 3) := by decide +kernel
theorem dX8_change_29 : decode cX8_change 29 = .ok (.ifCond .ne 6, 3) := by decide +kernel
theorem dX8_change_32 : decode cX8_change 32 = .ok (.bipush (-2), 2) := by decide +kernel
theorem dX8_change_34 : decode cX8_change 34 = .ok (.ireturn, 1) := by decide +kernel
theorem dX8_change_35 : decode cX8_change 35 = .ok (.aload_n 0, 1) := by decide +kernel
theorem dX8_change_36 : decode cX8_change 36 = .ok (.invokevirtual 139, 3) := by decide +kernel
theorem dX8_change_39 : decode cX8_change 39 = .ok (.iconst 0, 1) := by decide +kernel
theorem dX8_change_40 : decode cX8_change 40 = .ok (.istore 4, 2) := by decide +kernel
theorem dX8_change_42 : decode cX8_change 42 = .ok (.iload 4, 2) := by decide +kernel
theorem dX8_change_44 : decode cX8_change 44 = .ok (.bipush 24, 2) := by decide +kernel
theorem dX8_change_46 : decode cX8_change 46 = .ok (.if_icmp .ge 30, 3) := by decide +kernel
theorem dX8_change_49 : decode cX8_change 49 = .ok (.aload_n 0, 1) := by decide +kernel
theorem dX8_change_50 : decode cX8_change 50 = .ok (.getfield 54, 3) := by decide +kernel
theorem dX8_change_53 : decode cX8_change 53 = .ok (.iload 4, 2) := by decide +kernel
theorem dX8_change_55 : decode cX8_change 55 = .ok (.aload_n 0, 1) := by decide +kernel
theorem dX8_change_56 : decode cX8_change 56 = .ok (.iload 4, 2) := by decide +kernel
theorem dX8_change_58 : decode cX8_change 58 = .ok (.bipush 8, 2) := by decide +kernel
theorem dX8_change_60 : decode cX8_change 60 = .ok (.idiv, 1) := by decide +kernel
theorem dX8_change_61 : decode cX8_change 61 = .ok (.iload 4, 2) := by decide +kernel
theorem dX8_change_63 : decode cX8_change 63 = .ok (.bipush 8, 2) := by decide +kernel
theorem dX8_change_65 : decode cX8_change 65 = .ok (.irem, 1) := by decide +kernel
theorem dX8_change_66 : decode cX8_change 66 = .ok (.invokevirtual 161, 3) := by decide +kernel
theorem dX8_change_69 : decode cX8_change 69 = .ok (.iastore, 1) := by decide +kernel
theorem dX8_change_70 : decode cX8_change 70 = .ok (.iinc 4 1, 3) := by decide +kernel
theorem dX8_change_73 : decode cX8_change 73 = .ok (.goto (-31), 3) := by decide +kernel
theorem dX8_change_76 : decode cX8_change 76 = .ok (.iconst 0, 1) := by decide +kernel
theorem dX8_change_77 : decode cX8_change 77 = .ok (.istore 4, 2) := by decide +kernel
theorem dX8_change_79 : decode cX8_change 79 = .ok (.iload 4, 2) := by decide +kernel
theorem dX8_change_81 : decode cX8_change 81 = .ok (.aload_n 0, 1) := by decide +kernel
theorem dX8_change_82 : decode cX8_change 82 = .ok (.getfield 7, 3) := by decide +kernel
theorem dX8_change_85 : decode cX8_change 85 = .ok (.iload_n 1, 1) := by decide +kernel
theorem dX8_change_86 : decode cX8_change 86 = .ok (.iaload, 1) := by decide +kernel
theorem dX8_change_87 : decode cX8_change 87 = .ok (.if_icmp .ge 153, 3) := by decide +kernel
theorem dX8_change_90 : decode cX8_change 90 = .ok (.aload_n 0, 1) := by decide +kernel
theorem dX8_change_91 : decode cX8_change 91 = .ok (.getfield 13, 3) := by decide +kernel
theorem dX8_change_94 : decode cX8_change 94 = .ok (.bipush 20, 2) := by decide +kernel
theorem dX8_change_96 : decode cX8_change 96 = .ok (.iload_n 1, 1) := by decide +kernel
theorem dX8_change_97 : decode cX8_change 97 = .ok (.imul, 1) := by decide +kernel
theorem dX8_change_98 : decode cX8_change 98 = .ok (.iload 4, 2) := by decide +kernel
theorem dX8_change_100 : decode cX8_change 100 = .ok (.iadd, 1) := by decide +kernel
theorem dX8_change_101 : decode cX8_change 101 = .ok (.iaload, 1) := by decide +kernel
theorem dX8_change_102 : decode cX8_change 102 = .ok (.istore 5, 2) := by decide +kernel
theorem dX8_change_104 : decode cX8_change 104 = .ok (.iconst 0, 1) := by decide +kernel
theorem dX8_change_105 : decode cX8_change 105 = .ok (.istore 6, 2) := by decide +kernel
theorem dX8_change_107 : decode cX8_change 107 = .ok (.iload 6, 2) := by decide +kernel
theorem dX8_change_109 : decode cX8_change 109 = .ok (.bipush 8, 2) := by decide +kernel
theorem dX8_change_111 : decode cX8_change 111 = .ok (.if_icmp .ge 123, 3) := by decide +kernel
theorem dX8_change_114 : decode cX8_change 114 = .ok (.aload_n 0, 1) := by decide +kernel
theorem dX8_change_115 : decode cX8_change 115 = .ok (.getfield 54, 3) := by decide +kernel
theorem dX8_change_118 : decode cX8_change 118 = .ok (.bipush 8, 2) := by decide +kernel
theorem dX8_change_120 : decode cX8_change 120 = .ok (.iload_n 1, 1) := by decide +kernel
theorem dX8_change_121 : decode cX8_change 121 = .ok (.imul, 1) := by decide +kernel
theorem dX8_change_122 : decode cX8_change 122 = .ok (.iload 5, 2) := by decide +kernel
theorem dX8_change_124 : decode cX8_change 124 = .ok (.iadd, 1) := by decide +kernel
theorem dX8_change_125 : decode cX8_change 125 = .ok (.dup2, 1) := by decide +kernel
theorem dX8_change_126 : decode cX8_change 126 = .ok (.iaload, 1) := by decide +kernel
theorem dX8_change_127 : decode cX8_change 127 = .ok (.iconst 1, 1) := by decide +kernel
theorem dX8_change_128 : decode cX8_change 128 = .ok (.isub, 1) := by decide +kernel
theorem dX8_change_129 : decode cX8_change 129 = .ok (.iastore, 1) := by decide +kernel
theorem dX8_change_130 : decode cX8_change 130 = .ok (.aload_n 0, 1) := by decide +kernel
theorem dX8_change_131 : decode cX8_change 131 = .ok (.getfield 54, 3) := by decide +kernel
theorem dX8_change_134 : decode cX8_change 134 = .ok (.bipush 8, 2) := by decide +kernel
theorem dX8_change_136 : decode cX8_change 136 = .ok (.iload_n 1, 1) := by decide +kernel
theorem dX8_change_137 : decode cX8_change 137 = .ok (.imul, 1) := by decide +kernel
theorem dX8_change_138 : decode cX8_change 138 = .ok (.iload 6, 2) := by decide +kernel
theorem dX8_change_140 : decode cX8_change 140 = .ok (.iadd, 1) := by decide +kernel
theorem dX8_change_141 : decode cX8_change 141 = .ok (.dup2, 1) := by decide +kernel
theorem dX8_change_142 : decode cX8_change 142 = .ok (.iaload, 1) := by decide +kernel
theorem dX8_change_143 : decode cX8_change 143 = .ok (.iconst 1, 1) := by decide +kernel
theorem dX8_change_144 : decode cX8_change 144 = .ok (.iadd, 1) := by decide +kernel
theorem dX8_change_145 : decode cX8_change 145 = .ok (.iastore, 1) := by decide +kernel
theorem dX8_change_146 : decode cX8_change 146 = .ok (.aload_n 0, 1) := by decide +kernel
theorem dX8_change_147 : decode cX8_change 147 = .ok (.invokevirtual 172, 3) := by decide +kernel
theorem dX8_change_150 : decode cX8_change 150 = .ok (.ldc2_w 153, 3) := by decide +kernel
theorem dX8_change_153 : decode cX8_change 153 = .ok (.lmul, 1) := by decide +kernel
theorem dX8_change_154 : decode cX8_change 154 = .ok (.aload_n 0, 1) := by decide +kernel
theorem dX8_change_155 : decode cX8_change 155 = .ok (.invokevirtual 149, 3) := by decide +kernel
theorem dX8_change_158 : decode cX8_change 158 = .ok (.i2l, 1) := by decide +kernel
theorem dX8_change_159 : decode cX8_change 159 = .ok (.aload_n 0, 1) := by decide +kernel
theorem dX8_change_160 : decode cX8_change 160 = .ok (.getfield 31, 3) := by decide +kernel
theorem dX8_change_163 : decode cX8_change 163 = .ok (.i2l, 1) := by decide +kernel
theorem dX8_change_164 : decode cX8_change 164 = .ok (.lmul, 1) := by decide +kernel
theorem dX8_change_165 : decode cX8_change 165 = .ok (.ldiv, 1) := by decide +kernel
theorem dX8_change_166 : decode cX8_change 166 = .ok (.lstore 7, 2) := by decide +kernel
theorem dX8_change_168 : decode cX8_change 168 = .ok (.aload_n 0, 1) := by decide +kernel
theorem dX8_change_169 : decode cX8_change 169 = .ok (.getfield 54, 3) := by decide +kernel
theorem dX8_change_172 : decode cX8_change 172 = .ok (.bipush 8, 2) := by decide +kernel
theorem dX8_change_174 : decode cX8_change 174 = .ok (.iload_n 1, 1) := by decide +kernel
theorem dX8_change_175 : decode cX8_change 175 = .ok (.imul, 1) := by decide +kernel
theorem dX8_change_176 : decode cX8_change 176 = .ok (.iload 5, 2) := by decide +kernel
theorem dX8_change_178 : decode cX8_change 178 = .ok (.iadd, 1) := by decide +kernel
theorem dX8_change_179 : decode cX8_change 179 = .ok (.dup2, 1) := by decide +kernel
theorem dX8_change_180 : decode cX8_change 180 = .ok (.iaload, 1) := by decide +kernel
theorem dX8_change_181 : decode cX8_change 181 = .ok (.iconst 1, 1) := by decide +kernel
theorem dX8_change_182 : decode cX8_change 182 = .ok (.iadd, 1) := by decide +kernel
theorem dX8_change_183 : decode cX8_change 183 = .ok (.iastore, 1) := by decide +kernel
theorem dX8_change_184 : decode cX8_change 184 = .ok (.aload_n 0, 1) := by decide +kernel
theorem dX8_change_185 : decode cX8_change 185 = .ok (.getfield 54, 3) := by decide +kernel
theorem dX8_change_188 : decode cX8_change 188 = .ok (.bipush 8, 2) := by decide +kernel
theorem dX8_change_190 : decode cX8_change 190 = .ok (.iload_n 1, 1) := by decide +kernel
theorem dX8_change_191 : decode cX8_change 191 = .ok (.imul, 1) := by decide +kernel
theorem dX8_change_192 : decode cX8_change 192 = .ok (.iload 6, 2) := by decide +kernel
theorem dX8_change_194 : decode cX8_change 194 = .ok (.iadd, 1) := by decide +kernel
theorem dX8_change_195 : decode cX8_change 195 = .ok (.dup2, 1) := by decide +kernel
theorem dX8_change_196 : decode cX8_change 196 = .ok (.iaload, 1) := by decide +kernel
theorem dX8_change_197 : decode cX8_change 197 = .ok (.iconst 1, 1) := by decide +kernel
theorem dX8_change_198 : decode cX8_change 198 = .ok (.isub, 1) := by decide +kernel
theorem dX8_change_199 : decode cX8_change 199 = .ok (.iastore, 1) := by decide +kernel
theorem dX8_change_200 : decode cX8_change 200 = .ok (.iload 6, 2) := by decide +kernel
theorem dX8_change_202 : decode cX8_change 202 = .ok (.iload 5, 2) := by decide +kernel
theorem dX8_change_204 : decode cX8_change 204 = .ok (.if_icmp .eq 24, 3) := by decide +kernel
theorem dX8_change_207 : decode cX8_change 207 = .ok (.lload 7, 2) := by decide +kernel
theorem dX8_change_209 : decode cX8_change 209 = .ok (.iload_n 2, 1) := by decide +kernel
theorem dX8_change_210 : decode cX8_change 210 = .ok (.i2l, 1) := by decide +kernel
theorem dX8_change_211 : decode cX8_change 211 = .ok (.iload_n 3, 1) := by decide +kernel
theorem dX8_change_212 : decode cX8_change 212 = .ok (.i2l, 1) := by decide +kernel
theorem dX8_change_213 : decode cX8_change 213 = .ok (.invokestatic 81, 3) := by decide +kernel
theorem dX8_change_216 : decode cX8_change 216 = .ok (.ifCond .eq 12, 3) := by decide +kernel
theorem dX8_change_219 : decode cX8_change 219 = .ok (.bipush 10, 2) := by decide +kernel
theorem dX8_change_221 : decode cX8_change 221 = .ok (.iload 4, 2) := by decide +kernel
theorem dX8_change_223 : decode cX8_change 223 = .ok (.imul, 1) := by decide +kernel
theorem dX8_change_224 : decode cX8_change 224 = .ok (.iload 6, 2) := by decide +kernel
theorem dX8_change_226 : decode cX8_change 226 = .ok (.iadd, 1) := by decide +kernel
theorem dX8_change_227 : decode cX8_change 227 = .ok (.ireturn, 1) := by decide +kernel
theorem dX8_change_228 : decode cX8_change 228 = .ok (.iinc 6 1, 3) := by decide +kernel
theorem dX8_change_231 : decode cX8_change 231 = .ok (.goto (-124), 3) := by decide +kernel
theorem dX8_change_234 : decode cX8_change 234 = .ok (.iinc 4 1, 3) := by decide +kernel
theorem dX8_change_237 : decode cX8_change 237 = .ok (.goto (-158), 3) := by decide +kernel
theorem dX8_change_240 : decode cX8_change 240 = .ok (.iconst (-1), 1) := by decide +kernel
theorem dX8_change_241 : decode cX8_change 241 = .ok (.ireturn, 1) := by decide +kernel
theorem dX8_room_0 : decode cX8_room 0 = .ok (.iload_n 1, 1) := by decide +kernel
theorem dX8_room_1 : decode cX8_room 1 = .ok (.i2l, 1) := by decide +kernel
theorem dX8_room_2 : decode cX8_room 2 = .ok (.lconst 1, 1) := by decide +kernel
theorem dX8_room_3 : decode cX8_room 3 = .ok (.ldc2_w 175, 3) := by decide +kernel
theorem dX8_room_6 : decode cX8_room 6 = .ok (.invokestatic 81, 3) := by decide +kernel
theorem dX8_room_9 : decode cX8_room 9 = .ok (.ifCond .ne 6, 3) := by decide +kernel
theorem dX8_room_12 : decode cX8_room 12 = .ok (.bipush (-2), 2) := by decide +kernel
theorem dX8_room_14 : decode cX8_room 14 = .ok (.ireturn, 1) := by decide +kernel
theorem dX8_room_15 : decode cX8_room 15 = .ok (.aload_n 0, 1) := by decide +kernel
theorem dX8_room_16 : decode cX8_room 16 = .ok (.getfield 177, 3) := by decide +kernel
theorem dX8_room_19 : decode cX8_room 19 = .ok (.iload_n 1, 1) := by decide +kernel
theorem dX8_room_20 : decode cX8_room 20 = .ok (.if_icmp .le 6, 3) := by decide +kernel
theorem dX8_room_23 : decode cX8_room 23 = .ok (.bipush (-3), 2) := by decide +kernel
theorem dX8_room_25 : decode cX8_room 25 = .ok (.ireturn, 1) := by decide +kernel
theorem dX8_room_26 : decode cX8_room 26 = .ok (.aload_n 0, 1) := by decide +kernel
theorem dX8_room_27 : decode cX8_room 27 = .ok (.getfield 57, 3) := by decide +kernel
theorem dX8_room_30 : decode cX8_room 30 = .ok (.istore_n 2, 1) := by decide +kernel
theorem dX8_room_31 : decode cX8_room 31 = .ok (.aload_n 0, 1) := by decide +kernel
theorem dX8_room_32 : decode cX8_room 32 = .ok (.iload_n 1, 1) := by decide +kernel
theorem dX8_room_33 : decode cX8_room 33 = .ok (.putfield 57, 3) := by decide +kernel
theorem dX8_room_36 : decode cX8_room 36 = .ok (.iload_n 2, 1) := by decide +kernel
theorem dX8_room_37 : decode cX8_room 37 = .ok (.ireturn, 1) := by decide +kernel
theorem dX8_fill_0 : decode cX8_fill 0 = .ok (.iload_n 1, 1) := by decide +kernel
theorem dX8_fill_1 : decode cX8_fill 1 = .ok (.i2l, 1) := by decide +kernel
theorem dX8_fill_2 : decode cX8_fill 2 = .ok (.lconst 0, 1) := by decide +kernel
theorem dX8_fill_3 : decode cX8_fill 3 = .ok (.ldc2_w 175, 3) := by decide +kernel
theorem dX8_fill_6 : decode cX8_fill 6 = .ok (.invokestatic 81, 3) := by decide +kernel
theorem dX8_fill_9 : decode cX8_fill 9 = .ok (.ifCond .ne 6, 3) := by decide +kernel
theorem dX8_fill_12 : decode cX8_fill 12 = .ok (.bipush (-2), 2) := by decide +kernel
theorem dX8_fill_14 : decode cX8_fill 14 = .ok (.ireturn, 1) := by decide +kernel
theorem dX8_fill_15 : decode cX8_fill 15 = .ok (.aload_n 0, 1) := by decide +kernel
theorem dX8_fill_16 : decode cX8_fill 16 = .ok (.getfield 177, 3) := by decide +kernel
theorem dX8_fill_19 : decode cX8_fill 19 = .ok (.iload_n 1, 1) := by decide +kernel
theorem dX8_fill_20 : decode cX8_fill 20 = .ok (.iadd, 1) := by decide +kernel
theorem dX8_fill_21 : decode cX8_fill 21 = .ok (.aload_n 0, 1) := by decide +kernel
theorem dX8_fill_22 : decode cX8_fill 22 = .ok (.getfield 57, 3) := by decide +kernel
theorem dX8_fill_25 : decode cX8_fill 25 = .ok (.if_icmp .le 6, 3) := by decide +kernel
theorem dX8_fill_28 : decode cX8_fill 28 = .ok (.bipush (-3), 2) := by decide +kernel
theorem dX8_fill_30 : decode cX8_fill 30 = .ok (.ireturn, 1) := by decide +kernel
theorem dX8_fill_31 : decode cX8_fill 31 = .ok (.aload_n 0, 1) := by decide +kernel
theorem dX8_fill_32 : decode cX8_fill 32 = .ok (.dup, 1) := by decide +kernel
theorem dX8_fill_33 : decode cX8_fill 33 = .ok (.getfield 177, 3) := by decide +kernel
theorem dX8_fill_36 : decode cX8_fill 36 = .ok (.iload_n 1, 1) := by decide +kernel
theorem dX8_fill_37 : decode cX8_fill 37 = .ok (.iadd, 1) := by decide +kernel
theorem dX8_fill_38 : decode cX8_fill 38 = .ok (.putfield 177, 3) := by decide +kernel
theorem dX8_fill_41 : decode cX8_fill 41 = .ok (.aload_n 0, 1) := by decide +kernel
theorem dX8_fill_42 : decode cX8_fill 42 = .ok (.dup, 1) := by decide +kernel
theorem dX8_fill_43 : decode cX8_fill 43 = .ok (.getfield 180, 3) := by decide +kernel
theorem dX8_fill_46 : decode cX8_fill 46 = .ok (.iload_n 1, 1) := by decide +kernel
theorem dX8_fill_47 : decode cX8_fill 47 = .ok (.iadd, 1) := by decide +kernel
theorem dX8_fill_48 : decode cX8_fill 48 = .ok (.putfield 180, 3) := by decide +kernel
theorem dX8_fill_51 : decode cX8_fill 51 = .ok (.aload_n 0, 1) := by decide +kernel
theorem dX8_fill_52 : decode cX8_fill 52 = .ok (.getfield 177, 3) := by decide +kernel
theorem dX8_fill_55 : decode cX8_fill 55 = .ok (.ireturn, 1) := by decide +kernel
theorem dX8_play_0 : decode cX8_play 0 = .ok (.aload_n 0, 1) := by decide +kernel
theorem dX8_play_1 : decode cX8_play 1 = .ok (.iload_n 1, 1) := by decide +kernel
theorem dX8_play_2 : decode cX8_play 2 = .ok (.iload_n 2, 1) := by decide +kernel
theorem dX8_play_3 : decode cX8_play 3 = .ok (.iload_n 3, 1) := by decide +kernel
theorem dX8_play_4 : decode cX8_play 4 = .ok (.invokevirtual 135, 3) := by decide +kernel
theorem dX8_play_7 : decode cX8_play 7 = .ok (.ifCond .ne 6, 3) := by decide +kernel
theorem dX8_play_10 : decode cX8_play 10 = .ok (.bipush (-2), 2) := by decide +kernel
theorem dX8_play_12 : decode cX8_play 12 = .ok (.ireturn, 1) := by decide +kernel
theorem dX8_play_13 : decode cX8_play 13 = .ok (.aload_n 0, 1) := by decide +kernel
theorem dX8_play_14 : decode cX8_play 14 = .ok (.invokevirtual 139, 3) := by decide +kernel
theorem dX8_play_17 : decode cX8_play 17 = .ok (.iconst 0, 1) := by decide +kernel
theorem dX8_play_18 : decode cX8_play 18 = .ok (.istore 4, 2) := by decide +kernel
theorem dX8_play_20 : decode cX8_play 20 = .ok (.iload 4, 2) := by decide +kernel
theorem dX8_play_22 : decode cX8_play 22 = .ok (.aload_n 0, 1) := by decide +kernel
theorem dX8_play_23 : decode cX8_play 23 = .ok (.getfield 31, 3) := by decide +kernel
theorem dX8_play_26 : decode cX8_play 26 = .ok (.if_icmp .ge 43, 3) := by decide +kernel
theorem dX8_play_29 : decode cX8_play 29 = .ok (.aload_n 0, 1) := by decide +kernel
theorem dX8_play_30 : decode cX8_play 30 = .ok (.getfield 177, 3) := by decide +kernel
theorem dX8_play_33 : decode cX8_play 33 = .ok (.aload_n 0, 1) := by decide +kernel
theorem dX8_play_34 : decode cX8_play 34 = .ok (.getfield 57, 3) := by decide +kernel
theorem dX8_play_37 : decode cX8_play 37 = .ok (.if_icmp .ge 16, 3) := by decide +kernel
theorem dX8_play_40 : decode cX8_play 40 = .ok (.aload_n 0, 1) := by decide +kernel
theorem dX8_play_41 : decode cX8_play 41 = .ok (.dup, 1) := by decide +kernel
theorem dX8_play_42 : decode cX8_play 42 = .ok (.getfield 177, 3) := by decide +kernel
theorem dX8_play_45 : decode cX8_play 45 = .ok (.iconst 1, 1) := by decide +kernel
theorem dX8_play_46 : decode cX8_play 46 = .ok (.iadd, 1) := by decide +kernel
theorem dX8_play_47 : decode cX8_play 47 = .ok (.putfield 177, 3) := by decide +kernel
theorem dX8_play_50 : decode cX8_play 50 = .ok (.goto 13, 3) := by decide +kernel
theorem dX8_play_53 : decode cX8_play 53 = .ok (.aload_n 0, 1) := by decide +kernel
theorem dX8_play_54 : decode cX8_play 54 = .ok (.dup, 1) := by decide +kernel
theorem dX8_play_55 : decode cX8_play 55 = .ok (.getfield 183, 3) := by decide +kernel
theorem dX8_play_58 : decode cX8_play 58 = .ok (.iconst 1, 1) := by decide +kernel
theorem dX8_play_59 : decode cX8_play 59 = .ok (.iadd, 1) := by decide +kernel
theorem dX8_play_60 : decode cX8_play 60 = .ok (.putfield 183, 3) := by decide +kernel
theorem dX8_play_63 : decode cX8_play 63 = .ok (.iinc 4 1, 3) := by decide +kernel
theorem dX8_play_66 : decode cX8_play 66 = .ok (.goto (-46), 3) := by decide +kernel
theorem dX8_play_69 : decode cX8_play 69 = .ok (.aload_n 0, 1) := by decide +kernel
theorem dX8_play_70 : decode cX8_play 70 = .ok (.dup, 1) := by decide +kernel
theorem dX8_play_71 : decode cX8_play 71 = .ok (.getfield 186, 3) := by decide +kernel
theorem dX8_play_74 : decode cX8_play 74 = .ok (.aload_n 0, 1) := by decide +kernel
theorem dX8_play_75 : decode cX8_play 75 = .ok (.getfield 31, 3) := by decide +kernel
theorem dX8_play_78 : decode cX8_play 78 = .ok (.iadd, 1) := by decide +kernel
theorem dX8_play_79 : decode cX8_play 79 = .ok (.putfield 186, 3) := by decide +kernel
theorem dX8_play_82 : decode cX8_play 82 = .ok (.aload_n 0, 1) := by decide +kernel
theorem dX8_play_83 : decode cX8_play 83 = .ok (.getfield 38, 3) := by decide +kernel
theorem dX8_play_86 : decode cX8_play 86 = .ok (.iload_n 1, 1) := by decide +kernel
theorem dX8_play_87 : decode cX8_play 87 = .ok (.iload_n 2, 1) := by decide +kernel
theorem dX8_play_88 : decode cX8_play 88 = .ok (.iload_n 3, 1) := by decide +kernel
theorem dX8_play_89 : decode cX8_play 89 = .ok (.invokestatic 132, 3) := by decide +kernel
theorem dX8_play_92 : decode cX8_play 92 = .ok (.iaload, 1) := by decide +kernel
theorem dX8_play_93 : decode cX8_play 93 = .ok (.istore 4, 2) := by decide +kernel
theorem dX8_play_95 : decode cX8_play 95 = .ok (.iload 4, 2) := by decide +kernel
theorem dX8_play_97 : decode cX8_play 97 = .ok (.aload_n 0, 1) := by decide +kernel
theorem dX8_play_98 : decode cX8_play 98 = .ok (.getfield 177, 3) := by decide +kernel
theorem dX8_play_101 : decode cX8_play 101 = .ok (.if_icmp .ge 8, 3) := by decide +kernel
theorem dX8_play_104 : decode cX8_play 104 = .ok (.iload 4, 2) := by decide +kernel
theorem dX8_play_106 : decode cX8_play 106 = .ok (.goto 7, 3) := by decide +kernel
theorem dX8_play_109 : decode cX8_play 109 = .ok (.aload_n 0, 1) := by decide +kernel
theorem dX8_play_110 : decode cX8_play 110 = .ok (.getfield 177, 3) := by decide +kernel
theorem dX8_play_113 : decode cX8_play 113 = .ok (.istore 5, 2) := by decide +kernel
theorem dX8_play_115 : decode cX8_play 115 = .ok (.aload_n 0, 1) := by decide +kernel
theorem dX8_play_116 : decode cX8_play 116 = .ok (.dup, 1) := by decide +kernel
theorem dX8_play_117 : decode cX8_play 117 = .ok (.getfield 177, 3) := by decide +kernel
theorem dX8_play_120 : decode cX8_play 120 = .ok (.iload 5, 2) := by decide +kernel
theorem dX8_play_122 : decode cX8_play 122 = .ok (.isub, 1) := by decide +kernel
theorem dX8_play_123 : decode cX8_play 123 = .ok (.putfield 177, 3) := by decide +kernel
theorem dX8_play_126 : decode cX8_play 126 = .ok (.aload_n 0, 1) := by decide +kernel
theorem dX8_play_127 : decode cX8_play 127 = .ok (.dup, 1) := by decide +kernel
theorem dX8_play_128 : decode cX8_play 128 = .ok (.getfield 189, 3) := by decide +kernel
theorem dX8_play_131 : decode cX8_play 131 = .ok (.iload 5, 2) := by decide +kernel
theorem dX8_play_133 : decode cX8_play 133 = .ok (.iadd, 1) := by decide +kernel
theorem dX8_play_134 : decode cX8_play 134 = .ok (.putfield 189, 3) := by decide +kernel
theorem dX8_play_137 : decode cX8_play 137 = .ok (.aload_n 0, 1) := by decide +kernel
theorem dX8_play_138 : decode cX8_play 138 = .ok (.dup, 1) := by decide +kernel
theorem dX8_play_139 : decode cX8_play 139 = .ok (.getfield 192, 3) := by decide +kernel
theorem dX8_play_142 : decode cX8_play 142 = .ok (.iload 4, 2) := by decide +kernel
theorem dX8_play_144 : decode cX8_play 144 = .ok (.iload 5, 2) := by decide +kernel
theorem dX8_play_146 : decode cX8_play 146 = .ok (.isub, 1) := by decide +kernel
theorem dX8_play_147 : decode cX8_play 147 = .ok (.iadd, 1) := by decide +kernel
theorem dX8_play_148 : decode cX8_play 148 = .ok (.putfield 192, 3) := by decide +kernel
theorem dX8_play_151 : decode cX8_play 151 = .ok (.aload_n 0, 1) := by decide +kernel
theorem dX8_play_152 : decode cX8_play 152 = .ok (.getfield 93, 3) := by decide +kernel
theorem dX8_play_155 : decode cX8_play 155 = .ok (.sipush 200, 3) := by decide +kernel
theorem dX8_play_158 : decode cX8_play 158 = .ok (.if_icmp .ge 53, 3) := by decide +kernel
theorem dX8_play_161 : decode cX8_play 161 = .ok (.aload_n 0, 1) := by decide +kernel
theorem dX8_play_162 : decode cX8_play 162 = .ok (.getfield 60, 3) := by decide +kernel
theorem dX8_play_165 : decode cX8_play 165 = .ok (.iconst 3, 1) := by decide +kernel
theorem dX8_play_166 : decode cX8_play 166 = .ok (.aload_n 0, 1) := by decide +kernel
theorem dX8_play_167 : decode cX8_play 167 = .ok (.getfield 93, 3) := by decide +kernel
theorem dX8_play_170 : decode cX8_play 170 = .ok (.imul, 1) := by decide +kernel
theorem dX8_play_171 : decode cX8_play 171 = .ok (.iload_n 1, 1) := by decide +kernel
theorem dX8_play_172 : decode cX8_play 172 = .ok (.iastore, 1) := by decide +kernel
theorem dX8_play_173 : decode cX8_play 173 = .ok (.aload_n 0, 1) := by decide +kernel
theorem dX8_play_174 : decode cX8_play 174 = .ok (.getfield 60, 3) := by decide +kernel
theorem dX8_play_177 : decode cX8_play 177 = .ok (.iconst 3, 1) := by decide +kernel
theorem dX8_play_178 : decode cX8_play 178 = .ok (.aload_n 0, 1) := by decide +kernel
theorem dX8_play_179 : decode cX8_play 179 = .ok (.getfield 93, 3) := by decide +kernel
theorem dX8_play_182 : decode cX8_play 182 = .ok (.imul, 1) := by decide +kernel
theorem dX8_play_183 : decode cX8_play 183 = .ok (.iconst 1, 1) := by decide +kernel
theorem dX8_play_184 : decode cX8_play 184 = .ok (.iadd, 1) := by decide +kernel
theorem dX8_play_185 : decode cX8_play 185 = .ok (.iload_n 2, 1) := by decide +kernel
theorem dX8_play_186 : decode cX8_play 186 = .ok (.iastore, 1) := by decide +kernel
theorem dX8_play_187 : decode cX8_play 187 = .ok (.aload_n 0, 1) := by decide +kernel
theorem dX8_play_188 : decode cX8_play 188 = .ok (.getfield 60, 3) := by decide +kernel
theorem dX8_play_191 : decode cX8_play 191 = .ok (.iconst 3, 1) := by decide +kernel
theorem dX8_play_192 : decode cX8_play 192 = .ok (.aload_n 0, 1) := by decide +kernel
theorem dX8_play_193 : decode cX8_play 193 = .ok (.getfield 93, 3) := by decide +kernel
theorem dX8_play_196 : decode cX8_play 196 = .ok (.imul, 1) := by decide +kernel
theorem dX8_play_197 : decode cX8_play 197 = .ok (.iconst 2, 1) := by decide +kernel
theorem dX8_play_198 : decode cX8_play 198 = .ok (.iadd, 1) := by decide +kernel
theorem dX8_play_199 : decode cX8_play 199 = .ok (.iload_n 3, 1) := by decide +kernel
theorem dX8_play_200 : decode cX8_play 200 = .ok (.iastore, 1) := by decide +kernel
theorem dX8_play_201 : decode cX8_play 201 = .ok (.aload_n 0, 1) := by decide +kernel
theorem dX8_play_202 : decode cX8_play 202 = .ok (.dup, 1) := by decide +kernel
theorem dX8_play_203 : decode cX8_play 203 = .ok (.getfield 93, 3) := by decide +kernel
theorem dX8_play_206 : decode cX8_play 206 = .ok (.iconst 1, 1) := by decide +kernel
theorem dX8_play_207 : decode cX8_play 207 = .ok (.iadd, 1) := by decide +kernel
theorem dX8_play_208 : decode cX8_play 208 = .ok (.putfield 93, 3) := by decide +kernel
theorem dX8_play_211 : decode cX8_play 211 = .ok (.iload 4, 2) := by decide +kernel
theorem dX8_play_213 : decode cX8_play 213 = .ok (.ireturn, 1) := by decide +kernel
theorem dX8_coins_0 : decode cX8_coins 0 = .ok (.iload_n 1, 1) := by decide +kernel
theorem dX8_coins_1 : decode cX8_coins 1 = .ok (.tableswitch 87 0 7 #[47, 52, 57, 62, 67, 72, 77, 82], 47) := by decide +kernel
theorem dX8_coins_48 : decode cX8_coins 48 = .ok (.aload_n 0, 1) := by decide +kernel
theorem dX8_coins_49 : decode cX8_coins 49 = .ok (.getfield 177, 3) := by decide +kernel
theorem dX8_coins_52 : decode cX8_coins 52 = .ok (.ireturn, 1) := by decide +kernel
theorem dX8_coins_53 : decode cX8_coins 53 = .ok (.aload_n 0, 1) := by decide +kernel
theorem dX8_coins_54 : decode cX8_coins 54 = .ok (.getfield 183, 3) := by decide +kernel
theorem dX8_coins_57 : decode cX8_coins 57 = .ok (.ireturn, 1) := by decide +kernel
theorem dX8_coins_58 : decode cX8_coins 58 = .ok (.aload_n 0, 1) := by decide +kernel
theorem dX8_coins_59 : decode cX8_coins 59 = .ok (.getfield 186, 3) := by decide +kernel
theorem dX8_coins_62 : decode cX8_coins 62 = .ok (.ireturn, 1) := by decide +kernel
theorem dX8_coins_63 : decode cX8_coins 63 = .ok (.aload_n 0, 1) := by decide +kernel
theorem dX8_coins_64 : decode cX8_coins 64 = .ok (.getfield 189, 3) := by decide +kernel
theorem dX8_coins_67 : decode cX8_coins 67 = .ok (.ireturn, 1) := by decide +kernel
theorem dX8_coins_68 : decode cX8_coins 68 = .ok (.aload_n 0, 1) := by decide +kernel
theorem dX8_coins_69 : decode cX8_coins 69 = .ok (.getfield 192, 3) := by decide +kernel
theorem dX8_coins_72 : decode cX8_coins 72 = .ok (.ireturn, 1) := by decide +kernel
theorem dX8_coins_73 : decode cX8_coins 73 = .ok (.aload_n 0, 1) := by decide +kernel
theorem dX8_coins_74 : decode cX8_coins 74 = .ok (.getfield 180, 3) := by decide +kernel
theorem dX8_coins_77 : decode cX8_coins 77 = .ok (.ireturn, 1) := by decide +kernel
theorem dX8_coins_78 : decode cX8_coins 78 = .ok (.aload_n 0, 1) := by decide +kernel
theorem dX8_coins_79 : decode cX8_coins 79 = .ok (.getfield 93, 3) := by decide +kernel
theorem dX8_coins_82 : decode cX8_coins 82 = .ok (.ireturn, 1) := by decide +kernel
theorem dX8_coins_83 : decode cX8_coins 83 = .ok (.aload_n 0, 1) := by decide +kernel
theorem dX8_coins_84 : decode cX8_coins 84 = .ok (.getfield 57, 3) := by decide +kernel
theorem dX8_coins_87 : decode cX8_coins 87 = .ok (.ireturn, 1) := by decide +kernel
theorem dX8_coins_88 : decode cX8_coins 88 = .ok (.bipush (-2), 2) := by decide +kernel
theorem dX8_coins_90 : decode cX8_coins 90 = .ok (.ireturn, 1) := by decide +kernel
theorem dX8_bitsOf_0 : decode cX8_bitsOf 0 = .ok (.dload_n 0, 1) := by decide +kernel
theorem dX8_bitsOf_1 : decode cX8_bitsOf 1 = .ok (.dconst 0, 1) := by decide +kernel
theorem dX8_bitsOf_2 : decode cX8_bitsOf 2 = .ok (.dcmp .l, 1) := by decide +kernel
theorem dX8_bitsOf_3 : decode cX8_bitsOf 3 = .ok (.ifCond .ne 5, 3) := by decide +kernel
theorem dX8_bitsOf_6 : decode cX8_bitsOf 6 = .ok (.lconst 0, 1) := by decide +kernel
theorem dX8_bitsOf_7 : decode cX8_bitsOf 7 = .ok (.lreturn, 1) := by decide +kernel
theorem dX8_bitsOf_8 : decode cX8_bitsOf 8 = .ok (.dload_n 0, 1) := by decide +kernel
theorem dX8_bitsOf_9 : decode cX8_bitsOf 9 = .ok (.dstore_n 2, 1) := by decide +kernel
theorem dX8_bitsOf_10 : decode cX8_bitsOf 10 = .ok (.ldc2_w 195, 3) := by decide +kernel
theorem dX8_bitsOf_13 : decode cX8_bitsOf 13 = .ok (.lstore 4, 2) := by decide +kernel
theorem dX8_bitsOf_15 : decode cX8_bitsOf 15 = .ok (.dload_n 2, 1) := by decide +kernel
theorem dX8_bitsOf_16 : decode cX8_bitsOf 16 = .ok (.ldc2_w 197, 3) := by decide +kernel
theorem dX8_bitsOf_19 : decode cX8_bitsOf 19 = .ok (.dcmp .l, 1) := by decide +kernel
theorem dX8_bitsOf_20 : decode cX8_bitsOf 20 = .ok (.ifCond .lt 18, 3) := by decide +kernel
theorem dX8_bitsOf_23 : decode cX8_bitsOf 23 = .ok (.dload_n 2, 1) := by decide +kernel
theorem dX8_bitsOf_24 : decode cX8_bitsOf 24 = .ok (.ldc2_w 199, 3) := by decide +kernel
theorem dX8_bitsOf_27 : decode cX8_bitsOf 27 = .ok (.dmul, 1) := by decide +kernel
theorem dX8_bitsOf_28 : decode cX8_bitsOf 28 = .ok (.dstore_n 2, 1) := by decide +kernel
theorem dX8_bitsOf_29 : decode cX8_bitsOf 29 = .ok (.lload 4, 2) := by decide +kernel
theorem dX8_bitsOf_31 : decode cX8_bitsOf 31 = .ok (.lconst 1, 1) := by decide +kernel
theorem dX8_bitsOf_32 : decode cX8_bitsOf 32 = .ok (.ladd, 1) := by decide +kernel
theorem dX8_bitsOf_33 : decode cX8_bitsOf 33 = .ok (.lstore 4, 2) := by decide +kernel
theorem dX8_bitsOf_35 : decode cX8_bitsOf 35 = .ok (.goto (-20), 3) := by decide +kernel
theorem dX8_bitsOf_38 : decode cX8_bitsOf 38 = .ok (.dload_n 2, 1) := by decide +kernel
theorem dX8_bitsOf_39 : decode cX8_bitsOf 39 = .ok (.dconst 1, 1) := by decide +kernel
theorem dX8_bitsOf_40 : decode cX8_bitsOf 40 = .ok (.dcmp .g, 1) := by decide +kernel
theorem dX8_bitsOf_41 : decode cX8_bitsOf 41 = .ok (.ifCond .ge 18, 3) := by decide +kernel
theorem dX8_bitsOf_44 : decode cX8_bitsOf 44 = .ok (.dload_n 2, 1) := by decide +kernel
theorem dX8_bitsOf_45 : decode cX8_bitsOf 45 = .ok (.ldc2_w 197, 3) := by decide +kernel
theorem dX8_bitsOf_48 : decode cX8_bitsOf 48 = .ok (.dmul, 1) := by decide +kernel
theorem dX8_bitsOf_49 : decode cX8_bitsOf 49 = .ok (.dstore_n 2, 1) := by decide +kernel
theorem dX8_bitsOf_50 : decode cX8_bitsOf 50 = .ok (.lload 4, 2) := by decide +kernel
theorem dX8_bitsOf_52 : decode cX8_bitsOf 52 = .ok (.lconst 1, 1) := by decide +kernel
theorem dX8_bitsOf_53 : decode cX8_bitsOf 53 = .ok (.lsub, 1) := by decide +kernel
theorem dX8_bitsOf_54 : decode cX8_bitsOf 54 = .ok (.lstore 4, 2) := by decide +kernel
theorem dX8_bitsOf_56 : decode cX8_bitsOf 56 = .ok (.goto (-18), 3) := by decide +kernel
theorem dX8_bitsOf_59 : decode cX8_bitsOf 59 = .ok (.dload_n 2, 1) := by decide +kernel
theorem dX8_bitsOf_60 : decode cX8_bitsOf 60 = .ok (.ldc2_w 201, 3) := by decide +kernel
theorem dX8_bitsOf_63 : decode cX8_bitsOf 63 = .ok (.dmul, 1) := by decide +kernel
theorem dX8_bitsOf_64 : decode cX8_bitsOf 64 = .ok (.d2l, 1) := by decide +kernel
theorem dX8_bitsOf_65 : decode cX8_bitsOf 65 = .ok (.lstore 6, 2) := by decide +kernel
theorem dX8_bitsOf_67 : decode cX8_bitsOf 67 = .ok (.lload 4, 2) := by decide +kernel
theorem dX8_bitsOf_69 : decode cX8_bitsOf 69 = .ok (.bipush 52, 2) := by decide +kernel
theorem dX8_bitsOf_71 : decode cX8_bitsOf 71 = .ok (.lshl, 1) := by decide +kernel
theorem dX8_bitsOf_72 : decode cX8_bitsOf 72 = .ok (.lload 6, 2) := by decide +kernel
theorem dX8_bitsOf_74 : decode cX8_bitsOf 74 = .ok (.ldc2_w 203, 3) := by decide +kernel
theorem dX8_bitsOf_77 : decode cX8_bitsOf 77 = .ok (.land, 1) := by decide +kernel
theorem dX8_bitsOf_78 : decode cX8_bitsOf 78 = .ok (.lor, 1) := by decide +kernel
theorem dX8_bitsOf_79 : decode cX8_bitsOf 79 = .ok (.lreturn, 1) := by decide +kernel
theorem dX8_findAmounts_0 : decode cX8_findAmounts 0 = .ok (.aload_n 0, 1) := by decide +kernel
theorem dX8_findAmounts_1 : decode cX8_findAmounts 1 = .ok (.invokevirtual 139, 3) := by decide +kernel
theorem dX8_findAmounts_4 : decode cX8_findAmounts 4 = .ok (.iconst 0, 1) := by decide +kernel
theorem dX8_findAmounts_5 : decode cX8_findAmounts 5 = .ok (.istore_n 1, 1) := by decide +kernel
theorem dX8_findAmounts_6 : decode cX8_findAmounts 6 = .ok (.iload_n 1, 1) := by decide +kernel
theorem dX8_findAmounts_7 : decode cX8_findAmounts 7 = .ok (.sipush 30000, 3) := by decide +kernel
theorem dX8_findAmounts_10 : decode cX8_findAmounts 10 = .ok (.if_icmp .gt 16, 3) := by decide +kernel
theorem dX8_findAmounts_13 : decode cX8_findAmounts 13 = .ok (.aload_n 0, 1) := by decide +kernel
theorem dX8_findAmounts_14 : decode cX8_findAmounts 14 = .ok (.getfield 63, 3) := by decide +kernel
theorem dX8_findAmounts_17 : decode cX8_findAmounts 17 = .ok (.iload_n 1, 1) := by decide +kernel
theorem dX8_findAmounts_18 : decode cX8_findAmounts 18 = .ok (.iconst 0, 1) := by decide +kernel
theorem dX8_findAmounts_19 : decode cX8_findAmounts 19 = .ok (.iastore, 1) := by decide +kernel
theorem dX8_findAmounts_20 : decode cX8_findAmounts 20 = .ok (.iinc 1 1, 3) := by decide +kernel
theorem dX8_findAmounts_23 : decode cX8_findAmounts 23 = .ok (.goto (-17), 3) := by decide +kernel
theorem dX8_findAmounts_26 : decode cX8_findAmounts 26 = .ok (.iconst 0, 1) := by decide +kernel
theorem dX8_findAmounts_27 : decode cX8_findAmounts 27 = .ok (.istore_n 1, 1) := by decide +kernel
theorem dX8_findAmounts_28 : decode cX8_findAmounts 28 = .ok (.iload_n 1, 1) := by decide +kernel
theorem dX8_findAmounts_29 : decode cX8_findAmounts 29 = .ok (.aload_n 0, 1) := by decide +kernel
theorem dX8_findAmounts_30 : decode cX8_findAmounts 30 = .ok (.getfield 7, 3) := by decide +kernel
theorem dX8_findAmounts_33 : decode cX8_findAmounts 33 = .ok (.iconst 0, 1) := by decide +kernel
theorem dX8_findAmounts_34 : decode cX8_findAmounts 34 = .ok (.iaload, 1) := by decide +kernel
theorem dX8_findAmounts_35 : decode cX8_findAmounts 35 = .ok (.if_icmp .ge 65, 3) := by decide +kernel
theorem dX8_findAmounts_38 : decode cX8_findAmounts 38 = .ok (.iconst 0, 1) := by decide +kernel
theorem dX8_findAmounts_39 : decode cX8_findAmounts 39 = .ok (.istore_n 2, 1) := by decide +kernel
theorem dX8_findAmounts_40 : decode cX8_findAmounts 40 = .ok (.iload_n 2, 1) := by decide +kernel
theorem dX8_findAmounts_41 : decode cX8_findAmounts 41 = .ok (.aload_n 0, 1) := by decide +kernel
theorem dX8_findAmounts_42 : decode cX8_findAmounts 42 = .ok (.getfield 7, 3) := by decide +kernel
theorem dX8_findAmounts_45 : decode cX8_findAmounts 45 = .ok (.iconst 1, 1) := by decide +kernel
theorem dX8_findAmounts_46 : decode cX8_findAmounts 46 = .ok (.iaload, 1) := by decide +kernel
theorem dX8_findAmounts_47 : decode cX8_findAmounts 47 = .ok (.if_icmp .ge 47, 3) := by decide +kernel
theorem dX8_findAmounts_50 : decode cX8_findAmounts 50 = .ok (.iconst 0, 1) := by decide +kernel
theorem dX8_findAmounts_51 : decode cX8_findAmounts 51 = .ok (.istore_n 3, 1) := by decide +kernel
theorem dX8_findAmounts_52 : decode cX8_findAmounts 52 = .ok (.iload_n 3, 1) := by decide +kernel
theorem dX8_findAmounts_53 : decode cX8_findAmounts 53 = .ok (.aload_n 0, 1) := by decide +kernel
theorem dX8_findAmounts_54 : decode cX8_findAmounts 54 = .ok (.getfield 7, 3) := by decide +kernel
theorem dX8_findAmounts_57 : decode cX8_findAmounts 57 = .ok (.iconst 2, 1) := by decide +kernel
theorem dX8_findAmounts_58 : decode cX8_findAmounts 58 = .ok (.iaload, 1) := by decide +kernel
theorem dX8_findAmounts_59 : decode cX8_findAmounts 59 = .ok (.if_icmp .ge 29, 3) := by decide +kernel
theorem dX8_findAmounts_62 : decode cX8_findAmounts 62 = .ok (.aload_n 0, 1) := by decide +kernel
theorem dX8_findAmounts_63 : decode cX8_findAmounts 63 = .ok (.getfield 63, 3) := by decide +kernel
theorem dX8_findAmounts_66 : decode cX8_findAmounts 66 = .ok (.aload_n 0, 1) := by decide +kernel
theorem dX8_findAmounts_67 : decode cX8_findAmounts 67 = .ok (.getfield 38, 3) := by decide +kernel
theorem dX8_findAmounts_70 : decode cX8_findAmounts 70 = .ok (.iload_n 1, 1) := by decide +kernel
theorem dX8_findAmounts_71 : decode cX8_findAmounts 71 = .ok (.iload_n 2, 1) := by decide +kernel
theorem dX8_findAmounts_72 : decode cX8_findAmounts 72 = .ok (.iload_n 3, 1) := by decide +kernel
theorem dX8_findAmounts_73 : decode cX8_findAmounts 73 = .ok (.invokestatic 132, 3) := by decide +kernel
theorem dX8_findAmounts_76 : decode cX8_findAmounts 76 = .ok (.iaload, 1) := by decide +kernel
theorem dX8_findAmounts_77 : decode cX8_findAmounts 77 = .ok (.dup2, 1) := by decide +kernel
theorem dX8_findAmounts_78 : decode cX8_findAmounts 78 = .ok (.iaload, 1) := by decide +kernel
theorem dX8_findAmounts_79 : decode cX8_findAmounts 79 = .ok (.iconst 1, 1) := by decide +kernel
theorem dX8_findAmounts_80 : decode cX8_findAmounts 80 = .ok (.iadd, 1) := by decide +kernel
theorem dX8_findAmounts_81 : decode cX8_findAmounts 81 = .ok (.iastore, 1) := by decide +kernel
theorem dX8_findAmounts_82 : decode cX8_findAmounts 82 = .ok (.iinc 3 1, 3) := by decide +kernel
theorem dX8_findAmounts_85 : decode cX8_findAmounts 85 = .ok (.goto (-33), 3) := by decide +kernel
theorem dX8_findAmounts_88 : decode cX8_findAmounts 88 = .ok (.iinc 2 1, 3) := by decide +kernel
theorem dX8_findAmounts_91 : decode cX8_findAmounts 91 = .ok (.goto (-51), 3) := by decide +kernel
theorem dX8_findAmounts_94 : decode cX8_findAmounts 94 = .ok (.iinc 1 1, 3) := by decide +kernel
theorem dX8_findAmounts_97 : decode cX8_findAmounts 97 = .ok (.goto (-69), 3) := by decide +kernel
theorem dX8_findAmounts_100 : decode cX8_findAmounts 100 = .ok (.aload_n 0, 1) := by decide +kernel
theorem dX8_findAmounts_101 : decode cX8_findAmounts 101 = .ok (.iconst 0, 1) := by decide +kernel
theorem dX8_findAmounts_102 : decode cX8_findAmounts 102 = .ok (.putfield 205, 3) := by decide +kernel
theorem dX8_findAmounts_105 : decode cX8_findAmounts 105 = .ok (.iconst 0, 1) := by decide +kernel
theorem dX8_findAmounts_106 : decode cX8_findAmounts 106 = .ok (.istore_n 1, 1) := by decide +kernel
theorem dX8_findAmounts_107 : decode cX8_findAmounts 107 = .ok (.iload_n 1, 1) := by decide +kernel
theorem dX8_findAmounts_108 : decode cX8_findAmounts 108 = .ok (.sipush 30000, 3) := by decide +kernel
theorem dX8_findAmounts_111 : decode cX8_findAmounts 111 = .ok (.if_icmp .gt 38, 3) := by decide +kernel
theorem dX8_findAmounts_114 : decode cX8_findAmounts 114 = .ok (.aload_n 0, 1) := by decide +kernel
theorem dX8_findAmounts_115 : decode cX8_findAmounts 115 = .ok (.getfield 63, 3) := by decide +kernel
theorem dX8_findAmounts_118 : decode cX8_findAmounts 118 = .ok (.iload_n 1, 1) := by decide +kernel
theorem dX8_findAmounts_119 : decode cX8_findAmounts 119 = .ok (.iaload, 1) := by decide +kernel
theorem dX8_findAmounts_120 : decode cX8_findAmounts 120 = .ok (.ifCond .le 23, 3) := by decide +kernel
theorem dX8_findAmounts_123 : decode cX8_findAmounts 123 = .ok (.aload_n 0, 1) := by decide +kernel
theorem dX8_findAmounts_124 : decode cX8_findAmounts 124 = .ok (.getfield 66, 3) := by decide +kernel
theorem dX8_findAmounts_127 : decode cX8_findAmounts 127 = .ok (.aload_n 0, 1) := by decide +kernel
theorem dX8_findAmounts_128 : decode cX8_findAmounts 128 = .ok (.getfield 205, 3) := by decide +kernel
theorem dX8_findAmounts_131 : decode cX8_findAmounts 131 = .ok (.iload_n 1, 1) := by decide +kernel
theorem dX8_findAmounts_132 : decode cX8_findAmounts 132 = .ok (.iastore, 1) := by decide +kernel
theorem dX8_findAmounts_133 : decode cX8_findAmounts 133 = .ok (.aload_n 0, 1) := by decide +kernel
theorem dX8_findAmounts_134 : decode cX8_findAmounts 134 = .ok (.dup, 1) := by decide +kernel
theorem dX8_findAmounts_135 : decode cX8_findAmounts 135 = .ok (.getfield 205, 3) := by decide +kernel
theorem dX8_findAmounts_138 : decode cX8_findAmounts 138 = .ok (.iconst 1, 1) := by decide +kernel
theorem dX8_findAmounts_139 : decode cX8_findAmounts 139 = .ok (.iadd, 1) := by decide +kernel
theorem dX8_findAmounts_140 : decode cX8_findAmounts 140 = .ok (.putfield 205, 3) := by decide +kernel
theorem dX8_findAmounts_143 : decode cX8_findAmounts 143 = .ok (.iinc 1 1, 3) := by decide +kernel
theorem dX8_findAmounts_146 : decode cX8_findAmounts 146 = .ok (.goto (-39), 3) := by decide +kernel
theorem dX8_findAmounts_149 : decode cX8_findAmounts 149 = .ok (.return_, 1) := by decide +kernel
theorem dX8_dryOf_0 : decode cX8_dryOf 0 = .ok (.iload_n 1, 1) := by decide +kernel
theorem dX8_dryOf_1 : decode cX8_dryOf 1 = .ok (.aload_n 0, 1) := by decide +kernel
theorem dX8_dryOf_2 : decode cX8_dryOf 2 = .ok (.getfield 31, 3) := by decide +kernel
theorem dX8_dryOf_5 : decode cX8_dryOf 5 = .ok (.iadd, 1) := by decide +kernel
theorem dX8_dryOf_6 : decode cX8_dryOf 6 = .ok (.aload_n 0, 1) := by decide +kernel
theorem dX8_dryOf_7 : decode cX8_dryOf 7 = .ok (.getfield 57, 3) := by decide +kernel
theorem dX8_dryOf_10 : decode cX8_dryOf 10 = .ok (.if_icmp .ge 12, 3) := by decide +kernel
theorem dX8_dryOf_13 : decode cX8_dryOf 13 = .ok (.iload_n 1, 1) := by decide +kernel
theorem dX8_dryOf_14 : decode cX8_dryOf 14 = .ok (.aload_n 0, 1) := by decide +kernel
theorem dX8_dryOf_15 : decode cX8_dryOf 15 = .ok (.getfield 31, 3) := by decide +kernel
theorem dX8_dryOf_18 : decode cX8_dryOf 18 = .ok (.iadd, 1) := by decide +kernel
theorem dX8_dryOf_19 : decode cX8_dryOf 19 = .ok (.goto 7, 3) := by decide +kernel
theorem dX8_dryOf_22 : decode cX8_dryOf 22 = .ok (.aload_n 0, 1) := by decide +kernel
theorem dX8_dryOf_23 : decode cX8_dryOf 23 = .ok (.getfield 57, 3) := by decide +kernel
theorem dX8_dryOf_26 : decode cX8_dryOf 26 = .ok (.istore_n 2, 1) := by decide +kernel
theorem dX8_dryOf_27 : decode cX8_dryOf 27 = .ok (.aload_n 0, 1) := by decide +kernel
theorem dX8_dryOf_28 : decode cX8_dryOf 28 = .ok (.invokevirtual 149, 3) := by decide +kernel
theorem dX8_dryOf_31 : decode cX8_dryOf 31 = .ok (.i2d, 1) := by decide +kernel
theorem dX8_dryOf_32 : decode cX8_dryOf 32 = .ok (.dstore_n 3, 1) := by decide +kernel
theorem dX8_dryOf_33 : decode cX8_dryOf 33 = .ok (.dconst 0, 1) := by decide +kernel
theorem dX8_dryOf_34 : decode cX8_dryOf 34 = .ok (.dstore 5, 2) := by decide +kernel
theorem dX8_dryOf_36 : decode cX8_dryOf 36 = .ok (.iconst 0, 1) := by decide +kernel
theorem dX8_dryOf_37 : decode cX8_dryOf 37 = .ok (.istore 7, 2) := by decide +kernel
theorem dX8_dryOf_39 : decode cX8_dryOf 39 = .ok (.iload 7, 2) := by decide +kernel
theorem dX8_dryOf_41 : decode cX8_dryOf 41 = .ok (.aload_n 0, 1) := by decide +kernel
theorem dX8_dryOf_42 : decode cX8_dryOf 42 = .ok (.getfield 205, 3) := by decide +kernel
theorem dX8_dryOf_45 : decode cX8_dryOf 45 = .ok (.if_icmp .ge 53, 3) := by decide +kernel
theorem dX8_dryOf_48 : decode cX8_dryOf 48 = .ok (.aload_n 0, 1) := by decide +kernel
theorem dX8_dryOf_49 : decode cX8_dryOf 49 = .ok (.getfield 66, 3) := by decide +kernel
theorem dX8_dryOf_52 : decode cX8_dryOf 52 = .ok (.iload 7, 2) := by decide +kernel
theorem dX8_dryOf_54 : decode cX8_dryOf 54 = .ok (.iaload, 1) := by decide +kernel
theorem dX8_dryOf_55 : decode cX8_dryOf 55 = .ok (.istore 8, 2) := by decide +kernel
theorem dX8_dryOf_57 : decode cX8_dryOf 57 = .ok (.dload 5, 2) := by decide +kernel
theorem dX8_dryOf_59 : decode cX8_dryOf 59 = .ok (.aload_n 0, 1) := by decide +kernel
theorem dX8_dryOf_60 : decode cX8_dryOf 60 = .ok (.getfield 63, 3) := by decide +kernel
theorem dX8_dryOf_63 : decode cX8_dryOf 63 = .ok (.iload 8, 2) := by decide +kernel
theorem dX8_dryOf_65 : decode cX8_dryOf 65 = .ok (.iaload, 1) := by decide +kernel
theorem dX8_dryOf_66 : decode cX8_dryOf 66 = .ok (.i2d, 1) := by decide +kernel
theorem dX8_dryOf_67 : decode cX8_dryOf 67 = .ok (.dload_n 3, 1) := by decide +kernel
theorem dX8_dryOf_68 : decode cX8_dryOf 68 = .ok (.ddiv, 1) := by decide +kernel
theorem dX8_dryOf_69 : decode cX8_dryOf 69 = .ok (.iload 8, 2) := by decide +kernel
theorem dX8_dryOf_71 : decode cX8_dryOf 71 = .ok (.iload_n 2, 1) := by decide +kernel
theorem dX8_dryOf_72 : decode cX8_dryOf 72 = .ok (.if_icmp .le 7, 3) := by decide +kernel
theorem dX8_dryOf_75 : decode cX8_dryOf 75 = .ok (.dconst 1, 1) := by decide +kernel
theorem dX8_dryOf_76 : decode cX8_dryOf 76 = .ok (.goto 12, 3) := by decide +kernel
theorem dX8_dryOf_79 : decode cX8_dryOf 79 = .ok (.aload_n 0, 1) := by decide +kernel
theorem dX8_dryOf_80 : decode cX8_dryOf 80 = .ok (.getfield 69, 3) := by decide +kernel
theorem dX8_dryOf_83 : decode cX8_dryOf 83 = .ok (.iload_n 2, 1) := by decide +kernel
theorem dX8_dryOf_84 : decode cX8_dryOf 84 = .ok (.iload 8, 2) := by decide +kernel
theorem dX8_dryOf_86 : decode cX8_dryOf 86 = .ok (.isub, 1) := by decide +kernel
theorem dX8_dryOf_87 : decode cX8_dryOf 87 = .ok (.daload, 1) := by decide +kernel
theorem dX8_dryOf_88 : decode cX8_dryOf 88 = .ok (.dmul, 1) := by decide +kernel
theorem dX8_dryOf_89 : decode cX8_dryOf 89 = .ok (.dadd, 1) := by decide +kernel
theorem dX8_dryOf_90 : decode cX8_dryOf 90 = .ok (.dstore 5, 2) := by decide +kernel
theorem dX8_dryOf_92 : decode cX8_dryOf 92 = .ok (.iinc 7 1, 3) := by decide +kernel
theorem dX8_dryOf_95 : decode cX8_dryOf 95 = .ok (.goto (-56), 3) := by decide +kernel
theorem dX8_dryOf_98 : decode cX8_dryOf 98 = .ok (.dload 5, 2) := by decide +kernel
theorem dX8_dryOf_100 : decode cX8_dryOf 100 = .ok (.dreturn, 1) := by decide +kernel
theorem dX8_dry_0 : decode cX8_dry 0 = .ok (.iload_n 1, 1) := by decide +kernel
theorem dX8_dry_1 : decode cX8_dry 1 = .ok (.i2l, 1) := by decide +kernel
theorem dX8_dry_2 : decode cX8_dry 2 = .ok (.lconst 0, 1) := by decide +kernel
theorem dX8_dry_3 : decode cX8_dry 3 = .ok (.aload_n 0, 1) := by decide +kernel
theorem dX8_dry_4 : decode cX8_dry 4 = .ok (.getfield 57, 3) := by decide +kernel
theorem dX8_dry_7 : decode cX8_dry 7 = .ok (.i2l, 1) := by decide +kernel
theorem dX8_dry_8 : decode cX8_dry 8 = .ok (.invokestatic 81, 3) := by decide +kernel
theorem dX8_dry_11 : decode cX8_dry 11 = .ok (.ifCond .eq 15, 3) := by decide +kernel
theorem dX8_dry_14 : decode cX8_dry 14 = .ok (.iload_n 2, 1) := by decide +kernel
theorem dX8_dry_15 : decode cX8_dry 15 = .ok (.i2l, 1) := by decide +kernel
theorem dX8_dry_16 : decode cX8_dry 16 = .ok (.lconst 0, 1) := by decide +kernel
theorem dX8_dry_17 : decode cX8_dry 17 = .ok (.ldc2_w 208, 3) := by decide +kernel
theorem dX8_dry_20 : decode cX8_dry 20 = .ok (.invokestatic 81, 3) := by decide +kernel
theorem dX8_dry_23 : decode cX8_dry 23 = .ok (.ifCond .ne 7, 3) := by decide +kernel
theorem dX8_dry_26 : decode cX8_dry 26 = .ok (.ldc2_w 159, 3) := by decide +kernel
theorem dX8_dry_29 : decode cX8_dry 29 = .ok (.lreturn, 1) := by decide +kernel
theorem dX8_dry_30 : decode cX8_dry 30 = .ok (.aload_n 0, 1) := by decide +kernel
theorem dX8_dry_31 : decode cX8_dry 31 = .ok (.invokevirtual 210, 3) := by decide +kernel
theorem dX8_dry_34 : decode cX8_dry 34 = .ok (.iconst 0, 1) := by decide +kernel
theorem dX8_dry_35 : decode cX8_dry 35 = .ok (.istore_n 3, 1) := by decide +kernel
theorem dX8_dry_36 : decode cX8_dry 36 = .ok (.iload_n 3, 1) := by decide +kernel
theorem dX8_dry_37 : decode cX8_dry 37 = .ok (.aload_n 0, 1) := by decide +kernel
theorem dX8_dry_38 : decode cX8_dry 38 = .ok (.getfield 57, 3) := by decide +kernel
theorem dX8_dry_41 : decode cX8_dry 41 = .ok (.if_icmp .gt 16, 3) := by decide +kernel
theorem dX8_dry_44 : decode cX8_dry 44 = .ok (.aload_n 0, 1) := by decide +kernel
theorem dX8_dry_45 : decode cX8_dry 45 = .ok (.getfield 69, 3) := by decide +kernel
theorem dX8_dry_48 : decode cX8_dry 48 = .ok (.iload_n 3, 1) := by decide +kernel
theorem dX8_dry_49 : decode cX8_dry 49 = .ok (.dconst 0, 1) := by decide +kernel
theorem dX8_dry_50 : decode cX8_dry 50 = .ok (.dastore, 1) := by decide +kernel
theorem dX8_dry_51 : decode cX8_dry 51 = .ok (.iinc 3 1, 3) := by decide +kernel
theorem dX8_dry_54 : decode cX8_dry 54 = .ok (.goto (-18), 3) := by decide +kernel
theorem dX8_dry_57 : decode cX8_dry 57 = .ok (.iconst 0, 1) := by decide +kernel
theorem dX8_dry_58 : decode cX8_dry 58 = .ok (.istore_n 3, 1) := by decide +kernel
theorem dX8_dry_59 : decode cX8_dry 59 = .ok (.iload_n 3, 1) := by decide +kernel
theorem dX8_dry_60 : decode cX8_dry 60 = .ok (.iload_n 2, 1) := by decide +kernel
theorem dX8_dry_61 : decode cX8_dry 61 = .ok (.if_icmp .ge 72, 3) := by decide +kernel
theorem dX8_dry_64 : decode cX8_dry 64 = .ok (.iconst 0, 1) := by decide +kernel
theorem dX8_dry_65 : decode cX8_dry 65 = .ok (.istore 4, 2) := by decide +kernel
theorem dX8_dry_67 : decode cX8_dry 67 = .ok (.iload 4, 2) := by decide +kernel
theorem dX8_dry_69 : decode cX8_dry 69 = .ok (.aload_n 0, 1) := by decide +kernel
theorem dX8_dry_70 : decode cX8_dry 70 = .ok (.getfield 57, 3) := by decide +kernel
theorem dX8_dry_73 : decode cX8_dry 73 = .ok (.if_icmp .gt 22, 3) := by decide +kernel
theorem dX8_dry_76 : decode cX8_dry 76 = .ok (.aload_n 0, 1) := by decide +kernel
theorem dX8_dry_77 : decode cX8_dry 77 = .ok (.getfield 73, 3) := by decide +kernel
theorem dX8_dry_80 : decode cX8_dry 80 = .ok (.iload 4, 2) := by decide +kernel
theorem dX8_dry_82 : decode cX8_dry 82 = .ok (.aload_n 0, 1) := by decide +kernel
theorem dX8_dry_83 : decode cX8_dry 83 = .ok (.iload 4, 2) := by decide +kernel
theorem dX8_dry_85 : decode cX8_dry 85 = .ok (.invokevirtual 213, 3) := by decide +kernel
theorem dX8_dry_88 : decode cX8_dry 88 = .ok (.dastore, 1) := by decide +kernel
theorem dX8_dry_89 : decode cX8_dry 89 = .ok (.iinc 4 1, 3) := by decide +kernel
theorem dX8_dry_92 : decode cX8_dry 92 = .ok (.goto (-25), 3) := by decide +kernel
theorem dX8_dry_95 : decode cX8_dry 95 = .ok (.iconst 0, 1) := by decide +kernel
theorem dX8_dry_96 : decode cX8_dry 96 = .ok (.istore 4, 2) := by decide +kernel
theorem dX8_dry_98 : decode cX8_dry 98 = .ok (.iload 4, 2) := by decide +kernel
theorem dX8_dry_100 : decode cX8_dry 100 = .ok (.aload_n 0, 1) := by decide +kernel
theorem dX8_dry_101 : decode cX8_dry 101 = .ok (.getfield 57, 3) := by decide +kernel
theorem dX8_dry_104 : decode cX8_dry 104 = .ok (.if_icmp .gt 23, 3) := by decide +kernel
theorem dX8_dry_107 : decode cX8_dry 107 = .ok (.aload_n 0, 1) := by decide +kernel
theorem dX8_dry_108 : decode cX8_dry 108 = .ok (.getfield 69, 3) := by decide +kernel
theorem dX8_dry_111 : decode cX8_dry 111 = .ok (.iload 4, 2) := by decide +kernel
theorem dX8_dry_113 : decode cX8_dry 113 = .ok (.aload_n 0, 1) := by decide +kernel
theorem dX8_dry_114 : decode cX8_dry 114 = .ok (.getfield 73, 3) := by decide +kernel
theorem dX8_dry_117 : decode cX8_dry 117 = .ok (.iload 4, 2) := by decide +kernel
theorem dX8_dry_119 : decode cX8_dry 119 = .ok (.daload, 1) := by decide +kernel
theorem dX8_dry_120 : decode cX8_dry 120 = .ok (.dastore, 1) := by decide +kernel
theorem dX8_dry_121 : decode cX8_dry 121 = .ok (.iinc 4 1, 3) := by decide +kernel
theorem dX8_dry_124 : decode cX8_dry 124 = .ok (.goto (-26), 3) := by decide +kernel
theorem dX8_dry_127 : decode cX8_dry 127 = .ok (.iinc 3 1, 3) := by decide +kernel
theorem dX8_dry_130 : decode cX8_dry 130 = .ok (.goto (-71), 3) := by decide +kernel
theorem dX8_dry_133 : decode cX8_dry 133 = .ok (.aload_n 0, 1) := by decide +kernel
theorem dX8_dry_134 : decode cX8_dry 134 = .ok (.getfield 69, 3) := by decide +kernel
theorem dX8_dry_137 : decode cX8_dry 137 = .ok (.iload_n 1, 1) := by decide +kernel
theorem dX8_dry_138 : decode cX8_dry 138 = .ok (.daload, 1) := by decide +kernel
theorem dX8_dry_139 : decode cX8_dry 139 = .ok (.invokestatic 217, 3) := by decide +kernel
theorem dX8_dry_142 : decode cX8_dry 142 = .ok (.lreturn, 1) := by decide +kernel
theorem dX8_timesSeen_0 : decode cX8_timesSeen 0 = .ok (.iconst 0, 1) := by decide +kernel
theorem dX8_timesSeen_1 : decode cX8_timesSeen 1 = .ok (.istore_n 3, 1) := by decide +kernel
theorem dX8_timesSeen_2 : decode cX8_timesSeen 2 = .ok (.iconst 0, 1) := by decide +kernel
theorem dX8_timesSeen_3 : decode cX8_timesSeen 3 = .ok (.istore 4, 2) := by decide +kernel
theorem dX8_timesSeen_5 : decode cX8_timesSeen 5 = .ok (.iload 4, 2) := by decide +kernel
theorem dX8_timesSeen_7 : decode cX8_timesSeen 7 = .ok (.aload_n 0, 1) := by decide +kernel
theorem dX8_timesSeen_8 : decode cX8_timesSeen 8 = .ok (.getfield 93, 3) := by decide +kernel
theorem dX8_timesSeen_11 : decode cX8_timesSeen 11 = .ok (.if_icmp .ge 32, 3) := by decide +kernel
theorem dX8_timesSeen_14 : decode cX8_timesSeen 14 = .ok (.iload_n 3, 1) := by decide +kernel
theorem dX8_timesSeen_15 : decode cX8_timesSeen 15 = .ok (.aload_n 0, 1) := by decide +kernel
theorem dX8_timesSeen_16 : decode cX8_timesSeen 16 = .ok (.getfield 60, 3) := by decide +kernel
theorem dX8_timesSeen_19 : decode cX8_timesSeen 19 = .ok (.iconst 3, 1) := by decide +kernel
theorem dX8_timesSeen_20 : decode cX8_timesSeen 20 = .ok (.iload 4, 2) := by decide +kernel
theorem dX8_timesSeen_22 : decode cX8_timesSeen 22 = .ok (.imul, 1) := by decide +kernel
theorem dX8_timesSeen_23 : decode cX8_timesSeen 23 = .ok (.iload_n 1, 1) := by decide +kernel
theorem dX8_timesSeen_24 : decode cX8_timesSeen 24 = .ok (.iadd, 1) := by decide +kernel
theorem dX8_timesSeen_25 : decode cX8_timesSeen 25 = .ok (.iaload, 1) := by decide +kernel
theorem dX8_timesSeen_26 : decode cX8_timesSeen 26 = .ok (.iload_n 2, 1) := by decide +kernel
theorem dX8_timesSeen_27 : decode cX8_timesSeen 27 = .ok (.if_icmp .ne 7, 3) := by decide +kernel
theorem dX8_timesSeen_30 : decode cX8_timesSeen 30 = .ok (.iconst 1, 1) := by decide +kernel
theorem dX8_timesSeen_31 : decode cX8_timesSeen 31 = .ok (.goto 4, 3) := by decide +kernel
theorem dX8_timesSeen_34 : decode cX8_timesSeen 34 = .ok (.iconst 0, 1) := by decide +kernel
theorem dX8_timesSeen_35 : decode cX8_timesSeen 35 = .ok (.iadd, 1) := by decide +kernel
theorem dX8_timesSeen_36 : decode cX8_timesSeen 36 = .ok (.istore_n 3, 1) := by decide +kernel
theorem dX8_timesSeen_37 : decode cX8_timesSeen 37 = .ok (.iinc 4 1, 3) := by decide +kernel
theorem dX8_timesSeen_40 : decode cX8_timesSeen 40 = .ok (.goto (-35), 3) := by decide +kernel
theorem dX8_timesSeen_43 : decode cX8_timesSeen 43 = .ok (.iload_n 3, 1) := by decide +kernel
theorem dX8_timesSeen_44 : decode cX8_timesSeen 44 = .ok (.ireturn, 1) := by decide +kernel
theorem dX8_favouredOf_0 : decode cX8_favouredOf 0 = .ok (.iconst 0, 1) := by decide +kernel
theorem dX8_favouredOf_1 : decode cX8_favouredOf 1 = .ok (.istore_n 2, 1) := by decide +kernel
theorem dX8_favouredOf_2 : decode cX8_favouredOf 2 = .ok (.iconst 1, 1) := by decide +kernel
theorem dX8_favouredOf_3 : decode cX8_favouredOf 3 = .ok (.istore_n 3, 1) := by decide +kernel
theorem dX8_favouredOf_4 : decode cX8_favouredOf 4 = .ok (.iload_n 3, 1) := by decide +kernel
theorem dX8_favouredOf_5 : decode cX8_favouredOf 5 = .ok (.aload_n 0, 1) := by decide +kernel
theorem dX8_favouredOf_6 : decode cX8_favouredOf 6 = .ok (.getfield 7, 3) := by decide +kernel
theorem dX8_favouredOf_9 : decode cX8_favouredOf 9 = .ok (.iload_n 1, 1) := by decide +kernel
theorem dX8_favouredOf_10 : decode cX8_favouredOf 10 = .ok (.iaload, 1) := by decide +kernel
theorem dX8_favouredOf_11 : decode cX8_favouredOf 11 = .ok (.if_icmp .ge 30, 3) := by decide +kernel
theorem dX8_favouredOf_14 : decode cX8_favouredOf 14 = .ok (.aload_n 0, 1) := by decide +kernel
theorem dX8_favouredOf_15 : decode cX8_favouredOf 15 = .ok (.iload_n 1, 1) := by decide +kernel
theorem dX8_favouredOf_16 : decode cX8_favouredOf 16 = .ok (.iload_n 3, 1) := by decide +kernel
theorem dX8_favouredOf_17 : decode cX8_favouredOf 17 = .ok (.invokevirtual 221, 3) := by decide +kernel
theorem dX8_favouredOf_20 : decode cX8_favouredOf 20 = .ok (.aload_n 0, 1) := by decide +kernel
theorem dX8_favouredOf_21 : decode cX8_favouredOf 21 = .ok (.iload_n 1, 1) := by decide +kernel
theorem dX8_favouredOf_22 : decode cX8_favouredOf 22 = .ok (.iload_n 2, 1) := by decide +kernel
theorem dX8_favouredOf_23 : decode cX8_favouredOf 23 = .ok (.invokevirtual 221, 3) := by decide +kernel
theorem dX8_favouredOf_26 : decode cX8_favouredOf 26 = .ok (.if_icmp .le 7, 3) := by decide +kernel
theorem dX8_favouredOf_29 : decode cX8_favouredOf 29 = .ok (.iload_n 3, 1) := by decide +kernel
theorem dX8_favouredOf_30 : decode cX8_favouredOf 30 = .ok (.goto 4, 3) := by decide +kernel
theorem dX8_favouredOf_33 : decode cX8_favouredOf 33 = .ok (.iload_n 2, 1) := by decide +kernel
theorem dX8_favouredOf_34 : decode cX8_favouredOf 34 = .ok (.istore_n 2, 1) := by decide +kernel
theorem dX8_favouredOf_35 : decode cX8_favouredOf 35 = .ok (.iinc 3 1, 3) := by decide +kernel
theorem dX8_favouredOf_38 : decode cX8_favouredOf 38 = .ok (.goto (-34), 3) := by decide +kernel
theorem dX8_favouredOf_41 : decode cX8_favouredOf 41 = .ok (.iload_n 2, 1) := by decide +kernel
theorem dX8_favouredOf_42 : decode cX8_favouredOf 42 = .ok (.ireturn, 1) := by decide +kernel
theorem dX8_favoured_0 : decode cX8_favoured 0 = .ok (.iload_n 1, 1) := by decide +kernel
theorem dX8_favoured_1 : decode cX8_favoured 1 = .ok (.invokestatic 85, 3) := by decide +kernel
theorem dX8_favoured_4 : decode cX8_favoured 4 = .ok (.ifCond .ne 8, 3) := by decide +kernel
theorem dX8_favoured_7 : decode cX8_favoured 7 = .ok (.bipush (-2), 2) := by decide +kernel
theorem dX8_favoured_9 : decode cX8_favoured 9 = .ok (.goto 19, 3) := by decide +kernel
theorem dX8_favoured_12 : decode cX8_favoured 12 = .ok (.aload_n 0, 1) := by decide +kernel
theorem dX8_favoured_13 : decode cX8_favoured 13 = .ok (.getfield 93, 3) := by decide +kernel
theorem dX8_favoured_16 : decode cX8_favoured 16 = .ok (.ifCond .ne 7, 3) := by decide +kernel
theorem dX8_favoured_19 : decode cX8_favoured 19 = .ok (.iconst (-1), 1) := by decide +kernel
theorem dX8_favoured_20 : decode cX8_favoured 20 = .ok (.goto 8, 3) := by decide +kernel
theorem dX8_favoured_23 : decode cX8_favoured 23 = .ok (.aload_n 0, 1) := by decide +kernel
theorem dX8_favoured_24 : decode cX8_favoured 24 = .ok (.iload_n 1, 1) := by decide +kernel
theorem dX8_favoured_25 : decode cX8_favoured 25 = .ok (.invokevirtual 224, 3) := by decide +kernel
theorem dX8_favoured_28 : decode cX8_favoured 28 = .ok (.ireturn, 1) := by decide +kernel
theorem dX8_odd_0 : decode cX8_odd 0 = .ok (.iload_n 1, 1) := by decide +kernel
theorem dX8_odd_1 : decode cX8_odd 1 = .ok (.invokestatic 85, 3) := by decide +kernel
theorem dX8_odd_4 : decode cX8_odd 4 = .ok (.ifCond .ne 7, 3) := by decide +kernel
theorem dX8_odd_7 : decode cX8_odd 7 = .ok (.ldc2_w 159, 3) := by decide +kernel
theorem dX8_odd_10 : decode cX8_odd 10 = .ok (.lreturn, 1) := by decide +kernel
theorem dX8_odd_11 : decode cX8_odd 11 = .ok (.aload_n 0, 1) := by decide +kernel
theorem dX8_odd_12 : decode cX8_odd 12 = .ok (.getfield 93, 3) := by decide +kernel
theorem dX8_odd_15 : decode cX8_odd 15 = .ok (.ifCond .ne 7, 3) := by decide +kernel
theorem dX8_odd_18 : decode cX8_odd 18 = .ok (.ldc2_w 106, 3) := by decide +kernel
theorem dX8_odd_21 : decode cX8_odd 21 = .ok (.lreturn, 1) := by decide +kernel
theorem dX8_odd_22 : decode cX8_odd 22 = .ok (.dconst 1, 1) := by decide +kernel
theorem dX8_odd_23 : decode cX8_odd 23 = .ok (.aload_n 0, 1) := by decide +kernel
theorem dX8_odd_24 : decode cX8_odd 24 = .ok (.getfield 7, 3) := by decide +kernel
theorem dX8_odd_27 : decode cX8_odd 27 = .ok (.iload_n 1, 1) := by decide +kernel
theorem dX8_odd_28 : decode cX8_odd 28 = .ok (.iaload, 1) := by decide +kernel
theorem dX8_odd_29 : decode cX8_odd 29 = .ok (.i2d, 1) := by decide +kernel
theorem dX8_odd_30 : decode cX8_odd 30 = .ok (.ddiv, 1) := by decide +kernel
theorem dX8_odd_31 : decode cX8_odd 31 = .ok (.dstore_n 2, 1) := by decide +kernel
theorem dX8_odd_32 : decode cX8_odd 32 = .ok (.dconst 1, 1) := by decide +kernel
theorem dX8_odd_33 : decode cX8_odd 33 = .ok (.dconst 1, 1) := by decide +kernel
theorem dX8_odd_34 : decode cX8_odd 34 = .ok (.aload_n 0, 1) := by decide +kernel
theorem dX8_odd_35 : decode cX8_odd 35 = .ok (.getfield 7, 3) := by decide +kernel
theorem dX8_odd_38 : decode cX8_odd 38 = .ok (.iload_n 1, 1) := by decide +kernel
theorem dX8_odd_39 : decode cX8_odd 39 = .ok (.iaload, 1) := by decide +kernel
theorem dX8_odd_40 : decode cX8_odd 40 = .ok (.i2d, 1) := by decide +kernel
theorem dX8_odd_41 : decode cX8_odd 41 = .ok (.ddiv, 1) := by decide +kernel
theorem dX8_odd_42 : decode cX8_odd 42 = .ok (.dsub, 1) := by decide +kernel
theorem dX8_odd_43 : decode cX8_odd 43 = .ok (.dstore 4, 2) := by decide +kernel
theorem dX8_odd_45 : decode cX8_odd 45 = .ok (.iconst 0, 1) := by decide +kernel
theorem dX8_odd_46 : decode cX8_odd 46 = .ok (.istore 6, 2) := by decide +kernel
theorem dX8_odd_48 : decode cX8_odd 48 = .ok (.iload 6, 2) := by decide +kernel
theorem dX8_odd_50 : decode cX8_odd 50 = .ok (.aload_n 0, 1) := by decide +kernel
theorem dX8_odd_51 : decode cX8_odd 51 = .ok (.getfield 93, 3) := by decide +kernel
theorem dX8_odd_54 : decode cX8_odd 54 = .ok (.if_icmp .gt 26, 3) := by decide +kernel
theorem dX8_odd_57 : decode cX8_odd 57 = .ok (.aload_n 0, 1) := by decide +kernel
theorem dX8_odd_58 : decode cX8_odd 58 = .ok (.getfield 76, 3) := by decide +kernel
theorem dX8_odd_61 : decode cX8_odd 61 = .ok (.iload 6, 2) := by decide +kernel
theorem dX8_odd_63 : decode cX8_odd 63 = .ok (.iload 6, 2) := by decide +kernel
theorem dX8_odd_65 : decode cX8_odd 65 = .ok (.ifCond .ne 7, 3) := by decide +kernel
theorem dX8_odd_68 : decode cX8_odd 68 = .ok (.dconst 1, 1) := by decide +kernel
theorem dX8_odd_69 : decode cX8_odd 69 = .ok (.goto 4, 3) := by decide +kernel
theorem dX8_odd_72 : decode cX8_odd 72 = .ok (.dconst 0, 1) := by decide +kernel
theorem dX8_odd_73 : decode cX8_odd 73 = .ok (.dastore, 1) := by decide +kernel
theorem dX8_odd_74 : decode cX8_odd 74 = .ok (.iinc 6 1, 3) := by decide +kernel
theorem dX8_odd_77 : decode cX8_odd 77 = .ok (.goto (-29), 3) := by decide +kernel
theorem dX8_odd_80 : decode cX8_odd 80 = .ok (.iconst 0, 1) := by decide +kernel
theorem dX8_odd_81 : decode cX8_odd 81 = .ok (.istore 6, 2) := by decide +kernel
theorem dX8_odd_83 : decode cX8_odd 83 = .ok (.iload 6, 2) := by decide +kernel
theorem dX8_odd_85 : decode cX8_odd 85 = .ok (.aload_n 0, 1) := by decide +kernel
theorem dX8_odd_86 : decode cX8_odd 86 = .ok (.getfield 93, 3) := by decide +kernel
theorem dX8_odd_89 : decode cX8_odd 89 = .ok (.if_icmp .ge 72, 3) := by decide +kernel
theorem dX8_odd_92 : decode cX8_odd 92 = .ok (.aload_n 0, 1) := by decide +kernel
theorem dX8_odd_93 : decode cX8_odd 93 = .ok (.getfield 93, 3) := by decide +kernel
theorem dX8_odd_96 : decode cX8_odd 96 = .ok (.istore 7, 2) := by decide +kernel
theorem dX8_odd_98 : decode cX8_odd 98 = .ok (.iload 7, 2) := by decide +kernel
theorem dX8_odd_100 : decode cX8_odd 100 = .ok (.ifCond .lt 55, 3) := by decide +kernel
theorem dX8_odd_103 : decode cX8_odd 103 = .ok (.aload_n 0, 1) := by decide +kernel
theorem dX8_odd_104 : decode cX8_odd 104 = .ok (.getfield 76, 3) := by decide +kernel
theorem dX8_odd_107 : decode cX8_odd 107 = .ok (.iload 7, 2) := by decide +kernel
theorem dX8_odd_109 : decode cX8_odd 109 = .ok (.iload 7, 2) := by decide +kernel
theorem dX8_odd_111 : decode cX8_odd 111 = .ok (.ifCond .ne 15, 3) := by decide +kernel
theorem dX8_odd_114 : decode cX8_odd 114 = .ok (.aload_n 0, 1) := by decide +kernel
theorem dX8_odd_115 : decode cX8_odd 115 = .ok (.getfield 76, 3) := by decide +kernel
theorem dX8_odd_118 : decode cX8_odd 118 = .ok (.iconst 0, 1) := by decide +kernel
theorem dX8_odd_119 : decode cX8_odd 119 = .ok (.daload, 1) := by decide +kernel
theorem dX8_odd_120 : decode cX8_odd 120 = .ok (.dload 4, 2) := by decide +kernel
theorem dX8_odd_122 : decode cX8_odd 122 = .ok (.dmul, 1) := by decide +kernel
theorem dX8_odd_123 : decode cX8_odd 123 = .ok (.goto 25, 3) := by decide +kernel
theorem dX8_odd_126 : decode cX8_odd 126 = .ok (.aload_n 0, 1) := by decide +kernel
theorem dX8_odd_127 : decode cX8_odd 127 = .ok (.getfield 76, 3) := by decide +kernel
theorem dX8_odd_130 : decode cX8_odd 130 = .ok (.iload 7, 2) := by decide +kernel
theorem dX8_odd_132 : decode cX8_odd 132 = .ok (.daload, 1) := by decide +kernel
theorem dX8_odd_133 : decode cX8_odd 133 = .ok (.dload 4, 2) := by decide +kernel
theorem dX8_odd_135 : decode cX8_odd 135 = .ok (.dmul, 1) := by decide +kernel
theorem dX8_odd_136 : decode cX8_odd 136 = .ok (.aload_n 0, 1) := by decide +kernel
theorem dX8_odd_137 : decode cX8_odd 137 = .ok (.getfield 76, 3) := by decide +kernel
theorem dX8_odd_140 : decode cX8_odd 140 = .ok (.iload 7, 2) := by decide +kernel
theorem dX8_odd_142 : decode cX8_odd 142 = .ok (.iconst 1, 1) := by decide +kernel
theorem dX8_odd_143 : decode cX8_odd 143 = .ok (.isub, 1) := by decide +kernel
theorem dX8_odd_144 : decode cX8_odd 144 = .ok (.daload, 1) := by decide +kernel
theorem dX8_odd_145 : decode cX8_odd 145 = .ok (.dload_n 2, 1) := by decide +kernel
theorem dX8_odd_146 : decode cX8_odd 146 = .ok (.dmul, 1) := by decide +kernel
theorem dX8_odd_147 : decode cX8_odd 147 = .ok (.dadd, 1) := by decide +kernel
theorem dX8_odd_148 : decode cX8_odd 148 = .ok (.dastore, 1) := by decide +kernel
theorem dX8_odd_149 : decode cX8_odd 149 = .ok (.iinc 7 (-1), 3) := by decide +kernel
theorem dX8_odd_152 : decode cX8_odd 152 = .ok (.goto (-54), 3) := by decide +kernel
theorem dX8_odd_155 : decode cX8_odd 155 = .ok (.iinc 6 1, 3) := by decide +kernel
theorem dX8_odd_158 : decode cX8_odd 158 = .ok (.goto (-75), 3) := by decide +kernel
theorem dX8_odd_161 : decode cX8_odd 161 = .ok (.dconst 0, 1) := by decide +kernel
theorem dX8_odd_162 : decode cX8_odd 162 = .ok (.dstore 6, 2) := by decide +kernel
theorem dX8_odd_164 : decode cX8_odd 164 = .ok (.aload_n 0, 1) := by decide +kernel
theorem dX8_odd_165 : decode cX8_odd 165 = .ok (.iload_n 1, 1) := by decide +kernel
theorem dX8_odd_166 : decode cX8_odd 166 = .ok (.aload_n 0, 1) := by decide +kernel
theorem dX8_odd_167 : decode cX8_odd 167 = .ok (.iload_n 1, 1) := by decide +kernel
theorem dX8_odd_168 : decode cX8_odd 168 = .ok (.invokevirtual 224, 3) := by decide +kernel
theorem dX8_odd_171 : decode cX8_odd 171 = .ok (.invokevirtual 221, 3) := by decide +kernel
theorem dX8_odd_174 : decode cX8_odd 174 = .ok (.istore 8, 2) := by decide +kernel
theorem dX8_odd_176 : decode cX8_odd 176 = .ok (.iload 8, 2) := by decide +kernel
theorem dX8_odd_178 : decode cX8_odd 178 = .ok (.aload_n 0, 1) := by decide +kernel
theorem dX8_odd_179 : decode cX8_odd 179 = .ok (.getfield 93, 3) := by decide +kernel
theorem dX8_odd_182 : decode cX8_odd 182 = .ok (.if_icmp .gt 21, 3) := by decide +kernel
theorem dX8_odd_185 : decode cX8_odd 185 = .ok (.dload 6, 2) := by decide +kernel
theorem dX8_odd_187 : decode cX8_odd 187 = .ok (.aload_n 0, 1) := by decide +kernel
theorem dX8_odd_188 : decode cX8_odd 188 = .ok (.getfield 76, 3) := by decide +kernel
theorem dX8_odd_191 : decode cX8_odd 191 = .ok (.iload 8, 2) := by decide +kernel
theorem dX8_odd_193 : decode cX8_odd 193 = .ok (.daload, 1) := by decide +kernel
theorem dX8_odd_194 : decode cX8_odd 194 = .ok (.dadd, 1) := by decide +kernel
theorem dX8_odd_195 : decode cX8_odd 195 = .ok (.dstore 6, 2) := by decide +kernel
theorem dX8_odd_197 : decode cX8_odd 197 = .ok (.iinc 8 1, 3) := by decide +kernel
theorem dX8_odd_200 : decode cX8_odd 200 = .ok (.goto (-24), 3) := by decide +kernel
theorem dX8_odd_203 : decode cX8_odd 203 = .ok (.dload 6, 2) := by decide +kernel
theorem dX8_odd_205 : decode cX8_odd 205 = .ok (.invokestatic 217, 3) := by decide +kernel
theorem dX8_odd_208 : decode cX8_odd 208 = .ok (.lreturn, 1) := by decide +kernel
theorem dX8_digest_0 : decode cX8_digest 0 = .ok (.ldc2_w 228, 3) := by decide +kernel
theorem dX8_digest_3 : decode cX8_digest 3 = .ok (.lstore_n 1, 1) := by decide +kernel
theorem dX8_digest_4 : decode cX8_digest 4 = .ok (.iconst 0, 1) := by decide +kernel
theorem dX8_digest_5 : decode cX8_digest 5 = .ok (.istore_n 3, 1) := by decide +kernel
theorem dX8_digest_6 : decode cX8_digest 6 = .ok (.iload_n 3, 1) := by decide +kernel
theorem dX8_digest_7 : decode cX8_digest 7 = .ok (.iconst 4, 1) := by decide +kernel
theorem dX8_digest_8 : decode cX8_digest 8 = .ok (.if_icmp .ge 21, 3) := by decide +kernel
theorem dX8_digest_11 : decode cX8_digest 11 = .ok (.ldc2_w 230, 3) := by decide +kernel
theorem dX8_digest_14 : decode cX8_digest 14 = .ok (.lload_n 1, 1) := by decide +kernel
theorem dX8_digest_15 : decode cX8_digest 15 = .ok (.lmul, 1) := by decide +kernel
theorem dX8_digest_16 : decode cX8_digest 16 = .ok (.aload_n 0, 1) := by decide +kernel
theorem dX8_digest_17 : decode cX8_digest 17 = .ok (.iload_n 3, 1) := by decide +kernel
theorem dX8_digest_18 : decode cX8_digest 18 = .ok (.invokevirtual 232, 3) := by decide +kernel
theorem dX8_digest_21 : decode cX8_digest 21 = .ok (.ladd, 1) := by decide +kernel
theorem dX8_digest_22 : decode cX8_digest 22 = .ok (.lstore_n 1, 1) := by decide +kernel
theorem dX8_digest_23 : decode cX8_digest 23 = .ok (.iinc 3 1, 3) := by decide +kernel
theorem dX8_digest_26 : decode cX8_digest 26 = .ok (.goto (-20), 3) := by decide +kernel
theorem dX8_digest_29 : decode cX8_digest 29 = .ok (.iconst 0, 1) := by decide +kernel
theorem dX8_digest_30 : decode cX8_digest 30 = .ok (.istore_n 3, 1) := by decide +kernel
theorem dX8_digest_31 : decode cX8_digest 31 = .ok (.iload_n 3, 1) := by decide +kernel
theorem dX8_digest_32 : decode cX8_digest 32 = .ok (.iconst 3, 1) := by decide +kernel
theorem dX8_digest_33 : decode cX8_digest 33 = .ok (.if_icmp .ge 63, 3) := by decide +kernel
theorem dX8_digest_36 : decode cX8_digest 36 = .ok (.ldc2_w 230, 3) := by decide +kernel
theorem dX8_digest_39 : decode cX8_digest 39 = .ok (.lload_n 1, 1) := by decide +kernel
theorem dX8_digest_40 : decode cX8_digest 40 = .ok (.lmul, 1) := by decide +kernel
theorem dX8_digest_41 : decode cX8_digest 41 = .ok (.aload_n 0, 1) := by decide +kernel
theorem dX8_digest_42 : decode cX8_digest 42 = .ok (.getfield 7, 3) := by decide +kernel
theorem dX8_digest_45 : decode cX8_digest 45 = .ok (.iload_n 3, 1) := by decide +kernel
theorem dX8_digest_46 : decode cX8_digest 46 = .ok (.iaload, 1) := by decide +kernel
theorem dX8_digest_47 : decode cX8_digest 47 = .ok (.i2l, 1) := by decide +kernel
theorem dX8_digest_48 : decode cX8_digest 48 = .ok (.ladd, 1) := by decide +kernel
theorem dX8_digest_49 : decode cX8_digest 49 = .ok (.lstore_n 1, 1) := by decide +kernel
theorem dX8_digest_50 : decode cX8_digest 50 = .ok (.iconst 0, 1) := by decide +kernel
theorem dX8_digest_51 : decode cX8_digest 51 = .ok (.istore 4, 2) := by decide +kernel
theorem dX8_digest_53 : decode cX8_digest 53 = .ok (.iload 4, 2) := by decide +kernel
theorem dX8_digest_55 : decode cX8_digest 55 = .ok (.aload_n 0, 1) := by decide +kernel
theorem dX8_digest_56 : decode cX8_digest 56 = .ok (.getfield 7, 3) := by decide +kernel
theorem dX8_digest_59 : decode cX8_digest 59 = .ok (.iload_n 3, 1) := by decide +kernel
theorem dX8_digest_60 : decode cX8_digest 60 = .ok (.iaload, 1) := by decide +kernel
theorem dX8_digest_61 : decode cX8_digest 61 = .ok (.if_icmp .ge 29, 3) := by decide +kernel
theorem dX8_digest_64 : decode cX8_digest 64 = .ok (.ldc2_w 230, 3) := by decide +kernel
theorem dX8_digest_67 : decode cX8_digest 67 = .ok (.lload_n 1, 1) := by decide +kernel
theorem dX8_digest_68 : decode cX8_digest 68 = .ok (.lmul, 1) := by decide +kernel
theorem dX8_digest_69 : decode cX8_digest 69 = .ok (.aload_n 0, 1) := by decide +kernel
theorem dX8_digest_70 : decode cX8_digest 70 = .ok (.getfield 13, 3) := by decide +kernel
theorem dX8_digest_73 : decode cX8_digest 73 = .ok (.bipush 20, 2) := by decide +kernel
theorem dX8_digest_75 : decode cX8_digest 75 = .ok (.iload_n 3, 1) := by decide +kernel
theorem dX8_digest_76 : decode cX8_digest 76 = .ok (.imul, 1) := by decide +kernel
theorem dX8_digest_77 : decode cX8_digest 77 = .ok (.iload 4, 2) := by decide +kernel
theorem dX8_digest_79 : decode cX8_digest 79 = .ok (.iadd, 1) := by decide +kernel
theorem dX8_digest_80 : decode cX8_digest 80 = .ok (.iaload, 1) := by decide +kernel
theorem dX8_digest_81 : decode cX8_digest 81 = .ok (.i2l, 1) := by decide +kernel
theorem dX8_digest_82 : decode cX8_digest 82 = .ok (.ladd, 1) := by decide +kernel
theorem dX8_digest_83 : decode cX8_digest 83 = .ok (.lstore_n 1, 1) := by decide +kernel
theorem dX8_digest_84 : decode cX8_digest 84 = .ok (.iinc 4 1, 3) := by decide +kernel
theorem dX8_digest_87 : decode cX8_digest 87 = .ok (.goto (-34), 3) := by decide +kernel
theorem dX8_digest_90 : decode cX8_digest 90 = .ok (.iinc 3 1, 3) := by decide +kernel
theorem dX8_digest_93 : decode cX8_digest 93 = .ok (.goto (-62), 3) := by decide +kernel
theorem dX8_digest_96 : decode cX8_digest 96 = .ok (.iconst 0, 1) := by decide +kernel
theorem dX8_digest_97 : decode cX8_digest 97 = .ok (.istore_n 3, 1) := by decide +kernel
theorem dX8_digest_98 : decode cX8_digest 98 = .ok (.iload_n 3, 1) := by decide +kernel
theorem dX8_digest_99 : decode cX8_digest 99 = .ok (.bipush 8, 2) := by decide +kernel
theorem dX8_digest_101 : decode cX8_digest 101 = .ok (.if_icmp .ge 23, 3) := by decide +kernel
theorem dX8_digest_104 : decode cX8_digest 104 = .ok (.ldc2_w 230, 3) := by decide +kernel
theorem dX8_digest_107 : decode cX8_digest 107 = .ok (.lload_n 1, 1) := by decide +kernel
theorem dX8_digest_108 : decode cX8_digest 108 = .ok (.lmul, 1) := by decide +kernel
theorem dX8_digest_109 : decode cX8_digest 109 = .ok (.aload_n 0, 1) := by decide +kernel
theorem dX8_digest_110 : decode cX8_digest 110 = .ok (.getfield 16, 3) := by decide +kernel
theorem dX8_digest_113 : decode cX8_digest 113 = .ok (.iload_n 3, 1) := by decide +kernel
theorem dX8_digest_114 : decode cX8_digest 114 = .ok (.iaload, 1) := by decide +kernel
theorem dX8_digest_115 : decode cX8_digest 115 = .ok (.i2l, 1) := by decide +kernel
theorem dX8_digest_116 : decode cX8_digest 116 = .ok (.ladd, 1) := by decide +kernel
theorem dX8_digest_117 : decode cX8_digest 117 = .ok (.lstore_n 1, 1) := by decide +kernel
theorem dX8_digest_118 : decode cX8_digest 118 = .ok (.iinc 3 1, 3) := by decide +kernel
theorem dX8_digest_121 : decode cX8_digest 121 = .ok (.goto (-23), 3) := by decide +kernel
theorem dX8_digest_124 : decode cX8_digest 124 = .ok (.iconst 0, 1) := by decide +kernel
theorem dX8_digest_125 : decode cX8_digest 125 = .ok (.istore_n 3, 1) := by decide +kernel
theorem dX8_digest_126 : decode cX8_digest 126 = .ok (.iload_n 3, 1) := by decide +kernel
theorem dX8_digest_127 : decode cX8_digest 127 = .ok (.aload_n 0, 1) := by decide +kernel
theorem dX8_digest_128 : decode cX8_digest 128 = .ok (.getfield 110, 3) := by decide +kernel
theorem dX8_digest_131 : decode cX8_digest 131 = .ok (.if_icmp .ge 65, 3) := by decide +kernel
theorem dX8_digest_134 : decode cX8_digest 134 = .ok (.ldc2_w 230, 3) := by decide +kernel
theorem dX8_digest_137 : decode cX8_digest 137 = .ok (.lload_n 1, 1) := by decide +kernel
theorem dX8_digest_138 : decode cX8_digest 138 = .ok (.lmul, 1) := by decide +kernel
theorem dX8_digest_139 : decode cX8_digest 139 = .ok (.aload_n 0, 1) := by decide +kernel
theorem dX8_digest_140 : decode cX8_digest 140 = .ok (.getfield 19, 3) := by decide +kernel
theorem dX8_digest_143 : decode cX8_digest 143 = .ok (.iload_n 3, 1) := by decide +kernel
theorem dX8_digest_144 : decode cX8_digest 144 = .ok (.iaload, 1) := by decide +kernel
theorem dX8_digest_145 : decode cX8_digest 145 = .ok (.i2l, 1) := by decide +kernel
theorem dX8_digest_146 : decode cX8_digest 146 = .ok (.ladd, 1) := by decide +kernel
theorem dX8_digest_147 : decode cX8_digest 147 = .ok (.lstore_n 1, 1) := by decide +kernel
theorem dX8_digest_148 : decode cX8_digest 148 = .ok (.ldc2_w 230, 3) := by decide +kernel
theorem dX8_digest_151 : decode cX8_digest 151 = .ok (.lload_n 1, 1) := by decide +kernel
theorem dX8_digest_152 : decode cX8_digest 152 = .ok (.lmul, 1) := by decide +kernel
theorem dX8_digest_153 : decode cX8_digest 153 = .ok (.aload_n 0, 1) := by decide +kernel
theorem dX8_digest_154 : decode cX8_digest 154 = .ok (.getfield 22, 3) := by decide +kernel
theorem dX8_digest_157 : decode cX8_digest 157 = .ok (.iload_n 3, 1) := by decide +kernel
theorem dX8_digest_158 : decode cX8_digest 158 = .ok (.iaload, 1) := by decide +kernel
theorem dX8_digest_159 : decode cX8_digest 159 = .ok (.i2l, 1) := by decide +kernel
theorem dX8_digest_160 : decode cX8_digest 160 = .ok (.ladd, 1) := by decide +kernel
theorem dX8_digest_161 : decode cX8_digest 161 = .ok (.lstore_n 1, 1) := by decide +kernel
theorem dX8_digest_162 : decode cX8_digest 162 = .ok (.ldc2_w 230, 3) := by decide +kernel
theorem dX8_digest_165 : decode cX8_digest 165 = .ok (.lload_n 1, 1) := by decide +kernel
theorem dX8_digest_166 : decode cX8_digest 166 = .ok (.lmul, 1) := by decide +kernel
theorem dX8_digest_167 : decode cX8_digest 167 = .ok (.aload_n 0, 1) := by decide +kernel
theorem dX8_digest_168 : decode cX8_digest 168 = .ok (.getfield 25, 3) := by decide +kernel
theorem dX8_digest_171 : decode cX8_digest 171 = .ok (.iload_n 3, 1) := by decide +kernel
theorem dX8_digest_172 : decode cX8_digest 172 = .ok (.iaload, 1) := by decide +kernel
theorem dX8_digest_173 : decode cX8_digest 173 = .ok (.i2l, 1) := by decide +kernel
theorem dX8_digest_174 : decode cX8_digest 174 = .ok (.ladd, 1) := by decide +kernel
theorem dX8_digest_175 : decode cX8_digest 175 = .ok (.lstore_n 1, 1) := by decide +kernel
theorem dX8_digest_176 : decode cX8_digest 176 = .ok (.ldc2_w 230, 3) := by decide +kernel
theorem dX8_digest_179 : decode cX8_digest 179 = .ok (.lload_n 1, 1) := by decide +kernel
theorem dX8_digest_180 : decode cX8_digest 180 = .ok (.lmul, 1) := by decide +kernel
theorem dX8_digest_181 : decode cX8_digest 181 = .ok (.aload_n 0, 1) := by decide +kernel
theorem dX8_digest_182 : decode cX8_digest 182 = .ok (.getfield 28, 3) := by decide +kernel
theorem dX8_digest_185 : decode cX8_digest 185 = .ok (.iload_n 3, 1) := by decide +kernel
theorem dX8_digest_186 : decode cX8_digest 186 = .ok (.iaload, 1) := by decide +kernel
theorem dX8_digest_187 : decode cX8_digest 187 = .ok (.i2l, 1) := by decide +kernel
theorem dX8_digest_188 : decode cX8_digest 188 = .ok (.ladd, 1) := by decide +kernel
theorem dX8_digest_189 : decode cX8_digest 189 = .ok (.lstore_n 1, 1) := by decide +kernel
theorem dX8_digest_190 : decode cX8_digest 190 = .ok (.iinc 3 1, 3) := by decide +kernel
theorem dX8_digest_193 : decode cX8_digest 193 = .ok (.goto (-67), 3) := by decide +kernel
theorem dX8_digest_196 : decode cX8_digest 196 = .ok (.ldc2_w 230, 3) := by decide +kernel
theorem dX8_digest_199 : decode cX8_digest 199 = .ok (.lload_n 1, 1) := by decide +kernel
theorem dX8_digest_200 : decode cX8_digest 200 = .ok (.lmul, 1) := by decide +kernel
theorem dX8_digest_201 : decode cX8_digest 201 = .ok (.aload_n 0, 1) := by decide +kernel
theorem dX8_digest_202 : decode cX8_digest 202 = .ok (.getfield 31, 3) := by decide +kernel
theorem dX8_digest_205 : decode cX8_digest 205 = .ok (.i2l, 1) := by decide +kernel
theorem dX8_digest_206 : decode cX8_digest 206 = .ok (.ladd, 1) := by decide +kernel
theorem dX8_digest_207 : decode cX8_digest 207 = .ok (.lstore_n 1, 1) := by decide +kernel
theorem dX8_digest_208 : decode cX8_digest 208 = .ok (.iconst 0, 1) := by decide +kernel
theorem dX8_digest_209 : decode cX8_digest 209 = .ok (.istore_n 3, 1) := by decide +kernel
theorem dX8_digest_210 : decode cX8_digest 210 = .ok (.iload_n 3, 1) := by decide +kernel
theorem dX8_digest_211 : decode cX8_digest 211 = .ok (.bipush 8, 2) := by decide +kernel
theorem dX8_digest_213 : decode cX8_digest 213 = .ok (.if_icmp .ge 22, 3) := by decide +kernel
theorem dX8_digest_216 : decode cX8_digest 216 = .ok (.ldc2_w 230, 3) := by decide +kernel
theorem dX8_digest_219 : decode cX8_digest 219 = .ok (.lload_n 1, 1) := by decide +kernel
theorem dX8_digest_220 : decode cX8_digest 220 = .ok (.lmul, 1) := by decide +kernel
theorem dX8_digest_221 : decode cX8_digest 221 = .ok (.aload_n 0, 1) := by decide +kernel
theorem dX8_digest_222 : decode cX8_digest 222 = .ok (.iload_n 3, 1) := by decide +kernel
theorem dX8_digest_223 : decode cX8_digest 223 = .ok (.invokevirtual 236, 3) := by decide +kernel
theorem dX8_digest_226 : decode cX8_digest 226 = .ok (.i2l, 1) := by decide +kernel
theorem dX8_digest_227 : decode cX8_digest 227 = .ok (.ladd, 1) := by decide +kernel
theorem dX8_digest_228 : decode cX8_digest 228 = .ok (.lstore_n 1, 1) := by decide +kernel
theorem dX8_digest_229 : decode cX8_digest 229 = .ok (.iinc 3 1, 3) := by decide +kernel
theorem dX8_digest_232 : decode cX8_digest 232 = .ok (.goto (-22), 3) := by decide +kernel
theorem dX8_digest_235 : decode cX8_digest 235 = .ok (.lload_n 1, 1) := by decide +kernel
theorem dX8_digest_236 : decode cX8_digest 236 = .ok (.lreturn, 1) := by decide +kernel
