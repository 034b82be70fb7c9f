theorem dX0_init_0 : decode cX0_init 0 = .ok (.aload_n 0, 1) := by decide +kernel
theorem dX0_init_1 : decode cX0_init 1 = .ok (.invokespecial 3, 3) := by decide +kernel
theorem dX0_init_4 : decode cX0_init 4 = .ok (.aload_n 0, 1) := by decide +kernel
theorem dX0_init_5 : decode cX0_init 5 = .ok (.sipush 201, 3) := by decide +kernel
theorem dX0_init_8 : decode cX0_init 8 = .ok (.newarray .double, 2) := by decide +kernel
theorem dX0_init_10 : decode cX0_init 10 = .ok (.putfield 9, 3) := by decide +kernel
theorem dX0_init_13 : decode cX0_init 13 = .ok (.aload_n 0, 1) := by decide +kernel
theorem dX0_init_14 : decode cX0_init 14 = .ok (.sipush 201, 3) := by decide +kernel
theorem dX0_init_17 : decode cX0_init 17 = .ok (.newarray .double, 2) := by decide +kernel
theorem dX0_init_19 : decode cX0_init 19 = .ok (.putfield 15, 3) := by decide +kernel
theorem dX0_init_22 : decode cX0_init 22 = .ok (.aload_n 0, 1) := by decide +kernel
theorem dX0_init_23 : decode cX0_init 23 = .ok (.sipush 201, 3) := by decide +kernel
theorem dX0_init_26 : decode cX0_init 26 = .ok (.newarray .double, 2) := by decide +kernel
theorem dX0_init_28 : decode cX0_init 28 = .ok (.putfield 18, 3) := by decide +kernel
theorem dX0_init_31 : decode cX0_init 31 = .ok (.return_, 1) := by decide +kernel
theorem dX0_runsDry_0 : decode cX0_runsDry 0 = .ok (.aload_n 0, 1) := by decide +kernel
theorem dX0_runsDry_1 : decode cX0_runsDry 1 = .ok (.getfield 18, 3) := by decide +kernel
theorem dX0_runsDry_4 : decode cX0_runsDry 4 = .ok (.dconst 0, 1) := by decide +kernel
theorem dX0_runsDry_5 : decode cX0_runsDry 5 = .ok (.invokestatic 21, 3) := by decide +kernel
theorem dX0_runsDry_8 : decode cX0_runsDry 8 = .ok (.iconst 1, 1) := by decide +kernel
theorem dX0_runsDry_9 : decode cX0_runsDry 9 = .ok (.istore 7, 2) := by decide +kernel
theorem dX0_runsDry_11 : decode cX0_runsDry 11 = .ok (.iload 7, 2) := by decide +kernel
theorem dX0_runsDry_13 : decode cX0_runsDry 13 = .ok (.iload_n 2, 1) := by decide +kernel
theorem dX0_runsDry_14 : decode cX0_runsDry 14 = .ok (.if_icmp .gt 84, 3) := by decide +kernel
theorem dX0_runsDry_17 : decode cX0_runsDry 17 = .ok (.aload_n 0, 1) := by decide +kernel
theorem dX0_runsDry_18 : decode cX0_runsDry 18 = .ok (.getfield 15, 3) := by decide +kernel
theorem dX0_runsDry_21 : decode cX0_runsDry 21 = .ok (.astore 8, 2) := by decide +kernel
theorem dX0_runsDry_23 : decode cX0_runsDry 23 = .ok (.aload_n 0, 1) := by decide +kernel
theorem dX0_runsDry_24 : decode cX0_runsDry 24 = .ok (.aload_n 0, 1) := by decide +kernel
theorem dX0_runsDry_25 : decode cX0_runsDry 25 = .ok (.getfield 18, 3) := by decide +kernel
theorem dX0_runsDry_28 : decode cX0_runsDry 28 = .ok (.putfield 15, 3) := by decide +kernel
theorem dX0_runsDry_31 : decode cX0_runsDry 31 = .ok (.aload_n 0, 1) := by decide +kernel
theorem dX0_runsDry_32 : decode cX0_runsDry 32 = .ok (.aload 8, 2) := by decide +kernel
theorem dX0_runsDry_34 : decode cX0_runsDry 34 = .ok (.putfield 18, 3) := by decide +kernel
theorem dX0_runsDry_37 : decode cX0_runsDry 37 = .ok (.iload 4, 2) := by decide +kernel
theorem dX0_runsDry_39 : decode cX0_runsDry 39 = .ok (.iload_n 1, 1) := by decide +kernel
theorem dX0_runsDry_40 : decode cX0_runsDry 40 = .ok (.iload_n 3, 1) := by decide +kernel
theorem dX0_runsDry_41 : decode cX0_runsDry 41 = .ok (.iload_n 2, 1) := by decide +kernel
theorem dX0_runsDry_42 : decode cX0_runsDry 42 = .ok (.iload 7, 2) := by decide +kernel
theorem dX0_runsDry_44 : decode cX0_runsDry 44 = .ok (.isub, 1) := by decide +kernel
theorem dX0_runsDry_45 : decode cX0_runsDry 45 = .ok (.imul, 1) := by decide +kernel
theorem dX0_runsDry_46 : decode cX0_runsDry 46 = .ok (.iadd, 1) := by decide +kernel
theorem dX0_runsDry_47 : decode cX0_runsDry 47 = .ok (.invokestatic 27, 3) := by decide +kernel
theorem dX0_runsDry_50 : decode cX0_runsDry 50 = .ok (.istore 9, 2) := by decide +kernel
theorem dX0_runsDry_52 : decode cX0_runsDry 52 = .ok (.iconst 0, 1) := by decide +kernel
theorem dX0_runsDry_53 : decode cX0_runsDry 53 = .ok (.istore 10, 2) := by decide +kernel
theorem dX0_runsDry_55 : decode cX0_runsDry 55 = .ok (.iload 10, 2) := by decide +kernel
theorem dX0_runsDry_57 : decode cX0_runsDry 57 = .ok (.iload 9, 2) := by decide +kernel
theorem dX0_runsDry_59 : decode cX0_runsDry 59 = .ok (.if_icmp .gt 33, 3) := by decide +kernel
theorem dX0_runsDry_62 : decode cX0_runsDry 62 = .ok (.aload_n 0, 1) := by decide +kernel
theorem dX0_runsDry_63 : decode cX0_runsDry 63 = .ok (.getfield 18, 3) := by decide +kernel
theorem dX0_runsDry_66 : decode cX0_runsDry 66 = .ok (.iload 10, 2) := by decide +kernel
theorem dX0_runsDry_68 : decode cX0_runsDry 68 = .ok (.aload_n 0, 1) := by decide +kernel
theorem dX0_runsDry_69 : decode cX0_runsDry 69 = .ok (.iload 4, 2) := by decide +kernel
theorem dX0_runsDry_71 : decode cX0_runsDry 71 = .ok (.iload 10, 2) := by decide +kernel
theorem dX0_runsDry_73 : decode cX0_runsDry 73 = .ok (.iload_n 3, 1) := by decide +kernel
theorem dX0_runsDry_74 : decode cX0_runsDry 74 = .ok (.iadd, 1) := by decide +kernel
theorem dX0_runsDry_75 : decode cX0_runsDry 75 = .ok (.invokestatic 27, 3) := by decide +kernel
theorem dX0_runsDry_78 : decode cX0_runsDry 78 = .ok (.aload 5, 2) := by decide +kernel
theorem dX0_runsDry_80 : decode cX0_runsDry 80 = .ok (.iload 6, 2) := by decide +kernel
theorem dX0_runsDry_82 : decode cX0_runsDry 82 = .ok (.invokevirtual 33, 3) := by decide +kernel
theorem dX0_runsDry_85 : decode cX0_runsDry 85 = .ok (.dastore, 1) := by decide +kernel
theorem dX0_runsDry_86 : decode cX0_runsDry 86 = .ok (.iinc 10 1, 3) := by decide +kernel
theorem dX0_runsDry_89 : decode cX0_runsDry 89 = .ok (.goto (-34), 3) := by decide +kernel
theorem dX0_runsDry_92 : decode cX0_runsDry 92 = .ok (.iinc 7 1, 3) := by decide +kernel
theorem dX0_runsDry_95 : decode cX0_runsDry 95 = .ok (.goto (-84), 3) := by decide +kernel
theorem dX0_runsDry_98 : decode cX0_runsDry 98 = .ok (.aload_n 0, 1) := by decide +kernel
theorem dX0_runsDry_99 : decode cX0_runsDry 99 = .ok (.getfield 18, 3) := by decide +kernel
theorem dX0_runsDry_102 : decode cX0_runsDry 102 = .ok (.iload_n 1, 1) := by decide +kernel
theorem dX0_runsDry_103 : decode cX0_runsDry 103 = .ok (.daload, 1) := by decide +kernel
theorem dX0_runsDry_104 : decode cX0_runsDry 104 = .ok (.dreturn, 1) := by decide +kernel
theorem dX0_oneGame_0 : decode cX0_oneGame 0 = .ok (.dconst 0, 1) := by decide +kernel
theorem dX0_oneGame_1 : decode cX0_oneGame 1 = .ok (.dstore 4, 2) := by decide +kernel
theorem dX0_oneGame_3 : decode cX0_oneGame 3 = .ok (.iconst 0, 1) := by decide +kernel
theorem dX0_oneGame_4 : decode cX0_oneGame 4 = .ok (.istore 6, 2) := by decide +kernel
theorem dX0_oneGame_6 : decode cX0_oneGame 6 = .ok (.iload 6, 2) := by decide +kernel
theorem dX0_oneGame_8 : decode cX0_oneGame 8 = .ok (.aload_n 2, 1) := by decide +kernel
theorem dX0_oneGame_9 : decode cX0_oneGame 9 = .ok (.getfield 37, 3) := by decide +kernel
theorem dX0_oneGame_12 : decode cX0_oneGame 12 = .ok (.if_icmp .ge 58, 3) := by decide +kernel
theorem dX0_oneGame_15 : decode cX0_oneGame 15 = .ok (.aload_n 2, 1) := by decide +kernel
theorem dX0_oneGame_16 : decode cX0_oneGame 16 = .ok (.getfield 43, 3) := by decide +kernel
theorem dX0_oneGame_19 : decode cX0_oneGame 19 = .ok (.iload 6, 2) := by decide +kernel
theorem dX0_oneGame_21 : decode cX0_oneGame 21 = .ok (.iaload, 1) := by decide +kernel
theorem dX0_oneGame_22 : decode cX0_oneGame 22 = .ok (.istore 7, 2) := by decide +kernel
theorem dX0_oneGame_24 : decode cX0_oneGame 24 = .ok (.aload_n 2, 1) := by decide +kernel
theorem dX0_oneGame_25 : decode cX0_oneGame 25 = .ok (.getfield 47, 3) := by decide +kernel
theorem dX0_oneGame_28 : decode cX0_oneGame 28 = .ok (.iload 6, 2) := by decide +kernel
theorem dX0_oneGame_30 : decode cX0_oneGame 30 = .ok (.iaload, 1) := by decide +kernel
theorem dX0_oneGame_31 : decode cX0_oneGame 31 = .ok (.i2d, 1) := by decide +kernel
theorem dX0_oneGame_32 : decode cX0_oneGame 32 = .ok (.iload_n 3, 1) := by decide +kernel
theorem dX0_oneGame_33 : decode cX0_oneGame 33 = .ok (.i2d, 1) := by decide +kernel
theorem dX0_oneGame_34 : decode cX0_oneGame 34 = .ok (.ddiv, 1) := by decide +kernel
theorem dX0_oneGame_35 : decode cX0_oneGame 35 = .ok (.dstore 8, 2) := by decide +kernel
theorem dX0_oneGame_37 : decode cX0_oneGame 37 = .ok (.dload 4, 2) := by decide +kernel
theorem dX0_oneGame_39 : decode cX0_oneGame 39 = .ok (.dload 8, 2) := by decide +kernel
theorem dX0_oneGame_41 : decode cX0_oneGame 41 = .ok (.iload 7, 2) := by decide +kernel
theorem dX0_oneGame_43 : decode cX0_oneGame 43 = .ok (.iload_n 1, 1) := by decide +kernel
theorem dX0_oneGame_44 : decode cX0_oneGame 44 = .ok (.if_icmp .le 7, 3) := by decide +kernel
theorem dX0_oneGame_47 : decode cX0_oneGame 47 = .ok (.dconst 1, 1) := by decide +kernel
theorem dX0_oneGame_48 : decode cX0_oneGame 48 = .ok (.goto 12, 3) := by decide +kernel
theorem dX0_oneGame_51 : decode cX0_oneGame 51 = .ok (.aload_n 0, 1) := by decide +kernel
theorem dX0_oneGame_52 : decode cX0_oneGame 52 = .ok (.getfield 15, 3) := by decide +kernel
theorem dX0_oneGame_55 : decode cX0_oneGame 55 = .ok (.iload_n 1, 1) := by decide +kernel
theorem dX0_oneGame_56 : decode cX0_oneGame 56 = .ok (.iload 7, 2) := by decide +kernel
theorem dX0_oneGame_58 : decode cX0_oneGame 58 = .ok (.isub, 1) := by decide +kernel
theorem dX0_oneGame_59 : decode cX0_oneGame 59 = .ok (.daload, 1) := by decide +kernel
theorem dX0_oneGame_60 : decode cX0_oneGame 60 = .ok (.dmul, 1) := by decide +kernel
theorem dX0_oneGame_61 : decode cX0_oneGame 61 = .ok (.dadd, 1) := by decide +kernel
theorem dX0_oneGame_62 : decode cX0_oneGame 62 = .ok (.dstore 4, 2) := by decide +kernel
theorem dX0_oneGame_64 : decode cX0_oneGame 64 = .ok (.iinc 6 1, 3) := by decide +kernel
theorem dX0_oneGame_67 : decode cX0_oneGame 67 = .ok (.goto (-61), 3) := by decide +kernel
theorem dX0_oneGame_70 : decode cX0_oneGame 70 = .ok (.dload 4, 2) := by decide +kernel
theorem dX0_oneGame_72 : decode cX0_oneGame 72 = .ok (.dreturn, 1) := by decide +kernel
theorem dX0_asOften_0 : decode cX0_asOften 0 = .ok (.dconst 1, 1) := by decide +kernel
theorem dX0_asOften_1 : decode cX0_asOften 1 = .ok (.iload_n 3, 1) := by decide +kernel
theorem dX0_asOften_2 : decode cX0_asOften 2 = .ok (.i2d, 1) := by decide +kernel
theorem dX0_asOften_3 : decode cX0_asOften 3 = .ok (.ddiv, 1) := by decide +kernel
theorem dX0_asOften_4 : decode cX0_asOften 4 = .ok (.dstore 4, 2) := by decide +kernel
theorem dX0_asOften_6 : decode cX0_asOften 6 = .ok (.dconst 1, 1) := by decide +kernel
theorem dX0_asOften_7 : decode cX0_asOften 7 = .ok (.dconst 1, 1) := by decide +kernel
theorem dX0_asOften_8 : decode cX0_asOften 8 = .ok (.iload_n 3, 1) := by decide +kernel
theorem dX0_asOften_9 : decode cX0_asOften 9 = .ok (.i2d, 1) := by decide +kernel
theorem dX0_asOften_10 : decode cX0_asOften 10 = .ok (.ddiv, 1) := by decide +kernel
theorem dX0_asOften_11 : decode cX0_asOften 11 = .ok (.dsub, 1) := by decide +kernel
theorem dX0_asOften_12 : decode cX0_asOften 12 = .ok (.dstore 6, 2) := by decide +kernel
theorem dX0_asOften_14 : decode cX0_asOften 14 = .ok (.aload_n 0, 1) := by decide +kernel
theorem dX0_asOften_15 : decode cX0_asOften 15 = .ok (.getfield 9, 3) := by decide +kernel
theorem dX0_asOften_18 : decode cX0_asOften 18 = .ok (.dconst 0, 1) := by decide +kernel
theorem dX0_asOften_19 : decode cX0_asOften 19 = .ok (.invokestatic 21, 3) := by decide +kernel
theorem dX0_asOften_22 : decode cX0_asOften 22 = .ok (.aload_n 0, 1) := by decide +kernel
theorem dX0_asOften_23 : decode cX0_asOften 23 = .ok (.getfield 9, 3) := by decide +kernel
theorem dX0_asOften_26 : decode cX0_asOften 26 = .ok (.iconst 0, 1) := by decide +kernel
theorem dX0_asOften_27 : decode cX0_asOften 27 = .ok (.dconst 1, 1) := by decide +kernel
theorem dX0_asOften_28 : decode cX0_asOften 28 = .ok (.dastore, 1) := by decide +kernel
theorem dX0_asOften_29 : decode cX0_asOften 29 = .ok (.iconst 1, 1) := by decide +kernel
theorem dX0_asOften_30 : decode cX0_asOften 30 = .ok (.istore 8, 2) := by decide +kernel
theorem dX0_asOften_32 : decode cX0_asOften 32 = .ok (.iload 8, 2) := by decide +kernel
theorem dX0_asOften_34 : decode cX0_asOften 34 = .ok (.iload_n 2, 1) := by decide +kernel
theorem dX0_asOften_35 : decode cX0_asOften 35 = .ok (.if_icmp .gt 70, 3) := by decide +kernel
theorem dX0_asOften_38 : decode cX0_asOften 38 = .ok (.iload 8, 2) := by decide +kernel
theorem dX0_asOften_40 : decode cX0_asOften 40 = .ok (.istore 9, 2) := by decide +kernel
theorem dX0_asOften_42 : decode cX0_asOften 42 = .ok (.iload 9, 2) := by decide +kernel
theorem dX0_asOften_44 : decode cX0_asOften 44 = .ok (.iconst 1, 1) := by decide +kernel
theorem dX0_asOften_45 : decode cX0_asOften 45 = .ok (.if_icmp .lt 39, 3) := by decide +kernel
theorem dX0_asOften_48 : decode cX0_asOften 48 = .ok (.aload_n 0, 1) := by decide +kernel
theorem dX0_asOften_49 : decode cX0_asOften 49 = .ok (.getfield 9, 3) := by decide +kernel
theorem dX0_asOften_52 : decode cX0_asOften 52 = .ok (.iload 9, 2) := by decide +kernel
theorem dX0_asOften_54 : decode cX0_asOften 54 = .ok (.aload_n 0, 1) := by decide +kernel
theorem dX0_asOften_55 : decode cX0_asOften 55 = .ok (.getfield 9, 3) := by decide +kernel
theorem dX0_asOften_58 : decode cX0_asOften 58 = .ok (.iload 9, 2) := by decide +kernel
theorem dX0_asOften_60 : decode cX0_asOften 60 = .ok (.daload, 1) := by decide +kernel
theorem dX0_asOften_61 : decode cX0_asOften 61 = .ok (.dload 6, 2) := by decide +kernel
theorem dX0_asOften_63 : decode cX0_asOften 63 = .ok (.dmul, 1) := by decide +kernel
theorem dX0_asOften_64 : decode cX0_asOften 64 = .ok (.aload_n 0, 1) := by decide +kernel
theorem dX0_asOften_65 : decode cX0_asOften 65 = .ok (.getfield 9, 3) := by decide +kernel
theorem dX0_asOften_68 : decode cX0_asOften 68 = .ok (.iload 9, 2) := by decide +kernel
theorem dX0_asOften_70 : decode cX0_asOften 70 = .ok (.iconst 1, 1) := by decide +kernel
theorem dX0_asOften_71 : decode cX0_asOften 71 = .ok (.isub, 1) := by decide +kernel
theorem dX0_asOften_72 : decode cX0_asOften 72 = .ok (.daload, 1) := by decide +kernel
theorem dX0_asOften_73 : decode cX0_asOften 73 = .ok (.dload 4, 2) := by decide +kernel
theorem dX0_asOften_75 : decode cX0_asOften 75 = .ok (.dmul, 1) := by decide +kernel
theorem dX0_asOften_76 : decode cX0_asOften 76 = .ok (.dadd, 1) := by decide +kernel
theorem dX0_asOften_77 : decode cX0_asOften 77 = .ok (.dastore, 1) := by decide +kernel
theorem dX0_asOften_78 : decode cX0_asOften 78 = .ok (.iinc 9 (-1), 3) := by decide +kernel
theorem dX0_asOften_81 : decode cX0_asOften 81 = .ok (.goto (-39), 3) := by decide +kernel
theorem dX0_asOften_84 : decode cX0_asOften 84 = .ok (.aload_n 0, 1) := by decide +kernel
theorem dX0_asOften_85 : decode cX0_asOften 85 = .ok (.getfield 9, 3) := by decide +kernel
theorem dX0_asOften_88 : decode cX0_asOften 88 = .ok (.iconst 0, 1) := by decide +kernel
theorem dX0_asOften_89 : decode cX0_asOften 89 = .ok (.aload_n 0, 1) := by decide +kernel
theorem dX0_asOften_90 : decode cX0_asOften 90 = .ok (.getfield 9, 3) := by decide +kernel
theorem dX0_asOften_93 : decode cX0_asOften 93 = .ok (.iconst 0, 1) := by decide +kernel
theorem dX0_asOften_94 : decode cX0_asOften 94 = .ok (.daload, 1) := by decide +kernel
theorem dX0_asOften_95 : decode cX0_asOften 95 = .ok (.dload 6, 2) := by decide +kernel
theorem dX0_asOften_97 : decode cX0_asOften 97 = .ok (.dmul, 1) := by decide +kernel
theorem dX0_asOften_98 : decode cX0_asOften 98 = .ok (.dastore, 1) := by decide +kernel
theorem dX0_asOften_99 : decode cX0_asOften 99 = .ok (.iinc 8 1, 3) := by decide +kernel
theorem dX0_asOften_102 : decode cX0_asOften 102 = .ok (.goto (-70), 3) := by decide +kernel
theorem dX0_asOften_105 : decode cX0_asOften 105 = .ok (.dconst 0, 1) := by decide +kernel
theorem dX0_asOften_106 : decode cX0_asOften 106 = .ok (.dstore 8, 2) := by decide +kernel
theorem dX0_asOften_108 : decode cX0_asOften 108 = .ok (.iload_n 1, 1) := by decide +kernel
theorem dX0_asOften_109 : decode cX0_asOften 109 = .ok (.istore 10, 2) := by decide +kernel
theorem dX0_asOften_111 : decode cX0_asOften 111 = .ok (.iload 10, 2) := by decide +kernel
theorem dX0_asOften_113 : decode cX0_asOften 113 = .ok (.iload_n 2, 1) := by decide +kernel
theorem dX0_asOften_114 : decode cX0_asOften 114 = .ok (.if_icmp .gt 21, 3) := by decide +kernel
theorem dX0_asOften_117 : decode cX0_asOften 117 = .ok (.dload 8, 2) := by decide +kernel
theorem dX0_asOften_119 : decode cX0_asOften 119 = .ok (.aload_n 0, 1) := by decide +kernel
theorem dX0_asOften_120 : decode cX0_asOften 120 = .ok (.getfield 9, 3) := by decide +kernel
theorem dX0_asOften_123 : decode cX0_asOften 123 = .ok (.iload 10, 2) := by decide +kernel
theorem dX0_asOften_125 : decode cX0_asOften 125 = .ok (.daload, 1) := by decide +kernel
theorem dX0_asOften_126 : decode cX0_asOften 126 = .ok (.dadd, 1) := by decide +kernel
theorem dX0_asOften_127 : decode cX0_asOften 127 = .ok (.dstore 8, 2) := by decide +kernel
theorem dX0_asOften_129 : decode cX0_asOften 129 = .ok (.iinc 10 1, 3) := by decide +kernel
theorem dX0_asOften_132 : decode cX0_asOften 132 = .ok (.goto (-21), 3) := by decide +kernel
theorem dX0_asOften_135 : decode cX0_asOften 135 = .ok (.dload 8, 2) := by decide +kernel
theorem dX0_asOften_137 : decode cX0_asOften 137 = .ok (.dreturn, 1) := by decide +kernel
theorem dX1_init_0 : decode cX1_init 0 = .ok (.aload_n 0, 1) := by decide +kernel
theorem dX1_init_1 : decode cX1_init 1 = .ok (.invokespecial 1, 3) := by decide +kernel
theorem dX1_init_4 : decode cX1_init 4 = .ok (.aload_n 0, 1) := by decide +kernel
theorem dX1_init_5 : decode cX1_init 5 = .ok (.sipush 455, 3) := by decide +kernel
theorem dX1_init_8 : decode cX1_init 8 = .ok (.newarray .int, 2) := by decide +kernel
theorem dX1_init_10 : decode cX1_init 10 = .ok (.putfield 9, 3) := by decide +kernel
theorem dX1_init_13 : decode cX1_init 13 = .ok (.aload_n 0, 1) := by decide +kernel
theorem dX1_init_14 : decode cX1_init 14 = .ok (.sipush 455, 3) := by decide +kernel
theorem dX1_init_17 : decode cX1_init 17 = .ok (.newarray .int, 2) := by decide +kernel
theorem dX1_init_19 : decode cX1_init 19 = .ok (.putfield 13, 3) := by decide +kernel
theorem dX1_init_22 : decode cX1_init 22 = .ok (.aload_n 0, 1) := by decide +kernel
theorem dX1_init_23 : decode cX1_init 23 = .ok (.iconst 0, 1) := by decide +kernel
theorem dX1_init_24 : decode cX1_init 24 = .ok (.putfield 16, 3) := by decide +kernel
theorem dX1_init_27 : decode cX1_init 27 = .ok (.return_, 1) := by decide +kernel
theorem dX1_begin_0 : decode cX1_begin 0 = .ok (.aload_n 0, 1) := by decide +kernel
theorem dX1_begin_1 : decode cX1_begin 1 = .ok (.iconst 0, 1) := by decide +kernel
theorem dX1_begin_2 : decode cX1_begin 2 = .ok (.putfield 16, 3) := by decide +kernel
theorem dX1_begin_5 : decode cX1_begin 5 = .ok (.return_, 1) := by decide +kernel
theorem dX1_add_0 : decode cX1_add 0 = .ok (.aload_n 0, 1) := by decide +kernel
theorem dX1_add_1 : decode cX1_add 1 = .ok (.iload_n 1, 1) := by decide +kernel
theorem dX1_add_2 : decode cX1_add 2 = .ok (.invokevirtual 20, 3) := by decide +kernel
theorem dX1_add_5 : decode cX1_add 5 = .ok (.istore_n 2, 1) := by decide +kernel
theorem dX1_add_6 : decode cX1_add 6 = .ok (.iload_n 2, 1) := by decide +kernel
theorem dX1_add_7 : decode cX1_add 7 = .ok (.aload_n 0, 1) := by decide +kernel
theorem dX1_add_8 : decode cX1_add 8 = .ok (.getfield 16, 3) := by decide +kernel
theorem dX1_add_11 : decode cX1_add 11 = .ok (.if_icmp .ge 26, 3) := by decide +kernel
theorem dX1_add_14 : decode cX1_add 14 = .ok (.aload_n 0, 1) := by decide +kernel
theorem dX1_add_15 : decode cX1_add 15 = .ok (.getfield 9, 3) := by decide +kernel
theorem dX1_add_18 : decode cX1_add 18 = .ok (.iload_n 2, 1) := by decide +kernel
theorem dX1_add_19 : decode cX1_add 19 = .ok (.iaload, 1) := by decide +kernel
theorem dX1_add_20 : decode cX1_add 20 = .ok (.iload_n 1, 1) := by decide +kernel
theorem dX1_add_21 : decode cX1_add 21 = .ok (.if_icmp .ne 16, 3) := by decide +kernel
theorem dX1_add_24 : decode cX1_add 24 = .ok (.aload_n 0, 1) := by decide +kernel
theorem dX1_add_25 : decode cX1_add 25 = .ok (.getfield 13, 3) := by decide +kernel
theorem dX1_add_28 : decode cX1_add 28 = .ok (.iload_n 2, 1) := by decide +kernel
theorem dX1_add_29 : decode cX1_add 29 = .ok (.dup2, 1) := by decide +kernel
theorem dX1_add_30 : decode cX1_add 30 = .ok (.iaload, 1) := by decide +kernel
theorem dX1_add_31 : decode cX1_add 31 = .ok (.iconst 1, 1) := by decide +kernel
theorem dX1_add_32 : decode cX1_add 32 = .ok (.iadd, 1) := by decide +kernel
theorem dX1_add_33 : decode cX1_add 33 = .ok (.iastore, 1) := by decide +kernel
theorem dX1_add_34 : decode cX1_add 34 = .ok (.goto 79, 3) := by decide +kernel
theorem dX1_add_37 : decode cX1_add 37 = .ok (.aload_n 0, 1) := by decide +kernel
theorem dX1_add_38 : decode cX1_add 38 = .ok (.getfield 16, 3) := by decide +kernel
theorem dX1_add_41 : decode cX1_add 41 = .ok (.sipush 455, 3) := by decide +kernel
theorem dX1_add_44 : decode cX1_add 44 = .ok (.if_icmp .ge 69, 3) := by decide +kernel
theorem dX1_add_47 : decode cX1_add 47 = .ok (.aload_n 0, 1) := by decide +kernel
theorem dX1_add_48 : decode cX1_add 48 = .ok (.getfield 9, 3) := by decide +kernel
theorem dX1_add_51 : decode cX1_add 51 = .ok (.iload_n 2, 1) := by decide +kernel
theorem dX1_add_52 : decode cX1_add 52 = .ok (.aload_n 0, 1) := by decide +kernel
theorem dX1_add_53 : decode cX1_add 53 = .ok (.getfield 9, 3) := by decide +kernel
theorem dX1_add_56 : decode cX1_add 56 = .ok (.iload_n 2, 1) := by decide +kernel
theorem dX1_add_57 : decode cX1_add 57 = .ok (.iconst 1, 1) := by decide +kernel
theorem dX1_add_58 : decode cX1_add 58 = .ok (.iadd, 1) := by decide +kernel
theorem dX1_add_59 : decode cX1_add 59 = .ok (.aload_n 0, 1) := by decide +kernel
theorem dX1_add_60 : decode cX1_add 60 = .ok (.getfield 16, 3) := by decide +kernel
theorem dX1_add_63 : decode cX1_add 63 = .ok (.iload_n 2, 1) := by decide +kernel
theorem dX1_add_64 : decode cX1_add 64 = .ok (.isub, 1) := by decide +kernel
theorem dX1_add_65 : decode cX1_add 65 = .ok (.invokestatic 24, 3) := by decide +kernel
theorem dX1_add_68 : decode cX1_add 68 = .ok (.aload_n 0, 1) := by decide +kernel
theorem dX1_add_69 : decode cX1_add 69 = .ok (.getfield 13, 3) := by decide +kernel
theorem dX1_add_72 : decode cX1_add 72 = .ok (.iload_n 2, 1) := by decide +kernel
theorem dX1_add_73 : decode cX1_add 73 = .ok (.aload_n 0, 1) := by decide +kernel
theorem dX1_add_74 : decode cX1_add 74 = .ok (.getfield 13, 3) := by decide +kernel
theorem dX1_add_77 : decode cX1_add 77 = .ok (.iload_n 2, 1) := by decide +kernel
theorem dX1_add_78 : decode cX1_add 78 = .ok (.iconst 1, 1) := by decide +kernel
theorem dX1_add_79 : decode cX1_add 79 = .ok (.iadd, 1) := by decide +kernel
theorem dX1_add_80 : decode cX1_add 80 = .ok (.aload_n 0, 1) := by decide +kernel
theorem dX1_add_81 : decode cX1_add 81 = .ok (.getfield 16, 3) := by decide +kernel
theorem dX1_add_84 : decode cX1_add 84 = .ok (.iload_n 2, 1) := by decide +kernel
theorem dX1_add_85 : decode cX1_add 85 = .ok (.isub, 1) := by decide +kernel
theorem dX1_add_86 : decode cX1_add 86 = .ok (.invokestatic 24, 3) := by decide +kernel
theorem dX1_add_89 : decode cX1_add 89 = .ok (.aload_n 0, 1) := by decide +kernel
theorem dX1_add_90 : decode cX1_add 90 = .ok (.getfield 9, 3) := by decide +kernel
theorem dX1_add_93 : decode cX1_add 93 = .ok (.iload_n 2, 1) := by decide +kernel
theorem dX1_add_94 : decode cX1_add 94 = .ok (.iload_n 1, 1) := by decide +kernel
theorem dX1_add_95 : decode cX1_add 95 = .ok (.iastore, 1) := by decide +kernel
theorem dX1_add_96 : decode cX1_add 96 = .ok (.aload_n 0, 1) := by decide +kernel
theorem dX1_add_97 : decode cX1_add 97 = .ok (.getfield 13, 3) := by decide +kernel
theorem dX1_add_100 : decode cX1_add 100 = .ok (.iload_n 2, 1) := by decide +kernel
theorem dX1_add_101 : decode cX1_add 101 = .ok (.iconst 1, 1) := by decide +kernel
theorem dX1_add_102 : decode cX1_add 102 = .ok (.iastore, 1) := by decide +kernel
theorem dX1_add_103 : decode cX1_add 103 = .ok (.aload_n 0, 1) := by decide +kernel
theorem dX1_add_104 : decode cX1_add 104 = .ok (.dup, 1) := by decide +kernel
theorem dX1_add_105 : decode cX1_add 105 = .ok (.getfield 16, 3) := by decide +kernel
theorem dX1_add_108 : decode cX1_add 108 = .ok (.iconst 1, 1) := by decide +kernel
theorem dX1_add_109 : decode cX1_add 109 = .ok (.iadd, 1) := by decide +kernel
theorem dX1_add_110 : decode cX1_add 110 = .ok (.putfield 16, 3) := by decide +kernel
theorem dX1_add_113 : decode cX1_add 113 = .ok (.return_, 1) := by decide +kernel
theorem dX1_placeOf_0 : decode cX1_placeOf 0 = .ok (.iconst 0, 1) := by decide +kernel
theorem dX1_placeOf_1 : decode cX1_placeOf 1 = .ok (.istore_n 2, 1) := by decide +kernel
theorem dX1_placeOf_2 : decode cX1_placeOf 2 = .ok (.sipush 256, 3) := by decide +kernel
theorem dX1_placeOf_5 : decode cX1_placeOf 5 = .ok (.istore_n 3, 1) := by decide +kernel
theorem dX1_placeOf_6 : decode cX1_placeOf 6 = .ok (.iload_n 3, 1) := by decide +kernel
theorem dX1_placeOf_7 : decode cX1_placeOf 7 = .ok (.ifCond .le 38, 3) := by decide +kernel
theorem dX1_placeOf_10 : decode cX1_placeOf 10 = .ok (.iload_n 2, 1) := by decide +kernel
theorem dX1_placeOf_11 : decode cX1_placeOf 11 = .ok (.iload_n 3, 1) := by decide +kernel
theorem dX1_placeOf_12 : decode cX1_placeOf 12 = .ok (.iadd, 1) := by decide +kernel
theorem dX1_placeOf_13 : decode cX1_placeOf 13 = .ok (.aload_n 0, 1) := by decide +kernel
theorem dX1_placeOf_14 : decode cX1_placeOf 14 = .ok (.getfield 16, 3) := by decide +kernel
theorem dX1_placeOf_17 : decode cX1_placeOf 17 = .ok (.if_icmp .gt 21, 3) := by decide +kernel
theorem dX1_placeOf_20 : decode cX1_placeOf 20 = .ok (.aload_n 0, 1) := by decide +kernel
theorem dX1_placeOf_21 : decode cX1_placeOf 21 = .ok (.getfield 9, 3) := by decide +kernel
theorem dX1_placeOf_24 : decode cX1_placeOf 24 = .ok (.iload_n 2, 1) := by decide +kernel
theorem dX1_placeOf_25 : decode cX1_placeOf 25 = .ok (.iload_n 3, 1) := by decide +kernel
theorem dX1_placeOf_26 : decode cX1_placeOf 26 = .ok (.iadd, 1) := by decide +kernel
theorem dX1_placeOf_27 : decode cX1_placeOf 27 = .ok (.iconst 1, 1) := by decide +kernel
theorem dX1_placeOf_28 : decode cX1_placeOf 28 = .ok (.isub, 1) := by decide +kernel
theorem dX1_placeOf_29 : decode cX1_placeOf 29 = .ok (.iaload, 1) := by decide +kernel
theorem dX1_placeOf_30 : decode cX1_placeOf 30 = .ok (.iload_n 1, 1) := by decide +kernel
theorem dX1_placeOf_31 : decode cX1_placeOf 31 = .ok (.if_icmp .ge 7, 3) := by decide +kernel
theorem dX1_placeOf_34 : decode cX1_placeOf 34 = .ok (.iload_n 2, 1) := by decide +kernel
theorem dX1_placeOf_35 : decode cX1_placeOf 35 = .ok (.iload_n 3, 1) := by decide +kernel
theorem dX1_placeOf_36 : decode cX1_placeOf 36 = .ok (.iadd, 1) := by decide +kernel
theorem dX1_placeOf_37 : decode cX1_placeOf 37 = .ok (.istore_n 2, 1) := by decide +kernel
theorem dX1_placeOf_38 : decode cX1_placeOf 38 = .ok (.iload_n 3, 1) := by decide +kernel
theorem dX1_placeOf_39 : decode cX1_placeOf 39 = .ok (.iconst 2, 1) := by decide +kernel
theorem dX1_placeOf_40 : decode cX1_placeOf 40 = .ok (.idiv, 1) := by decide +kernel
theorem dX1_placeOf_41 : decode cX1_placeOf 41 = .ok (.istore_n 3, 1) := by decide +kernel
theorem dX1_placeOf_42 : decode cX1_placeOf 42 = .ok (.goto (-36), 3) := by decide +kernel
theorem dX1_placeOf_45 : decode cX1_placeOf 45 = .ok (.iload_n 2, 1) := by decide +kernel
theorem dX1_placeOf_46 : decode cX1_placeOf 46 = .ok (.ireturn, 1) := by decide +kernel
theorem dX2_init_0 : decode cX2_init 0 = .ok (.aload_n 0, 1) := by decide +kernel
theorem dX2_init_1 : decode cX2_init 1 = .ok (.invokespecial 3, 3) := by decide +kernel
theorem dX2_init_4 : decode cX2_init 4 = .ok (.aload_n 0, 1) := by decide +kernel
theorem dX2_init_5 : decode cX2_init 5 = .ok (.bipush 36, 2) := by decide +kernel
theorem dX2_init_7 : decode cX2_init 7 = .ok (.newarray .int, 2) := by decide +kernel
theorem dX2_init_9 : decode cX2_init 9 = .ok (.putfield 9, 3) := by decide +kernel
theorem dX2_init_12 : decode cX2_init 12 = .ok (.aload_n 0, 1) := by decide +kernel
theorem dX2_init_13 : decode cX2_init 13 = .ok (.bipush 12, 2) := by decide +kernel
theorem dX2_init_15 : decode cX2_init 15 = .ok (.newarray .int, 2) := by decide +kernel
theorem dX2_init_17 : decode cX2_init 17 = .ok (.putfield 15, 3) := by decide +kernel
theorem dX2_init_20 : decode cX2_init 20 = .ok (.aload_n 0, 1) := by decide +kernel
theorem dX2_init_21 : decode cX2_init 21 = .ok (.sipush 512, 3) := by decide +kernel
theorem dX2_init_24 : decode cX2_init 24 = .ok (.newarray .int, 2) := by decide +kernel
theorem dX2_init_26 : decode cX2_init 26 = .ok (.putfield 18, 3) := by decide +kernel
theorem dX2_init_29 : decode cX2_init 29 = .ok (.aload_n 0, 1) := by decide +kernel
theorem dX2_init_30 : decode cX2_init 30 = .ok (.iconst 0, 1) := by decide +kernel
theorem dX2_init_31 : decode cX2_init 31 = .ok (.putfield 21, 3) := by decide +kernel
theorem dX2_init_34 : decode cX2_init 34 = .ok (.aload_n 0, 1) := by decide +kernel
theorem dX2_init_35 : decode cX2_init 35 = .ok (.getfield 18, 3) := by decide +kernel
theorem dX2_init_38 : decode cX2_init 38 = .ok (.iconst (-1), 1) := by decide +kernel
theorem dX2_init_39 : decode cX2_init 39 = .ok (.invokestatic 25, 3) := by decide +kernel
theorem dX2_init_42 : decode cX2_init 42 = .ok (.return_, 1) := by decide +kernel
theorem dX2_add_0 : decode cX2_add 0 = .ok (.aload_n 0, 1) := by decide +kernel
theorem dX2_add_1 : decode cX2_add 1 = .ok (.getfield 21, 3) := by decide +kernel
theorem dX2_add_4 : decode cX2_add 4 = .ok (.istore 5, 2) := by decide +kernel
theorem dX2_add_6 : decode cX2_add 6 = .ok (.aload_n 0, 1) := by decide +kernel
theorem dX2_add_7 : decode cX2_add 7 = .ok (.getfield 9, 3) := by decide +kernel
theorem dX2_add_10 : decode cX2_add 10 = .ok (.iload 5, 2) := by decide +kernel
theorem dX2_add_12 : decode cX2_add 12 = .ok (.iconst 3, 1) := by decide +kernel
theorem dX2_add_13 : decode cX2_add 13 = .ok (.imul, 1) := by decide +kernel
theorem dX2_add_14 : decode cX2_add 14 = .ok (.iload_n 1, 1) := by decide +kernel
theorem dX2_add_15 : decode cX2_add 15 = .ok (.iastore, 1) := by decide +kernel
theorem dX2_add_16 : decode cX2_add 16 = .ok (.aload_n 0, 1) := by decide +kernel
theorem dX2_add_17 : decode cX2_add 17 = .ok (.getfield 9, 3) := by decide +kernel
theorem dX2_add_20 : decode cX2_add 20 = .ok (.iload 5, 2) := by decide +kernel
theorem dX2_add_22 : decode cX2_add 22 = .ok (.iconst 3, 1) := by decide +kernel
theorem dX2_add_23 : decode cX2_add 23 = .ok (.imul, 1) := by decide +kernel
theorem dX2_add_24 : decode cX2_add 24 = .ok (.iconst 1, 1) := by decide +kernel
theorem dX2_add_25 : decode cX2_add 25 = .ok (.iadd, 1) := by decide +kernel
theorem dX2_add_26 : decode cX2_add 26 = .ok (.iload_n 2, 1) := by decide +kernel
theorem dX2_add_27 : decode cX2_add 27 = .ok (.iastore, 1) := by decide +kernel
theorem dX2_add_28 : decode cX2_add 28 = .ok (.aload_n 0, 1) := by decide +kernel
theorem dX2_add_29 : decode cX2_add 29 = .ok (.getfield 9, 3) := by decide +kernel
theorem dX2_add_32 : decode cX2_add 32 = .ok (.iload 5, 2) := by decide +kernel
theorem dX2_add_34 : decode cX2_add 34 = .ok (.iconst 3, 1) := by decide +kernel
theorem dX2_add_35 : decode cX2_add 35 = .ok (.imul, 1) := by decide +kernel
theorem dX2_add_36 : decode cX2_add 36 = .ok (.iconst 2, 1) := by decide +kernel
theorem dX2_add_37 : decode cX2_add 37 = .ok (.iadd, 1) := by decide +kernel
theorem dX2_add_38 : decode cX2_add 38 = .ok (.iload_n 3, 1) := by decide +kernel
theorem dX2_add_39 : decode cX2_add 39 = .ok (.iastore, 1) := by decide +kernel
theorem dX2_add_40 : decode cX2_add 40 = .ok (.aload_n 0, 1) := by decide +kernel
theorem dX2_add_41 : decode cX2_add 41 = .ok (.getfield 15, 3) := by decide +kernel
theorem dX2_add_44 : decode cX2_add 44 = .ok (.iload 5, 2) := by decide +kernel
theorem dX2_add_46 : decode cX2_add 46 = .ok (.iload 4, 2) := by decide +kernel
theorem dX2_add_48 : decode cX2_add 48 = .ok (.iastore, 1) := by decide +kernel
theorem dX2_add_49 : decode cX2_add 49 = .ok (.aload_n 0, 1) := by decide +kernel
theorem dX2_add_50 : decode cX2_add 50 = .ok (.dup, 1) := by decide +kernel
theorem dX2_add_51 : decode cX2_add 51 = .ok (.getfield 21, 3) := by decide +kernel
theorem dX2_add_54 : decode cX2_add 54 = .ok (.iconst 1, 1) := by decide +kernel
theorem dX2_add_55 : decode cX2_add 55 = .ok (.iadd, 1) := by decide +kernel
theorem dX2_add_56 : decode cX2_add 56 = .ok (.putfield 21, 3) := by decide +kernel
theorem dX2_add_59 : decode cX2_add 59 = .ok (.iconst 0, 1) := by decide +kernel
theorem dX2_add_60 : decode cX2_add 60 = .ok (.istore 6, 2) := by decide +kernel
theorem dX2_add_62 : decode cX2_add 62 = .ok (.iload 6, 2) := by decide +kernel
theorem dX2_add_64 : decode cX2_add 64 = .ok (.bipush 8, 2) := by decide +kernel
theorem dX2_add_66 : decode cX2_add 66 = .ok (.if_icmp .ge 58, 3) := by decide +kernel
theorem dX2_add_69 : decode cX2_add 69 = .ok (.iconst 0, 1) := by decide +kernel
theorem dX2_add_70 : decode cX2_add 70 = .ok (.istore 7, 2) := by decide +kernel
theorem dX2_add_72 : decode cX2_add 72 = .ok (.iload 7, 2) := by decide +kernel
theorem dX2_add_74 : decode cX2_add 74 = .ok (.bipush 8, 2) := by decide +kernel
theorem dX2_add_76 : decode cX2_add 76 = .ok (.if_icmp .ge 42, 3) := by decide +kernel
theorem dX2_add_79 : decode cX2_add 79 = .ok (.iload_n 1, 1) := by decide +kernel
theorem dX2_add_80 : decode cX2_add 80 = .ok (.iload 6, 2) := by decide +kernel
theorem dX2_add_82 : decode cX2_add 82 = .ok (.invokestatic 31, 3) := by decide +kernel
theorem dX2_add_85 : decode cX2_add 85 = .ok (.ifCond .eq 27, 3) := by decide +kernel
theorem dX2_add_88 : decode cX2_add 88 = .ok (.iload_n 2, 1) := by decide +kernel
theorem dX2_add_89 : decode cX2_add 89 = .ok (.iload 7, 2) := by decide +kernel
theorem dX2_add_91 : decode cX2_add 91 = .ok (.invokestatic 31, 3) := by decide +kernel
theorem dX2_add_94 : decode cX2_add 94 = .ok (.ifCond .eq 18, 3) := by decide +kernel
theorem dX2_add_97 : decode cX2_add 97 = .ok (.aload_n 0, 1) := by decide +kernel
theorem dX2_add_98 : decode cX2_add 98 = .ok (.iload_n 3, 1) := by decide +kernel
theorem dX2_add_99 : decode cX2_add 99 = .ok (.iload 5, 2) := by decide +kernel
theorem dX2_add_101 : decode cX2_add 101 = .ok (.iload 6, 2) := by decide +kernel
theorem dX2_add_103 : decode cX2_add 103 = .ok (.iload 7, 2) := by decide +kernel
theorem dX2_add_105 : decode cX2_add 105 = .ok (.iconst 0, 1) := by decide +kernel
theorem dX2_add_106 : decode cX2_add 106 = .ok (.invokestatic 35, 3) := by decide +kernel
theorem dX2_add_109 : decode cX2_add 109 = .ok (.invokevirtual 39, 3) := by decide +kernel
theorem dX2_add_112 : decode cX2_add 112 = .ok (.iinc 7 1, 3) := by decide +kernel
theorem dX2_add_115 : decode cX2_add 115 = .ok (.goto (-43), 3) := by decide +kernel
theorem dX2_add_118 : decode cX2_add 118 = .ok (.iinc 6 1, 3) := by decide +kernel
theorem dX2_add_121 : decode cX2_add 121 = .ok (.goto (-59), 3) := by decide +kernel
theorem dX2_add_124 : decode cX2_add 124 = .ok (.iload 5, 2) := by decide +kernel
theorem dX2_add_126 : decode cX2_add 126 = .ok (.ireturn, 1) := by decide +kernel
theorem dX2_fitLast_0 : decode cX2_fitLast 0 = .ok (.iconst 0, 1) := by decide +kernel
theorem dX2_fitLast_1 : decode cX2_fitLast 1 = .ok (.istore 4, 2) := by decide +kernel
theorem dX2_fitLast_3 : decode cX2_fitLast 3 = .ok (.iload 4, 2) := by decide +kernel
theorem dX2_fitLast_5 : decode cX2_fitLast 5 = .ok (.bipush 8, 2) := by decide +kernel
theorem dX2_fitLast_7 : decode cX2_fitLast 7 = .ok (.if_icmp .ge 41, 3) := by decide +kernel
theorem dX2_fitLast_10 : decode cX2_fitLast 10 = .ok (.iload_n 1, 1) := by decide +kernel
theorem dX2_fitLast_11 : decode cX2_fitLast 11 = .ok (.iload 4, 2) := by decide +kernel
theorem dX2_fitLast_13 : decode cX2_fitLast 13 = .ok (.invokestatic 31, 3) := by decide +kernel
theorem dX2_fitLast_16 : decode cX2_fitLast 16 = .ok (.ifCond .eq 26, 3) := by decide +kernel
theorem dX2_fitLast_19 : decode cX2_fitLast 19 = .ok (.aload_n 0, 1) := by decide +kernel
theorem dX2_fitLast_20 : decode cX2_fitLast 20 = .ok (.getfield 18, 3) := by decide +kernel
theorem dX2_fitLast_23 : decode cX2_fitLast 23 = .ok (.iload_n 3, 1) := by decide +kernel
theorem dX2_fitLast_24 : decode cX2_fitLast 24 = .ok (.iload 4, 2) := by decide +kernel
theorem dX2_fitLast_26 : decode cX2_fitLast 26 = .ok (.iadd, 1) := by decide +kernel
theorem dX2_fitLast_27 : decode cX2_fitLast 27 = .ok (.iaload, 1) := by decide +kernel
theorem dX2_fitLast_28 : decode cX2_fitLast 28 = .ok (.iconst (-1), 1) := by decide +kernel
theorem dX2_fitLast_29 : decode cX2_fitLast 29 = .ok (.if_icmp .ne 13, 3) := by decide +kernel
theorem dX2_fitLast_32 : decode cX2_fitLast 32 = .ok (.aload_n 0, 1) := by decide +kernel
theorem dX2_fitLast_33 : decode cX2_fitLast 33 = .ok (.getfield 18, 3) := by decide +kernel
theorem dX2_fitLast_36 : decode cX2_fitLast 36 = .ok (.iload_n 3, 1) := by decide +kernel
theorem dX2_fitLast_37 : decode cX2_fitLast 37 = .ok (.iload 4, 2) := by decide +kernel
theorem dX2_fitLast_39 : decode cX2_fitLast 39 = .ok (.iadd, 1) := by decide +kernel
theorem dX2_fitLast_40 : decode cX2_fitLast 40 = .ok (.iload_n 2, 1) := by decide +kernel
theorem dX2_fitLast_41 : decode cX2_fitLast 41 = .ok (.iastore, 1) := by decide +kernel
theorem dX2_fitLast_42 : decode cX2_fitLast 42 = .ok (.iinc 4 1, 3) := by decide +kernel
theorem dX2_fitLast_45 : decode cX2_fitLast 45 = .ok (.goto (-42), 3) := by decide +kernel
theorem dX2_fitLast_48 : decode cX2_fitLast 48 = .ok (.return_, 1) := by decide +kernel
theorem dX2_fits_0 : decode cX2_fits 0 = .ok (.iload_n 0, 1) := by decide +kernel
theorem dX2_fits_1 : decode cX2_fits 1 = .ok (.iconst (-1), 1) := by decide +kernel
theorem dX2_fits_2 : decode cX2_fits 2 = .ok (.if_icmp .eq 8, 3) := by decide +kernel
theorem dX2_fits_5 : decode cX2_fits 5 = .ok (.iload_n 0, 1) := by decide +kernel
theorem dX2_fits_6 : decode cX2_fits 6 = .ok (.iload_n 1, 1) := by decide +kernel
theorem dX2_fits_7 : decode cX2_fits 7 = .ok (.if_icmp .ne 7, 3) := by decide +kernel
theorem dX2_fits_10 : decode cX2_fits 10 = .ok (.iconst 1, 1) := by decide +kernel
theorem dX2_fits_11 : decode cX2_fits 11 = .ok (.goto 4, 3) := by decide +kernel
theorem dX2_fits_14 : decode cX2_fits 14 = .ok (.iconst 0, 1) := by decide +kernel
theorem dX2_fits_15 : decode cX2_fits 15 = .ok (.ireturn, 1) := by decide +kernel
theorem dX2_empty_0 : decode cX2_empty 0 = .ok (.aload_n 0, 1) := by decide +kernel
theorem dX2_empty_1 : decode cX2_empty 1 = .ok (.getfield 21, 3) := by decide +kernel
theorem dX2_empty_4 : decode cX2_empty 4 = .ok (.istore_n 1, 1) := by decide +kernel
theorem dX2_empty_5 : decode cX2_empty 5 = .ok (.aload_n 0, 1) := by decide +kernel
theorem dX2_empty_6 : decode cX2_empty 6 = .ok (.iconst 0, 1) := by decide +kernel
theorem dX2_empty_7 : decode cX2_empty 7 = .ok (.putfield 21, 3) := by decide +kernel
theorem dX2_empty_10 : decode cX2_empty 10 = .ok (.aload_n 0, 1) := by decide +kernel
theorem dX2_empty_11 : decode cX2_empty 11 = .ok (.getfield 18, 3) := by decide +kernel
theorem dX2_empty_14 : decode cX2_empty 14 = .ok (.iconst (-1), 1) := by decide +kernel
theorem dX2_empty_15 : decode cX2_empty 15 = .ok (.invokestatic 25, 3) := by decide +kernel
theorem dX2_empty_18 : decode cX2_empty 18 = .ok (.iload_n 1, 1) := by decide +kernel
theorem dX2_empty_19 : decode cX2_empty 19 = .ok (.ireturn, 1) := by decide +kernel
theorem dX2_firstRow_0 : decode cX2_firstRow 0 = .ok (.aload_n 0, 1) := by decide +kernel
theorem dX2_firstRow_1 : decode cX2_firstRow 1 = .ok (.getfield 18, 3) := by decide +kernel
theorem dX2_firstRow_4 : decode cX2_firstRow 4 = .ok (.iload_n 1, 1) := by decide +kernel
theorem dX2_firstRow_5 : decode cX2_firstRow 5 = .ok (.iaload, 1) := by decide +kernel
theorem dX2_firstRow_6 : decode cX2_firstRow 6 = .ok (.ireturn, 1) := by decide +kernel
theorem dX2_amount_0 : decode cX2_amount 0 = .ok (.aload_n 0, 1) := by decide +kernel
theorem dX2_amount_1 : decode cX2_amount 1 = .ok (.getfield 18, 3) := by decide +kernel
theorem dX2_amount_4 : decode cX2_amount 4 = .ok (.iload_n 1, 1) := by decide +kernel
theorem dX2_amount_5 : decode cX2_amount 5 = .ok (.iaload, 1) := by decide +kernel
theorem dX2_amount_6 : decode cX2_amount 6 = .ok (.istore_n 2, 1) := by decide +kernel
theorem dX2_amount_7 : decode cX2_amount 7 = .ok (.iload_n 2, 1) := by decide +kernel
theorem dX2_amount_8 : decode cX2_amount 8 = .ok (.iconst (-1), 1) := by decide +kernel
theorem dX2_amount_9 : decode cX2_amount 9 = .ok (.if_icmp .ne 7, 3) := by decide +kernel
theorem dX2_amount_12 : decode cX2_amount 12 = .ok (.iconst 0, 1) := by decide +kernel
theorem dX2_amount_13 : decode cX2_amount 13 = .ok (.goto 9, 3) := by decide +kernel
theorem dX2_amount_16 : decode cX2_amount 16 = .ok (.aload_n 0, 1) := by decide +kernel
theorem dX2_amount_17 : decode cX2_amount 17 = .ok (.getfield 15, 3) := by decide +kernel
theorem dX2_amount_20 : decode cX2_amount 20 = .ok (.iload_n 2, 1) := by decide +kernel
theorem dX2_amount_21 : decode cX2_amount 21 = .ok (.iaload, 1) := by decide +kernel
theorem dX2_amount_22 : decode cX2_amount 22 = .ok (.ireturn, 1) := by decide +kernel
theorem dX2_mixedInto_0 : decode cX2_mixedInto 0 = .ok (.lload_n 1, 1) := by decide +kernel
theorem dX2_mixedInto_1 : decode cX2_mixedInto 1 = .ok (.lstore_n 3, 1) := by decide +kernel
theorem dX2_mixedInto_2 : decode cX2_mixedInto 2 = .ok (.iconst 0, 1) := by decide +kernel
theorem dX2_mixedInto_3 : decode cX2_mixedInto 3 = .ok (.istore 5, 2) := by decide +kernel
theorem dX2_mixedInto_5 : decode cX2_mixedInto 5 = .ok (.iload 5, 2) := by decide +kernel
theorem dX2_mixedInto_7 : decode cX2_mixedInto 7 = .ok (.aload_n 0, 1) := by decide +kernel
theorem dX2_mixedInto_8 : decode cX2_mixedInto 8 = .ok (.getfield 21, 3) := by decide +kernel
theorem dX2_mixedInto_11 : decode cX2_mixedInto 11 = .ok (.if_icmp .ge 59, 3) := by decide +kernel
theorem dX2_mixedInto_14 : decode cX2_mixedInto 14 = .ok (.iconst 0, 1) := by decide +kernel
theorem dX2_mixedInto_15 : decode cX2_mixedInto 15 = .ok (.istore 6, 2) := by decide +kernel
theorem dX2_mixedInto_17 : decode cX2_mixedInto 17 = .ok (.iload 6, 2) := by decide +kernel
theorem dX2_mixedInto_19 : decode cX2_mixedInto 19 = .ok (.iconst 3, 1) := by decide +kernel
theorem dX2_mixedInto_20 : decode cX2_mixedInto 20 = .ok (.if_icmp .ge 29, 3) := by decide +kernel
theorem dX2_mixedInto_23 : decode cX2_mixedInto 23 = .ok (.ldc2_w 43, 3) := by decide +kernel
theorem dX2_mixedInto_26 : decode cX2_mixedInto 26 = .ok (.lload_n 3, 1) := by decide +kernel
theorem dX2_mixedInto_27 : decode cX2_mixedInto 27 = .ok (.lmul, 1) := by decide +kernel
theorem dX2_mixedInto_28 : decode cX2_mixedInto 28 = .ok (.aload_n 0, 1) := by decide +kernel
theorem dX2_mixedInto_29 : decode cX2_mixedInto 29 = .ok (.getfield 9, 3) := by decide +kernel
theorem dX2_mixedInto_32 : decode cX2_mixedInto 32 = .ok (.iload 5, 2) := by decide +kernel
theorem dX2_mixedInto_34 : decode cX2_mixedInto 34 = .ok (.iconst 3, 1) := by decide +kernel
theorem dX2_mixedInto_35 : decode cX2_mixedInto 35 = .ok (.imul, 1) := by decide +kernel
theorem dX2_mixedInto_36 : decode cX2_mixedInto 36 = .ok (.iload 6, 2) := by decide +kernel
theorem dX2_mixedInto_38 : decode cX2_mixedInto 38 = .ok (.iadd, 1) := by decide +kernel
theorem dX2_mixedInto_39 : decode cX2_mixedInto 39 = .ok (.iaload, 1) := by decide +kernel
theorem dX2_mixedInto_40 : decode cX2_mixedInto 40 = .ok (.i2l, 1) := by decide +kernel
theorem dX2_mixedInto_41 : decode cX2_mixedInto 41 = .ok (.ladd, 1) := by decide +kernel
theorem dX2_mixedInto_42 : decode cX2_mixedInto 42 = .ok (.lstore_n 3, 1) := by decide +kernel
theorem dX2_mixedInto_43 : decode cX2_mixedInto 43 = .ok (.iinc 6 1, 3) := by decide +kernel
theorem dX2_mixedInto_46 : decode cX2_mixedInto 46 = .ok (.goto (-29), 3) := by decide +kernel
theorem dX2_mixedInto_49 : decode cX2_mixedInto 49 = .ok (.ldc2_w 43, 3) := by decide +kernel
theorem dX2_mixedInto_52 : decode cX2_mixedInto 52 = .ok (.lload_n 3, 1) := by decide +kernel
theorem dX2_mixedInto_53 : decode cX2_mixedInto 53 = .ok (.lmul, 1) := by decide +kernel
theorem dX2_mixedInto_54 : decode cX2_mixedInto 54 = .ok (.aload_n 0, 1) := by decide +kernel
theorem dX2_mixedInto_55 : decode cX2_mixedInto 55 = .ok (.getfield 15, 3) := by decide +kernel
theorem dX2_mixedInto_58 : decode cX2_mixedInto 58 = .ok (.iload 5, 2) := by decide +kernel
theorem dX2_mixedInto_60 : decode cX2_mixedInto 60 = .ok (.iaload, 1) := by decide +kernel
theorem dX2_mixedInto_61 : decode cX2_mixedInto 61 = .ok (.i2l, 1) := by decide +kernel
theorem dX2_mixedInto_62 : decode cX2_mixedInto 62 = .ok (.ladd, 1) := by decide +kernel
theorem dX2_mixedInto_63 : decode cX2_mixedInto 63 = .ok (.lstore_n 3, 1) := by decide +kernel
theorem dX2_mixedInto_64 : decode cX2_mixedInto 64 = .ok (.iinc 5 1, 3) := by decide +kernel
theorem dX2_mixedInto_67 : decode cX2_mixedInto 67 = .ok (.goto (-62), 3) := by decide +kernel
theorem dX2_mixedInto_70 : decode cX2_mixedInto 70 = .ok (.lload_n 3, 1) := by decide +kernel
theorem dX2_mixedInto_71 : decode cX2_mixedInto 71 = .ok (.lreturn, 1) := by decide +kernel
theorem dX3_init_0 : decode cX3_init 0 = .ok (.aload_n 0, 1) := by decide +kernel
theorem dX3_init_1 : decode cX3_init 1 = .ok (.invokespecial 3, 3) := by decide +kernel
theorem dX3_init_4 : decode cX3_init 4 = .ok (.aload_n 0, 1) := by decide +kernel
theorem dX3_init_5 : decode cX3_init 5 = .ok (.bipush 60, 2) := by decide +kernel
theorem dX3_init_7 : decode cX3_init 7 = .ok (.newarray .int, 2) := by decide +kernel
theorem dX3_init_9 : decode cX3_init 9 = .ok (.putfield 9, 3) := by decide +kernel
theorem dX3_init_12 : decode cX3_init 12 = .ok (.aload_n 0, 1) := by decide +kernel
theorem dX3_init_13 : decode cX3_init 13 = .ok (.iconst 0, 1) := by decide +kernel
theorem dX3_init_14 : decode cX3_init 14 = .ok (.putfield 15, 3) := by decide +kernel
theorem dX3_init_17 : decode cX3_init 17 = .ok (.return_, 1) := by decide +kernel
theorem dX3_forget_0 : decode cX3_forget 0 = .ok (.aload_n 0, 1) := by decide +kernel
theorem dX3_forget_1 : decode cX3_forget 1 = .ok (.iconst 0, 1) := by decide +kernel
theorem dX3_forget_2 : decode cX3_forget 2 = .ok (.putfield 15, 3) := by decide +kernel
theorem dX3_forget_5 : decode cX3_forget 5 = .ok (.aload_n 0, 1) := by decide +kernel
theorem dX3_forget_6 : decode cX3_forget 6 = .ok (.getfield 9, 3) := by decide +kernel
theorem dX3_forget_9 : decode cX3_forget 9 = .ok (.iconst 0, 1) := by decide +kernel
theorem dX3_forget_10 : decode cX3_forget 10 = .ok (.invokestatic 19, 3) := by decide +kernel
theorem dX3_forget_13 : decode cX3_forget 13 = .ok (.return_, 1) := by decide +kernel
theorem dX3_add_0 : decode cX3_add 0 = .ok (.aload_n 0, 1) := by decide +kernel
theorem dX3_add_1 : decode cX3_add 1 = .ok (.getfield 15, 3) := by decide +kernel
theorem dX3_add_4 : decode cX3_add 4 = .ok (.sipush 200, 3) := by decide +kernel
theorem dX3_add_7 : decode cX3_add 7 = .ok (.if_icmp .lt 4, 3) := by decide +kernel
theorem dX3_add_10 : decode cX3_add 10 = .ok (.return_, 1) := by decide +kernel
theorem dX3_add_11 : decode cX3_add 11 = .ok (.aload_n 0, 1) := by decide +kernel
theorem dX3_add_12 : decode cX3_add 12 = .ok (.dup, 1) := by decide +kernel
theorem dX3_add_13 : decode cX3_add 13 = .ok (.getfield 15, 3) := by decide +kernel
theorem dX3_add_16 : decode cX3_add 16 = .ok (.iconst 1, 1) := by decide +kernel
theorem dX3_add_17 : decode cX3_add 17 = .ok (.iadd, 1) := by decide +kernel
theorem dX3_add_18 : decode cX3_add 18 = .ok (.putfield 15, 3) := by decide +kernel
theorem dX3_add_21 : decode cX3_add 21 = .ok (.aload_n 0, 1) := by decide +kernel
theorem dX3_add_22 : decode cX3_add 22 = .ok (.getfield 9, 3) := by decide +kernel
theorem dX3_add_25 : decode cX3_add 25 = .ok (.iload_n 1, 1) := by decide +kernel
theorem dX3_add_26 : decode cX3_add 26 = .ok (.dup2, 1) := by decide +kernel
theorem dX3_add_27 : decode cX3_add 27 = .ok (.iaload, 1) := by decide +kernel
theorem dX3_add_28 : decode cX3_add 28 = .ok (.iconst 1, 1) := by decide +kernel
theorem dX3_add_29 : decode cX3_add 29 = .ok (.iadd, 1) := by decide +kernel
theorem dX3_add_30 : decode cX3_add 30 = .ok (.iastore, 1) := by decide +kernel
theorem dX3_add_31 : decode cX3_add 31 = .ok (.aload_n 0, 1) := by decide +kernel
theorem dX3_add_32 : decode cX3_add 32 = .ok (.getfield 9, 3) := by decide +kernel
theorem dX3_add_35 : decode cX3_add 35 = .ok (.bipush 20, 2) := by decide +kernel
theorem dX3_add_37 : decode cX3_add 37 = .ok (.iload_n 2, 1) := by decide +kernel
theorem dX3_add_38 : decode cX3_add 38 = .ok (.iadd, 1) := by decide +kernel
theorem dX3_add_39 : decode cX3_add 39 = .ok (.dup2, 1) := by decide +kernel
theorem dX3_add_40 : decode cX3_add 40 = .ok (.iaload, 1) := by decide +kernel
theorem dX3_add_41 : decode cX3_add 41 = .ok (.iconst 1, 1) := by decide +kernel
theorem dX3_add_42 : decode cX3_add 42 = .ok (.iadd, 1) := by decide +kernel
theorem dX3_add_43 : decode cX3_add 43 = .ok (.iastore, 1) := by decide +kernel
theorem dX3_add_44 : decode cX3_add 44 = .ok (.aload_n 0, 1) := by decide +kernel
theorem dX3_add_45 : decode cX3_add 45 = .ok (.getfield 9, 3) := by decide +kernel
theorem dX3_add_48 : decode cX3_add 48 = .ok (.bipush 40, 2) := by decide +kernel
theorem dX3_add_50 : decode cX3_add 50 = .ok (.iload_n 3, 1) := by decide +kernel
theorem dX3_add_51 : decode cX3_add 51 = .ok (.iadd, 1) := by decide +kernel
theorem dX3_add_52 : decode cX3_add 52 = .ok (.dup2, 1) := by decide +kernel
theorem dX3_add_53 : decode cX3_add 53 = .ok (.iaload, 1) := by decide +kernel
theorem dX3_add_54 : decode cX3_add 54 = .ok (.iconst 1, 1) := by decide +kernel
theorem dX3_add_55 : decode cX3_add 55 = .ok (.iadd, 1) := by decide +kernel
theorem dX3_add_56 : decode cX3_add 56 = .ok (.iastore, 1) := by decide +kernel
theorem dX3_add_57 : decode cX3_add 57 = .ok (.return_, 1) := by decide +kernel
theorem dX3_times_0 : decode cX3_times 0 = .ok (.aload_n 0, 1) := by decide +kernel
theorem dX3_times_1 : decode cX3_times 1 = .ok (.getfield 9, 3) := by decide +kernel
theorem dX3_times_4 : decode cX3_times 4 = .ok (.iload_n 1, 1) := by decide +kernel
theorem dX3_times_5 : decode cX3_times 5 = .ok (.bipush 20, 2) := by decide +kernel
theorem dX3_times_7 : decode cX3_times 7 = .ok (.imul, 1) := by decide +kernel
theorem dX3_times_8 : decode cX3_times 8 = .ok (.iload_n 2, 1) := by decide +kernel
theorem dX3_times_9 : decode cX3_times 9 = .ok (.iadd, 1) := by decide +kernel
theorem dX3_times_10 : decode cX3_times 10 = .ok (.iaload, 1) := by decide +kernel
theorem dX3_times_11 : decode cX3_times 11 = .ok (.ireturn, 1) := by decide +kernel
theorem dX3_mostSeen_0 : decode cX3_mostSeen 0 = .ok (.iconst 0, 1) := by decide +kernel
theorem dX3_mostSeen_1 : decode cX3_mostSeen 1 = .ok (.istore_n 2, 1) := by decide +kernel
theorem dX3_mostSeen_2 : decode cX3_mostSeen 2 = .ok (.iconst 1, 1) := by decide +kernel
theorem dX3_mostSeen_3 : decode cX3_mostSeen 3 = .ok (.istore_n 3, 1) := by decide +kernel
theorem dX3_mostSeen_4 : decode cX3_mostSeen 4 = .ok (.iload_n 3, 1) := by decide +kernel
theorem dX3_mostSeen_5 : decode cX3_mostSeen 5 = .ok (.bipush 20, 2) := by decide +kernel
theorem dX3_mostSeen_7 : decode cX3_mostSeen 7 = .ok (.if_icmp .ge 26, 3) := by decide +kernel
theorem dX3_mostSeen_10 : decode cX3_mostSeen 10 = .ok (.aload_n 0, 1) := by decide +kernel
theorem dX3_mostSeen_11 : decode cX3_mostSeen 11 = .ok (.iload_n 1, 1) := by decide +kernel
theorem dX3_mostSeen_12 : decode cX3_mostSeen 12 = .ok (.iload_n 3, 1) := by decide +kernel
theorem dX3_mostSeen_13 : decode cX3_mostSeen 13 = .ok (.invokevirtual 25, 3) := by decide +kernel
theorem dX3_mostSeen_16 : decode cX3_mostSeen 16 = .ok (.aload_n 0, 1) := by decide +kernel
theorem dX3_mostSeen_17 : decode cX3_mostSeen 17 = .ok (.iload_n 1, 1) := by decide +kernel
theorem dX3_mostSeen_18 : decode cX3_mostSeen 18 = .ok (.iload_n 2, 1) := by decide +kernel
theorem dX3_mostSeen_19 : decode cX3_mostSeen 19 = .ok (.invokevirtual 25, 3) := by decide +kernel
theorem dX3_mostSeen_22 : decode cX3_mostSeen 22 = .ok (.if_icmp .le 5, 3) := by decide +kernel
theorem dX3_mostSeen_25 : decode cX3_mostSeen 25 = .ok (.iload_n 3, 1) := by decide +kernel
theorem dX3_mostSeen_26 : decode cX3_mostSeen 26 = .ok (.istore_n 2, 1) := by decide +kernel
theorem dX3_mostSeen_27 : decode cX3_mostSeen 27 = .ok (.iinc 3 1, 3) := by decide +kernel
theorem dX3_mostSeen_30 : decode cX3_mostSeen 30 = .ok (.goto (-26), 3) := by decide +kernel
theorem dX3_mostSeen_33 : decode cX3_mostSeen 33 = .ok (.iload_n 2, 1) := by decide +kernel
theorem dX3_mostSeen_34 : decode cX3_mostSeen 34 = .ok (.ireturn, 1) := by decide +kernel
theorem dX4_init_0 : decode cX4_init 0 = .ok (.aload_n 0, 1) := by decide +kernel
theorem dX4_init_1 : decode cX4_init 1 = .ok (.invokespecial 3, 3) := by decide +kernel
theorem dX4_init_4 : decode cX4_init 4 = .ok (.aload_n 0, 1) := by decide +kernel
theorem dX4_init_5 : decode cX4_init 5 = .ok (.iconst 3, 1) := by decide +kernel
theorem dX4_init_6 : decode cX4_init 6 = .ok (.newarray .int, 2) := by decide +kernel
theorem dX4_init_8 : decode cX4_init 8 = .ok (.putfield 9, 3) := by decide +kernel
theorem dX4_init_11 : decode cX4_init 11 = .ok (.aload_n 0, 1) := by decide +kernel
theorem dX4_init_12 : decode cX4_init 12 = .ok (.bipush 60, 2) := by decide +kernel
theorem dX4_init_14 : decode cX4_init 14 = .ok (.newarray .int, 2) := by decide +kernel
theorem dX4_init_16 : decode cX4_init 16 = .ok (.putfield 15, 3) := by decide +kernel
theorem dX4_init_19 : decode cX4_init 19 = .ok (.aload_n 0, 1) := by decide +kernel
theorem dX4_init_20 : decode cX4_init 20 = .ok (.bipush 8, 2) := by decide +kernel
theorem dX4_init_22 : decode cX4_init 22 = .ok (.newarray .int, 2) := by decide +kernel
theorem dX4_init_24 : decode cX4_init 24 = .ok (.putfield 18, 3) := by decide +kernel
theorem dX4_init_27 : decode cX4_init 27 = .ok (.aload_n 0, 1) := by decide +kernel
theorem dX4_init_28 : decode cX4_init 28 = .ok (.bipush 8, 2) := by decide +kernel
theorem dX4_init_30 : decode cX4_init 30 = .ok (.newarray .int, 2) := by decide +kernel
theorem dX4_init_32 : decode cX4_init 32 = .ok (.putfield 21, 3) := by decide +kernel
theorem dX4_init_35 : decode cX4_init 35 = .ok (.aload_n 0, 1) := by decide +kernel
theorem dX4_init_36 : decode cX4_init 36 = .ok (.getfield 9, 3) := by decide +kernel
theorem dX4_init_39 : decode cX4_init 39 = .ok (.iconst 4, 1) := by decide +kernel
theorem dX4_init_40 : decode cX4_init 40 = .ok (.invokestatic 24, 3) := by decide +kernel
theorem dX4_init_43 : decode cX4_init 43 = .ok (.aload_n 0, 1) := by decide +kernel
theorem dX4_init_44 : decode cX4_init 44 = .ok (.invokevirtual 30, 3) := by decide +kernel
theorem dX4_init_47 : decode cX4_init 47 = .ok (.return_, 1) := by decide +kernel
theorem dX4_multiply_0 : decode cX4_multiply 0 = .ok (.iconst 0, 1) := by decide +kernel
theorem dX4_multiply_1 : decode cX4_multiply 1 = .ok (.istore_n 1, 1) := by decide +kernel
theorem dX4_multiply_2 : decode cX4_multiply 2 = .ok (.iload_n 1, 1) := by decide +kernel
theorem dX4_multiply_3 : decode cX4_multiply 3 = .ok (.bipush 7, 2) := by decide +kernel
theorem dX4_multiply_5 : decode cX4_multiply 5 = .ok (.if_icmp .gt 53, 3) := by decide +kernel
theorem dX4_multiply_8 : decode cX4_multiply 8 = .ok (.iconst 1, 1) := by decide +kernel
theorem dX4_multiply_9 : decode cX4_multiply 9 = .ok (.istore_n 2, 1) := by decide +kernel
theorem dX4_multiply_10 : decode cX4_multiply 10 = .ok (.iconst 0, 1) := by decide +kernel
theorem dX4_multiply_11 : decode cX4_multiply 11 = .ok (.istore_n 3, 1) := by decide +kernel
theorem dX4_multiply_12 : decode cX4_multiply 12 = .ok (.iload_n 3, 1) := by decide +kernel
theorem dX4_multiply_13 : decode cX4_multiply 13 = .ok (.iconst 3, 1) := by decide +kernel
theorem dX4_multiply_14 : decode cX4_multiply 14 = .ok (.if_icmp .ge 31, 3) := by decide +kernel
theorem dX4_multiply_17 : decode cX4_multiply 17 = .ok (.iload_n 2, 1) := by decide +kernel
theorem dX4_multiply_18 : decode cX4_multiply 18 = .ok (.iload_n 1, 1) := by decide +kernel
theorem dX4_multiply_19 : decode cX4_multiply 19 = .ok (.iload_n 3, 1) := by decide +kernel
theorem dX4_multiply_20 : decode cX4_multiply 20 = .ok (.ishr, 1) := by decide +kernel
theorem dX4_multiply_21 : decode cX4_multiply 21 = .ok (.iconst 1, 1) := by decide +kernel
theorem dX4_multiply_22 : decode cX4_multiply 22 = .ok (.iand, 1) := by decide +kernel
theorem dX4_multiply_23 : decode cX4_multiply 23 = .ok (.iconst 1, 1) := by decide +kernel
theorem dX4_multiply_24 : decode cX4_multiply 24 = .ok (.if_icmp .ne 12, 3) := by decide +kernel
theorem dX4_multiply_27 : decode cX4_multiply 27 = .ok (.aload_n 0, 1) := by decide +kernel
theorem dX4_multiply_28 : decode cX4_multiply 28 = .ok (.getfield 9, 3) := by decide +kernel
theorem dX4_multiply_31 : decode cX4_multiply 31 = .ok (.iload_n 3, 1) := by decide +kernel
theorem dX4_multiply_32 : decode cX4_multiply 32 = .ok (.iaload, 1) := by decide +kernel
theorem dX4_multiply_33 : decode cX4_multiply 33 = .ok (.goto 4, 3) := by decide +kernel
theorem dX4_multiply_36 : decode cX4_multiply 36 = .ok (.iconst 1, 1) := by decide +kernel
theorem dX4_multiply_37 : decode cX4_multiply 37 = .ok (.imul, 1) := by decide +kernel
theorem dX4_multiply_38 : decode cX4_multiply 38 = .ok (.istore_n 2, 1) := by decide +kernel
theorem dX4_multiply_39 : decode cX4_multiply 39 = .ok (.iinc 3 1, 3) := by decide +kernel
theorem dX4_multiply_42 : decode cX4_multiply 42 = .ok (.goto (-30), 3) := by decide +kernel
theorem dX4_multiply_45 : decode cX4_multiply 45 = .ok (.aload_n 0, 1) := by decide +kernel
theorem dX4_multiply_46 : decode cX4_multiply 46 = .ok (.getfield 21, 3) := by decide +kernel
theorem dX4_multiply_49 : decode cX4_multiply 49 = .ok (.iload_n 1, 1) := by decide +kernel
theorem dX4_multiply_50 : decode cX4_multiply 50 = .ok (.iload_n 2, 1) := by decide +kernel
theorem dX4_multiply_51 : decode cX4_multiply 51 = .ok (.iastore, 1) := by decide +kernel
theorem dX4_multiply_52 : decode cX4_multiply 52 = .ok (.iinc 1 1, 3) := by decide +kernel
theorem dX4_multiply_55 : decode cX4_multiply 55 = .ok (.goto (-53), 3) := by decide +kernel
theorem dX4_multiply_58 : decode cX4_multiply 58 = .ok (.return_, 1) := by decide +kernel
theorem dX4_hasStop_0 : decode cX4_hasStop 0 = .ok (.iload_n 1, 1) := by decide +kernel
theorem dX4_hasStop_1 : decode cX4_hasStop 1 = .ok (.invokestatic 33, 3) := by decide +kernel
theorem dX4_hasStop_4 : decode cX4_hasStop 4 = .ok (.ifCond .eq 23, 3) := by decide +kernel
theorem dX4_hasStop_7 : decode cX4_hasStop 7 = .ok (.iload_n 2, 1) := by decide +kernel
theorem dX4_hasStop_8 : decode cX4_hasStop 8 = .ok (.iconst 0, 1) := by decide +kernel
theorem dX4_hasStop_9 : decode cX4_hasStop 9 = .ok (.aload_n 0, 1) := by decide +kernel
theorem dX4_hasStop_10 : decode cX4_hasStop 10 = .ok (.getfield 9, 3) := by decide +kernel
theorem dX4_hasStop_13 : decode cX4_hasStop 13 = .ok (.iload_n 1, 1) := by decide +kernel
theorem dX4_hasStop_14 : decode cX4_hasStop 14 = .ok (.iaload, 1) := by decide +kernel
theorem dX4_hasStop_15 : decode cX4_hasStop 15 = .ok (.iconst 1, 1) := by decide +kernel
theorem dX4_hasStop_16 : decode cX4_hasStop 16 = .ok (.isub, 1) := by decide +kernel
theorem dX4_hasStop_17 : decode cX4_hasStop 17 = .ok (.invokestatic 37, 3) := by decide +kernel
theorem dX4_hasStop_20 : decode cX4_hasStop 20 = .ok (.ifCond .eq 7, 3) := by decide +kernel
theorem dX4_hasStop_23 : decode cX4_hasStop 23 = .ok (.iconst 1, 1) := by decide +kernel
theorem dX4_hasStop_24 : decode cX4_hasStop 24 = .ok (.goto 4, 3) := by decide +kernel
theorem dX4_hasStop_27 : decode cX4_hasStop 27 = .ok (.iconst 0, 1) := by decide +kernel
theorem dX4_hasStop_28 : decode cX4_hasStop 28 = .ok (.ireturn, 1) := by decide +kernel
theorem dX4_hasEnding_0 : decode cX4_hasEnding 0 = .ok (.aload_n 0, 1) := by decide +kernel
theorem dX4_hasEnding_1 : decode cX4_hasEnding 1 = .ok (.iconst 0, 1) := by decide +kernel
theorem dX4_hasEnding_2 : decode cX4_hasEnding 2 = .ok (.iload_n 1, 1) := by decide +kernel
theorem dX4_hasEnding_3 : decode cX4_hasEnding 3 = .ok (.invokevirtual 41, 3) := by decide +kernel
theorem dX4_hasEnding_6 : decode cX4_hasEnding 6 = .ok (.ifCond .eq 25, 3) := by decide +kernel
theorem dX4_hasEnding_9 : decode cX4_hasEnding 9 = .ok (.aload_n 0, 1) := by decide +kernel
theorem dX4_hasEnding_10 : decode cX4_hasEnding 10 = .ok (.iconst 1, 1) := by decide +kernel
theorem dX4_hasEnding_11 : decode cX4_hasEnding 11 = .ok (.iload_n 2, 1) := by decide +kernel
theorem dX4_hasEnding_12 : decode cX4_hasEnding 12 = .ok (.invokevirtual 41, 3) := by decide +kernel
theorem dX4_hasEnding_15 : decode cX4_hasEnding 15 = .ok (.ifCond .eq 16, 3) := by decide +kernel
theorem dX4_hasEnding_18 : decode cX4_hasEnding 18 = .ok (.aload_n 0, 1) := by decide +kernel
theorem dX4_hasEnding_19 : decode cX4_hasEnding 19 = .ok (.iconst 2, 1) := by decide +kernel
theorem dX4_hasEnding_20 : decode cX4_hasEnding 20 = .ok (.iload_n 3, 1) := by decide +kernel
theorem dX4_hasEnding_21 : decode cX4_hasEnding 21 = .ok (.invokevirtual 41, 3) := by decide +kernel
theorem dX4_hasEnding_24 : decode cX4_hasEnding 24 = .ok (.ifCond .eq 7, 3) := by decide +kernel
theorem dX4_hasEnding_27 : decode cX4_hasEnding 27 = .ok (.iconst 1, 1) := by decide +kernel
theorem dX4_hasEnding_28 : decode cX4_hasEnding 28 = .ok (.goto 4, 3) := by decide +kernel
theorem dX4_hasEnding_31 : decode cX4_hasEnding 31 = .ok (.iconst 0, 1) := by decide +kernel
theorem dX4_hasEnding_32 : decode cX4_hasEnding 32 = .ok (.ireturn, 1) := by decide +kernel
theorem dX4_stopsOf_0 : decode cX4_stopsOf 0 = .ok (.aload_n 0, 1) := by decide +kernel
theorem dX4_stopsOf_1 : decode cX4_stopsOf 1 = .ok (.getfield 9, 3) := by decide +kernel
theorem dX4_stopsOf_4 : decode cX4_stopsOf 4 = .ok (.iload_n 1, 1) := by decide +kernel
theorem dX4_stopsOf_5 : decode cX4_stopsOf 5 = .ok (.iaload, 1) := by decide +kernel
theorem dX4_stopsOf_6 : decode cX4_stopsOf 6 = .ok (.ireturn, 1) := by decide +kernel
theorem dX4_endings_0 : decode cX4_endings 0 = .ok (.aload_n 0, 1) := by decide +kernel
theorem dX4_endings_1 : decode cX4_endings 1 = .ok (.getfield 21, 3) := by decide +kernel
theorem dX4_endings_4 : decode cX4_endings 4 = .ok (.bipush 7, 2) := by decide +kernel
theorem dX4_endings_6 : decode cX4_endings 6 = .ok (.iaload, 1) := by decide +kernel
theorem dX4_endings_7 : decode cX4_endings 7 = .ok (.ireturn, 1) := by decide +kernel
theorem dX4_stopsHeld_0 : decode cX4_stopsHeld 0 = .ok (.aload_n 0, 1) := by decide +kernel
theorem dX4_stopsHeld_1 : decode cX4_stopsHeld 1 = .ok (.getfield 21, 3) := by decide +kernel
theorem dX4_stopsHeld_4 : decode cX4_stopsHeld 4 = .ok (.iload_n 1, 1) := by decide +kernel
theorem dX4_stopsHeld_5 : decode cX4_stopsHeld 5 = .ok (.iaload, 1) := by decide +kernel
theorem dX4_stopsHeld_6 : decode cX4_stopsHeld 6 = .ok (.ireturn, 1) := by decide +kernel
theorem dX4_shown_0 : decode cX4_shown 0 = .ok (.aload_n 0, 1) := by decide +kernel
theorem dX4_shown_1 : decode cX4_shown 1 = .ok (.getfield 15, 3) := by decide +kernel
theorem dX4_shown_4 : decode cX4_shown 4 = .ok (.iload_n 1, 1) := by decide +kernel
theorem dX4_shown_5 : decode cX4_shown 5 = .ok (.bipush 20, 2) := by decide +kernel
theorem dX4_shown_7 : decode cX4_shown 7 = .ok (.imul, 1) := by decide +kernel
theorem dX4_shown_8 : decode cX4_shown 8 = .ok (.iload_n 2, 1) := by decide +kernel
theorem dX4_shown_9 : decode cX4_shown 9 = .ok (.iadd, 1) := by decide +kernel
theorem dX4_shown_10 : decode cX4_shown 10 = .ok (.iaload, 1) := by decide +kernel
theorem dX4_shown_11 : decode cX4_shown 11 = .ok (.ireturn, 1) := by decide +kernel
theorem dX4_put_0 : decode cX4_put 0 = .ok (.aload_n 0, 1) := by decide +kernel
theorem dX4_put_1 : decode cX4_put 1 = .ok (.getfield 15, 3) := by decide +kernel
theorem dX4_put_4 : decode cX4_put 4 = .ok (.iload_n 1, 1) := by decide +kernel
theorem dX4_put_5 : decode cX4_put 5 = .ok (.bipush 20, 2) := by decide +kernel
theorem dX4_put_7 : decode cX4_put 7 = .ok (.imul, 1) := by decide +kernel
theorem dX4_put_8 : decode cX4_put 8 = .ok (.iload_n 2, 1) := by decide +kernel
theorem dX4_put_9 : decode cX4_put 9 = .ok (.iadd, 1) := by decide +kernel
theorem dX4_put_10 : decode cX4_put 10 = .ok (.iload_n 3, 1) := by decide +kernel
theorem dX4_put_11 : decode cX4_put 11 = .ok (.iastore, 1) := by decide +kernel
theorem dX4_put_12 : decode cX4_put 12 = .ok (.return_, 1) := by decide +kernel
theorem dX4_above_0 : decode cX4_above 0 = .ok (.iload_n 2, 1) := by decide +kernel
theorem dX4_above_1 : decode cX4_above 1 = .ok (.ifCond .ne 14, 3) := by decide +kernel
theorem dX4_above_4 : decode cX4_above 4 = .ok (.aload_n 0, 1) := by decide +kernel
theorem dX4_above_5 : decode cX4_above 5 = .ok (.getfield 9, 3) := by decide +kernel
theorem dX4_above_8 : decode cX4_above 8 = .ok (.iload_n 1, 1) := by decide +kernel
theorem dX4_above_9 : decode cX4_above 9 = .ok (.iaload, 1) := by decide +kernel
theorem dX4_above_10 : decode cX4_above 10 = .ok (.iconst 1, 1) := by decide +kernel
theorem dX4_above_11 : decode cX4_above 11 = .ok (.isub, 1) := by decide +kernel
theorem dX4_above_12 : decode cX4_above 12 = .ok (.goto 6, 3) := by decide +kernel
theorem dX4_above_15 : decode cX4_above 15 = .ok (.iload_n 2, 1) := by decide +kernel
theorem dX4_above_16 : decode cX4_above 16 = .ok (.iconst 1, 1) := by decide +kernel
theorem dX4_above_17 : decode cX4_above 17 = .ok (.isub, 1) := by decide +kernel
theorem dX4_above_18 : decode cX4_above 18 = .ok (.ireturn, 1) := by decide +kernel
theorem dX4_below_0 : decode cX4_below 0 = .ok (.iload_n 2, 1) := by decide +kernel
theorem dX4_below_1 : decode cX4_below 1 = .ok (.aload_n 0, 1) := by decide +kernel
theorem dX4_below_2 : decode cX4_below 2 = .ok (.getfield 9, 3) := by decide +kernel
theorem dX4_below_5 : decode cX4_below 5 = .ok (.iload_n 1, 1) := by decide +kernel
theorem dX4_below_6 : decode cX4_below 6 = .ok (.iaload, 1) := by decide +kernel
theorem dX4_below_7 : decode cX4_below 7 = .ok (.iconst 1, 1) := by decide +kernel
theorem dX4_below_8 : decode cX4_below 8 = .ok (.isub, 1) := by decide +kernel
theorem dX4_below_9 : decode cX4_below 9 = .ok (.if_icmp .ne 7, 3) := by decide +kernel
theorem dX4_below_12 : decode cX4_below 12 = .ok (.iconst 0, 1) := by decide +kernel
theorem dX4_below_13 : decode cX4_below 13 = .ok (.goto 6, 3) := by decide +kernel
theorem dX4_below_16 : decode cX4_below 16 = .ok (.iload_n 2, 1) := by decide +kernel
theorem dX4_below_17 : decode cX4_below 17 = .ok (.iconst 1, 1) := by decide +kernel
theorem dX4_below_18 : decode cX4_below 18 = .ok (.iadd, 1) := by decide +kernel
theorem dX4_below_19 : decode cX4_below 19 = .ok (.ireturn, 1) := by decide +kernel
theorem dX4_blank_0 : decode cX4_blank 0 = .ok (.aload_n 0, 1) := by decide +kernel
theorem dX4_blank_1 : decode cX4_blank 1 = .ok (.getfield 9, 3) := by decide +kernel
theorem dX4_blank_4 : decode cX4_blank 4 = .ok (.iload_n 1, 1) := by decide +kernel
theorem dX4_blank_5 : decode cX4_blank 5 = .ok (.iload_n 2, 1) := by decide +kernel
theorem dX4_blank_6 : decode cX4_blank 6 = .ok (.iastore, 1) := by decide +kernel
theorem dX4_blank_7 : decode cX4_blank 7 = .ok (.aload_n 0, 1) := by decide +kernel
theorem dX4_blank_8 : decode cX4_blank 8 = .ok (.invokevirtual 30, 3) := by decide +kernel
theorem dX4_blank_11 : decode cX4_blank 11 = .ok (.iconst 0, 1) := by decide +kernel
theorem dX4_blank_12 : decode cX4_blank 12 = .ok (.istore_n 3, 1) := by decide +kernel
theorem dX4_blank_13 : decode cX4_blank 13 = .ok (.iload_n 3, 1) := by decide +kernel
theorem dX4_blank_14 : decode cX4_blank 14 = .ok (.bipush 20, 2) := by decide +kernel
theorem dX4_blank_16 : decode cX4_blank 16 = .ok (.if_icmp .ge 16, 3) := by decide +kernel
theorem dX4_blank_19 : decode cX4_blank 19 = .ok (.aload_n 0, 1) := by decide +kernel
theorem dX4_blank_20 : decode cX4_blank 20 = .ok (.iload_n 1, 1) := by decide +kernel
theorem dX4_blank_21 : decode cX4_blank 21 = .ok (.iload_n 3, 1) := by decide +kernel
theorem dX4_blank_22 : decode cX4_blank 22 = .ok (.iconst 0, 1) := by decide +kernel
theorem dX4_blank_23 : decode cX4_blank 23 = .ok (.invokevirtual 45, 3) := by decide +kernel
theorem dX4_blank_26 : decode cX4_blank 26 = .ok (.iinc 3 1, 3) := by decide +kernel
theorem dX4_blank_29 : decode cX4_blank 29 = .ok (.goto (-16), 3) := by decide +kernel
theorem dX4_blank_32 : decode cX4_blank 32 = .ok (.return_, 1) := by decide +kernel
theorem dX4_layEven_0 : decode cX4_layEven 0 = .ok (.aload_n 0, 1) := by decide +kernel
theorem dX4_layEven_1 : decode cX4_layEven 1 = .ok (.iload_n 1, 1) := by decide +kernel
theorem dX4_layEven_2 : decode cX4_layEven 2 = .ok (.iload_n 2, 1) := by decide +kernel
theorem dX4_layEven_3 : decode cX4_layEven 3 = .ok (.invokevirtual 49, 3) := by decide +kernel
theorem dX4_layEven_6 : decode cX4_layEven 6 = .ok (.aload_n 0, 1) := by decide +kernel
theorem dX4_layEven_7 : decode cX4_layEven 7 = .ok (.getfield 18, 3) := by decide +kernel
theorem dX4_layEven_10 : decode cX4_layEven 10 = .ok (.iconst 0, 1) := by decide +kernel
theorem dX4_layEven_11 : decode cX4_layEven 11 = .ok (.invokestatic 24, 3) := by decide +kernel
theorem dX4_layEven_14 : decode cX4_layEven 14 = .ok (.iconst 0, 1) := by decide +kernel
theorem dX4_layEven_15 : decode cX4_layEven 15 = .ok (.istore 4, 2) := by decide +kernel
theorem dX4_layEven_17 : decode cX4_layEven 17 = .ok (.iload 4, 2) := by decide +kernel
theorem dX4_layEven_19 : decode cX4_layEven 19 = .ok (.iload_n 2, 1) := by decide +kernel
theorem dX4_layEven_20 : decode cX4_layEven 20 = .ok (.if_icmp .ge 39, 3) := by decide +kernel
theorem dX4_layEven_23 : decode cX4_layEven 23 = .ok (.aload_n 0, 1) := by decide +kernel
theorem dX4_layEven_24 : decode cX4_layEven 24 = .ok (.iload 4, 2) := by decide +kernel
theorem dX4_layEven_26 : decode cX4_layEven 26 = .ok (.iload_n 2, 1) := by decide +kernel
theorem dX4_layEven_27 : decode cX4_layEven 27 = .ok (.aload_n 3, 1) := by decide +kernel
theorem dX4_layEven_28 : decode cX4_layEven 28 = .ok (.invokevirtual 53, 3) := by decide +kernel
theorem dX4_layEven_31 : decode cX4_layEven 31 = .ok (.istore 5, 2) := by decide +kernel
theorem dX4_layEven_33 : decode cX4_layEven 33 = .ok (.aload_n 0, 1) := by decide +kernel
theorem dX4_layEven_34 : decode cX4_layEven 34 = .ok (.iload_n 1, 1) := by decide +kernel
theorem dX4_layEven_35 : decode cX4_layEven 35 = .ok (.iload 4, 2) := by decide +kernel
theorem dX4_layEven_37 : decode cX4_layEven 37 = .ok (.iload 5, 2) := by decide +kernel
theorem dX4_layEven_39 : decode cX4_layEven 39 = .ok (.invokevirtual 45, 3) := by decide +kernel
theorem dX4_layEven_42 : decode cX4_layEven 42 = .ok (.aload_n 0, 1) := by decide +kernel
theorem dX4_layEven_43 : decode cX4_layEven 43 = .ok (.getfield 18, 3) := by decide +kernel
theorem dX4_layEven_46 : decode cX4_layEven 46 = .ok (.iload 5, 2) := by decide +kernel
theorem dX4_layEven_48 : decode cX4_layEven 48 = .ok (.dup2, 1) := by decide +kernel
theorem dX4_layEven_49 : decode cX4_layEven 49 = .ok (.iaload, 1) := by decide +kernel
theorem dX4_layEven_50 : decode cX4_layEven 50 = .ok (.iconst 1, 1) := by decide +kernel
theorem dX4_layEven_51 : decode cX4_layEven 51 = .ok (.iadd, 1) := by decide +kernel
theorem dX4_layEven_52 : decode cX4_layEven 52 = .ok (.iastore, 1) := by decide +kernel
theorem dX4_layEven_53 : decode cX4_layEven 53 = .ok (.iinc 4 1, 3) := by decide +kernel
theorem dX4_layEven_56 : decode cX4_layEven 56 = .ok (.goto (-39), 3) := by decide +kernel
theorem dX4_layEven_59 : decode cX4_layEven 59 = .ok (.return_, 1) := by decide +kernel
theorem dX4_mostDue_0 : decode cX4_mostDue 0 = .ok (.iconst 0, 1) := by decide +kernel
theorem dX4_mostDue_1 : decode cX4_mostDue 1 = .ok (.istore 4, 2) := by decide +kernel
theorem dX4_mostDue_3 : decode cX4_mostDue 3 = .ok (.iconst 0, 1) := by decide +kernel
theorem dX4_mostDue_4 : decode cX4_mostDue 4 = .ok (.istore 5, 2) := by decide +kernel
theorem dX4_mostDue_6 : decode cX4_mostDue 6 = .ok (.iconst 0, 1) := by decide +kernel
theorem dX4_mostDue_7 : decode cX4_mostDue 7 = .ok (.istore 6, 2) := by decide +kernel
theorem dX4_mostDue_9 : decode cX4_mostDue 9 = .ok (.iconst 0, 1) := by decide +kernel
theorem dX4_mostDue_10 : decode cX4_mostDue 10 = .ok (.istore 7, 2) := by decide +kernel
theorem dX4_mostDue_12 : decode cX4_mostDue 12 = .ok (.iload 7, 2) := by decide +kernel
theorem dX4_mostDue_14 : decode cX4_mostDue 14 = .ok (.bipush 8, 2) := by decide +kernel
theorem dX4_mostDue_16 : decode cX4_mostDue 16 = .ok (.if_icmp .ge 66, 3) := by decide +kernel
theorem dX4_mostDue_19 : decode cX4_mostDue 19 = .ok (.aload_n 3, 1) := by decide +kernel
theorem dX4_mostDue_20 : decode cX4_mostDue 20 = .ok (.iload 7, 2) := by decide +kernel
theorem dX4_mostDue_22 : decode cX4_mostDue 22 = .ok (.iaload, 1) := by decide +kernel
theorem dX4_mostDue_23 : decode cX4_mostDue 23 = .ok (.iload_n 1, 1) := by decide +kernel
theorem dX4_mostDue_24 : decode cX4_mostDue 24 = .ok (.iconst 1, 1) := by decide +kernel
theorem dX4_mostDue_25 : decode cX4_mostDue 25 = .ok (.iadd, 1) := by decide +kernel
theorem dX4_mostDue_26 : decode cX4_mostDue 26 = .ok (.imul, 1) := by decide +kernel
theorem dX4_mostDue_27 : decode cX4_mostDue 27 = .ok (.iload_n 2, 1) := by decide +kernel
theorem dX4_mostDue_28 : decode cX4_mostDue 28 = .ok (.aload_n 0, 1) := by decide +kernel
theorem dX4_mostDue_29 : decode cX4_mostDue 29 = .ok (.getfield 18, 3) := by decide +kernel
theorem dX4_mostDue_32 : decode cX4_mostDue 32 = .ok (.iload 7, 2) := by decide +kernel
theorem dX4_mostDue_34 : decode cX4_mostDue 34 = .ok (.iaload, 1) := by decide +kernel
theorem dX4_mostDue_35 : decode cX4_mostDue 35 = .ok (.imul, 1) := by decide +kernel
theorem dX4_mostDue_36 : decode cX4_mostDue 36 = .ok (.isub, 1) := by decide +kernel
theorem dX4_mostDue_37 : decode cX4_mostDue 37 = .ok (.istore 8, 2) := by decide +kernel
theorem dX4_mostDue_39 : decode cX4_mostDue 39 = .ok (.aload_n 0, 1) := by decide +kernel
theorem dX4_mostDue_40 : decode cX4_mostDue 40 = .ok (.getfield 18, 3) := by decide +kernel
theorem dX4_mostDue_43 : decode cX4_mostDue 43 = .ok (.iload 7, 2) := by decide +kernel
theorem dX4_mostDue_45 : decode cX4_mostDue 45 = .ok (.iaload, 1) := by decide +kernel
theorem dX4_mostDue_46 : decode cX4_mostDue 46 = .ok (.aload_n 3, 1) := by decide +kernel
theorem dX4_mostDue_47 : decode cX4_mostDue 47 = .ok (.iload 7, 2) := by decide +kernel
theorem dX4_mostDue_49 : decode cX4_mostDue 49 = .ok (.iaload, 1) := by decide +kernel
theorem dX4_mostDue_50 : decode cX4_mostDue 50 = .ok (.if_icmp .ge 26, 3) := by decide +kernel
theorem dX4_mostDue_53 : decode cX4_mostDue 53 = .ok (.iload 6, 2) := by decide +kernel
theorem dX4_mostDue_55 : decode cX4_mostDue 55 = .ok (.ifCond .eq 10, 3) := by decide +kernel
theorem dX4_mostDue_58 : decode cX4_mostDue 58 = .ok (.iload 8, 2) := by decide +kernel
theorem dX4_mostDue_60 : decode cX4_mostDue 60 = .ok (.iload 5, 2) := by decide +kernel
theorem dX4_mostDue_62 : decode cX4_mostDue 62 = .ok (.if_icmp .le 14, 3) := by decide +kernel
theorem dX4_mostDue_65 : decode cX4_mostDue 65 = .ok (.iload 7, 2) := by decide +kernel
theorem dX4_mostDue_67 : decode cX4_mostDue 67 = .ok (.istore 4, 2) := by decide +kernel
theorem dX4_mostDue_69 : decode cX4_mostDue 69 = .ok (.iload 8, 2) := by decide +kernel
theorem dX4_mostDue_71 : decode cX4_mostDue 71 = .ok (.istore 5, 2) := by decide +kernel
theorem dX4_mostDue_73 : decode cX4_mostDue 73 = .ok (.iconst 1, 1) := by decide +kernel
theorem dX4_mostDue_74 : decode cX4_mostDue 74 = .ok (.istore 6, 2) := by decide +kernel
theorem dX4_mostDue_76 : decode cX4_mostDue 76 = .ok (.iinc 7 1, 3) := by decide +kernel
theorem dX4_mostDue_79 : decode cX4_mostDue 79 = .ok (.goto (-67), 3) := by decide +kernel
theorem dX4_mostDue_82 : decode cX4_mostDue 82 = .ok (.iload 4, 2) := by decide +kernel
theorem dX4_mostDue_84 : decode cX4_mostDue 84 = .ok (.ireturn, 1) := by decide +kernel
theorem dX4_middles_0 : decode cX4_middles 0 = .ok (.iconst 0, 1) := by decide +kernel
theorem dX4_middles_1 : decode cX4_middles 1 = .ok (.istore_n 3, 1) := by decide +kernel
theorem dX4_middles_2 : decode cX4_middles 2 = .ok (.iconst 0, 1) := by decide +kernel
theorem dX4_middles_3 : decode cX4_middles 3 = .ok (.istore 4, 2) := by decide +kernel
theorem dX4_middles_5 : decode cX4_middles 5 = .ok (.iload 4, 2) := by decide +kernel
theorem dX4_middles_7 : decode cX4_middles 7 = .ok (.aload_n 0, 1) := by decide +kernel
theorem dX4_middles_8 : decode cX4_middles 8 = .ok (.getfield 9, 3) := by decide +kernel
theorem dX4_middles_11 : decode cX4_middles 11 = .ok (.iload_n 1, 1) := by decide +kernel
theorem dX4_middles_12 : decode cX4_middles 12 = .ok (.iaload, 1) := by decide +kernel
theorem dX4_middles_13 : decode cX4_middles 13 = .ok (.if_icmp .ge 23, 3) := by decide +kernel
theorem dX4_middles_16 : decode cX4_middles 16 = .ok (.aload_n 0, 1) := by decide +kernel
theorem dX4_middles_17 : decode cX4_middles 17 = .ok (.iload_n 1, 1) := by decide +kernel
theorem dX4_middles_18 : decode cX4_middles 18 = .ok (.iload 4, 2) := by decide +kernel
theorem dX4_middles_20 : decode cX4_middles 20 = .ok (.invokevirtual 57, 3) := by decide +kernel
theorem dX4_middles_23 : decode cX4_middles 23 = .ok (.iload_n 2, 1) := by decide +kernel
theorem dX4_middles_24 : decode cX4_middles 24 = .ok (.if_icmp .ne 6, 3) := by decide +kernel
theorem dX4_middles_27 : decode cX4_middles 27 = .ok (.iinc 3 1, 3) := by decide +kernel
theorem dX4_middles_30 : decode cX4_middles 30 = .ok (.iinc 4 1, 3) := by decide +kernel
theorem dX4_middles_33 : decode cX4_middles 33 = .ok (.goto (-28), 3) := by decide +kernel
theorem dX4_middles_36 : decode cX4_middles 36 = .ok (.iload_n 3, 1) := by decide +kernel
theorem dX4_middles_37 : decode cX4_middles 37 = .ok (.ireturn, 1) := by decide +kernel
theorem dX4_besides_0 : decode cX4_besides 0 = .ok (.iconst 0, 1) := by decide +kernel
theorem dX4_besides_1 : decode cX4_besides 1 = .ok (.istore_n 3, 1) := by decide +kernel
theorem dX4_besides_2 : decode cX4_besides 2 = .ok (.iconst 0, 1) := by decide +kernel
theorem dX4_besides_3 : decode cX4_besides 3 = .ok (.istore 4, 2) := by decide +kernel
theorem dX4_besides_5 : decode cX4_besides 5 = .ok (.iload 4, 2) := by decide +kernel
theorem dX4_besides_7 : decode cX4_besides 7 = .ok (.aload_n 0, 1) := by decide +kernel
theorem dX4_besides_8 : decode cX4_besides 8 = .ok (.getfield 9, 3) := by decide +kernel
theorem dX4_besides_11 : decode cX4_besides 11 = .ok (.iload_n 1, 1) := by decide +kernel
theorem dX4_besides_12 : decode cX4_besides 12 = .ok (.iaload, 1) := by decide +kernel
theorem dX4_besides_13 : decode cX4_besides 13 = .ok (.if_icmp .ge 67, 3) := by decide +kernel
theorem dX4_besides_16 : decode cX4_besides 16 = .ok (.aload_n 0, 1) := by decide +kernel
theorem dX4_besides_17 : decode cX4_besides 17 = .ok (.iload_n 1, 1) := by decide +kernel
theorem dX4_besides_18 : decode cX4_besides 18 = .ok (.aload_n 0, 1) := by decide +kernel
theorem dX4_besides_19 : decode cX4_besides 19 = .ok (.iload_n 1, 1) := by decide +kernel
theorem dX4_besides_20 : decode cX4_besides 20 = .ok (.iload 4, 2) := by decide +kernel
theorem dX4_besides_22 : decode cX4_besides 22 = .ok (.invokevirtual 61, 3) := by decide +kernel
theorem dX4_besides_25 : decode cX4_besides 25 = .ok (.invokevirtual 57, 3) := by decide +kernel
theorem dX4_besides_28 : decode cX4_besides 28 = .ok (.iload_n 2, 1) := by decide +kernel
theorem dX4_besides_29 : decode cX4_besides 29 = .ok (.if_icmp .eq 19, 3) := by decide +kernel
theorem dX4_besides_32 : decode cX4_besides 32 = .ok (.aload_n 0, 1) := by decide +kernel
theorem dX4_besides_33 : decode cX4_besides 33 = .ok (.iload_n 1, 1) := by decide +kernel
theorem dX4_besides_34 : decode cX4_besides 34 = .ok (.aload_n 0, 1) := by decide +kernel
theorem dX4_besides_35 : decode cX4_besides 35 = .ok (.iload_n 1, 1) := by decide +kernel
theorem dX4_besides_36 : decode cX4_besides 36 = .ok (.iload 4, 2) := by decide +kernel
theorem dX4_besides_38 : decode cX4_besides 38 = .ok (.invokevirtual 64, 3) := by decide +kernel
theorem dX4_besides_41 : decode cX4_besides 41 = .ok (.invokevirtual 57, 3) := by decide +kernel
theorem dX4_besides_44 : decode cX4_besides 44 = .ok (.iload_n 2, 1) := by decide +kernel
theorem dX4_besides_45 : decode cX4_besides 45 = .ok (.if_icmp .ne 7, 3) := by decide +kernel
theorem dX4_besides_48 : decode cX4_besides 48 = .ok (.iconst 1, 1) := by decide +kernel
theorem dX4_besides_49 : decode cX4_besides 49 = .ok (.goto 4, 3) := by decide +kernel
theorem dX4_besides_52 : decode cX4_besides 52 = .ok (.iconst 0, 1) := by decide +kernel
theorem dX4_besides_53 : decode cX4_besides 53 = .ok (.istore 5, 2) := by decide +kernel
theorem dX4_besides_55 : decode cX4_besides 55 = .ok (.iload 5, 2) := by decide +kernel
theorem dX4_besides_57 : decode cX4_besides 57 = .ok (.ifCond .eq 17, 3) := by decide +kernel
theorem dX4_besides_60 : decode cX4_besides 60 = .ok (.aload_n 0, 1) := by decide +kernel
theorem dX4_besides_61 : decode cX4_besides 61 = .ok (.iload_n 1, 1) := by decide +kernel
theorem dX4_besides_62 : decode cX4_besides 62 = .ok (.iload 4, 2) := by decide +kernel
theorem dX4_besides_64 : decode cX4_besides 64 = .ok (.invokevirtual 57, 3) := by decide +kernel
theorem dX4_besides_67 : decode cX4_besides 67 = .ok (.iload_n 2, 1) := by decide +kernel
theorem dX4_besides_68 : decode cX4_besides 68 = .ok (.if_icmp .eq 6, 3) := by decide +kernel
theorem dX4_besides_71 : decode cX4_besides 71 = .ok (.iinc 3 1, 3) := by decide +kernel
theorem dX4_besides_74 : decode cX4_besides 74 = .ok (.iinc 4 1, 3) := by decide +kernel
theorem dX4_besides_77 : decode cX4_besides 77 = .ok (.goto (-72), 3) := by decide +kernel
theorem dX4_besides_80 : decode cX4_besides 80 = .ok (.iload_n 3, 1) := by decide +kernel
theorem dX4_besides_81 : decode cX4_besides 81 = .ok (.ireturn, 1) := by decide +kernel
theorem dX4_mixedInto_0 : decode cX4_mixedInto 0 = .ok (.lload_n 1, 1) := by decide +kernel
theorem dX4_mixedInto_1 : decode cX4_mixedInto 1 = .ok (.lstore_n 3, 1) := by decide +kernel
theorem dX4_mixedInto_2 : decode cX4_mixedInto 2 = .ok (.iconst 0, 1) := by decide +kernel
theorem dX4_mixedInto_3 : decode cX4_mixedInto 3 = .ok (.istore 5, 2) := by decide +kernel
theorem dX4_mixedInto_5 : decode cX4_mixedInto 5 = .ok (.iload 5, 2) := by decide +kernel
theorem dX4_mixedInto_7 : decode cX4_mixedInto 7 = .ok (.iconst 3, 1) := by decide +kernel
theorem dX4_mixedInto_8 : decode cX4_mixedInto 8 = .ok (.if_icmp .ge 61, 3) := by decide +kernel
theorem dX4_mixedInto_11 : decode cX4_mixedInto 11 = .ok (.ldc2_w 67, 3) := by decide +kernel
theorem dX4_mixedInto_14 : decode cX4_mixedInto 14 = .ok (.lload_n 3, 1) := by decide +kernel
theorem dX4_mixedInto_15 : decode cX4_mixedInto 15 = .ok (.lmul, 1) := by decide +kernel
theorem dX4_mixedInto_16 : decode cX4_mixedInto 16 = .ok (.aload_n 0, 1) := by decide +kernel
theorem dX4_mixedInto_17 : decode cX4_mixedInto 17 = .ok (.getfield 9, 3) := by decide +kernel
theorem dX4_mixedInto_20 : decode cX4_mixedInto 20 = .ok (.iload 5, 2) := by decide +kernel
theorem dX4_mixedInto_22 : decode cX4_mixedInto 22 = .ok (.iaload, 1) := by decide +kernel
theorem dX4_mixedInto_23 : decode cX4_mixedInto 23 = .ok (.i2l, 1) := by decide +kernel
theorem dX4_mixedInto_24 : decode cX4_mixedInto 24 = .ok (.ladd, 1) := by decide +kernel
theorem dX4_mixedInto_25 : decode cX4_mixedInto 25 = .ok (.lstore_n 3, 1) := by decide +kernel
theorem dX4_mixedInto_26 : decode cX4_mixedInto 26 = .ok (.iconst 0, 1) := by decide +kernel
theorem dX4_mixedInto_27 : decode cX4_mixedInto 27 = .ok (.istore 6, 2) := by decide +kernel
theorem dX4_mixedInto_29 : decode cX4_mixedInto 29 = .ok (.iload 6, 2) := by decide +kernel
theorem dX4_mixedInto_31 : decode cX4_mixedInto 31 = .ok (.aload_n 0, 1) := by decide +kernel
theorem dX4_mixedInto_32 : decode cX4_mixedInto 32 = .ok (.getfield 9, 3) := by decide +kernel
theorem dX4_mixedInto_35 : decode cX4_mixedInto 35 = .ok (.iload 5, 2) := by decide +kernel
theorem dX4_mixedInto_37 : decode cX4_mixedInto 37 = .ok (.iaload, 1) := by decide +kernel
theorem dX4_mixedInto_38 : decode cX4_mixedInto 38 = .ok (.if_icmp .ge 25, 3) := by decide +kernel
theorem dX4_mixedInto_41 : decode cX4_mixedInto 41 = .ok (.ldc2_w 67, 3) := by decide +kernel
theorem dX4_mixedInto_44 : decode cX4_mixedInto 44 = .ok (.lload_n 3, 1) := by decide +kernel
theorem dX4_mixedInto_45 : decode cX4_mixedInto 45 = .ok (.lmul, 1) := by decide +kernel
theorem dX4_mixedInto_46 : decode cX4_mixedInto 46 = .ok (.aload_n 0, 1) := by decide +kernel
theorem dX4_mixedInto_47 : decode cX4_mixedInto 47 = .ok (.iload 5, 2) := by decide +kernel
theorem dX4_mixedInto_49 : decode cX4_mixedInto 49 = .ok (.iload 6, 2) := by decide +kernel
theorem dX4_mixedInto_51 : decode cX4_mixedInto 51 = .ok (.invokevirtual 57, 3) := by decide +kernel
theorem dX4_mixedInto_54 : decode cX4_mixedInto 54 = .ok (.i2l, 1) := by decide +kernel
theorem dX4_mixedInto_55 : decode cX4_mixedInto 55 = .ok (.ladd, 1) := by decide +kernel
theorem dX4_mixedInto_56 : decode cX4_mixedInto 56 = .ok (.lstore_n 3, 1) := by decide +kernel
theorem dX4_mixedInto_57 : decode cX4_mixedInto 57 = .ok (.iinc 6 1, 3) := by decide +kernel
theorem dX4_mixedInto_60 : decode cX4_mixedInto 60 = .ok (.goto (-31), 3) := by decide +kernel
theorem dX4_mixedInto_63 : decode cX4_mixedInto 63 = .ok (.iinc 5 1, 3) := by decide +kernel
theorem dX4_mixedInto_66 : decode cX4_mixedInto 66 = .ok (.goto (-61), 3) := by decide +kernel
theorem dX4_mixedInto_69 : decode cX4_mixedInto 69 = .ok (.lload_n 3, 1) := by decide +kernel
theorem dX4_mixedInto_70 : decode cX4_mixedInto 70 = .ok (.lreturn, 1) := by decide +kernel
theorem dX5_init_0 : decode cX5_init 0 = .ok (.aload_n 0, 1) := by decide +kernel
theorem dX5_init_1 : decode cX5_init 1 = .ok (.invokespecial 3, 3) := by decide +kernel
theorem dX5_init_4 : decode cX5_init 4 = .ok (.aload_n 0, 1) := by decide +kernel
theorem dX5_init_5 : decode cX5_init 5 = .ok (.bipush 60, 2) := by decide +kernel
theorem dX5_init_7 : decode cX5_init 7 = .ok (.newarray .long, 2) := by decide +kernel
theorem dX5_init_9 : decode cX5_init 9 = .ok (.putfield 9, 3) := by decide +kernel
theorem dX5_init_12 : decode cX5_init 12 = .ok (.aload_n 0, 1) := by decide +kernel
theorem dX5_init_13 : decode cX5_init 13 = .ok (.sipush 1200, 3) := by decide +kernel
theorem dX5_init_16 : decode cX5_init 16 = .ok (.newarray .long, 2) := by decide +kernel
theorem dX5_init_18 : decode cX5_init 18 = .ok (.putfield 15, 3) := by decide +kernel
theorem dX5_init_21 : decode cX5_init 21 = .ok (.aload_n 0, 1) := by decide +kernel
theorem dX5_init_22 : decode cX5_init 22 = .ok (.lconst 0, 1) := by decide +kernel
theorem dX5_init_23 : decode cX5_init 23 = .ok (.putfield 18, 3) := by decide +kernel
theorem dX5_init_26 : decode cX5_init 26 = .ok (.aload_n 0, 1) := by decide +kernel
theorem dX5_init_27 : decode cX5_init 27 = .ok (.iconst 0, 1) := by decide +kernel
theorem dX5_init_28 : decode cX5_init 28 = .ok (.putfield 22, 3) := by decide +kernel
theorem dX5_init_31 : decode cX5_init 31 = .ok (.return_, 1) := by decide +kernel
theorem dX5_begin_0 : decode cX5_begin 0 = .ok (.aload_n 0, 1) := by decide +kernel
theorem dX5_begin_1 : decode cX5_begin 1 = .ok (.getfield 9, 3) := by decide +kernel
theorem dX5_begin_4 : decode cX5_begin 4 = .ok (.lconst 0, 1) := by decide +kernel
theorem dX5_begin_5 : decode cX5_begin 5 = .ok (.invokestatic 26, 3) := by decide +kernel
theorem dX5_begin_8 : decode cX5_begin 8 = .ok (.aload_n 0, 1) := by decide +kernel
theorem dX5_begin_9 : decode cX5_begin 9 = .ok (.getfield 15, 3) := by decide +kernel
theorem dX5_begin_12 : decode cX5_begin 12 = .ok (.lconst 0, 1) := by decide +kernel
theorem dX5_begin_13 : decode cX5_begin 13 = .ok (.invokestatic 26, 3) := by decide +kernel
theorem dX5_begin_16 : decode cX5_begin 16 = .ok (.aload_n 0, 1) := by decide +kernel
theorem dX5_begin_17 : decode cX5_begin 17 = .ok (.lconst 0, 1) := by decide +kernel
theorem dX5_begin_18 : decode cX5_begin 18 = .ok (.putfield 18, 3) := by decide +kernel
theorem dX5_begin_21 : decode cX5_begin 21 = .ok (.aload_n 0, 1) := by decide +kernel
theorem dX5_begin_22 : decode cX5_begin 22 = .ok (.iconst 0, 1) := by decide +kernel
theorem dX5_begin_23 : decode cX5_begin 23 = .ok (.putfield 22, 3) := by decide +kernel
theorem dX5_begin_26 : decode cX5_begin 26 = .ok (.return_, 1) := by decide +kernel
theorem dX5_add_0 : decode cX5_add 0 = .ok (.iload 4, 2) := by decide +kernel
theorem dX5_add_2 : decode cX5_add 2 = .ok (.ifCond .ne 4, 3) := by decide +kernel
theorem dX5_add_5 : decode cX5_add 5 = .ok (.return_, 1) := by decide +kernel
theorem dX5_add_6 : decode cX5_add 6 = .ok (.aload_n 0, 1) := by decide +kernel
theorem dX5_add_7 : decode cX5_add 7 = .ok (.dup, 1) := by decide +kernel
theorem dX5_add_8 : decode cX5_add 8 = .ok (.getfield 22, 3) := by decide +kernel
theorem dX5_add_11 : decode cX5_add 11 = .ok (.iconst 1, 1) := by decide +kernel
theorem dX5_add_12 : decode cX5_add 12 = .ok (.iadd, 1) := by decide +kernel
theorem dX5_add_13 : decode cX5_add 13 = .ok (.putfield 22, 3) := by decide +kernel
theorem dX5_add_16 : decode cX5_add 16 = .ok (.aload_n 0, 1) := by decide +kernel
theorem dX5_add_17 : decode cX5_add 17 = .ok (.dup, 1) := by decide +kernel
theorem dX5_add_18 : decode cX5_add 18 = .ok (.getfield 18, 3) := by decide +kernel
theorem dX5_add_21 : decode cX5_add 21 = .ok (.iload 4, 2) := by decide +kernel
theorem dX5_add_23 : decode cX5_add 23 = .ok (.i2l, 1) := by decide +kernel
theorem dX5_add_24 : decode cX5_add 24 = .ok (.ladd, 1) := by decide +kernel
theorem dX5_add_25 : decode cX5_add 25 = .ok (.putfield 18, 3) := by decide +kernel
theorem dX5_add_28 : decode cX5_add 28 = .ok (.aload_n 0, 1) := by decide +kernel
theorem dX5_add_29 : decode cX5_add 29 = .ok (.getfield 9, 3) := by decide +kernel
theorem dX5_add_32 : decode cX5_add 32 = .ok (.iconst 0, 1) := by decide +kernel
theorem dX5_add_33 : decode cX5_add 33 = .ok (.iload_n 1, 1) := by decide +kernel
theorem dX5_add_34 : decode cX5_add 34 = .ok (.invokestatic 32, 3) := by decide +kernel
theorem dX5_add_37 : decode cX5_add 37 = .ok (.dup2, 1) := by decide +kernel
theorem dX5_add_38 : decode cX5_add 38 = .ok (.laload, 1) := by decide +kernel
theorem dX5_add_39 : decode cX5_add 39 = .ok (.iload 4, 2) := by decide +kernel
theorem dX5_add_41 : decode cX5_add 41 = .ok (.i2l, 1) := by decide +kernel
theorem dX5_add_42 : decode cX5_add 42 = .ok (.ladd, 1) := by decide +kernel
theorem dX5_add_43 : decode cX5_add 43 = .ok (.lastore, 1) := by decide +kernel
theorem dX5_add_44 : decode cX5_add 44 = .ok (.aload_n 0, 1) := by decide +kernel
theorem dX5_add_45 : decode cX5_add 45 = .ok (.getfield 9, 3) := by decide +kernel
theorem dX5_add_48 : decode cX5_add 48 = .ok (.iconst 1, 1) := by decide +kernel
theorem dX5_add_49 : decode cX5_add 49 = .ok (.iload_n 2, 1) := by decide +kernel
theorem dX5_add_50 : decode cX5_add 50 = .ok (.invokestatic 32, 3) := by decide +kernel
theorem dX5_add_53 : decode cX5_add 53 = .ok (.dup2, 1) := by decide +kernel
theorem dX5_add_54 : decode cX5_add 54 = .ok (.laload, 1) := by decide +kernel
theorem dX5_add_55 : decode cX5_add 55 = .ok (.iload 4, 2) := by decide +kernel
theorem dX5_add_57 : decode cX5_add 57 = .ok (.i2l, 1) := by decide +kernel
theorem dX5_add_58 : decode cX5_add 58 = .ok (.ladd, 1) := by decide +kernel
theorem dX5_add_59 : decode cX5_add 59 = .ok (.lastore, 1) := by decide +kernel
theorem dX5_add_60 : decode cX5_add 60 = .ok (.aload_n 0, 1) := by decide +kernel
theorem dX5_add_61 : decode cX5_add 61 = .ok (.getfield 9, 3) := by decide +kernel
theorem dX5_add_64 : decode cX5_add 64 = .ok (.iconst 2, 1) := by decide +kernel
theorem dX5_add_65 : decode cX5_add 65 = .ok (.iload_n 3, 1) := by decide +kernel
theorem dX5_add_66 : decode cX5_add 66 = .ok (.invokestatic 32, 3) := by decide +kernel
theorem dX5_add_69 : decode cX5_add 69 = .ok (.dup2, 1) := by decide +kernel
theorem dX5_add_70 : decode cX5_add 70 = .ok (.laload, 1) := by decide +kernel
theorem dX5_add_71 : decode cX5_add 71 = .ok (.iload 4, 2) := by decide +kernel
theorem dX5_add_73 : decode cX5_add 73 = .ok (.i2l, 1) := by decide +kernel
theorem dX5_add_74 : decode cX5_add 74 = .ok (.ladd, 1) := by decide +kernel
theorem dX5_add_75 : decode cX5_add 75 = .ok (.lastore, 1) := by decide +kernel
theorem dX5_add_76 : decode cX5_add 76 = .ok (.aload_n 0, 1) := by decide +kernel
theorem dX5_add_77 : decode cX5_add 77 = .ok (.getfield 15, 3) := by decide +kernel
theorem dX5_add_80 : decode cX5_add 80 = .ok (.iconst 0, 1) := by decide +kernel
theorem dX5_add_81 : decode cX5_add 81 = .ok (.iload_n 2, 1) := by decide +kernel
theorem dX5_add_82 : decode cX5_add 82 = .ok (.iload_n 3, 1) := by decide +kernel
theorem dX5_add_83 : decode cX5_add 83 = .ok (.invokestatic 36, 3) := by decide +kernel
theorem dX5_add_86 : decode cX5_add 86 = .ok (.dup2, 1) := by decide +kernel
theorem dX5_add_87 : decode cX5_add 87 = .ok (.laload, 1) := by decide +kernel
theorem dX5_add_88 : decode cX5_add 88 = .ok (.iload 4, 2) := by decide +kernel
theorem dX5_add_90 : decode cX5_add 90 = .ok (.i2l, 1) := by decide +kernel
theorem dX5_add_91 : decode cX5_add 91 = .ok (.ladd, 1) := by decide +kernel
theorem dX5_add_92 : decode cX5_add 92 = .ok (.lastore, 1) := by decide +kernel
theorem dX5_add_93 : decode cX5_add 93 = .ok (.aload_n 0, 1) := by decide +kernel
theorem dX5_add_94 : decode cX5_add 94 = .ok (.getfield 15, 3) := by decide +kernel
theorem dX5_add_97 : decode cX5_add 97 = .ok (.iconst 1, 1) := by decide +kernel
theorem dX5_add_98 : decode cX5_add 98 = .ok (.iload_n 1, 1) := by decide +kernel
theorem dX5_add_99 : decode cX5_add 99 = .ok (.iload_n 3, 1) := by decide +kernel
theorem dX5_add_100 : decode cX5_add 100 = .ok (.invokestatic 36, 3) := by decide +kernel
theorem dX5_add_103 : decode cX5_add 103 = .ok (.dup2, 1) := by decide +kernel
theorem dX5_add_104 : decode cX5_add 104 = .ok (.laload, 1) := by decide +kernel
theorem dX5_add_105 : decode cX5_add 105 = .ok (.iload 4, 2) := by decide +kernel
theorem dX5_add_107 : decode cX5_add 107 = .ok (.i2l, 1) := by decide +kernel
theorem dX5_add_108 : decode cX5_add 108 = .ok (.ladd, 1) := by decide +kernel
theorem dX5_add_109 : decode cX5_add 109 = .ok (.lastore, 1) := by decide +kernel
theorem dX5_add_110 : decode cX5_add 110 = .ok (.aload_n 0, 1) := by decide +kernel
theorem dX5_add_111 : decode cX5_add 111 = .ok (.getfield 15, 3) := by decide +kernel
theorem dX5_add_114 : decode cX5_add 114 = .ok (.iconst 2, 1) := by decide +kernel
theorem dX5_add_115 : decode cX5_add 115 = .ok (.iload_n 1, 1) := by decide +kernel
theorem dX5_add_116 : decode cX5_add 116 = .ok (.iload_n 2, 1) := by decide +kernel
theorem dX5_add_117 : decode cX5_add 117 = .ok (.invokestatic 36, 3) := by decide +kernel
theorem dX5_add_120 : decode cX5_add 120 = .ok (.dup2, 1) := by decide +kernel
theorem dX5_add_121 : decode cX5_add 121 = .ok (.laload, 1) := by decide +kernel
theorem dX5_add_122 : decode cX5_add 122 = .ok (.iload 4, 2) := by decide +kernel
theorem dX5_add_124 : decode cX5_add 124 = .ok (.i2l, 1) := by decide +kernel
theorem dX5_add_125 : decode cX5_add 125 = .ok (.ladd, 1) := by decide +kernel
theorem dX5_add_126 : decode cX5_add 126 = .ok (.lastore, 1) := by decide +kernel
theorem dX5_add_127 : decode cX5_add 127 = .ok (.return_, 1) := by decide +kernel
theorem dX5_heldPays_0 : decode cX5_heldPays 0 = .ok (.iload 4, 2) := by decide +kernel
theorem dX5_heldPays_2 : decode cX5_heldPays 2 = .ok (.tableswitch 107 1 6 #[38, 49, 60, 72, 83, 95], 38) := by decide +kernel
theorem dX5_heldPays_40 : decode cX5_heldPays 40 = .ok (.aload_n 0, 1) := by decide +kernel
theorem dX5_heldPays_41 : decode cX5_heldPays 41 = .ok (.getfield 9, 3) := by decide +kernel
theorem dX5_heldPays_44 : decode cX5_heldPays 44 = .ok (.iconst 0, 1) := by decide +kernel
theorem dX5_heldPays_45 : decode cX5_heldPays 45 = .ok (.iload_n 1, 1) := by decide +kernel
theorem dX5_heldPays_46 : decode cX5_heldPays 46 = .ok (.invokestatic 32, 3) := by decide +kernel
theorem dX5_heldPays_49 : decode cX5_heldPays 49 = .ok (.laload, 1) := by decide +kernel
theorem dX5_heldPays_50 : decode cX5_heldPays 50 = .ok (.lreturn, 1) := by decide +kernel
theorem dX5_heldPays_51 : decode cX5_heldPays 51 = .ok (.aload_n 0, 1) := by decide +kernel
theorem dX5_heldPays_52 : decode cX5_heldPays 52 = .ok (.getfield 9, 3) := by decide +kernel
theorem dX5_heldPays_55 : decode cX5_heldPays 55 = .ok (.iconst 1, 1) := by decide +kernel
theorem dX5_heldPays_56 : decode cX5_heldPays 56 = .ok (.iload_n 2, 1) := by decide +kernel
theorem dX5_heldPays_57 : decode cX5_heldPays 57 = .ok (.invokestatic 32, 3) := by decide +kernel
theorem dX5_heldPays_60 : decode cX5_heldPays 60 = .ok (.laload, 1) := by decide +kernel
theorem dX5_heldPays_61 : decode cX5_heldPays 61 = .ok (.lreturn, 1) := by decide +kernel
theorem dX5_heldPays_62 : decode cX5_heldPays 62 = .ok (.aload_n 0, 1) := by decide +kernel
theorem dX5_heldPays_63 : decode cX5_heldPays 63 = .ok (.getfield 15, 3) := by decide +kernel
theorem dX5_heldPays_66 : decode cX5_heldPays 66 = .ok (.iconst 2, 1) := by decide +kernel
theorem dX5_heldPays_67 : decode cX5_heldPays 67 = .ok (.iload_n 1, 1) := by decide +kernel
theorem dX5_heldPays_68 : decode cX5_heldPays 68 = .ok (.iload_n 2, 1) := by decide +kernel
theorem dX5_heldPays_69 : decode cX5_heldPays 69 = .ok (.invokestatic 36, 3) := by decide +kernel
theorem dX5_heldPays_72 : decode cX5_heldPays 72 = .ok (.laload, 1) := by decide +kernel
theorem dX5_heldPays_73 : decode cX5_heldPays 73 = .ok (.lreturn, 1) := by decide +kernel
theorem dX5_heldPays_74 : decode cX5_heldPays 74 = .ok (.aload_n 0, 1) := by decide +kernel
theorem dX5_heldPays_75 : decode cX5_heldPays 75 = .ok (.getfield 9, 3) := by decide +kernel
theorem dX5_heldPays_78 : decode cX5_heldPays 78 = .ok (.iconst 2, 1) := by decide +kernel
theorem dX5_heldPays_79 : decode cX5_heldPays 79 = .ok (.iload_n 3, 1) := by decide +kernel
theorem dX5_heldPays_80 : decode cX5_heldPays 80 = .ok (.invokestatic 32, 3) := by decide +kernel
theorem dX5_heldPays_83 : decode cX5_heldPays 83 = .ok (.laload, 1) := by decide +kernel
theorem dX5_heldPays_84 : decode cX5_heldPays 84 = .ok (.lreturn, 1) := by decide +kernel
theorem dX5_heldPays_85 : decode cX5_heldPays 85 = .ok (.aload_n 0, 1) := by decide +kernel
theorem dX5_heldPays_86 : decode cX5_heldPays 86 = .ok (.getfield 15, 3) := by decide +kernel
theorem dX5_heldPays_89 : decode cX5_heldPays 89 = .ok (.iconst 1, 1) := by decide +kernel
theorem dX5_heldPays_90 : decode cX5_heldPays 90 = .ok (.iload_n 1, 1) := by decide +kernel
theorem dX5_heldPays_91 : decode cX5_heldPays 91 = .ok (.iload_n 3, 1) := by decide +kernel
theorem dX5_heldPays_92 : decode cX5_heldPays 92 = .ok (.invokestatic 36, 3) := by decide +kernel
theorem dX5_heldPays_95 : decode cX5_heldPays 95 = .ok (.laload, 1) := by decide +kernel
theorem dX5_heldPays_96 : decode cX5_heldPays 96 = .ok (.lreturn, 1) := by decide +kernel
theorem dX5_heldPays_97 : decode cX5_heldPays 97 = .ok (.aload_n 0, 1) := by decide +kernel
theorem dX5_heldPays_98 : decode cX5_heldPays 98 = .ok (.getfield 15, 3) := by decide +kernel
theorem dX5_heldPays_101 : decode cX5_heldPays 101 = .ok (.iconst 0, 1) := by decide +kernel
theorem dX5_heldPays_102 : decode cX5_heldPays 102 = .ok (.iload_n 2, 1) := by decide +kernel
theorem dX5_heldPays_103 : decode cX5_heldPays 103 = .ok (.iload_n 3, 1) := by decide +kernel
theorem dX5_heldPays_104 : decode cX5_heldPays 104 = .ok (.invokestatic 36, 3) := by decide +kernel
theorem dX5_heldPays_107 : decode cX5_heldPays 107 = .ok (.laload, 1) := by decide +kernel
theorem dX5_heldPays_108 : decode cX5_heldPays 108 = .ok (.lreturn, 1) := by decide +kernel
theorem dX5_heldPays_109 : decode cX5_heldPays 109 = .ok (.aload_n 0, 1) := by decide +kernel
theorem dX5_heldPays_110 : decode cX5_heldPays 110 = .ok (.getfield 18, 3) := by decide +kernel
theorem dX5_heldPays_113 : decode cX5_heldPays 113 = .ok (.lreturn, 1) := by decide +kernel
theorem dX5_oneAt_0 : decode cX5_oneAt 0 = .ok (.iload_n 0, 1) := by decide +kernel
theorem dX5_oneAt_1 : decode cX5_oneAt 1 = .ok (.bipush 20, 2) := by decide +kernel
theorem dX5_oneAt_3 : decode cX5_oneAt 3 = .ok (.imul, 1) := by decide +kernel
theorem dX5_oneAt_4 : decode cX5_oneAt 4 = .ok (.iload_n 1, 1) := by decide +kernel
theorem dX5_oneAt_5 : decode cX5_oneAt 5 = .ok (.iadd, 1) := by decide +kernel
theorem dX5_oneAt_6 : decode cX5_oneAt 6 = .ok (.ireturn, 1) := by decide +kernel
theorem dX5_twoAt_0 : decode cX5_twoAt 0 = .ok (.iload_n 0, 1) := by decide +kernel
theorem dX5_twoAt_1 : decode cX5_twoAt 1 = .ok (.sipush 400, 3) := by decide +kernel
theorem dX5_twoAt_4 : decode cX5_twoAt 4 = .ok (.imul, 1) := by decide +kernel
theorem dX5_twoAt_5 : decode cX5_twoAt 5 = .ok (.iload_n 1, 1) := by decide +kernel
theorem dX5_twoAt_6 : decode cX5_twoAt 6 = .ok (.bipush 20, 2) := by decide +kernel
theorem dX5_twoAt_8 : decode cX5_twoAt 8 = .ok (.imul, 1) := by decide +kernel
theorem dX5_twoAt_9 : decode cX5_twoAt 9 = .ok (.iadd, 1) := by decide +kernel
theorem dX5_twoAt_10 : decode cX5_twoAt 10 = .ok (.iload_n 2, 1) := by decide +kernel
theorem dX5_twoAt_11 : decode cX5_twoAt 11 = .ok (.iadd, 1) := by decide +kernel
theorem dX5_twoAt_12 : decode cX5_twoAt 12 = .ok (.ireturn, 1) := by decide +kernel
theorem dX6_init_0 : decode cX6_init 0 = .ok (.aload_n 0, 1) := by decide +kernel
theorem dX6_init_1 : decode cX6_init 1 = .ok (.invokespecial 3, 3) := by decide +kernel
theorem dX6_init_4 : decode cX6_init 4 = .ok (.aload_n 0, 1) := by decide +kernel
theorem dX6_init_5 : decode cX6_init 5 = .ok (.bipush 100, 2) := by decide +kernel
theorem dX6_init_7 : decode cX6_init 7 = .ok (.putfield 9, 3) := by decide +kernel
theorem dX6_init_10 : decode cX6_init 10 = .ok (.aload_n 0, 1) := by decide +kernel
theorem dX6_init_11 : decode cX6_init 11 = .ok (.iconst 0, 1) := by decide +kernel
theorem dX6_init_12 : decode cX6_init 12 = .ok (.putfield 15, 3) := by decide +kernel
theorem dX6_init_15 : decode cX6_init 15 = .ok (.aload_n 0, 1) := by decide +kernel
theorem dX6_init_16 : decode cX6_init 16 = .ok (.iconst 0, 1) := by decide +kernel
theorem dX6_init_17 : decode cX6_init 17 = .ok (.putfield 18, 3) := by decide +kernel
theorem dX6_init_20 : decode cX6_init 20 = .ok (.aload_n 0, 1) := by decide +kernel
theorem dX6_init_21 : decode cX6_init 21 = .ok (.iconst 0, 1) := by decide +kernel
theorem dX6_init_22 : decode cX6_init 22 = .ok (.putfield 21, 3) := by decide +kernel
theorem dX6_init_25 : decode cX6_init 25 = .ok (.aload_n 0, 1) := by decide +kernel
theorem dX6_init_26 : decode cX6_init 26 = .ok (.iconst 0, 1) := by decide +kernel
theorem dX6_init_27 : decode cX6_init 27 = .ok (.putfield 24, 3) := by decide +kernel
theorem dX6_init_30 : decode cX6_init 30 = .ok (.aload_n 0, 1) := by decide +kernel
theorem dX6_init_31 : decode cX6_init 31 = .ok (.iconst 0, 1) := by decide +kernel
theorem dX6_init_32 : decode cX6_init 32 = .ok (.putfield 27, 3) := by decide +kernel
theorem dX6_init_35 : decode cX6_init 35 = .ok (.aload_n 0, 1) := by decide +kernel
theorem dX6_init_36 : decode cX6_init 36 = .ok (.iconst 0, 1) := by decide +kernel
theorem dX6_init_37 : decode cX6_init 37 = .ok (.putfield 30, 3) := by decide +kernel
theorem dX6_init_40 : decode cX6_init 40 = .ok (.return_, 1) := by decide +kernel
theorem dX6_take_0 : decode cX6_take 0 = .ok (.iload_n 1, 1) := by decide +kernel
theorem dX6_take_1 : decode cX6_take 1 = .ok (.aload_n 0, 1) := by decide +kernel
theorem dX6_take_2 : decode cX6_take 2 = .ok (.getfield 9, 3) := by decide +kernel
theorem dX6_take_5 : decode cX6_take 5 = .ok (.aload_n 0, 1) := by decide +kernel
theorem dX6_take_6 : decode cX6_take 6 = .ok (.getfield 15, 3) := by decide +kernel
theorem dX6_take_9 : decode cX6_take 9 = .ok (.isub, 1) := by decide +kernel
theorem dX6_take_10 : decode cX6_take 10 = .ok (.invokestatic 33, 3) := by decide +kernel
theorem dX6_take_13 : decode cX6_take 13 = .ok (.istore_n 2, 1) := by decide +kernel
theorem dX6_take_14 : decode cX6_take 14 = .ok (.aload_n 0, 1) := by decide +kernel
theorem dX6_take_15 : decode cX6_take 15 = .ok (.dup, 1) := by decide +kernel
theorem dX6_take_16 : decode cX6_take 16 = .ok (.getfield 15, 3) := by decide +kernel
theorem dX6_take_19 : decode cX6_take 19 = .ok (.iload_n 2, 1) := by decide +kernel
theorem dX6_take_20 : decode cX6_take 20 = .ok (.iadd, 1) := by decide +kernel
theorem dX6_take_21 : decode cX6_take 21 = .ok (.putfield 15, 3) := by decide +kernel
theorem dX6_take_24 : decode cX6_take 24 = .ok (.aload_n 0, 1) := by decide +kernel
theorem dX6_take_25 : decode cX6_take 25 = .ok (.dup, 1) := by decide +kernel
theorem dX6_take_26 : decode cX6_take 26 = .ok (.getfield 18, 3) := by decide +kernel
theorem dX6_take_29 : decode cX6_take 29 = .ok (.iload_n 1, 1) := by decide +kernel
theorem dX6_take_30 : decode cX6_take 30 = .ok (.iload_n 2, 1) := by decide +kernel
theorem dX6_take_31 : decode cX6_take 31 = .ok (.isub, 1) := by decide +kernel
theorem dX6_take_32 : decode cX6_take 32 = .ok (.iadd, 1) := by decide +kernel
theorem dX6_take_33 : decode cX6_take 33 = .ok (.putfield 18, 3) := by decide +kernel
theorem dX6_take_36 : decode cX6_take 36 = .ok (.aload_n 0, 1) := by decide +kernel
theorem dX6_take_37 : decode cX6_take 37 = .ok (.dup, 1) := by decide +kernel
theorem dX6_take_38 : decode cX6_take 38 = .ok (.getfield 21, 3) := by decide +kernel
theorem dX6_take_41 : decode cX6_take 41 = .ok (.iload_n 1, 1) := by decide +kernel
theorem dX6_take_42 : decode cX6_take 42 = .ok (.iadd, 1) := by decide +kernel
theorem dX6_take_43 : decode cX6_take 43 = .ok (.putfield 21, 3) := by decide +kernel
theorem dX6_take_46 : decode cX6_take 46 = .ok (.return_, 1) := by decide +kernel
theorem dX6_payOut_0 : decode cX6_payOut 0 = .ok (.iload_n 1, 1) := by decide +kernel
theorem dX6_payOut_1 : decode cX6_payOut 1 = .ok (.aload_n 0, 1) := by decide +kernel
theorem dX6_payOut_2 : decode cX6_payOut 2 = .ok (.getfield 15, 3) := by decide +kernel
theorem dX6_payOut_5 : decode cX6_payOut 5 = .ok (.invokestatic 33, 3) := by decide +kernel
theorem dX6_payOut_8 : decode cX6_payOut 8 = .ok (.istore_n 2, 1) := by decide +kernel
theorem dX6_payOut_9 : decode cX6_payOut 9 = .ok (.aload_n 0, 1) := by decide +kernel
theorem dX6_payOut_10 : decode cX6_payOut 10 = .ok (.dup, 1) := by decide +kernel
theorem dX6_payOut_11 : decode cX6_payOut 11 = .ok (.getfield 15, 3) := by decide +kernel
theorem dX6_payOut_14 : decode cX6_payOut 14 = .ok (.iload_n 2, 1) := by decide +kernel
theorem dX6_payOut_15 : decode cX6_payOut 15 = .ok (.isub, 1) := by decide +kernel
theorem dX6_payOut_16 : decode cX6_payOut 16 = .ok (.putfield 15, 3) := by decide +kernel
theorem dX6_payOut_19 : decode cX6_payOut 19 = .ok (.aload_n 0, 1) := by decide +kernel
theorem dX6_payOut_20 : decode cX6_payOut 20 = .ok (.dup, 1) := by decide +kernel
theorem dX6_payOut_21 : decode cX6_payOut 21 = .ok (.getfield 24, 3) := by decide +kernel
theorem dX6_payOut_24 : decode cX6_payOut 24 = .ok (.iload_n 2, 1) := by decide +kernel
theorem dX6_payOut_25 : decode cX6_payOut 25 = .ok (.iadd, 1) := by decide +kernel
theorem dX6_payOut_26 : decode cX6_payOut 26 = .ok (.putfield 24, 3) := by decide +kernel
theorem dX6_payOut_29 : decode cX6_payOut 29 = .ok (.aload_n 0, 1) := by decide +kernel
theorem dX6_payOut_30 : decode cX6_payOut 30 = .ok (.dup, 1) := by decide +kernel
theorem dX6_payOut_31 : decode cX6_payOut 31 = .ok (.getfield 27, 3) := by decide +kernel
theorem dX6_payOut_34 : decode cX6_payOut 34 = .ok (.iload_n 1, 1) := by decide +kernel
theorem dX6_payOut_35 : decode cX6_payOut 35 = .ok (.iload_n 2, 1) := by decide +kernel
theorem dX6_payOut_36 : decode cX6_payOut 36 = .ok (.isub, 1) := by decide +kernel
theorem dX6_payOut_37 : decode cX6_payOut 37 = .ok (.iadd, 1) := by decide +kernel
theorem dX6_payOut_38 : decode cX6_payOut 38 = .ok (.putfield 27, 3) := by decide +kernel
theorem dX6_payOut_41 : decode cX6_payOut 41 = .ok (.return_, 1) := by decide +kernel
theorem dJ9_min_7cf53_0 : decode cJ9_min_7cf53 0 = .ok (.iload_n 0, 1) := by decide +kernel
theorem dJ9_min_7cf53_1 : decode cJ9_min_7cf53 1 = .ok (.iload_n 1, 1) := by decide +kernel
theorem dJ9_min_7cf53_2 : decode cJ9_min_7cf53 2 = .ok (.if_icmp .gt 7, 3) := by decide +kernel
theorem dJ9_min_7cf53_5 : decode cJ9_min_7cf53 5 = .ok (.iload_n 0, 1) := by decide +kernel
theorem dJ9_min_7cf53_6 : decode cJ9_min_7cf53 6 = .ok (.goto 4, 3) := by decide +kernel
theorem dJ9_min_7cf53_9 : decode cJ9_min_7cf53 9 = .ok (.iload_n 1, 1) := by decide +kernel
theorem dJ9_min_7cf53_10 : decode cJ9_min_7cf53 10 = .ok (.ireturn, 1) := by decide +kernel
theorem dJ7_fill_d0a16_0 : decode cJ7_fill_d0a16 0 = .ok (.iconst 0, 1) := by decide +kernel
theorem dJ7_fill_d0a16_1 : decode cJ7_fill_d0a16 1 = .ok (.istore_n 3, 1) := by decide +kernel
theorem dJ7_fill_d0a16_2 : decode cJ7_fill_d0a16 2 = .ok (.aload_n 0, 1) := by decide +kernel
theorem dJ7_fill_d0a16_3 : decode cJ7_fill_d0a16 3 = .ok (.arraylength, 1) := by decide +kernel
theorem dJ7_fill_d0a16_4 : decode cJ7_fill_d0a16 4 = .ok (.istore 4, 2) := by decide +kernel
theorem dJ7_fill_d0a16_6 : decode cJ7_fill_d0a16 6 = .ok (.iload_n 3, 1) := by decide +kernel
theorem dJ7_fill_d0a16_7 : decode cJ7_fill_d0a16 7 = .ok (.iload 4, 2) := by decide +kernel
theorem dJ7_fill_d0a16_9 : decode cJ7_fill_d0a16 9 = .ok (.if_icmp .ge 13, 3) := by decide +kernel
theorem dJ7_fill_d0a16_12 : decode cJ7_fill_d0a16 12 = .ok (.aload_n 0, 1) := by decide +kernel
theorem dJ7_fill_d0a16_13 : decode cJ7_fill_d0a16 13 = .ok (.iload_n 3, 1) := by decide +kernel
theorem dJ7_fill_d0a16_14 : decode cJ7_fill_d0a16 14 = .ok (.lload_n 1, 1) := by decide +kernel
theorem dJ7_fill_d0a16_15 : decode cJ7_fill_d0a16 15 = .ok (.lastore, 1) := by decide +kernel
theorem dJ7_fill_d0a16_16 : decode cJ7_fill_d0a16 16 = .ok (.iinc 3 1, 3) := by decide +kernel
theorem dJ7_fill_d0a16_19 : decode cJ7_fill_d0a16 19 = .ok (.goto (-13), 3) := by decide +kernel
theorem dJ7_fill_d0a16_22 : decode cJ7_fill_d0a16 22 = .ok (.return_, 1) := by decide +kernel
theorem dJ7_fill_53178_0 : decode cJ7_fill_53178 0 = .ok (.iconst 0, 1) := by decide +kernel
theorem dJ7_fill_53178_1 : decode cJ7_fill_53178 1 = .ok (.istore_n 2, 1) := by decide +kernel
theorem dJ7_fill_53178_2 : decode cJ7_fill_53178 2 = .ok (.aload_n 0, 1) := by decide +kernel
theorem dJ7_fill_53178_3 : decode cJ7_fill_53178 3 = .ok (.arraylength, 1) := by decide +kernel
theorem dJ7_fill_53178_4 : decode cJ7_fill_53178 4 = .ok (.istore_n 3, 1) := by decide +kernel
theorem dJ7_fill_53178_5 : decode cJ7_fill_53178 5 = .ok (.iload_n 2, 1) := by decide +kernel
theorem dJ7_fill_53178_6 : decode cJ7_fill_53178 6 = .ok (.iload_n 3, 1) := by decide +kernel
theorem dJ7_fill_53178_7 : decode cJ7_fill_53178 7 = .ok (.if_icmp .ge 13, 3) := by decide +kernel
theorem dJ7_fill_53178_10 : decode cJ7_fill_53178 10 = .ok (.aload_n 0, 1) := by decide +kernel
theorem dJ7_fill_53178_11 : decode cJ7_fill_53178 11 = .ok (.iload_n 2, 1) := by decide +kernel
theorem dJ7_fill_53178_12 : decode cJ7_fill_53178 12 = .ok (.iload_n 1, 1) := by decide +kernel
theorem dJ7_fill_53178_13 : decode cJ7_fill_53178 13 = .ok (.iastore, 1) := by decide +kernel
theorem dJ7_fill_53178_14 : decode cJ7_fill_53178 14 = .ok (.iinc 2 1, 3) := by decide +kernel
theorem dJ7_fill_53178_17 : decode cJ7_fill_53178 17 = .ok (.goto (-12), 3) := by decide +kernel
theorem dJ7_fill_53178_20 : decode cJ7_fill_53178 20 = .ok (.return_, 1) := by decide +kernel
theorem dJ7_fill_7f8df_0 : decode cJ7_fill_7f8df 0 = .ok (.iconst 0, 1) := by decide +kernel
theorem dJ7_fill_7f8df_1 : decode cJ7_fill_7f8df 1 = .ok (.istore_n 3, 1) := by decide +kernel
theorem dJ7_fill_7f8df_2 : decode cJ7_fill_7f8df 2 = .ok (.aload_n 0, 1) := by decide +kernel
theorem dJ7_fill_7f8df_3 : decode cJ7_fill_7f8df 3 = .ok (.arraylength, 1) := by decide +kernel
theorem dJ7_fill_7f8df_4 : decode cJ7_fill_7f8df 4 = .ok (.istore 4, 2) := by decide +kernel
theorem dJ7_fill_7f8df_6 : decode cJ7_fill_7f8df 6 = .ok (.iload_n 3, 1) := by decide +kernel
theorem dJ7_fill_7f8df_7 : decode cJ7_fill_7f8df 7 = .ok (.iload 4, 2) := by decide +kernel
theorem dJ7_fill_7f8df_9 : decode cJ7_fill_7f8df 9 = .ok (.if_icmp .ge 13, 3) := by decide +kernel
theorem dJ7_fill_7f8df_12 : decode cJ7_fill_7f8df 12 = .ok (.aload_n 0, 1) := by decide +kernel
theorem dJ7_fill_7f8df_13 : decode cJ7_fill_7f8df 13 = .ok (.iload_n 3, 1) := by decide +kernel
theorem dJ7_fill_7f8df_14 : decode cJ7_fill_7f8df 14 = .ok (.dload_n 1, 1) := by decide +kernel
theorem dJ7_fill_7f8df_15 : decode cJ7_fill_7f8df 15 = .ok (.dastore, 1) := by decide +kernel
theorem dJ7_fill_7f8df_16 : decode cJ7_fill_7f8df 16 = .ok (.iinc 3 1, 3) := by decide +kernel
theorem dJ7_fill_7f8df_19 : decode cJ7_fill_7f8df 19 = .ok (.goto (-13), 3) := by decide +kernel
theorem dJ7_fill_7f8df_22 : decode cJ7_fill_7f8df 22 = .ok (.return_, 1) := by decide +kernel
