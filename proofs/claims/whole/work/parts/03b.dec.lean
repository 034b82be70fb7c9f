theorem dX7_init_0 : decode cX7_init 0 = .ok (.aload_n 0, 1) := by decide +kernel
theorem dX7_init_1 : decode cX7_init 1 = .ok (.invokespecial 1, 3) := by decide +kernel
theorem dX7_init_4 : decode cX7_init 4 = .ok (.aload_n 0, 1) := by decide +kernel
theorem dX7_init_5 : decode cX7_init 5 = .ok (.new 7, 3) := by decide +kernel
theorem dX7_init_8 : decode cX7_init 8 = .ok (.dup, 1) := by decide +kernel
theorem dX7_init_9 : decode cX7_init 9 = .ok (.invokespecial 9, 3) := by decide +kernel
theorem dX7_init_12 : decode cX7_init 12 = .ok (.putfield 10, 3) := by decide +kernel
theorem dX7_init_15 : decode cX7_init 15 = .ok (.aload_n 0, 1) := by decide +kernel
theorem dX7_init_16 : decode cX7_init 16 = .ok (.bipush 8, 2) := by decide +kernel
theorem dX7_init_18 : decode cX7_init 18 = .ok (.newarray .int, 2) := by decide +kernel
theorem dX7_init_20 : decode cX7_init 20 = .ok (.putfield 16, 3) := by decide +kernel
theorem dX7_init_23 : decode cX7_init 23 = .ok (.aload_n 0, 1) := by decide +kernel
theorem dX7_init_24 : decode cX7_init 24 = .ok (.new 20, 3) := by decide +kernel
theorem dX7_init_27 : decode cX7_init 27 = .ok (.dup, 1) := by decide +kernel
theorem dX7_init_28 : decode cX7_init 28 = .ok (.invokespecial 22, 3) := by decide +kernel
theorem dX7_init_31 : decode cX7_init 31 = .ok (.putfield 23, 3) := by decide +kernel
theorem dX7_init_34 : decode cX7_init 34 = .ok (.aload_n 0, 1) := by decide +kernel
theorem dX7_init_35 : decode cX7_init 35 = .ok (.new 27, 3) := by decide +kernel
theorem dX7_init_38 : decode cX7_init 38 = .ok (.dup, 1) := by decide +kernel
theorem dX7_init_39 : decode cX7_init 39 = .ok (.invokespecial 29, 3) := by decide +kernel
theorem dX7_init_42 : decode cX7_init 42 = .ok (.putfield 30, 3) := by decide +kernel
theorem dX7_init_45 : decode cX7_init 45 = .ok (.aload_n 0, 1) := by decide +kernel
theorem dX7_init_46 : decode cX7_init 46 = .ok (.new 34, 3) := by decide +kernel
theorem dX7_init_49 : decode cX7_init 49 = .ok (.dup, 1) := by decide +kernel
theorem dX7_init_50 : decode cX7_init 50 = .ok (.invokespecial 36, 3) := by decide +kernel
theorem dX7_init_53 : decode cX7_init 53 = .ok (.putfield 37, 3) := by decide +kernel
theorem dX7_init_56 : decode cX7_init 56 = .ok (.aload_n 0, 1) := by decide +kernel
theorem dX7_init_57 : decode cX7_init 57 = .ok (.new 41, 3) := by decide +kernel
theorem dX7_init_60 : decode cX7_init 60 = .ok (.dup, 1) := by decide +kernel
theorem dX7_init_61 : decode cX7_init 61 = .ok (.invokespecial 43, 3) := by decide +kernel
theorem dX7_init_64 : decode cX7_init 64 = .ok (.putfield 44, 3) := by decide +kernel
theorem dX7_init_67 : decode cX7_init 67 = .ok (.aload_n 0, 1) := by decide +kernel
theorem dX7_init_68 : decode cX7_init 68 = .ok (.new 48, 3) := by decide +kernel
theorem dX7_init_71 : decode cX7_init 71 = .ok (.dup, 1) := by decide +kernel
theorem dX7_init_72 : decode cX7_init 72 = .ok (.invokespecial 50, 3) := by decide +kernel
theorem dX7_init_75 : decode cX7_init 75 = .ok (.putfield 51, 3) := by decide +kernel
theorem dX7_init_78 : decode cX7_init 78 = .ok (.aload_n 0, 1) := by decide +kernel
theorem dX7_init_79 : decode cX7_init 79 = .ok (.new 55, 3) := by decide +kernel
theorem dX7_init_82 : decode cX7_init 82 = .ok (.dup, 1) := by decide +kernel
theorem dX7_init_83 : decode cX7_init 83 = .ok (.invokespecial 57, 3) := by decide +kernel
theorem dX7_init_86 : decode cX7_init 86 = .ok (.putfield 58, 3) := by decide +kernel
theorem dX7_init_89 : decode cX7_init 89 = .ok (.aload_n 0, 1) := by decide +kernel
theorem dX7_init_90 : decode cX7_init 90 = .ok (.bipush 8, 2) := by decide +kernel
theorem dX7_init_92 : decode cX7_init 92 = .ok (.newarray .long, 2) := by decide +kernel
theorem dX7_init_94 : decode cX7_init 94 = .ok (.putfield 62, 3) := by decide +kernel
theorem dX7_init_97 : decode cX7_init 97 = .ok (.aload_n 0, 1) := by decide +kernel
theorem dX7_init_98 : decode cX7_init 98 = .ok (.iconst 1, 1) := by decide +kernel
theorem dX7_init_99 : decode cX7_init 99 = .ok (.putfield 66, 3) := by decide +kernel
theorem dX7_init_102 : decode cX7_init 102 = .ok (.aload_n 0, 1) := by decide +kernel
theorem dX7_init_103 : decode cX7_init 103 = .ok (.iconst 0, 1) := by decide +kernel
theorem dX7_init_104 : decode cX7_init 104 = .ok (.putfield 70, 3) := by decide +kernel
theorem dX7_init_107 : decode cX7_init 107 = .ok (.aload_n 0, 1) := by decide +kernel
theorem dX7_init_108 : decode cX7_init 108 = .ok (.iconst 0, 1) := by decide +kernel
theorem dX7_init_109 : decode cX7_init 109 = .ok (.putfield 74, 3) := by decide +kernel
theorem dX7_init_112 : decode cX7_init 112 = .ok (.return_, 1) := by decide +kernel
theorem dX7_reel_0 : decode cX7_reel 0 = .ok (.iload_n 1, 1) := by decide +kernel
theorem dX7_reel_1 : decode cX7_reel 1 = .ok (.invokestatic 77, 3) := by decide +kernel
theorem dX7_reel_4 : decode cX7_reel 4 = .ok (.ifCond .eq 13, 3) := by decide +kernel
theorem dX7_reel_7 : decode cX7_reel 7 = .ok (.iload_n 2, 1) := by decide +kernel
theorem dX7_reel_8 : decode cX7_reel 8 = .ok (.iconst 4, 1) := by decide +kernel
theorem dX7_reel_9 : decode cX7_reel 9 = .ok (.bipush 20, 2) := by decide +kernel
theorem dX7_reel_11 : decode cX7_reel 11 = .ok (.invokestatic 81, 3) := by decide +kernel
theorem dX7_reel_14 : decode cX7_reel 14 = .ok (.ifCond .ne 6, 3) := by decide +kernel
theorem dX7_reel_17 : decode cX7_reel 17 = .ok (.bipush (-2), 2) := by decide +kernel
theorem dX7_reel_19 : decode cX7_reel 19 = .ok (.ireturn, 1) := by decide +kernel
theorem dX7_reel_20 : decode cX7_reel 20 = .ok (.aload_n 0, 1) := by decide +kernel
theorem dX7_reel_21 : decode cX7_reel 21 = .ok (.getfield 10, 3) := by decide +kernel
theorem dX7_reel_24 : decode cX7_reel 24 = .ok (.iload_n 1, 1) := by decide +kernel
theorem dX7_reel_25 : decode cX7_reel 25 = .ok (.iload_n 2, 1) := by decide +kernel
theorem dX7_reel_26 : decode cX7_reel 26 = .ok (.invokevirtual 85, 3) := by decide +kernel
theorem dX7_reel_29 : decode cX7_reel 29 = .ok (.aload_n 0, 1) := by decide +kernel
theorem dX7_reel_30 : decode cX7_reel 30 = .ok (.getfield 51, 3) := by decide +kernel
theorem dX7_reel_33 : decode cX7_reel 33 = .ok (.invokevirtual 89, 3) := by decide +kernel
theorem dX7_reel_36 : decode cX7_reel 36 = .ok (.aload_n 0, 1) := by decide +kernel
theorem dX7_reel_37 : decode cX7_reel 37 = .ok (.invokevirtual 92, 3) := by decide +kernel
theorem dX7_reel_40 : decode cX7_reel 40 = .ok (.iconst 1, 1) := by decide +kernel
theorem dX7_reel_41 : decode cX7_reel 41 = .ok (.ireturn, 1) := by decide +kernel
theorem dX7_picture_0 : decode cX7_picture 0 = .ok (.aload_n 0, 1) := by decide +kernel
theorem dX7_picture_1 : decode cX7_picture 1 = .ok (.getfield 10, 3) := by decide +kernel
theorem dX7_picture_4 : decode cX7_picture 4 = .ok (.iload_n 1, 1) := by decide +kernel
theorem dX7_picture_5 : decode cX7_picture 5 = .ok (.iload_n 2, 1) := by decide +kernel
theorem dX7_picture_6 : decode cX7_picture 6 = .ok (.invokevirtual 95, 3) := by decide +kernel
theorem dX7_picture_9 : decode cX7_picture 9 = .ok (.ifCond .eq 10, 3) := by decide +kernel
theorem dX7_picture_12 : decode cX7_picture 12 = .ok (.iload_n 3, 1) := by decide +kernel
theorem dX7_picture_13 : decode cX7_picture 13 = .ok (.invokestatic 99, 3) := by decide +kernel
theorem dX7_picture_16 : decode cX7_picture 16 = .ok (.ifCond .ne 6, 3) := by decide +kernel
theorem dX7_picture_19 : decode cX7_picture 19 = .ok (.bipush (-2), 2) := by decide +kernel
theorem dX7_picture_21 : decode cX7_picture 21 = .ok (.ireturn, 1) := by decide +kernel
theorem dX7_picture_22 : decode cX7_picture 22 = .ok (.aload_n 0, 1) := by decide +kernel
theorem dX7_picture_23 : decode cX7_picture 23 = .ok (.getfield 10, 3) := by decide +kernel
theorem dX7_picture_26 : decode cX7_picture 26 = .ok (.iload_n 1, 1) := by decide +kernel
theorem dX7_picture_27 : decode cX7_picture 27 = .ok (.iload_n 2, 1) := by decide +kernel
theorem dX7_picture_28 : decode cX7_picture 28 = .ok (.invokevirtual 102, 3) := by decide +kernel
theorem dX7_picture_31 : decode cX7_picture 31 = .ok (.istore 4, 2) := by decide +kernel
theorem dX7_picture_33 : decode cX7_picture 33 = .ok (.aload_n 0, 1) := by decide +kernel
theorem dX7_picture_34 : decode cX7_picture 34 = .ok (.getfield 10, 3) := by decide +kernel
theorem dX7_picture_37 : decode cX7_picture 37 = .ok (.iload_n 1, 1) := by decide +kernel
theorem dX7_picture_38 : decode cX7_picture 38 = .ok (.iload_n 2, 1) := by decide +kernel
theorem dX7_picture_39 : decode cX7_picture 39 = .ok (.iload_n 3, 1) := by decide +kernel
theorem dX7_picture_40 : decode cX7_picture 40 = .ok (.invokevirtual 106, 3) := by decide +kernel
theorem dX7_picture_43 : decode cX7_picture 43 = .ok (.aload_n 0, 1) := by decide +kernel
theorem dX7_picture_44 : decode cX7_picture 44 = .ok (.invokevirtual 92, 3) := by decide +kernel
theorem dX7_picture_47 : decode cX7_picture 47 = .ok (.iload 4, 2) := by decide +kernel
theorem dX7_picture_49 : decode cX7_picture 49 = .ok (.ireturn, 1) := by decide +kernel
theorem dX7_at_0 : decode cX7_at 0 = .ok (.aload_n 0, 1) := by decide +kernel
theorem dX7_at_1 : decode cX7_at 1 = .ok (.getfield 10, 3) := by decide +kernel
theorem dX7_at_4 : decode cX7_at 4 = .ok (.iload_n 1, 1) := by decide +kernel
theorem dX7_at_5 : decode cX7_at 5 = .ok (.iload_n 2, 1) := by decide +kernel
theorem dX7_at_6 : decode cX7_at 6 = .ok (.invokevirtual 95, 3) := by decide +kernel
theorem dX7_at_9 : decode cX7_at 9 = .ok (.ifCond .eq 15, 3) := by decide +kernel
theorem dX7_at_12 : decode cX7_at 12 = .ok (.aload_n 0, 1) := by decide +kernel
theorem dX7_at_13 : decode cX7_at 13 = .ok (.getfield 10, 3) := by decide +kernel
theorem dX7_at_16 : decode cX7_at 16 = .ok (.iload_n 1, 1) := by decide +kernel
theorem dX7_at_17 : decode cX7_at 17 = .ok (.iload_n 2, 1) := by decide +kernel
theorem dX7_at_18 : decode cX7_at 18 = .ok (.invokevirtual 102, 3) := by decide +kernel
theorem dX7_at_21 : decode cX7_at 21 = .ok (.goto 5, 3) := by decide +kernel
theorem dX7_at_24 : decode cX7_at 24 = .ok (.bipush (-2), 2) := by decide +kernel
theorem dX7_at_26 : decode cX7_at 26 = .ok (.ireturn, 1) := by decide +kernel
theorem dX7_count_0 : decode cX7_count 0 = .ok (.iload_n 1, 1) := by decide +kernel
theorem dX7_count_1 : decode cX7_count 1 = .ok (.invokestatic 99, 3) := by decide +kernel
theorem dX7_count_4 : decode cX7_count 4 = .ok (.ifCond .eq 13, 3) := by decide +kernel
theorem dX7_count_7 : decode cX7_count 7 = .ok (.iload_n 2, 1) := by decide +kernel
theorem dX7_count_8 : decode cX7_count 8 = .ok (.iconst 0, 1) := by decide +kernel
theorem dX7_count_9 : decode cX7_count 9 = .ok (.bipush 20, 2) := by decide +kernel
theorem dX7_count_11 : decode cX7_count 11 = .ok (.invokestatic 81, 3) := by decide +kernel
theorem dX7_count_14 : decode cX7_count 14 = .ok (.ifCond .ne 6, 3) := by decide +kernel
theorem dX7_count_17 : decode cX7_count 17 = .ok (.bipush (-2), 2) := by decide +kernel
theorem dX7_count_19 : decode cX7_count 19 = .ok (.ireturn, 1) := by decide +kernel
theorem dX7_count_20 : decode cX7_count 20 = .ok (.aload_n 0, 1) := by decide +kernel
theorem dX7_count_21 : decode cX7_count 21 = .ok (.getfield 16, 3) := by decide +kernel
theorem dX7_count_24 : decode cX7_count 24 = .ok (.iload_n 1, 1) := by decide +kernel
theorem dX7_count_25 : decode cX7_count 25 = .ok (.iaload, 1) := by decide +kernel
theorem dX7_count_26 : decode cX7_count 26 = .ok (.istore_n 3, 1) := by decide +kernel
theorem dX7_count_27 : decode cX7_count 27 = .ok (.aload_n 0, 1) := by decide +kernel
theorem dX7_count_28 : decode cX7_count 28 = .ok (.getfield 16, 3) := by decide +kernel
theorem dX7_count_31 : decode cX7_count 31 = .ok (.iload_n 1, 1) := by decide +kernel
theorem dX7_count_32 : decode cX7_count 32 = .ok (.iload_n 2, 1) := by decide +kernel
theorem dX7_count_33 : decode cX7_count 33 = .ok (.iastore, 1) := by decide +kernel
theorem dX7_count_34 : decode cX7_count 34 = .ok (.iload_n 3, 1) := by decide +kernel
theorem dX7_count_35 : decode cX7_count 35 = .ok (.ireturn, 1) := by decide +kernel
theorem dX7_lay_0 : decode cX7_lay 0 = .ok (.iload_n 1, 1) := by decide +kernel
theorem dX7_lay_1 : decode cX7_lay 1 = .ok (.invokestatic 77, 3) := by decide +kernel
theorem dX7_lay_4 : decode cX7_lay 4 = .ok (.ifCond .ne 6, 3) := by decide +kernel
theorem dX7_lay_7 : decode cX7_lay 7 = .ok (.bipush (-2), 2) := by decide +kernel
theorem dX7_lay_9 : decode cX7_lay 9 = .ok (.ireturn, 1) := by decide +kernel
theorem dX7_lay_10 : decode cX7_lay 10 = .ok (.iconst 0, 1) := by decide +kernel
theorem dX7_lay_11 : decode cX7_lay 11 = .ok (.istore_n 2, 1) := by decide +kernel
theorem dX7_lay_12 : decode cX7_lay 12 = .ok (.iconst 0, 1) := by decide +kernel
theorem dX7_lay_13 : decode cX7_lay 13 = .ok (.istore_n 3, 1) := by decide +kernel
theorem dX7_lay_14 : decode cX7_lay 14 = .ok (.iload_n 3, 1) := by decide +kernel
theorem dX7_lay_15 : decode cX7_lay 15 = .ok (.bipush 8, 2) := by decide +kernel
theorem dX7_lay_17 : decode cX7_lay 17 = .ok (.if_icmp .ge 18, 3) := by decide +kernel
theorem dX7_lay_20 : decode cX7_lay 20 = .ok (.iload_n 2, 1) := by decide +kernel
theorem dX7_lay_21 : decode cX7_lay 21 = .ok (.aload_n 0, 1) := by decide +kernel
theorem dX7_lay_22 : decode cX7_lay 22 = .ok (.getfield 16, 3) := by decide +kernel
theorem dX7_lay_25 : decode cX7_lay 25 = .ok (.iload_n 3, 1) := by decide +kernel
theorem dX7_lay_26 : decode cX7_lay 26 = .ok (.iaload, 1) := by decide +kernel
theorem dX7_lay_27 : decode cX7_lay 27 = .ok (.iadd, 1) := by decide +kernel
theorem dX7_lay_28 : decode cX7_lay 28 = .ok (.istore_n 2, 1) := by decide +kernel
theorem dX7_lay_29 : decode cX7_lay 29 = .ok (.iinc 3 1, 3) := by decide +kernel
theorem dX7_lay_32 : decode cX7_lay 32 = .ok (.goto (-18), 3) := by decide +kernel
theorem dX7_lay_35 : decode cX7_lay 35 = .ok (.iload_n 2, 1) := by decide +kernel
theorem dX7_lay_36 : decode cX7_lay 36 = .ok (.iconst 4, 1) := by decide +kernel
theorem dX7_lay_37 : decode cX7_lay 37 = .ok (.bipush 20, 2) := by decide +kernel
theorem dX7_lay_39 : decode cX7_lay 39 = .ok (.invokestatic 81, 3) := by decide +kernel
theorem dX7_lay_42 : decode cX7_lay 42 = .ok (.ifCond .ne 6, 3) := by decide +kernel
theorem dX7_lay_45 : decode cX7_lay 45 = .ok (.bipush (-3), 2) := by decide +kernel
theorem dX7_lay_47 : decode cX7_lay 47 = .ok (.ireturn, 1) := by decide +kernel
theorem dX7_lay_48 : decode cX7_lay 48 = .ok (.aload_n 0, 1) := by decide +kernel
theorem dX7_lay_49 : decode cX7_lay 49 = .ok (.getfield 10, 3) := by decide +kernel
theorem dX7_lay_52 : decode cX7_lay 52 = .ok (.iload_n 1, 1) := by decide +kernel
theorem dX7_lay_53 : decode cX7_lay 53 = .ok (.iload_n 2, 1) := by decide +kernel
theorem dX7_lay_54 : decode cX7_lay 54 = .ok (.aload_n 0, 1) := by decide +kernel
theorem dX7_lay_55 : decode cX7_lay 55 = .ok (.getfield 16, 3) := by decide +kernel
theorem dX7_lay_58 : decode cX7_lay 58 = .ok (.invokevirtual 110, 3) := by decide +kernel
theorem dX7_lay_61 : decode cX7_lay 61 = .ok (.aload_n 0, 1) := by decide +kernel
theorem dX7_lay_62 : decode cX7_lay 62 = .ok (.getfield 51, 3) := by decide +kernel
theorem dX7_lay_65 : decode cX7_lay 65 = .ok (.invokevirtual 89, 3) := by decide +kernel
theorem dX7_lay_68 : decode cX7_lay 68 = .ok (.aload_n 0, 1) := by decide +kernel
theorem dX7_lay_69 : decode cX7_lay 69 = .ok (.invokevirtual 92, 3) := by decide +kernel
theorem dX7_lay_72 : decode cX7_lay 72 = .ok (.iload_n 2, 1) := by decide +kernel
theorem dX7_lay_73 : decode cX7_lay 73 = .ok (.ireturn, 1) := by decide +kernel
theorem dX7_pay_0 : decode cX7_pay 0 = .ok (.iload_n 1, 1) := by decide +kernel
theorem dX7_pay_1 : decode cX7_pay 1 = .ok (.invokestatic 114, 3) := by decide +kernel
theorem dX7_pay_4 : decode cX7_pay 4 = .ok (.ifCond .eq 29, 3) := by decide +kernel
theorem dX7_pay_7 : decode cX7_pay 7 = .ok (.iload_n 2, 1) := by decide +kernel
theorem dX7_pay_8 : decode cX7_pay 8 = .ok (.invokestatic 114, 3) := by decide +kernel
theorem dX7_pay_11 : decode cX7_pay 11 = .ok (.ifCond .eq 22, 3) := by decide +kernel
theorem dX7_pay_14 : decode cX7_pay 14 = .ok (.iload_n 3, 1) := by decide +kernel
theorem dX7_pay_15 : decode cX7_pay 15 = .ok (.invokestatic 114, 3) := by decide +kernel
theorem dX7_pay_18 : decode cX7_pay 18 = .ok (.ifCond .eq 15, 3) := by decide +kernel
theorem dX7_pay_21 : decode cX7_pay 21 = .ok (.iload 4, 2) := by decide +kernel
theorem dX7_pay_23 : decode cX7_pay 23 = .ok (.iconst 0, 1) := by decide +kernel
theorem dX7_pay_24 : decode cX7_pay 24 = .ok (.sipush 10000, 3) := by decide +kernel
theorem dX7_pay_27 : decode cX7_pay 27 = .ok (.invokestatic 81, 3) := by decide +kernel
theorem dX7_pay_30 : decode cX7_pay 30 = .ok (.ifCond .ne 6, 3) := by decide +kernel
theorem dX7_pay_33 : decode cX7_pay 33 = .ok (.bipush (-2), 2) := by decide +kernel
theorem dX7_pay_35 : decode cX7_pay 35 = .ok (.ireturn, 1) := by decide +kernel
theorem dX7_pay_36 : decode cX7_pay 36 = .ok (.aload_n 0, 1) := by decide +kernel
theorem dX7_pay_37 : decode cX7_pay 37 = .ok (.getfield 23, 3) := by decide +kernel
theorem dX7_pay_40 : decode cX7_pay 40 = .ok (.getfield 117, 3) := by decide +kernel
theorem dX7_pay_43 : decode cX7_pay 43 = .ok (.bipush 12, 2) := by decide +kernel
theorem dX7_pay_45 : decode cX7_pay 45 = .ok (.if_icmp .lt 6, 3) := by decide +kernel
theorem dX7_pay_48 : decode cX7_pay 48 = .ok (.bipush (-4), 2) := by decide +kernel
theorem dX7_pay_50 : decode cX7_pay 50 = .ok (.ireturn, 1) := by decide +kernel
theorem dX7_pay_51 : decode cX7_pay 51 = .ok (.aload_n 0, 1) := by decide +kernel
theorem dX7_pay_52 : decode cX7_pay 52 = .ok (.invokevirtual 92, 3) := by decide +kernel
theorem dX7_pay_55 : decode cX7_pay 55 = .ok (.aload_n 0, 1) := by decide +kernel
theorem dX7_pay_56 : decode cX7_pay 56 = .ok (.getfield 23, 3) := by decide +kernel
theorem dX7_pay_59 : decode cX7_pay 59 = .ok (.iload_n 1, 1) := by decide +kernel
theorem dX7_pay_60 : decode cX7_pay 60 = .ok (.iload_n 2, 1) := by decide +kernel
theorem dX7_pay_61 : decode cX7_pay 61 = .ok (.iload_n 3, 1) := by decide +kernel
theorem dX7_pay_62 : decode cX7_pay 62 = .ok (.iload 4, 2) := by decide +kernel
theorem dX7_pay_64 : decode cX7_pay 64 = .ok (.invokevirtual 120, 3) := by decide +kernel
theorem dX7_pay_67 : decode cX7_pay 67 = .ok (.ireturn, 1) := by decide +kernel
theorem dX7_clear_0 : decode cX7_clear 0 = .ok (.aload_n 0, 1) := by decide +kernel
theorem dX7_clear_1 : decode cX7_clear 1 = .ok (.invokevirtual 92, 3) := by decide +kernel
theorem dX7_clear_4 : decode cX7_clear 4 = .ok (.aload_n 0, 1) := by decide +kernel
theorem dX7_clear_5 : decode cX7_clear 5 = .ok (.getfield 23, 3) := by decide +kernel
theorem dX7_clear_8 : decode cX7_clear 8 = .ok (.invokevirtual 124, 3) := by decide +kernel
theorem dX7_clear_11 : decode cX7_clear 11 = .ok (.ireturn, 1) := by decide +kernel
theorem dX7_lines_0 : decode cX7_lines 0 = .ok (.iload_n 1, 1) := by decide +kernel
theorem dX7_lines_1 : decode cX7_lines 1 = .ok (.iconst 1, 1) := by decide +kernel
theorem dX7_lines_2 : decode cX7_lines 2 = .ok (.iconst 3, 1) := by decide +kernel
theorem dX7_lines_3 : decode cX7_lines 3 = .ok (.invokestatic 81, 3) := by decide +kernel
theorem dX7_lines_6 : decode cX7_lines 6 = .ok (.ifCond .ne 6, 3) := by decide +kernel
theorem dX7_lines_9 : decode cX7_lines 9 = .ok (.bipush (-2), 2) := by decide +kernel
theorem dX7_lines_11 : decode cX7_lines 11 = .ok (.ireturn, 1) := by decide +kernel
theorem dX7_lines_12 : decode cX7_lines 12 = .ok (.aload_n 0, 1) := by decide +kernel
theorem dX7_lines_13 : decode cX7_lines 13 = .ok (.getfield 66, 3) := by decide +kernel
theorem dX7_lines_16 : decode cX7_lines 16 = .ok (.istore_n 2, 1) := by decide +kernel
theorem dX7_lines_17 : decode cX7_lines 17 = .ok (.aload_n 0, 1) := by decide +kernel
theorem dX7_lines_18 : decode cX7_lines 18 = .ok (.iload_n 1, 1) := by decide +kernel
theorem dX7_lines_19 : decode cX7_lines 19 = .ok (.putfield 66, 3) := by decide +kernel
theorem dX7_lines_22 : decode cX7_lines 22 = .ok (.aload_n 0, 1) := by decide +kernel
theorem dX7_lines_23 : decode cX7_lines 23 = .ok (.invokevirtual 92, 3) := by decide +kernel
theorem dX7_lines_26 : decode cX7_lines 26 = .ok (.iload_n 2, 1) := by decide +kernel
theorem dX7_lines_27 : decode cX7_lines 27 = .ok (.ireturn, 1) := by decide +kernel
theorem dX7_ending_0 : decode cX7_ending 0 = .ok (.aload_n 0, 1) := by decide +kernel
theorem dX7_ending_1 : decode cX7_ending 1 = .ok (.getfield 10, 3) := by decide +kernel
theorem dX7_ending_4 : decode cX7_ending 4 = .ok (.iload_n 1, 1) := by decide +kernel
theorem dX7_ending_5 : decode cX7_ending 5 = .ok (.iload_n 2, 1) := by decide +kernel
theorem dX7_ending_6 : decode cX7_ending 6 = .ok (.iload_n 3, 1) := by decide +kernel
theorem dX7_ending_7 : decode cX7_ending 7 = .ok (.invokevirtual 128, 3) := by decide +kernel
theorem dX7_ending_10 : decode cX7_ending 10 = .ok (.ifCond .eq 13, 3) := by decide +kernel
theorem dX7_ending_13 : decode cX7_ending 13 = .ok (.aload_n 0, 1) := by decide +kernel
theorem dX7_ending_14 : decode cX7_ending 14 = .ok (.iload_n 1, 1) := by decide +kernel
theorem dX7_ending_15 : decode cX7_ending 15 = .ok (.iload_n 2, 1) := by decide +kernel
theorem dX7_ending_16 : decode cX7_ending 16 = .ok (.iload_n 3, 1) := by decide +kernel
theorem dX7_ending_17 : decode cX7_ending 17 = .ok (.invokevirtual 131, 3) := by decide +kernel
theorem dX7_ending_20 : decode cX7_ending 20 = .ok (.goto 5, 3) := by decide +kernel
theorem dX7_ending_23 : decode cX7_ending 23 = .ok (.bipush (-2), 2) := by decide +kernel
theorem dX7_ending_25 : decode cX7_ending 25 = .ok (.ireturn, 1) := by decide +kernel
theorem dX7_all_0 : decode cX7_all 0 = .ok (.iload_n 1, 1) := by decide +kernel
theorem dX7_all_1 : decode cX7_all 1 = .ok (.iconst 0, 1) := by decide +kernel
theorem dX7_all_2 : decode cX7_all 2 = .ok (.iconst 4, 1) := by decide +kernel
theorem dX7_all_3 : decode cX7_all 3 = .ok (.invokestatic 81, 3) := by decide +kernel
theorem dX7_all_6 : decode cX7_all 6 = .ok (.ifCond .ne 7, 3) := by decide +kernel
theorem dX7_all_9 : decode cX7_all 9 = .ok (.ldc2_w 135, 3) := by decide +kernel
theorem dX7_all_12 : decode cX7_all 12 = .ok (.lreturn, 1) := by decide +kernel
theorem dX7_all_13 : decode cX7_all 13 = .ok (.iload_n 1, 1) := by decide +kernel
theorem dX7_all_14 : decode cX7_all 14 = .ok (.iconst 4, 1) := by decide +kernel
theorem dX7_all_15 : decode cX7_all 15 = .ok (.if_icmp .ne 10, 3) := by decide +kernel
theorem dX7_all_18 : decode cX7_all 18 = .ok (.aload_n 0, 1) := by decide +kernel
theorem dX7_all_19 : decode cX7_all 19 = .ok (.invokevirtual 137, 3) := by decide +kernel
theorem dX7_all_22 : decode cX7_all 22 = .ok (.goto 8, 3) := by decide +kernel
theorem dX7_all_25 : decode cX7_all 25 = .ok (.aload_n 0, 1) := by decide +kernel
theorem dX7_all_26 : decode cX7_all 26 = .ok (.iload_n 1, 1) := by decide +kernel
theorem dX7_all_27 : decode cX7_all 27 = .ok (.invokevirtual 141, 3) := by decide +kernel
theorem dX7_all_30 : decode cX7_all 30 = .ok (.lreturn, 1) := by decide +kernel
theorem dX7_rows_0 : decode cX7_rows 0 = .ok (.iload_n 1, 1) := by decide +kernel
theorem dX7_rows_1 : decode cX7_rows 1 = .ok (.iconst 0, 1) := by decide +kernel
theorem dX7_rows_2 : decode cX7_rows 2 = .ok (.aload_n 0, 1) := by decide +kernel
theorem dX7_rows_3 : decode cX7_rows 3 = .ok (.getfield 23, 3) := by decide +kernel
theorem dX7_rows_6 : decode cX7_rows 6 = .ok (.getfield 117, 3) := by decide +kernel
theorem dX7_rows_9 : decode cX7_rows 9 = .ok (.iconst 1, 1) := by decide +kernel
theorem dX7_rows_10 : decode cX7_rows 10 = .ok (.isub, 1) := by decide +kernel
theorem dX7_rows_11 : decode cX7_rows 11 = .ok (.invokestatic 81, 3) := by decide +kernel
theorem dX7_rows_14 : decode cX7_rows 14 = .ok (.ifCond .ne 6, 3) := by decide +kernel
theorem dX7_rows_17 : decode cX7_rows 17 = .ok (.bipush (-2), 2) := by decide +kernel
theorem dX7_rows_19 : decode cX7_rows 19 = .ok (.ireturn, 1) := by decide +kernel
theorem dX7_rows_20 : decode cX7_rows 20 = .ok (.iconst 0, 1) := by decide +kernel
theorem dX7_rows_21 : decode cX7_rows 21 = .ok (.istore_n 2, 1) := by decide +kernel
theorem dX7_rows_22 : decode cX7_rows 22 = .ok (.iconst 0, 1) := by decide +kernel
theorem dX7_rows_23 : decode cX7_rows 23 = .ok (.istore_n 3, 1) := by decide +kernel
theorem dX7_rows_24 : decode cX7_rows 24 = .ok (.iload_n 3, 1) := by decide +kernel
theorem dX7_rows_25 : decode cX7_rows 25 = .ok (.aload_n 0, 1) := by decide +kernel
theorem dX7_rows_26 : decode cX7_rows 26 = .ok (.getfield 10, 3) := by decide +kernel
theorem dX7_rows_29 : decode cX7_rows 29 = .ok (.iconst 0, 1) := by decide +kernel
theorem dX7_rows_30 : decode cX7_rows 30 = .ok (.invokevirtual 145, 3) := by decide +kernel
theorem dX7_rows_33 : decode cX7_rows 33 = .ok (.if_icmp .ge 76, 3) := by decide +kernel
theorem dX7_rows_36 : decode cX7_rows 36 = .ok (.iconst 0, 1) := by decide +kernel
theorem dX7_rows_37 : decode cX7_rows 37 = .ok (.istore 4, 2) := by decide +kernel
theorem dX7_rows_39 : decode cX7_rows 39 = .ok (.iload 4, 2) := by decide +kernel
theorem dX7_rows_41 : decode cX7_rows 41 = .ok (.aload_n 0, 1) := by decide +kernel
theorem dX7_rows_42 : decode cX7_rows 42 = .ok (.getfield 10, 3) := by decide +kernel
theorem dX7_rows_45 : decode cX7_rows 45 = .ok (.iconst 1, 1) := by decide +kernel
theorem dX7_rows_46 : decode cX7_rows 46 = .ok (.invokevirtual 145, 3) := by decide +kernel
theorem dX7_rows_49 : decode cX7_rows 49 = .ok (.if_icmp .ge 54, 3) := by decide +kernel
theorem dX7_rows_52 : decode cX7_rows 52 = .ok (.iconst 0, 1) := by decide +kernel
theorem dX7_rows_53 : decode cX7_rows 53 = .ok (.istore 5, 2) := by decide +kernel
theorem dX7_rows_55 : decode cX7_rows 55 = .ok (.iload 5, 2) := by decide +kernel
theorem dX7_rows_57 : decode cX7_rows 57 = .ok (.aload_n 0, 1) := by decide +kernel
theorem dX7_rows_58 : decode cX7_rows 58 = .ok (.getfield 10, 3) := by decide +kernel
theorem dX7_rows_61 : decode cX7_rows 61 = .ok (.iconst 2, 1) := by decide +kernel
theorem dX7_rows_62 : decode cX7_rows 62 = .ok (.invokevirtual 145, 3) := by decide +kernel
theorem dX7_rows_65 : decode cX7_rows 65 = .ok (.if_icmp .ge 32, 3) := by decide +kernel
theorem dX7_rows_68 : decode cX7_rows 68 = .ok (.aload_n 0, 1) := by decide +kernel
theorem dX7_rows_69 : decode cX7_rows 69 = .ok (.getfield 23, 3) := by decide +kernel
theorem dX7_rows_72 : decode cX7_rows 72 = .ok (.aload_n 0, 1) := by decide +kernel
theorem dX7_rows_73 : decode cX7_rows 73 = .ok (.iload_n 3, 1) := by decide +kernel
theorem dX7_rows_74 : decode cX7_rows 74 = .ok (.iload 4, 2) := by decide +kernel
theorem dX7_rows_76 : decode cX7_rows 76 = .ok (.iload 5, 2) := by decide +kernel
theorem dX7_rows_78 : decode cX7_rows 78 = .ok (.invokevirtual 149, 3) := by decide +kernel
theorem dX7_rows_81 : decode cX7_rows 81 = .ok (.invokevirtual 152, 3) := by decide +kernel
theorem dX7_rows_84 : decode cX7_rows 84 = .ok (.iload_n 1, 1) := by decide +kernel
theorem dX7_rows_85 : decode cX7_rows 85 = .ok (.if_icmp .ne 6, 3) := by decide +kernel
theorem dX7_rows_88 : decode cX7_rows 88 = .ok (.iinc 2 1, 3) := by decide +kernel
theorem dX7_rows_91 : decode cX7_rows 91 = .ok (.iinc 5 1, 3) := by decide +kernel
theorem dX7_rows_94 : decode cX7_rows 94 = .ok (.goto (-39), 3) := by decide +kernel
theorem dX7_rows_97 : decode cX7_rows 97 = .ok (.iinc 4 1, 3) := by decide +kernel
theorem dX7_rows_100 : decode cX7_rows 100 = .ok (.goto (-61), 3) := by decide +kernel
theorem dX7_rows_103 : decode cX7_rows 103 = .ok (.iinc 3 1, 3) := by decide +kernel
theorem dX7_rows_106 : decode cX7_rows 106 = .ok (.goto (-82), 3) := by decide +kernel
theorem dX7_rows_109 : decode cX7_rows 109 = .ok (.iload_n 2, 1) := by decide +kernel
theorem dX7_rows_110 : decode cX7_rows 110 = .ok (.ireturn, 1) := by decide +kernel
theorem dX7_misses_0 : decode cX7_misses 0 = .ok (.iload_n 1, 1) := by decide +kernel
theorem dX7_misses_1 : decode cX7_misses 1 = .ok (.invokestatic 99, 3) := by decide +kernel
theorem dX7_misses_4 : decode cX7_misses 4 = .ok (.ifCond .ne 6, 3) := by decide +kernel
theorem dX7_misses_7 : decode cX7_misses 7 = .ok (.bipush (-2), 2) := by decide +kernel
theorem dX7_misses_9 : decode cX7_misses 9 = .ok (.ireturn, 1) := by decide +kernel
theorem dX7_misses_10 : decode cX7_misses 10 = .ok (.aload_n 0, 1) := by decide +kernel
theorem dX7_misses_11 : decode cX7_misses 11 = .ok (.getfield 10, 3) := by decide +kernel
theorem dX7_misses_14 : decode cX7_misses 14 = .ok (.iconst 0, 1) := by decide +kernel
theorem dX7_misses_15 : decode cX7_misses 15 = .ok (.iload_n 1, 1) := by decide +kernel
theorem dX7_misses_16 : decode cX7_misses 16 = .ok (.invokevirtual 155, 3) := by decide +kernel
theorem dX7_misses_19 : decode cX7_misses 19 = .ok (.istore_n 2, 1) := by decide +kernel
theorem dX7_misses_20 : decode cX7_misses 20 = .ok (.aload_n 0, 1) := by decide +kernel
theorem dX7_misses_21 : decode cX7_misses 21 = .ok (.getfield 10, 3) := by decide +kernel
theorem dX7_misses_24 : decode cX7_misses 24 = .ok (.iconst 1, 1) := by decide +kernel
theorem dX7_misses_25 : decode cX7_misses 25 = .ok (.iload_n 1, 1) := by decide +kernel
theorem dX7_misses_26 : decode cX7_misses 26 = .ok (.invokevirtual 155, 3) := by decide +kernel
theorem dX7_misses_29 : decode cX7_misses 29 = .ok (.istore_n 3, 1) := by decide +kernel
theorem dX7_misses_30 : decode cX7_misses 30 = .ok (.aload_n 0, 1) := by decide +kernel
theorem dX7_misses_31 : decode cX7_misses 31 = .ok (.getfield 10, 3) := by decide +kernel
theorem dX7_misses_34 : decode cX7_misses 34 = .ok (.iconst 2, 1) := by decide +kernel
theorem dX7_misses_35 : decode cX7_misses 35 = .ok (.iload_n 1, 1) := by decide +kernel
theorem dX7_misses_36 : decode cX7_misses 36 = .ok (.invokevirtual 155, 3) := by decide +kernel
theorem dX7_misses_39 : decode cX7_misses 39 = .ok (.istore 4, 2) := by decide +kernel
theorem dX7_misses_41 : decode cX7_misses 41 = .ok (.aload_n 0, 1) := by decide +kernel
theorem dX7_misses_42 : decode cX7_misses 42 = .ok (.getfield 10, 3) := by decide +kernel
theorem dX7_misses_45 : decode cX7_misses 45 = .ok (.iconst 0, 1) := by decide +kernel
theorem dX7_misses_46 : decode cX7_misses 46 = .ok (.iload_n 1, 1) := by decide +kernel
theorem dX7_misses_47 : decode cX7_misses 47 = .ok (.invokevirtual 158, 3) := by decide +kernel
theorem dX7_misses_50 : decode cX7_misses 50 = .ok (.iload_n 3, 1) := by decide +kernel
theorem dX7_misses_51 : decode cX7_misses 51 = .ok (.imul, 1) := by decide +kernel
theorem dX7_misses_52 : decode cX7_misses 52 = .ok (.iload 4, 2) := by decide +kernel
theorem dX7_misses_54 : decode cX7_misses 54 = .ok (.imul, 1) := by decide +kernel
theorem dX7_misses_55 : decode cX7_misses 55 = .ok (.aload_n 0, 1) := by decide +kernel
theorem dX7_misses_56 : decode cX7_misses 56 = .ok (.getfield 10, 3) := by decide +kernel
theorem dX7_misses_59 : decode cX7_misses 59 = .ok (.iconst 1, 1) := by decide +kernel
theorem dX7_misses_60 : decode cX7_misses 60 = .ok (.iload_n 1, 1) := by decide +kernel
theorem dX7_misses_61 : decode cX7_misses 61 = .ok (.invokevirtual 158, 3) := by decide +kernel
theorem dX7_misses_64 : decode cX7_misses 64 = .ok (.iload_n 2, 1) := by decide +kernel
theorem dX7_misses_65 : decode cX7_misses 65 = .ok (.imul, 1) := by decide +kernel
theorem dX7_misses_66 : decode cX7_misses 66 = .ok (.iload 4, 2) := by decide +kernel
theorem dX7_misses_68 : decode cX7_misses 68 = .ok (.imul, 1) := by decide +kernel
theorem dX7_misses_69 : decode cX7_misses 69 = .ok (.iadd, 1) := by decide +kernel
theorem dX7_misses_70 : decode cX7_misses 70 = .ok (.aload_n 0, 1) := by decide +kernel
theorem dX7_misses_71 : decode cX7_misses 71 = .ok (.getfield 10, 3) := by decide +kernel
theorem dX7_misses_74 : decode cX7_misses 74 = .ok (.iconst 2, 1) := by decide +kernel
theorem dX7_misses_75 : decode cX7_misses 75 = .ok (.iload_n 1, 1) := by decide +kernel
theorem dX7_misses_76 : decode cX7_misses 76 = .ok (.invokevirtual 158, 3) := by decide +kernel
theorem dX7_misses_79 : decode cX7_misses 79 = .ok (.iload_n 2, 1) := by decide +kernel
theorem dX7_misses_80 : decode cX7_misses 80 = .ok (.imul, 1) := by decide +kernel
theorem dX7_misses_81 : decode cX7_misses 81 = .ok (.iload_n 3, 1) := by decide +kernel
theorem dX7_misses_82 : decode cX7_misses 82 = .ok (.imul, 1) := by decide +kernel
theorem dX7_misses_83 : decode cX7_misses 83 = .ok (.iadd, 1) := by decide +kernel
theorem dX7_misses_84 : decode cX7_misses 84 = .ok (.ireturn, 1) := by decide +kernel
theorem dX7_worth_0 : decode cX7_worth 0 = .ok (.aload_n 0, 1) := by decide +kernel
theorem dX7_worth_1 : decode cX7_worth 1 = .ok (.getfield 10, 3) := by decide +kernel
theorem dX7_worth_4 : decode cX7_worth 4 = .ok (.iload_n 1, 1) := by decide +kernel
theorem dX7_worth_5 : decode cX7_worth 5 = .ok (.iload_n 2, 1) := by decide +kernel
theorem dX7_worth_6 : decode cX7_worth 6 = .ok (.iload_n 3, 1) := by decide +kernel
theorem dX7_worth_7 : decode cX7_worth 7 = .ok (.invokevirtual 128, 3) := by decide +kernel
theorem dX7_worth_10 : decode cX7_worth 10 = .ok (.ifCond .eq 14, 3) := by decide +kernel
theorem dX7_worth_13 : decode cX7_worth 13 = .ok (.iload 4, 2) := by decide +kernel
theorem dX7_worth_15 : decode cX7_worth 15 = .ok (.iconst 0, 1) := by decide +kernel
theorem dX7_worth_16 : decode cX7_worth 16 = .ok (.bipush 7, 2) := by decide +kernel
theorem dX7_worth_18 : decode cX7_worth 18 = .ok (.invokestatic 81, 3) := by decide +kernel
theorem dX7_worth_21 : decode cX7_worth 21 = .ok (.ifCond .ne 7, 3) := by decide +kernel
theorem dX7_worth_24 : decode cX7_worth 24 = .ok (.ldc2_w 135, 3) := by decide +kernel
theorem dX7_worth_27 : decode cX7_worth 27 = .ok (.lreturn, 1) := by decide +kernel
theorem dX7_worth_28 : decode cX7_worth 28 = .ok (.aload_n 0, 1) := by decide +kernel
theorem dX7_worth_29 : decode cX7_worth 29 = .ok (.invokevirtual 161, 3) := by decide +kernel
theorem dX7_worth_32 : decode cX7_worth 32 = .ok (.aload_n 0, 1) := by decide +kernel
theorem dX7_worth_33 : decode cX7_worth 33 = .ok (.iload_n 1, 1) := by decide +kernel
theorem dX7_worth_34 : decode cX7_worth 34 = .ok (.iload_n 2, 1) := by decide +kernel
theorem dX7_worth_35 : decode cX7_worth 35 = .ok (.iload_n 3, 1) := by decide +kernel
theorem dX7_worth_36 : decode cX7_worth 36 = .ok (.iload 4, 2) := by decide +kernel
theorem dX7_worth_38 : decode cX7_worth 38 = .ok (.invokevirtual 164, 3) := by decide +kernel
theorem dX7_worth_41 : decode cX7_worth 41 = .ok (.lreturn, 1) := by decide +kernel
theorem dX7_hold_0 : decode cX7_hold 0 = .ok (.aload_n 0, 1) := by decide +kernel
theorem dX7_hold_1 : decode cX7_hold 1 = .ok (.getfield 10, 3) := by decide +kernel
theorem dX7_hold_4 : decode cX7_hold 4 = .ok (.iload_n 1, 1) := by decide +kernel
theorem dX7_hold_5 : decode cX7_hold 5 = .ok (.iload_n 2, 1) := by decide +kernel
theorem dX7_hold_6 : decode cX7_hold 6 = .ok (.iload_n 3, 1) := by decide +kernel
theorem dX7_hold_7 : decode cX7_hold 7 = .ok (.invokevirtual 128, 3) := by decide +kernel
theorem dX7_hold_10 : decode cX7_hold 10 = .ok (.ifCond .ne 6, 3) := by decide +kernel
theorem dX7_hold_13 : decode cX7_hold 13 = .ok (.bipush (-2), 2) := by decide +kernel
theorem dX7_hold_15 : decode cX7_hold 15 = .ok (.ireturn, 1) := by decide +kernel
theorem dX7_hold_16 : decode cX7_hold 16 = .ok (.aload_n 0, 1) := by decide +kernel
theorem dX7_hold_17 : decode cX7_hold 17 = .ok (.invokevirtual 161, 3) := by decide +kernel
theorem dX7_hold_20 : decode cX7_hold 20 = .ok (.aload_n 0, 1) := by decide +kernel
theorem dX7_hold_21 : decode cX7_hold 21 = .ok (.iload_n 1, 1) := by decide +kernel
theorem dX7_hold_22 : decode cX7_hold 22 = .ok (.iload_n 2, 1) := by decide +kernel
theorem dX7_hold_23 : decode cX7_hold 23 = .ok (.iload_n 3, 1) := by decide +kernel
theorem dX7_hold_24 : decode cX7_hold 24 = .ok (.invokevirtual 168, 3) := by decide +kernel
theorem dX7_hold_27 : decode cX7_hold 27 = .ok (.ireturn, 1) := by decide +kernel
theorem dX7_nudge_0 : decode cX7_nudge 0 = .ok (.aload_n 0, 1) := by decide +kernel
theorem dX7_nudge_1 : decode cX7_nudge 1 = .ok (.getfield 10, 3) := by decide +kernel
theorem dX7_nudge_4 : decode cX7_nudge 4 = .ok (.iload_n 1, 1) := by decide +kernel
theorem dX7_nudge_5 : decode cX7_nudge 5 = .ok (.iload_n 2, 1) := by decide +kernel
theorem dX7_nudge_6 : decode cX7_nudge 6 = .ok (.iload_n 3, 1) := by decide +kernel
theorem dX7_nudge_7 : decode cX7_nudge 7 = .ok (.invokevirtual 128, 3) := by decide +kernel
theorem dX7_nudge_10 : decode cX7_nudge 10 = .ok (.ifCond .eq 24, 3) := by decide +kernel
theorem dX7_nudge_13 : decode cX7_nudge 13 = .ok (.iload 4, 2) := by decide +kernel
theorem dX7_nudge_15 : decode cX7_nudge 15 = .ok (.iconst 0, 1) := by decide +kernel
theorem dX7_nudge_16 : decode cX7_nudge 16 = .ok (.bipush 6, 2) := by decide +kernel
theorem dX7_nudge_18 : decode cX7_nudge 18 = .ok (.invokestatic 81, 3) := by decide +kernel
theorem dX7_nudge_21 : decode cX7_nudge 21 = .ok (.ifCond .eq 13, 3) := by decide +kernel
theorem dX7_nudge_24 : decode cX7_nudge 24 = .ok (.iload 5, 2) := by decide +kernel
theorem dX7_nudge_26 : decode cX7_nudge 26 = .ok (.iconst 0, 1) := by decide +kernel
theorem dX7_nudge_27 : decode cX7_nudge 27 = .ok (.iconst 1, 1) := by decide +kernel
theorem dX7_nudge_28 : decode cX7_nudge 28 = .ok (.invokestatic 81, 3) := by decide +kernel
theorem dX7_nudge_31 : decode cX7_nudge 31 = .ok (.ifCond .ne 6, 3) := by decide +kernel
theorem dX7_nudge_34 : decode cX7_nudge 34 = .ok (.bipush (-2), 2) := by decide +kernel
theorem dX7_nudge_36 : decode cX7_nudge 36 = .ok (.ireturn, 1) := by decide +kernel
theorem dX7_nudge_37 : decode cX7_nudge 37 = .ok (.iconst (-1), 1) := by decide +kernel
theorem dX7_nudge_38 : decode cX7_nudge 38 = .ok (.istore 6, 2) := by decide +kernel
theorem dX7_nudge_40 : decode cX7_nudge 40 = .ok (.iconst 0, 1) := by decide +kernel
theorem dX7_nudge_41 : decode cX7_nudge 41 = .ok (.istore 7, 2) := by decide +kernel
theorem dX7_nudge_43 : decode cX7_nudge 43 = .ok (.iconst 0, 1) := by decide +kernel
theorem dX7_nudge_44 : decode cX7_nudge 44 = .ok (.istore 8, 2) := by decide +kernel
theorem dX7_nudge_46 : decode cX7_nudge 46 = .ok (.iload_n 1, 1) := by decide +kernel
theorem dX7_nudge_47 : decode cX7_nudge 47 = .ok (.istore 9, 2) := by decide +kernel
theorem dX7_nudge_49 : decode cX7_nudge 49 = .ok (.iconst 0, 1) := by decide +kernel
theorem dX7_nudge_50 : decode cX7_nudge 50 = .ok (.istore 10, 2) := by decide +kernel
theorem dX7_nudge_52 : decode cX7_nudge 52 = .ok (.iload 10, 2) := by decide +kernel
theorem dX7_nudge_54 : decode cX7_nudge 54 = .ok (.iload 4, 2) := by decide +kernel
theorem dX7_nudge_56 : decode cX7_nudge 56 = .ok (.if_icmp .gt 159, 3) := by decide +kernel
theorem dX7_nudge_59 : decode cX7_nudge 59 = .ok (.iload_n 2, 1) := by decide +kernel
theorem dX7_nudge_60 : decode cX7_nudge 60 = .ok (.istore 11, 2) := by decide +kernel
theorem dX7_nudge_62 : decode cX7_nudge 62 = .ok (.iconst 0, 1) := by decide +kernel
theorem dX7_nudge_63 : decode cX7_nudge 63 = .ok (.istore 12, 2) := by decide +kernel
theorem dX7_nudge_65 : decode cX7_nudge 65 = .ok (.iload 10, 2) := by decide +kernel
theorem dX7_nudge_67 : decode cX7_nudge 67 = .ok (.iload 12, 2) := by decide +kernel
theorem dX7_nudge_69 : decode cX7_nudge 69 = .ok (.iadd, 1) := by decide +kernel
theorem dX7_nudge_70 : decode cX7_nudge 70 = .ok (.iload 4, 2) := by decide +kernel
theorem dX7_nudge_72 : decode cX7_nudge 72 = .ok (.if_icmp .gt 125, 3) := by decide +kernel
theorem dX7_nudge_75 : decode cX7_nudge 75 = .ok (.iload_n 3, 1) := by decide +kernel
theorem dX7_nudge_76 : decode cX7_nudge 76 = .ok (.istore 13, 2) := by decide +kernel
theorem dX7_nudge_78 : decode cX7_nudge 78 = .ok (.iconst 0, 1) := by decide +kernel
theorem dX7_nudge_79 : decode cX7_nudge 79 = .ok (.istore 14, 2) := by decide +kernel
theorem dX7_nudge_81 : decode cX7_nudge 81 = .ok (.iload 10, 2) := by decide +kernel
theorem dX7_nudge_83 : decode cX7_nudge 83 = .ok (.iload 12, 2) := by decide +kernel
theorem dX7_nudge_85 : decode cX7_nudge 85 = .ok (.iadd, 1) := by decide +kernel
theorem dX7_nudge_86 : decode cX7_nudge 86 = .ok (.iload 14, 2) := by decide +kernel
theorem dX7_nudge_88 : decode cX7_nudge 88 = .ok (.iadd, 1) := by decide +kernel
theorem dX7_nudge_89 : decode cX7_nudge 89 = .ok (.iload 4, 2) := by decide +kernel
theorem dX7_nudge_91 : decode cX7_nudge 91 = .ok (.if_icmp .gt 88, 3) := by decide +kernel
theorem dX7_nudge_94 : decode cX7_nudge 94 = .ok (.aload_n 0, 1) := by decide +kernel
theorem dX7_nudge_95 : decode cX7_nudge 95 = .ok (.iload 9, 2) := by decide +kernel
theorem dX7_nudge_97 : decode cX7_nudge 97 = .ok (.iload 11, 2) := by decide +kernel
theorem dX7_nudge_99 : decode cX7_nudge 99 = .ok (.iload 13, 2) := by decide +kernel
theorem dX7_nudge_101 : decode cX7_nudge 101 = .ok (.invokevirtual 131, 3) := by decide +kernel
theorem dX7_nudge_104 : decode cX7_nudge 104 = .ok (.istore 15, 2) := by decide +kernel
theorem dX7_nudge_106 : decode cX7_nudge 106 = .ok (.iload 10, 2) := by decide +kernel
theorem dX7_nudge_108 : decode cX7_nudge 108 = .ok (.iload 12, 2) := by decide +kernel
theorem dX7_nudge_110 : decode cX7_nudge 110 = .ok (.iadd, 1) := by decide +kernel
theorem dX7_nudge_111 : decode cX7_nudge 111 = .ok (.iload 14, 2) := by decide +kernel
theorem dX7_nudge_113 : decode cX7_nudge 113 = .ok (.iadd, 1) := by decide +kernel
theorem dX7_nudge_114 : decode cX7_nudge 114 = .ok (.istore 16, 2) := by decide +kernel
theorem dX7_nudge_116 : decode cX7_nudge 116 = .ok (.iload 15, 2) := by decide +kernel
theorem dX7_nudge_118 : decode cX7_nudge 118 = .ok (.iload 6, 2) := by decide +kernel
theorem dX7_nudge_120 : decode cX7_nudge 120 = .ok (.if_icmp .gt 17, 3) := by decide +kernel
theorem dX7_nudge_123 : decode cX7_nudge 123 = .ok (.iload 15, 2) := by decide +kernel
theorem dX7_nudge_125 : decode cX7_nudge 125 = .ok (.iload 6, 2) := by decide +kernel
theorem dX7_nudge_127 : decode cX7_nudge 127 = .ok (.if_icmp .ne 34, 3) := by decide +kernel
theorem dX7_nudge_130 : decode cX7_nudge 130 = .ok (.iload 16, 2) := by decide +kernel
theorem dX7_nudge_132 : decode cX7_nudge 132 = .ok (.iload 7, 2) := by decide +kernel
theorem dX7_nudge_134 : decode cX7_nudge 134 = .ok (.if_icmp .ge 27, 3) := by decide +kernel
theorem dX7_nudge_137 : decode cX7_nudge 137 = .ok (.iload 15, 2) := by decide +kernel
theorem dX7_nudge_139 : decode cX7_nudge 139 = .ok (.istore 6, 2) := by decide +kernel
theorem dX7_nudge_141 : decode cX7_nudge 141 = .ok (.iload 16, 2) := by decide +kernel
theorem dX7_nudge_143 : decode cX7_nudge 143 = .ok (.istore 7, 2) := by decide +kernel
theorem dX7_nudge_145 : decode cX7_nudge 145 = .ok (.bipush 100, 2) := by decide +kernel
theorem dX7_nudge_147 : decode cX7_nudge 147 = .ok (.iload 10, 2) := by decide +kernel
theorem dX7_nudge_149 : decode cX7_nudge 149 = .ok (.imul, 1) := by decide +kernel
theorem dX7_nudge_150 : decode cX7_nudge 150 = .ok (.bipush 10, 2) := by decide +kernel
theorem dX7_nudge_152 : decode cX7_nudge 152 = .ok (.iload 12, 2) := by decide +kernel
theorem dX7_nudge_154 : decode cX7_nudge 154 = .ok (.imul, 1) := by decide +kernel
theorem dX7_nudge_155 : decode cX7_nudge 155 = .ok (.iadd, 1) := by decide +kernel
theorem dX7_nudge_156 : decode cX7_nudge 156 = .ok (.iload 14, 2) := by decide +kernel
theorem dX7_nudge_158 : decode cX7_nudge 158 = .ok (.iadd, 1) := by decide +kernel
theorem dX7_nudge_159 : decode cX7_nudge 159 = .ok (.istore 8, 2) := by decide +kernel
theorem dX7_nudge_161 : decode cX7_nudge 161 = .ok (.aload_n 0, 1) := by decide +kernel
theorem dX7_nudge_162 : decode cX7_nudge 162 = .ok (.getfield 10, 3) := by decide +kernel
theorem dX7_nudge_165 : decode cX7_nudge 165 = .ok (.iconst 2, 1) := by decide +kernel
theorem dX7_nudge_166 : decode cX7_nudge 166 = .ok (.iload 13, 2) := by decide +kernel
theorem dX7_nudge_168 : decode cX7_nudge 168 = .ok (.invokevirtual 171, 3) := by decide +kernel
theorem dX7_nudge_171 : decode cX7_nudge 171 = .ok (.istore 13, 2) := by decide +kernel
theorem dX7_nudge_173 : decode cX7_nudge 173 = .ok (.iinc 14 1, 3) := by decide +kernel
theorem dX7_nudge_176 : decode cX7_nudge 176 = .ok (.goto (-95), 3) := by decide +kernel
theorem dX7_nudge_179 : decode cX7_nudge 179 = .ok (.aload_n 0, 1) := by decide +kernel
theorem dX7_nudge_180 : decode cX7_nudge 180 = .ok (.getfield 10, 3) := by decide +kernel
theorem dX7_nudge_183 : decode cX7_nudge 183 = .ok (.iconst 1, 1) := by decide +kernel
theorem dX7_nudge_184 : decode cX7_nudge 184 = .ok (.iload 11, 2) := by decide +kernel
theorem dX7_nudge_186 : decode cX7_nudge 186 = .ok (.invokevirtual 171, 3) := by decide +kernel
theorem dX7_nudge_189 : decode cX7_nudge 189 = .ok (.istore 11, 2) := by decide +kernel
theorem dX7_nudge_191 : decode cX7_nudge 191 = .ok (.iinc 12 1, 3) := by decide +kernel
theorem dX7_nudge_194 : decode cX7_nudge 194 = .ok (.goto (-129), 3) := by decide +kernel
theorem dX7_nudge_197 : decode cX7_nudge 197 = .ok (.aload_n 0, 1) := by decide +kernel
theorem dX7_nudge_198 : decode cX7_nudge 198 = .ok (.getfield 10, 3) := by decide +kernel
theorem dX7_nudge_201 : decode cX7_nudge 201 = .ok (.iconst 0, 1) := by decide +kernel
theorem dX7_nudge_202 : decode cX7_nudge 202 = .ok (.iload 9, 2) := by decide +kernel
theorem dX7_nudge_204 : decode cX7_nudge 204 = .ok (.invokevirtual 171, 3) := by decide +kernel
theorem dX7_nudge_207 : decode cX7_nudge 207 = .ok (.istore 9, 2) := by decide +kernel
theorem dX7_nudge_209 : decode cX7_nudge 209 = .ok (.iinc 10 1, 3) := by decide +kernel
theorem dX7_nudge_212 : decode cX7_nudge 212 = .ok (.goto (-160), 3) := by decide +kernel
theorem dX7_nudge_215 : decode cX7_nudge 215 = .ok (.iload 5, 2) := by decide +kernel
theorem dX7_nudge_217 : decode cX7_nudge 217 = .ok (.ifCond .ne 8, 3) := by decide +kernel
theorem dX7_nudge_220 : decode cX7_nudge 220 = .ok (.iload 6, 2) := by decide +kernel
theorem dX7_nudge_222 : decode cX7_nudge 222 = .ok (.goto 5, 3) := by decide +kernel
theorem dX7_nudge_225 : decode cX7_nudge 225 = .ok (.iload 8, 2) := by decide +kernel
theorem dX7_nudge_227 : decode cX7_nudge 227 = .ok (.ireturn, 1) := by decide +kernel
theorem dX7_change_0 : decode cX7_change 0 = .ok (.iload_n 1, 1) := by decide +kernel
theorem dX7_change_1 : decode cX7_change 1 = .ok (.invokestatic 77, 3) := by decide +kernel
theorem dX7_change_4 : decode cX7_change 4 = .ok (.ifCond .eq 23, 3) := by decide +kernel
theorem dX7_change_7 : decode cX7_change 7 = .ok (.iload_n 2, 1) := by decide +kernel
theorem dX7_change_8 : decode cX7_change 8 = .ok (.iconst 0, 1) := by decide +kernel
theorem dX7_change_9 : decode cX7_change 9 = .ok (.ldc 174, 2) := by decide +kernel
theorem dX7_change_11 : decode cX7_change 11 = .ok (.invokestatic 81, 3) := by decide +kernel
theorem dX7_change_14 : decode cX7_change 14 = .ok (.ifCond .eq 13, 3) := by decide +kernel
theorem dX7_change_17 : decode cX7_change 17 = .ok (.iload_n 3, 1) := by decide +kernel
theorem dX7_change_18 : decode cX7_change 18 = .ok (.iload_n 2, 1) := by decide +kernel
theorem dX7_change_19 : decode cX7_change 19 = .ok (.ldc 174, 2) := by decide +kernel
theorem dX7_change_21 : decode cX7_change 21 = .ok (.invokestatic 81, 3) := by decide +kernel
theorem dX7_change_24 : decode cX7_change 24 = .ok (.ifCond .ne 6, 3) := by decide +kernel
theorem dX7_change_27 : decode cX7_change 27 = .ok (.bipush (-2), 2) := by decide +kernel
theorem dX7_change_29 : decode cX7_change 29 = .ok (.ireturn, 1) := by decide +kernel
theorem dX7_change_30 : decode cX7_change 30 = .ok (.aload_n 0, 1) := by decide +kernel
theorem dX7_change_31 : decode cX7_change 31 = .ok (.iload_n 1, 1) := by decide +kernel
theorem dX7_change_32 : decode cX7_change 32 = .ok (.invokevirtual 175, 3) := by decide +kernel
theorem dX7_change_35 : decode cX7_change 35 = .ok (.lconst 0, 1) := by decide +kernel
theorem dX7_change_36 : decode cX7_change 36 = .ok (.lstore 4, 2) := by decide +kernel
theorem dX7_change_38 : decode cX7_change 38 = .ok (.iconst 0, 1) := by decide +kernel
theorem dX7_change_39 : decode cX7_change 39 = .ok (.istore 6, 2) := by decide +kernel
theorem dX7_change_41 : decode cX7_change 41 = .ok (.iload 6, 2) := by decide +kernel
theorem dX7_change_43 : decode cX7_change 43 = .ok (.aload_n 0, 1) := by decide +kernel
theorem dX7_change_44 : decode cX7_change 44 = .ok (.getfield 10, 3) := by decide +kernel
theorem dX7_change_47 : decode cX7_change 47 = .ok (.iload_n 1, 1) := by decide +kernel
theorem dX7_change_48 : decode cX7_change 48 = .ok (.invokevirtual 145, 3) := by decide +kernel
theorem dX7_change_51 : decode cX7_change 51 = .ok (.if_icmp .ge 29, 3) := by decide +kernel
theorem dX7_change_54 : decode cX7_change 54 = .ok (.lload 4, 2) := by decide +kernel
theorem dX7_change_56 : decode cX7_change 56 = .ok (.aload_n 0, 1) := by decide +kernel
theorem dX7_change_57 : decode cX7_change 57 = .ok (.getfield 62, 3) := by decide +kernel
theorem dX7_change_60 : decode cX7_change 60 = .ok (.aload_n 0, 1) := by decide +kernel
theorem dX7_change_61 : decode cX7_change 61 = .ok (.getfield 10, 3) := by decide +kernel
theorem dX7_change_64 : decode cX7_change 64 = .ok (.iload_n 1, 1) := by decide +kernel
theorem dX7_change_65 : decode cX7_change 65 = .ok (.iload 6, 2) := by decide +kernel
theorem dX7_change_67 : decode cX7_change 67 = .ok (.invokevirtual 102, 3) := by decide +kernel
theorem dX7_change_70 : decode cX7_change 70 = .ok (.laload, 1) := by decide +kernel
theorem dX7_change_71 : decode cX7_change 71 = .ok (.ladd, 1) := by decide +kernel
theorem dX7_change_72 : decode cX7_change 72 = .ok (.lstore 4, 2) := by decide +kernel
theorem dX7_change_74 : decode cX7_change 74 = .ok (.iinc 6 1, 3) := by decide +kernel
theorem dX7_change_77 : decode cX7_change 77 = .ok (.goto (-36), 3) := by decide +kernel
theorem dX7_change_80 : decode cX7_change 80 = .ok (.iconst 0, 1) := by decide +kernel
theorem dX7_change_81 : decode cX7_change 81 = .ok (.istore 6, 2) := by decide +kernel
theorem dX7_change_83 : decode cX7_change 83 = .ok (.iload 6, 2) := by decide +kernel
theorem dX7_change_85 : decode cX7_change 85 = .ok (.aload_n 0, 1) := by decide +kernel
theorem dX7_change_86 : decode cX7_change 86 = .ok (.getfield 10, 3) := by decide +kernel
theorem dX7_change_89 : decode cX7_change 89 = .ok (.iload_n 1, 1) := by decide +kernel
theorem dX7_change_90 : decode cX7_change 90 = .ok (.invokevirtual 145, 3) := by decide +kernel
theorem dX7_change_93 : decode cX7_change 93 = .ok (.if_icmp .ge 104, 3) := by decide +kernel
theorem dX7_change_96 : decode cX7_change 96 = .ok (.aload_n 0, 1) := by decide +kernel
theorem dX7_change_97 : decode cX7_change 97 = .ok (.getfield 10, 3) := by decide +kernel
theorem dX7_change_100 : decode cX7_change 100 = .ok (.iload_n 1, 1) := by decide +kernel
theorem dX7_change_101 : decode cX7_change 101 = .ok (.iload 6, 2) := by decide +kernel
theorem dX7_change_103 : decode cX7_change 103 = .ok (.invokevirtual 102, 3) := by decide +kernel
theorem dX7_change_106 : decode cX7_change 106 = .ok (.istore 7, 2) := by decide +kernel
theorem dX7_change_108 : decode cX7_change 108 = .ok (.iconst 0, 1) := by decide +kernel
theorem dX7_change_109 : decode cX7_change 109 = .ok (.istore 8, 2) := by decide +kernel
theorem dX7_change_111 : decode cX7_change 111 = .ok (.iload 8, 2) := by decide +kernel
theorem dX7_change_113 : decode cX7_change 113 = .ok (.bipush 8, 2) := by decide +kernel
theorem dX7_change_115 : decode cX7_change 115 = .ok (.if_icmp .ge 76, 3) := by decide +kernel
theorem dX7_change_118 : decode cX7_change 118 = .ok (.lload 4, 2) := by decide +kernel
theorem dX7_change_120 : decode cX7_change 120 = .ok (.aload_n 0, 1) := by decide +kernel
theorem dX7_change_121 : decode cX7_change 121 = .ok (.getfield 62, 3) := by decide +kernel
theorem dX7_change_124 : decode cX7_change 124 = .ok (.iload 7, 2) := by decide +kernel
theorem dX7_change_126 : decode cX7_change 126 = .ok (.laload, 1) := by decide +kernel
theorem dX7_change_127 : decode cX7_change 127 = .ok (.lsub, 1) := by decide +kernel
theorem dX7_change_128 : decode cX7_change 128 = .ok (.aload_n 0, 1) := by decide +kernel
theorem dX7_change_129 : decode cX7_change 129 = .ok (.getfield 62, 3) := by decide +kernel
theorem dX7_change_132 : decode cX7_change 132 = .ok (.iload 8, 2) := by decide +kernel
theorem dX7_change_134 : decode cX7_change 134 = .ok (.laload, 1) := by decide +kernel
theorem dX7_change_135 : decode cX7_change 135 = .ok (.ladd, 1) := by decide +kernel
theorem dX7_change_136 : decode cX7_change 136 = .ok (.ldc2_w 179, 3) := by decide +kernel
theorem dX7_change_139 : decode cX7_change 139 = .ok (.lmul, 1) := by decide +kernel
theorem dX7_change_140 : decode cX7_change 140 = .ok (.aload_n 0, 1) := by decide +kernel
theorem dX7_change_141 : decode cX7_change 141 = .ok (.getfield 10, 3) := by decide +kernel
theorem dX7_change_144 : decode cX7_change 144 = .ok (.invokevirtual 181, 3) := by decide +kernel
theorem dX7_change_147 : decode cX7_change 147 = .ok (.i2l, 1) := by decide +kernel
theorem dX7_change_148 : decode cX7_change 148 = .ok (.invokestatic 184, 3) := by decide +kernel
theorem dX7_change_151 : decode cX7_change 151 = .ok (.lstore 9, 2) := by decide +kernel
theorem dX7_change_153 : decode cX7_change 153 = .ok (.iload 8, 2) := by decide +kernel
theorem dX7_change_155 : decode cX7_change 155 = .ok (.iload 7, 2) := by decide +kernel
theorem dX7_change_157 : decode cX7_change 157 = .ok (.if_icmp .eq 28, 3) := by decide +kernel
theorem dX7_change_160 : decode cX7_change 160 = .ok (.iload_n 2, 1) := by decide +kernel
theorem dX7_change_161 : decode cX7_change 161 = .ok (.i2l, 1) := by decide +kernel
theorem dX7_change_162 : decode cX7_change 162 = .ok (.lload 9, 2) := by decide +kernel
theorem dX7_change_164 : decode cX7_change 164 = .ok (.lcmp, 1) := by decide +kernel
theorem dX7_change_165 : decode cX7_change 165 = .ok (.ifCond .gt 20, 3) := by decide +kernel
theorem dX7_change_168 : decode cX7_change 168 = .ok (.lload 9, 2) := by decide +kernel
theorem dX7_change_170 : decode cX7_change 170 = .ok (.iload_n 3, 1) := by decide +kernel
theorem dX7_change_171 : decode cX7_change 171 = .ok (.i2l, 1) := by decide +kernel
theorem dX7_change_172 : decode cX7_change 172 = .ok (.lcmp, 1) := by decide +kernel
theorem dX7_change_173 : decode cX7_change 173 = .ok (.ifCond .gt 12, 3) := by decide +kernel
theorem dX7_change_176 : decode cX7_change 176 = .ok (.bipush 10, 2) := by decide +kernel
theorem dX7_change_178 : decode cX7_change 178 = .ok (.iload 6, 2) := by decide +kernel
theorem dX7_change_180 : decode cX7_change 180 = .ok (.imul, 1) := by decide +kernel
theorem dX7_change_181 : decode cX7_change 181 = .ok (.iload 8, 2) := by decide +kernel
theorem dX7_change_183 : decode cX7_change 183 = .ok (.iadd, 1) := by decide +kernel
theorem dX7_change_184 : decode cX7_change 184 = .ok (.ireturn, 1) := by decide +kernel
theorem dX7_change_185 : decode cX7_change 185 = .ok (.iinc 8 1, 3) := by decide +kernel
theorem dX7_change_188 : decode cX7_change 188 = .ok (.goto (-77), 3) := by decide +kernel
theorem dX7_change_191 : decode cX7_change 191 = .ok (.iinc 6 1, 3) := by decide +kernel
theorem dX7_change_194 : decode cX7_change 194 = .ok (.goto (-111), 3) := by decide +kernel
theorem dX7_change_197 : decode cX7_change 197 = .ok (.iconst (-1), 1) := by decide +kernel
theorem dX7_change_198 : decode cX7_change 198 = .ok (.ireturn, 1) := by decide +kernel
theorem dX7_room_0 : decode cX7_room 0 = .ok (.iload_n 1, 1) := by decide +kernel
theorem dX7_room_1 : decode cX7_room 1 = .ok (.iconst 1, 1) := by decide +kernel
theorem dX7_room_2 : decode cX7_room 2 = .ok (.sipush 200, 3) := by decide +kernel
theorem dX7_room_5 : decode cX7_room 5 = .ok (.invokestatic 81, 3) := by decide +kernel
theorem dX7_room_8 : decode cX7_room 8 = .ok (.ifCond .ne 6, 3) := by decide +kernel
theorem dX7_room_11 : decode cX7_room 11 = .ok (.bipush (-2), 2) := by decide +kernel
theorem dX7_room_13 : decode cX7_room 13 = .ok (.ireturn, 1) := by decide +kernel
theorem dX7_room_14 : decode cX7_room 14 = .ok (.aload_n 0, 1) := by decide +kernel
theorem dX7_room_15 : decode cX7_room 15 = .ok (.getfield 44, 3) := by decide +kernel
theorem dX7_room_18 : decode cX7_room 18 = .ok (.getfield 188, 3) := by decide +kernel
theorem dX7_room_21 : decode cX7_room 21 = .ok (.iload_n 1, 1) := by decide +kernel
theorem dX7_room_22 : decode cX7_room 22 = .ok (.if_icmp .le 6, 3) := by decide +kernel
theorem dX7_room_25 : decode cX7_room 25 = .ok (.bipush (-3), 2) := by decide +kernel
theorem dX7_room_27 : decode cX7_room 27 = .ok (.ireturn, 1) := by decide +kernel
theorem dX7_room_28 : decode cX7_room 28 = .ok (.aload_n 0, 1) := by decide +kernel
theorem dX7_room_29 : decode cX7_room 29 = .ok (.getfield 44, 3) := by decide +kernel
theorem dX7_room_32 : decode cX7_room 32 = .ok (.getfield 191, 3) := by decide +kernel
theorem dX7_room_35 : decode cX7_room 35 = .ok (.istore_n 2, 1) := by decide +kernel
theorem dX7_room_36 : decode cX7_room 36 = .ok (.aload_n 0, 1) := by decide +kernel
theorem dX7_room_37 : decode cX7_room 37 = .ok (.getfield 44, 3) := by decide +kernel
theorem dX7_room_40 : decode cX7_room 40 = .ok (.iload_n 1, 1) := by decide +kernel
theorem dX7_room_41 : decode cX7_room 41 = .ok (.putfield 191, 3) := by decide +kernel
theorem dX7_room_44 : decode cX7_room 44 = .ok (.iload_n 2, 1) := by decide +kernel
theorem dX7_room_45 : decode cX7_room 45 = .ok (.ireturn, 1) := by decide +kernel
theorem dX7_fill_0 : decode cX7_fill 0 = .ok (.iload_n 1, 1) := by decide +kernel
theorem dX7_fill_1 : decode cX7_fill 1 = .ok (.iconst 0, 1) := by decide +kernel
theorem dX7_fill_2 : decode cX7_fill 2 = .ok (.sipush 200, 3) := by decide +kernel
theorem dX7_fill_5 : decode cX7_fill 5 = .ok (.invokestatic 81, 3) := by decide +kernel
theorem dX7_fill_8 : decode cX7_fill 8 = .ok (.ifCond .ne 6, 3) := by decide +kernel
theorem dX7_fill_11 : decode cX7_fill 11 = .ok (.bipush (-2), 2) := by decide +kernel
theorem dX7_fill_13 : decode cX7_fill 13 = .ok (.ireturn, 1) := by decide +kernel
theorem dX7_fill_14 : decode cX7_fill 14 = .ok (.aload_n 0, 1) := by decide +kernel
theorem dX7_fill_15 : decode cX7_fill 15 = .ok (.getfield 44, 3) := by decide +kernel
theorem dX7_fill_18 : decode cX7_fill 18 = .ok (.getfield 188, 3) := by decide +kernel
theorem dX7_fill_21 : decode cX7_fill 21 = .ok (.iload_n 1, 1) := by decide +kernel
theorem dX7_fill_22 : decode cX7_fill 22 = .ok (.iadd, 1) := by decide +kernel
theorem dX7_fill_23 : decode cX7_fill 23 = .ok (.aload_n 0, 1) := by decide +kernel
theorem dX7_fill_24 : decode cX7_fill 24 = .ok (.getfield 44, 3) := by decide +kernel
theorem dX7_fill_27 : decode cX7_fill 27 = .ok (.getfield 191, 3) := by decide +kernel
theorem dX7_fill_30 : decode cX7_fill 30 = .ok (.if_icmp .le 6, 3) := by decide +kernel
theorem dX7_fill_33 : decode cX7_fill 33 = .ok (.bipush (-3), 2) := by decide +kernel
theorem dX7_fill_35 : decode cX7_fill 35 = .ok (.ireturn, 1) := by decide +kernel
theorem dX7_fill_36 : decode cX7_fill 36 = .ok (.aload_n 0, 1) := by decide +kernel
theorem dX7_fill_37 : decode cX7_fill 37 = .ok (.getfield 44, 3) := by decide +kernel
theorem dX7_fill_40 : decode cX7_fill 40 = .ok (.dup, 1) := by decide +kernel
theorem dX7_fill_41 : decode cX7_fill 41 = .ok (.getfield 188, 3) := by decide +kernel
theorem dX7_fill_44 : decode cX7_fill 44 = .ok (.iload_n 1, 1) := by decide +kernel
theorem dX7_fill_45 : decode cX7_fill 45 = .ok (.iadd, 1) := by decide +kernel
theorem dX7_fill_46 : decode cX7_fill 46 = .ok (.putfield 188, 3) := by decide +kernel
theorem dX7_fill_49 : decode cX7_fill 49 = .ok (.aload_n 0, 1) := by decide +kernel
theorem dX7_fill_50 : decode cX7_fill 50 = .ok (.getfield 44, 3) := by decide +kernel
theorem dX7_fill_53 : decode cX7_fill 53 = .ok (.dup, 1) := by decide +kernel
theorem dX7_fill_54 : decode cX7_fill 54 = .ok (.getfield 194, 3) := by decide +kernel
theorem dX7_fill_57 : decode cX7_fill 57 = .ok (.iload_n 1, 1) := by decide +kernel
theorem dX7_fill_58 : decode cX7_fill 58 = .ok (.iadd, 1) := by decide +kernel
theorem dX7_fill_59 : decode cX7_fill 59 = .ok (.putfield 194, 3) := by decide +kernel
theorem dX7_fill_62 : decode cX7_fill 62 = .ok (.aload_n 0, 1) := by decide +kernel
theorem dX7_fill_63 : decode cX7_fill 63 = .ok (.getfield 44, 3) := by decide +kernel
theorem dX7_fill_66 : decode cX7_fill 66 = .ok (.getfield 188, 3) := by decide +kernel
theorem dX7_fill_69 : decode cX7_fill 69 = .ok (.ireturn, 1) := by decide +kernel
theorem dX7_play_0 : decode cX7_play 0 = .ok (.aload_n 0, 1) := by decide +kernel
theorem dX7_play_1 : decode cX7_play 1 = .ok (.getfield 10, 3) := by decide +kernel
theorem dX7_play_4 : decode cX7_play 4 = .ok (.iload_n 1, 1) := by decide +kernel
theorem dX7_play_5 : decode cX7_play 5 = .ok (.iload_n 2, 1) := by decide +kernel
theorem dX7_play_6 : decode cX7_play 6 = .ok (.iload_n 3, 1) := by decide +kernel
theorem dX7_play_7 : decode cX7_play 7 = .ok (.invokevirtual 128, 3) := by decide +kernel
theorem dX7_play_10 : decode cX7_play 10 = .ok (.ifCond .ne 6, 3) := by decide +kernel
theorem dX7_play_13 : decode cX7_play 13 = .ok (.bipush (-2), 2) := by decide +kernel
theorem dX7_play_15 : decode cX7_play 15 = .ok (.ireturn, 1) := by decide +kernel
theorem dX7_play_16 : decode cX7_play 16 = .ok (.aload_n 0, 1) := by decide +kernel
theorem dX7_play_17 : decode cX7_play 17 = .ok (.iload_n 1, 1) := by decide +kernel
theorem dX7_play_18 : decode cX7_play 18 = .ok (.iload_n 2, 1) := by decide +kernel
theorem dX7_play_19 : decode cX7_play 19 = .ok (.iload_n 3, 1) := by decide +kernel
theorem dX7_play_20 : decode cX7_play 20 = .ok (.invokevirtual 131, 3) := by decide +kernel
theorem dX7_play_23 : decode cX7_play 23 = .ok (.istore 4, 2) := by decide +kernel
theorem dX7_play_25 : decode cX7_play 25 = .ok (.aload_n 0, 1) := by decide +kernel
theorem dX7_play_26 : decode cX7_play 26 = .ok (.getfield 44, 3) := by decide +kernel
theorem dX7_play_29 : decode cX7_play 29 = .ok (.aload_n 0, 1) := by decide +kernel
theorem dX7_play_30 : decode cX7_play 30 = .ok (.getfield 66, 3) := by decide +kernel
theorem dX7_play_33 : decode cX7_play 33 = .ok (.invokevirtual 197, 3) := by decide +kernel
theorem dX7_play_36 : decode cX7_play 36 = .ok (.aload_n 0, 1) := by decide +kernel
theorem dX7_play_37 : decode cX7_play 37 = .ok (.getfield 44, 3) := by decide +kernel
theorem dX7_play_40 : decode cX7_play 40 = .ok (.iload 4, 2) := by decide +kernel
theorem dX7_play_42 : decode cX7_play 42 = .ok (.invokevirtual 200, 3) := by decide +kernel
theorem dX7_play_45 : decode cX7_play 45 = .ok (.aload_n 0, 1) := by decide +kernel
theorem dX7_play_46 : decode cX7_play 46 = .ok (.getfield 51, 3) := by decide +kernel
theorem dX7_play_49 : decode cX7_play 49 = .ok (.iload_n 1, 1) := by decide +kernel
theorem dX7_play_50 : decode cX7_play 50 = .ok (.iload_n 2, 1) := by decide +kernel
theorem dX7_play_51 : decode cX7_play 51 = .ok (.iload_n 3, 1) := by decide +kernel
theorem dX7_play_52 : decode cX7_play 52 = .ok (.invokevirtual 203, 3) := by decide +kernel
theorem dX7_play_55 : decode cX7_play 55 = .ok (.iload 4, 2) := by decide +kernel
theorem dX7_play_57 : decode cX7_play 57 = .ok (.ireturn, 1) := by decide +kernel
theorem dX7_coins_0 : decode cX7_coins 0 = .ok (.iload_n 1, 1) := by decide +kernel
theorem dX7_coins_1 : decode cX7_coins 1 = .ok (.tableswitch 111 0 7 #[47, 55, 63, 71, 79, 87, 95, 103], 47) := by decide +kernel
theorem dX7_coins_48 : decode cX7_coins 48 = .ok (.aload_n 0, 1) := by decide +kernel
theorem dX7_coins_49 : decode cX7_coins 49 = .ok (.getfield 44, 3) := by decide +kernel
theorem dX7_coins_52 : decode cX7_coins 52 = .ok (.getfield 188, 3) := by decide +kernel
theorem dX7_coins_55 : decode cX7_coins 55 = .ok (.ireturn, 1) := by decide +kernel
theorem dX7_coins_56 : decode cX7_coins 56 = .ok (.aload_n 0, 1) := by decide +kernel
theorem dX7_coins_57 : decode cX7_coins 57 = .ok (.getfield 44, 3) := by decide +kernel
theorem dX7_coins_60 : decode cX7_coins 60 = .ok (.getfield 205, 3) := by decide +kernel
theorem dX7_coins_63 : decode cX7_coins 63 = .ok (.ireturn, 1) := by decide +kernel
theorem dX7_coins_64 : decode cX7_coins 64 = .ok (.aload_n 0, 1) := by decide +kernel
theorem dX7_coins_65 : decode cX7_coins 65 = .ok (.getfield 44, 3) := by decide +kernel
theorem dX7_coins_68 : decode cX7_coins 68 = .ok (.getfield 208, 3) := by decide +kernel
theorem dX7_coins_71 : decode cX7_coins 71 = .ok (.ireturn, 1) := by decide +kernel
theorem dX7_coins_72 : decode cX7_coins 72 = .ok (.aload_n 0, 1) := by decide +kernel
theorem dX7_coins_73 : decode cX7_coins 73 = .ok (.getfield 44, 3) := by decide +kernel
theorem dX7_coins_76 : decode cX7_coins 76 = .ok (.getfield 211, 3) := by decide +kernel
theorem dX7_coins_79 : decode cX7_coins 79 = .ok (.ireturn, 1) := by decide +kernel
theorem dX7_coins_80 : decode cX7_coins 80 = .ok (.aload_n 0, 1) := by decide +kernel
theorem dX7_coins_81 : decode cX7_coins 81 = .ok (.getfield 44, 3) := by decide +kernel
theorem dX7_coins_84 : decode cX7_coins 84 = .ok (.getfield 214, 3) := by decide +kernel
theorem dX7_coins_87 : decode cX7_coins 87 = .ok (.ireturn, 1) := by decide +kernel
theorem dX7_coins_88 : decode cX7_coins 88 = .ok (.aload_n 0, 1) := by decide +kernel
theorem dX7_coins_89 : decode cX7_coins 89 = .ok (.getfield 44, 3) := by decide +kernel
theorem dX7_coins_92 : decode cX7_coins 92 = .ok (.getfield 194, 3) := by decide +kernel
theorem dX7_coins_95 : decode cX7_coins 95 = .ok (.ireturn, 1) := by decide +kernel
theorem dX7_coins_96 : decode cX7_coins 96 = .ok (.aload_n 0, 1) := by decide +kernel
theorem dX7_coins_97 : decode cX7_coins 97 = .ok (.getfield 51, 3) := by decide +kernel
theorem dX7_coins_100 : decode cX7_coins 100 = .ok (.getfield 217, 3) := by decide +kernel
theorem dX7_coins_103 : decode cX7_coins 103 = .ok (.ireturn, 1) := by decide +kernel
theorem dX7_coins_104 : decode cX7_coins 104 = .ok (.aload_n 0, 1) := by decide +kernel
theorem dX7_coins_105 : decode cX7_coins 105 = .ok (.getfield 44, 3) := by decide +kernel
theorem dX7_coins_108 : decode cX7_coins 108 = .ok (.getfield 191, 3) := by decide +kernel
theorem dX7_coins_111 : decode cX7_coins 111 = .ok (.ireturn, 1) := by decide +kernel
theorem dX7_coins_112 : decode cX7_coins 112 = .ok (.bipush (-2), 2) := by decide +kernel
theorem dX7_coins_114 : decode cX7_coins 114 = .ok (.ireturn, 1) := by decide +kernel
theorem dX7_dry_0 : decode cX7_dry 0 = .ok (.iload_n 1, 1) := by decide +kernel
theorem dX7_dry_1 : decode cX7_dry 1 = .ok (.iconst 0, 1) := by decide +kernel
theorem dX7_dry_2 : decode cX7_dry 2 = .ok (.aload_n 0, 1) := by decide +kernel
theorem dX7_dry_3 : decode cX7_dry 3 = .ok (.getfield 44, 3) := by decide +kernel
theorem dX7_dry_6 : decode cX7_dry 6 = .ok (.getfield 191, 3) := by decide +kernel
theorem dX7_dry_9 : decode cX7_dry 9 = .ok (.invokestatic 81, 3) := by decide +kernel
theorem dX7_dry_12 : decode cX7_dry 12 = .ok (.ifCond .eq 13, 3) := by decide +kernel
theorem dX7_dry_15 : decode cX7_dry 15 = .ok (.iload_n 2, 1) := by decide +kernel
theorem dX7_dry_16 : decode cX7_dry 16 = .ok (.iconst 0, 1) := by decide +kernel
theorem dX7_dry_17 : decode cX7_dry 17 = .ok (.bipush 50, 2) := by decide +kernel
theorem dX7_dry_19 : decode cX7_dry 19 = .ok (.invokestatic 81, 3) := by decide +kernel
theorem dX7_dry_22 : decode cX7_dry 22 = .ok (.ifCond .ne 7, 3) := by decide +kernel
theorem dX7_dry_25 : decode cX7_dry 25 = .ok (.ldc2_w 135, 3) := by decide +kernel
theorem dX7_dry_28 : decode cX7_dry 28 = .ok (.lreturn, 1) := by decide +kernel
theorem dX7_dry_29 : decode cX7_dry 29 = .ok (.aload_n 0, 1) := by decide +kernel
theorem dX7_dry_30 : decode cX7_dry 30 = .ok (.invokevirtual 220, 3) := by decide +kernel
theorem dX7_dry_33 : decode cX7_dry 33 = .ok (.aload_n 0, 1) := by decide +kernel
theorem dX7_dry_34 : decode cX7_dry 34 = .ok (.getfield 58, 3) := by decide +kernel
theorem dX7_dry_37 : decode cX7_dry 37 = .ok (.iload_n 1, 1) := by decide +kernel
theorem dX7_dry_38 : decode cX7_dry 38 = .ok (.iload_n 2, 1) := by decide +kernel
theorem dX7_dry_39 : decode cX7_dry 39 = .ok (.aload_n 0, 1) := by decide +kernel
theorem dX7_dry_40 : decode cX7_dry 40 = .ok (.getfield 66, 3) := by decide +kernel
theorem dX7_dry_43 : decode cX7_dry 43 = .ok (.aload_n 0, 1) := by decide +kernel
theorem dX7_dry_44 : decode cX7_dry 44 = .ok (.getfield 44, 3) := by decide +kernel
theorem dX7_dry_47 : decode cX7_dry 47 = .ok (.getfield 191, 3) := by decide +kernel
theorem dX7_dry_50 : decode cX7_dry 50 = .ok (.aload_n 0, 1) := by decide +kernel
theorem dX7_dry_51 : decode cX7_dry 51 = .ok (.getfield 37, 3) := by decide +kernel
theorem dX7_dry_54 : decode cX7_dry 54 = .ok (.aload_n 0, 1) := by decide +kernel
theorem dX7_dry_55 : decode cX7_dry 55 = .ok (.getfield 10, 3) := by decide +kernel
theorem dX7_dry_58 : decode cX7_dry 58 = .ok (.invokevirtual 181, 3) := by decide +kernel
theorem dX7_dry_61 : decode cX7_dry 61 = .ok (.invokevirtual 223, 3) := by decide +kernel
theorem dX7_dry_64 : decode cX7_dry 64 = .ok (.invokestatic 227, 3) := by decide +kernel
theorem dX7_dry_67 : decode cX7_dry 67 = .ok (.lreturn, 1) := by decide +kernel
theorem dX7_favoured_0 : decode cX7_favoured 0 = .ok (.iload_n 1, 1) := by decide +kernel
theorem dX7_favoured_1 : decode cX7_favoured 1 = .ok (.invokestatic 77, 3) := by decide +kernel
theorem dX7_favoured_4 : decode cX7_favoured 4 = .ok (.ifCond .ne 6, 3) := by decide +kernel
theorem dX7_favoured_7 : decode cX7_favoured 7 = .ok (.bipush (-2), 2) := by decide +kernel
theorem dX7_favoured_9 : decode cX7_favoured 9 = .ok (.ireturn, 1) := by decide +kernel
theorem dX7_favoured_10 : decode cX7_favoured 10 = .ok (.aload_n 0, 1) := by decide +kernel
theorem dX7_favoured_11 : decode cX7_favoured 11 = .ok (.getfield 51, 3) := by decide +kernel
theorem dX7_favoured_14 : decode cX7_favoured 14 = .ok (.getfield 217, 3) := by decide +kernel
theorem dX7_favoured_17 : decode cX7_favoured 17 = .ok (.ifCond .ne 7, 3) := by decide +kernel
theorem dX7_favoured_20 : decode cX7_favoured 20 = .ok (.iconst (-1), 1) := by decide +kernel
theorem dX7_favoured_21 : decode cX7_favoured 21 = .ok (.goto 11, 3) := by decide +kernel
theorem dX7_favoured_24 : decode cX7_favoured 24 = .ok (.aload_n 0, 1) := by decide +kernel
theorem dX7_favoured_25 : decode cX7_favoured 25 = .ok (.getfield 51, 3) := by decide +kernel
theorem dX7_favoured_28 : decode cX7_favoured 28 = .ok (.iload_n 1, 1) := by decide +kernel
theorem dX7_favoured_29 : decode cX7_favoured 29 = .ok (.invokevirtual 231, 3) := by decide +kernel
theorem dX7_favoured_32 : decode cX7_favoured 32 = .ok (.ireturn, 1) := by decide +kernel
theorem dX7_odd_0 : decode cX7_odd 0 = .ok (.iload_n 1, 1) := by decide +kernel
theorem dX7_odd_1 : decode cX7_odd 1 = .ok (.invokestatic 77, 3) := by decide +kernel
theorem dX7_odd_4 : decode cX7_odd 4 = .ok (.ifCond .ne 7, 3) := by decide +kernel
theorem dX7_odd_7 : decode cX7_odd 7 = .ok (.ldc2_w 135, 3) := by decide +kernel
theorem dX7_odd_10 : decode cX7_odd 10 = .ok (.lreturn, 1) := by decide +kernel
theorem dX7_odd_11 : decode cX7_odd 11 = .ok (.aload_n 0, 1) := by decide +kernel
theorem dX7_odd_12 : decode cX7_odd 12 = .ok (.getfield 51, 3) := by decide +kernel
theorem dX7_odd_15 : decode cX7_odd 15 = .ok (.getfield 217, 3) := by decide +kernel
theorem dX7_odd_18 : decode cX7_odd 18 = .ok (.ifCond .ne 7, 3) := by decide +kernel
theorem dX7_odd_21 : decode cX7_odd 21 = .ok (.ldc2_w 234, 3) := by decide +kernel
theorem dX7_odd_24 : decode cX7_odd 24 = .ok (.lreturn, 1) := by decide +kernel
theorem dX7_odd_25 : decode cX7_odd 25 = .ok (.aload_n 0, 1) := by decide +kernel
theorem dX7_odd_26 : decode cX7_odd 26 = .ok (.getfield 51, 3) := by decide +kernel
theorem dX7_odd_29 : decode cX7_odd 29 = .ok (.iload_n 1, 1) := by decide +kernel
theorem dX7_odd_30 : decode cX7_odd 30 = .ok (.aload_n 0, 1) := by decide +kernel
theorem dX7_odd_31 : decode cX7_odd 31 = .ok (.getfield 51, 3) := by decide +kernel
theorem dX7_odd_34 : decode cX7_odd 34 = .ok (.iload_n 1, 1) := by decide +kernel
theorem dX7_odd_35 : decode cX7_odd 35 = .ok (.invokevirtual 231, 3) := by decide +kernel
theorem dX7_odd_38 : decode cX7_odd 38 = .ok (.invokevirtual 236, 3) := by decide +kernel
theorem dX7_odd_41 : decode cX7_odd 41 = .ok (.istore_n 2, 1) := by decide +kernel
theorem dX7_odd_42 : decode cX7_odd 42 = .ok (.aload_n 0, 1) := by decide +kernel
theorem dX7_odd_43 : decode cX7_odd 43 = .ok (.getfield 58, 3) := by decide +kernel
theorem dX7_odd_46 : decode cX7_odd 46 = .ok (.iload_n 2, 1) := by decide +kernel
theorem dX7_odd_47 : decode cX7_odd 47 = .ok (.aload_n 0, 1) := by decide +kernel
theorem dX7_odd_48 : decode cX7_odd 48 = .ok (.getfield 51, 3) := by decide +kernel
theorem dX7_odd_51 : decode cX7_odd 51 = .ok (.getfield 217, 3) := by decide +kernel
theorem dX7_odd_54 : decode cX7_odd 54 = .ok (.aload_n 0, 1) := by decide +kernel
theorem dX7_odd_55 : decode cX7_odd 55 = .ok (.getfield 10, 3) := by decide +kernel
theorem dX7_odd_58 : decode cX7_odd 58 = .ok (.iload_n 1, 1) := by decide +kernel
theorem dX7_odd_59 : decode cX7_odd 59 = .ok (.invokevirtual 145, 3) := by decide +kernel
theorem dX7_odd_62 : decode cX7_odd 62 = .ok (.invokevirtual 239, 3) := by decide +kernel
theorem dX7_odd_65 : decode cX7_odd 65 = .ok (.invokestatic 227, 3) := by decide +kernel
theorem dX7_odd_68 : decode cX7_odd 68 = .ok (.lreturn, 1) := by decide +kernel
theorem dX7_digest_0 : decode cX7_digest 0 = .ok (.ldc2_w 243, 3) := by decide +kernel
theorem dX7_digest_3 : decode cX7_digest 3 = .ok (.lstore_n 1, 1) := by decide +kernel
theorem dX7_digest_4 : decode cX7_digest 4 = .ok (.iconst 0, 1) := by decide +kernel
theorem dX7_digest_5 : decode cX7_digest 5 = .ok (.istore_n 3, 1) := by decide +kernel
theorem dX7_digest_6 : decode cX7_digest 6 = .ok (.iload_n 3, 1) := by decide +kernel
theorem dX7_digest_7 : decode cX7_digest 7 = .ok (.iconst 3, 1) := by decide +kernel
theorem dX7_digest_8 : decode cX7_digest 8 = .ok (.if_icmp .gt 21, 3) := by decide +kernel
theorem dX7_digest_11 : decode cX7_digest 11 = .ok (.ldc2_w 245, 3) := by decide +kernel
theorem dX7_digest_14 : decode cX7_digest 14 = .ok (.lload_n 1, 1) := by decide +kernel
theorem dX7_digest_15 : decode cX7_digest 15 = .ok (.lmul, 1) := by decide +kernel
theorem dX7_digest_16 : decode cX7_digest 16 = .ok (.aload_n 0, 1) := by decide +kernel
theorem dX7_digest_17 : decode cX7_digest 17 = .ok (.iload_n 3, 1) := by decide +kernel
theorem dX7_digest_18 : decode cX7_digest 18 = .ok (.invokevirtual 141, 3) := by decide +kernel
theorem dX7_digest_21 : decode cX7_digest 21 = .ok (.ladd, 1) := by decide +kernel
theorem dX7_digest_22 : decode cX7_digest 22 = .ok (.lstore_n 1, 1) := by decide +kernel
theorem dX7_digest_23 : decode cX7_digest 23 = .ok (.iinc 3 1, 3) := by decide +kernel
theorem dX7_digest_26 : decode cX7_digest 26 = .ok (.goto (-20), 3) := by decide +kernel
theorem dX7_digest_29 : decode cX7_digest 29 = .ok (.aload_n 0, 1) := by decide +kernel
theorem dX7_digest_30 : decode cX7_digest 30 = .ok (.getfield 10, 3) := by decide +kernel
theorem dX7_digest_33 : decode cX7_digest 33 = .ok (.lload_n 1, 1) := by decide +kernel
theorem dX7_digest_34 : decode cX7_digest 34 = .ok (.invokevirtual 247, 3) := by decide +kernel
theorem dX7_digest_37 : decode cX7_digest 37 = .ok (.lstore_n 1, 1) := by decide +kernel
theorem dX7_digest_38 : decode cX7_digest 38 = .ok (.iconst 0, 1) := by decide +kernel
theorem dX7_digest_39 : decode cX7_digest 39 = .ok (.istore_n 3, 1) := by decide +kernel
theorem dX7_digest_40 : decode cX7_digest 40 = .ok (.iload_n 3, 1) := by decide +kernel
theorem dX7_digest_41 : decode cX7_digest 41 = .ok (.bipush 8, 2) := by decide +kernel
theorem dX7_digest_43 : decode cX7_digest 43 = .ok (.if_icmp .ge 23, 3) := by decide +kernel
theorem dX7_digest_46 : decode cX7_digest 46 = .ok (.ldc2_w 245, 3) := by decide +kernel
theorem dX7_digest_49 : decode cX7_digest 49 = .ok (.lload_n 1, 1) := by decide +kernel
theorem dX7_digest_50 : decode cX7_digest 50 = .ok (.lmul, 1) := by decide +kernel
theorem dX7_digest_51 : decode cX7_digest 51 = .ok (.aload_n 0, 1) := by decide +kernel
theorem dX7_digest_52 : decode cX7_digest 52 = .ok (.getfield 16, 3) := by decide +kernel
theorem dX7_digest_55 : decode cX7_digest 55 = .ok (.iload_n 3, 1) := by decide +kernel
theorem dX7_digest_56 : decode cX7_digest 56 = .ok (.iaload, 1) := by decide +kernel
theorem dX7_digest_57 : decode cX7_digest 57 = .ok (.i2l, 1) := by decide +kernel
theorem dX7_digest_58 : decode cX7_digest 58 = .ok (.ladd, 1) := by decide +kernel
theorem dX7_digest_59 : decode cX7_digest 59 = .ok (.lstore_n 1, 1) := by decide +kernel
theorem dX7_digest_60 : decode cX7_digest 60 = .ok (.iinc 3 1, 3) := by decide +kernel
theorem dX7_digest_63 : decode cX7_digest 63 = .ok (.goto (-23), 3) := by decide +kernel
theorem dX7_digest_66 : decode cX7_digest 66 = .ok (.aload_n 0, 1) := by decide +kernel
theorem dX7_digest_67 : decode cX7_digest 67 = .ok (.getfield 23, 3) := by decide +kernel
theorem dX7_digest_70 : decode cX7_digest 70 = .ok (.lload_n 1, 1) := by decide +kernel
theorem dX7_digest_71 : decode cX7_digest 71 = .ok (.invokevirtual 251, 3) := by decide +kernel
theorem dX7_digest_74 : decode cX7_digest 74 = .ok (.lstore_n 1, 1) := by decide +kernel
theorem dX7_digest_75 : decode cX7_digest 75 = .ok (.ldc2_w 245, 3) := by decide +kernel
theorem dX7_digest_78 : decode cX7_digest 78 = .ok (.lload_n 1, 1) := by decide +kernel
theorem dX7_digest_79 : decode cX7_digest 79 = .ok (.lmul, 1) := by decide +kernel
theorem dX7_digest_80 : decode cX7_digest 80 = .ok (.aload_n 0, 1) := by decide +kernel
theorem dX7_digest_81 : decode cX7_digest 81 = .ok (.getfield 66, 3) := by decide +kernel
theorem dX7_digest_84 : decode cX7_digest 84 = .ok (.i2l, 1) := by decide +kernel
theorem dX7_digest_85 : decode cX7_digest 85 = .ok (.ladd, 1) := by decide +kernel
theorem dX7_digest_86 : decode cX7_digest 86 = .ok (.lstore_n 1, 1) := by decide +kernel
theorem dX7_digest_87 : decode cX7_digest 87 = .ok (.iconst 0, 1) := by decide +kernel
theorem dX7_digest_88 : decode cX7_digest 88 = .ok (.istore_n 3, 1) := by decide +kernel
theorem dX7_digest_89 : decode cX7_digest 89 = .ok (.iload_n 3, 1) := by decide +kernel
theorem dX7_digest_90 : decode cX7_digest 90 = .ok (.bipush 8, 2) := by decide +kernel
theorem dX7_digest_92 : decode cX7_digest 92 = .ok (.if_icmp .ge 22, 3) := by decide +kernel
theorem dX7_digest_95 : decode cX7_digest 95 = .ok (.ldc2_w 245, 3) := by decide +kernel
theorem dX7_digest_98 : decode cX7_digest 98 = .ok (.lload_n 1, 1) := by decide +kernel
theorem dX7_digest_99 : decode cX7_digest 99 = .ok (.lmul, 1) := by decide +kernel
theorem dX7_digest_100 : decode cX7_digest 100 = .ok (.aload_n 0, 1) := by decide +kernel
theorem dX7_digest_101 : decode cX7_digest 101 = .ok (.iload_n 3, 1) := by decide +kernel
theorem dX7_digest_102 : decode cX7_digest 102 = .ok (.invokevirtual 252, 3) := by decide +kernel
theorem dX7_digest_105 : decode cX7_digest 105 = .ok (.i2l, 1) := by decide +kernel
theorem dX7_digest_106 : decode cX7_digest 106 = .ok (.ladd, 1) := by decide +kernel
theorem dX7_digest_107 : decode cX7_digest 107 = .ok (.lstore_n 1, 1) := by decide +kernel
theorem dX7_digest_108 : decode cX7_digest 108 = .ok (.iinc 3 1, 3) := by decide +kernel
theorem dX7_digest_111 : decode cX7_digest 111 = .ok (.goto (-22), 3) := by decide +kernel
theorem dX7_digest_114 : decode cX7_digest 114 = .ok (.lload_n 1, 1) := by decide +kernel
theorem dX7_digest_115 : decode cX7_digest 115 = .ok (.lreturn, 1) := by decide +kernel
theorem dX7_within_0 : decode cX7_within 0 = .ok (.iload_n 1, 1) := by decide +kernel
theorem dX7_within_1 : decode cX7_within 1 = .ok (.iload_n 0, 1) := by decide +kernel
theorem dX7_within_2 : decode cX7_within 2 = .ok (.if_icmp .gt 12, 3) := by decide +kernel
theorem dX7_within_5 : decode cX7_within 5 = .ok (.iload_n 0, 1) := by decide +kernel
theorem dX7_within_6 : decode cX7_within 6 = .ok (.iload_n 2, 1) := by decide +kernel
theorem dX7_within_7 : decode cX7_within 7 = .ok (.if_icmp .gt 7, 3) := by decide +kernel
theorem dX7_within_10 : decode cX7_within 10 = .ok (.iconst 1, 1) := by decide +kernel
theorem dX7_within_11 : decode cX7_within 11 = .ok (.goto 4, 3) := by decide +kernel
theorem dX7_within_14 : decode cX7_within 14 = .ok (.iconst 0, 1) := by decide +kernel
theorem dX7_within_15 : decode cX7_within 15 = .ok (.ireturn, 1) := by decide +kernel
theorem dX7_isReel_0 : decode cX7_isReel 0 = .ok (.iload_n 0, 1) := by decide +kernel
theorem dX7_isReel_1 : decode cX7_isReel 1 = .ok (.iconst 0, 1) := by decide +kernel
theorem dX7_isReel_2 : decode cX7_isReel 2 = .ok (.iconst 2, 1) := by decide +kernel
theorem dX7_isReel_3 : decode cX7_isReel 3 = .ok (.invokestatic 81, 3) := by decide +kernel
theorem dX7_isReel_6 : decode cX7_isReel 6 = .ok (.ireturn, 1) := by decide +kernel
theorem dX7_isPicture_0 : decode cX7_isPicture 0 = .ok (.iload_n 0, 1) := by decide +kernel
theorem dX7_isPicture_1 : decode cX7_isPicture 1 = .ok (.iconst 0, 1) := by decide +kernel
theorem dX7_isPicture_2 : decode cX7_isPicture 2 = .ok (.bipush 7, 2) := by decide +kernel
theorem dX7_isPicture_4 : decode cX7_isPicture 4 = .ok (.invokestatic 81, 3) := by decide +kernel
theorem dX7_isPicture_7 : decode cX7_isPicture 7 = .ok (.ireturn, 1) := by decide +kernel
theorem dX7_isWanted_0 : decode cX7_isWanted 0 = .ok (.iload_n 0, 1) := by decide +kernel
theorem dX7_isWanted_1 : decode cX7_isWanted 1 = .ok (.iconst (-1), 1) := by decide +kernel
theorem dX7_isWanted_2 : decode cX7_isWanted 2 = .ok (.if_icmp .eq 10, 3) := by decide +kernel
theorem dX7_isWanted_5 : decode cX7_isWanted 5 = .ok (.iload_n 0, 1) := by decide +kernel
theorem dX7_isWanted_6 : decode cX7_isWanted 6 = .ok (.invokestatic 99, 3) := by decide +kernel
theorem dX7_isWanted_9 : decode cX7_isWanted 9 = .ok (.ifCond .eq 7, 3) := by decide +kernel
theorem dX7_isWanted_12 : decode cX7_isWanted 12 = .ok (.iconst 1, 1) := by decide +kernel
theorem dX7_isWanted_13 : decode cX7_isWanted 13 = .ok (.goto 4, 3) := by decide +kernel
theorem dX7_isWanted_16 : decode cX7_isWanted 16 = .ok (.iconst 0, 1) := by decide +kernel
theorem dX7_isWanted_17 : decode cX7_isWanted 17 = .ok (.ireturn, 1) := by decide +kernel
theorem dX7_cut_0 : decode cX7_cut 0 = .ok (.lload_n 2, 1) := by decide +kernel
theorem dX7_cut_1 : decode cX7_cut 1 = .ok (.lconst 0, 1) := by decide +kernel
theorem dX7_cut_2 : decode cX7_cut 2 = .ok (.lcmp, 1) := by decide +kernel
theorem dX7_cut_3 : decode cX7_cut 3 = .ok (.ifCond .le 9, 3) := by decide +kernel
theorem dX7_cut_6 : decode cX7_cut 6 = .ok (.lload_n 0, 1) := by decide +kernel
theorem dX7_cut_7 : decode cX7_cut 7 = .ok (.lload_n 2, 1) := by decide +kernel
theorem dX7_cut_8 : decode cX7_cut 8 = .ok (.ldiv, 1) := by decide +kernel
theorem dX7_cut_9 : decode cX7_cut 9 = .ok (.goto 4, 3) := by decide +kernel
theorem dX7_cut_12 : decode cX7_cut 12 = .ok (.lconst 0, 1) := by decide +kernel
theorem dX7_cut_13 : decode cX7_cut 13 = .ok (.lreturn, 1) := by decide +kernel
theorem dX7_lineOf_0 : decode cX7_lineOf 0 = .ok (.iload_n 0, 1) := by decide +kernel
theorem dX7_lineOf_1 : decode cX7_lineOf 1 = .ok (.bipush 8, 2) := by decide +kernel
theorem dX7_lineOf_3 : decode cX7_lineOf 3 = .ok (.imul, 1) := by decide +kernel
theorem dX7_lineOf_4 : decode cX7_lineOf 4 = .ok (.iload_n 1, 1) := by decide +kernel
theorem dX7_lineOf_5 : decode cX7_lineOf 5 = .ok (.iadd, 1) := by decide +kernel
theorem dX7_lineOf_6 : decode cX7_lineOf 6 = .ok (.bipush 8, 2) := by decide +kernel
theorem dX7_lineOf_8 : decode cX7_lineOf 8 = .ok (.imul, 1) := by decide +kernel
theorem dX7_lineOf_9 : decode cX7_lineOf 9 = .ok (.iload_n 2, 1) := by decide +kernel
theorem dX7_lineOf_10 : decode cX7_lineOf 10 = .ok (.iadd, 1) := by decide +kernel
theorem dX7_lineOf_11 : decode cX7_lineOf 11 = .ok (.ireturn, 1) := by decide +kernel
theorem dX7_middleLine_0 : decode cX7_middleLine 0 = .ok (.aload_n 0, 1) := by decide +kernel
theorem dX7_middleLine_1 : decode cX7_middleLine 1 = .ok (.getfield 10, 3) := by decide +kernel
theorem dX7_middleLine_4 : decode cX7_middleLine 4 = .ok (.iconst 0, 1) := by decide +kernel
theorem dX7_middleLine_5 : decode cX7_middleLine 5 = .ok (.iload_n 1, 1) := by decide +kernel
theorem dX7_middleLine_6 : decode cX7_middleLine 6 = .ok (.invokevirtual 102, 3) := by decide +kernel
theorem dX7_middleLine_9 : decode cX7_middleLine 9 = .ok (.aload_n 0, 1) := by decide +kernel
theorem dX7_middleLine_10 : decode cX7_middleLine 10 = .ok (.getfield 10, 3) := by decide +kernel
theorem dX7_middleLine_13 : decode cX7_middleLine 13 = .ok (.iconst 1, 1) := by decide +kernel
theorem dX7_middleLine_14 : decode cX7_middleLine 14 = .ok (.iload_n 2, 1) := by decide +kernel
theorem dX7_middleLine_15 : decode cX7_middleLine 15 = .ok (.invokevirtual 102, 3) := by decide +kernel
theorem dX7_middleLine_18 : decode cX7_middleLine 18 = .ok (.aload_n 0, 1) := by decide +kernel
theorem dX7_middleLine_19 : decode cX7_middleLine 19 = .ok (.getfield 10, 3) := by decide +kernel
theorem dX7_middleLine_22 : decode cX7_middleLine 22 = .ok (.iconst 2, 1) := by decide +kernel
theorem dX7_middleLine_23 : decode cX7_middleLine 23 = .ok (.iload_n 3, 1) := by decide +kernel
theorem dX7_middleLine_24 : decode cX7_middleLine 24 = .ok (.invokevirtual 102, 3) := by decide +kernel
theorem dX7_middleLine_27 : decode cX7_middleLine 27 = .ok (.invokestatic 255, 3) := by decide +kernel
theorem dX7_middleLine_30 : decode cX7_middleLine 30 = .ok (.ireturn, 1) := by decide +kernel
theorem dX7_endingPays_0 : decode cX7_endingPays 0 = .ok (.aload_n 0, 1) := by decide +kernel
theorem dX7_endingPays_1 : decode cX7_endingPays 1 = .ok (.getfield 23, 3) := by decide +kernel
theorem dX7_endingPays_4 : decode cX7_endingPays 4 = .ok (.aload_n 0, 1) := by decide +kernel
theorem dX7_endingPays_5 : decode cX7_endingPays 5 = .ok (.iload_n 1, 1) := by decide +kernel
theorem dX7_endingPays_6 : decode cX7_endingPays 6 = .ok (.iload_n 2, 1) := by decide +kernel
theorem dX7_endingPays_7 : decode cX7_endingPays 7 = .ok (.iload_n 3, 1) := by decide +kernel
theorem dX7_endingPays_8 : decode cX7_endingPays 8 = .ok (.invokevirtual 149, 3) := by decide +kernel
theorem dX7_endingPays_11 : decode cX7_endingPays 11 = .ok (.invokevirtual 258, 3) := by decide +kernel
theorem dX7_endingPays_14 : decode cX7_endingPays 14 = .ok (.istore 4, 2) := by decide +kernel
theorem dX7_endingPays_16 : decode cX7_endingPays 16 = .ok (.aload_n 0, 1) := by decide +kernel
theorem dX7_endingPays_17 : decode cX7_endingPays 17 = .ok (.getfield 66, 3) := by decide +kernel
theorem dX7_endingPays_20 : decode cX7_endingPays 20 = .ok (.iconst 2, 1) := by decide +kernel
theorem dX7_endingPays_21 : decode cX7_endingPays 21 = .ok (.if_icmp .lt 46, 3) := by decide +kernel
theorem dX7_endingPays_24 : decode cX7_endingPays 24 = .ok (.iload 4, 2) := by decide +kernel
theorem dX7_endingPays_26 : decode cX7_endingPays 26 = .ok (.aload_n 0, 1) := by decide +kernel
theorem dX7_endingPays_27 : decode cX7_endingPays 27 = .ok (.getfield 23, 3) := by decide +kernel
theorem dX7_endingPays_30 : decode cX7_endingPays 30 = .ok (.aload_n 0, 1) := by decide +kernel
theorem dX7_endingPays_31 : decode cX7_endingPays 31 = .ok (.aload_n 0, 1) := by decide +kernel
theorem dX7_endingPays_32 : decode cX7_endingPays 32 = .ok (.getfield 10, 3) := by decide +kernel
theorem dX7_endingPays_35 : decode cX7_endingPays 35 = .ok (.iconst 0, 1) := by decide +kernel
theorem dX7_endingPays_36 : decode cX7_endingPays 36 = .ok (.iload_n 1, 1) := by decide +kernel
theorem dX7_endingPays_37 : decode cX7_endingPays 37 = .ok (.invokevirtual 261, 3) := by decide +kernel
theorem dX7_endingPays_40 : decode cX7_endingPays 40 = .ok (.aload_n 0, 1) := by decide +kernel
theorem dX7_endingPays_41 : decode cX7_endingPays 41 = .ok (.getfield 10, 3) := by decide +kernel
theorem dX7_endingPays_44 : decode cX7_endingPays 44 = .ok (.iconst 1, 1) := by decide +kernel
theorem dX7_endingPays_45 : decode cX7_endingPays 45 = .ok (.iload_n 2, 1) := by decide +kernel
theorem dX7_endingPays_46 : decode cX7_endingPays 46 = .ok (.invokevirtual 261, 3) := by decide +kernel
theorem dX7_endingPays_49 : decode cX7_endingPays 49 = .ok (.aload_n 0, 1) := by decide +kernel
theorem dX7_endingPays_50 : decode cX7_endingPays 50 = .ok (.getfield 10, 3) := by decide +kernel
theorem dX7_endingPays_53 : decode cX7_endingPays 53 = .ok (.iconst 2, 1) := by decide +kernel
theorem dX7_endingPays_54 : decode cX7_endingPays 54 = .ok (.iload_n 3, 1) := by decide +kernel
theorem dX7_endingPays_55 : decode cX7_endingPays 55 = .ok (.invokevirtual 261, 3) := by decide +kernel
theorem dX7_endingPays_58 : decode cX7_endingPays 58 = .ok (.invokevirtual 149, 3) := by decide +kernel
theorem dX7_endingPays_61 : decode cX7_endingPays 61 = .ok (.invokevirtual 258, 3) := by decide +kernel
theorem dX7_endingPays_64 : decode cX7_endingPays 64 = .ok (.iadd, 1) := by decide +kernel
theorem dX7_endingPays_65 : decode cX7_endingPays 65 = .ok (.istore 4, 2) := by decide +kernel
theorem dX7_endingPays_67 : decode cX7_endingPays 67 = .ok (.aload_n 0, 1) := by decide +kernel
theorem dX7_endingPays_68 : decode cX7_endingPays 68 = .ok (.getfield 66, 3) := by decide +kernel
theorem dX7_endingPays_71 : decode cX7_endingPays 71 = .ok (.iconst 3, 1) := by decide +kernel
theorem dX7_endingPays_72 : decode cX7_endingPays 72 = .ok (.if_icmp .lt 46, 3) := by decide +kernel
theorem dX7_endingPays_75 : decode cX7_endingPays 75 = .ok (.iload 4, 2) := by decide +kernel
theorem dX7_endingPays_77 : decode cX7_endingPays 77 = .ok (.aload_n 0, 1) := by decide +kernel
theorem dX7_endingPays_78 : decode cX7_endingPays 78 = .ok (.getfield 23, 3) := by decide +kernel
theorem dX7_endingPays_81 : decode cX7_endingPays 81 = .ok (.aload_n 0, 1) := by decide +kernel
theorem dX7_endingPays_82 : decode cX7_endingPays 82 = .ok (.aload_n 0, 1) := by decide +kernel
theorem dX7_endingPays_83 : decode cX7_endingPays 83 = .ok (.getfield 10, 3) := by decide +kernel
theorem dX7_endingPays_86 : decode cX7_endingPays 86 = .ok (.iconst 0, 1) := by decide +kernel
theorem dX7_endingPays_87 : decode cX7_endingPays 87 = .ok (.iload_n 1, 1) := by decide +kernel
theorem dX7_endingPays_88 : decode cX7_endingPays 88 = .ok (.invokevirtual 171, 3) := by decide +kernel
theorem dX7_endingPays_91 : decode cX7_endingPays 91 = .ok (.aload_n 0, 1) := by decide +kernel
theorem dX7_endingPays_92 : decode cX7_endingPays 92 = .ok (.getfield 10, 3) := by decide +kernel
theorem dX7_endingPays_95 : decode cX7_endingPays 95 = .ok (.iconst 1, 1) := by decide +kernel
theorem dX7_endingPays_96 : decode cX7_endingPays 96 = .ok (.iload_n 2, 1) := by decide +kernel
theorem dX7_endingPays_97 : decode cX7_endingPays 97 = .ok (.invokevirtual 171, 3) := by decide +kernel
theorem dX7_endingPays_100 : decode cX7_endingPays 100 = .ok (.aload_n 0, 1) := by decide +kernel
theorem dX7_endingPays_101 : decode cX7_endingPays 101 = .ok (.getfield 10, 3) := by decide +kernel
theorem dX7_endingPays_104 : decode cX7_endingPays 104 = .ok (.iconst 2, 1) := by decide +kernel
theorem dX7_endingPays_105 : decode cX7_endingPays 105 = .ok (.iload_n 3, 1) := by decide +kernel
theorem dX7_endingPays_106 : decode cX7_endingPays 106 = .ok (.invokevirtual 171, 3) := by decide +kernel
theorem dX7_endingPays_109 : decode cX7_endingPays 109 = .ok (.invokevirtual 149, 3) := by decide +kernel
theorem dX7_endingPays_112 : decode cX7_endingPays 112 = .ok (.invokevirtual 258, 3) := by decide +kernel
theorem dX7_endingPays_115 : decode cX7_endingPays 115 = .ok (.iadd, 1) := by decide +kernel
theorem dX7_endingPays_116 : decode cX7_endingPays 116 = .ok (.istore 4, 2) := by decide +kernel
theorem dX7_endingPays_118 : decode cX7_endingPays 118 = .ok (.iload 4, 2) := by decide +kernel
theorem dX7_endingPays_120 : decode cX7_endingPays 120 = .ok (.ireturn, 1) := by decide +kernel
theorem dX7_forgetFound_0 : decode cX7_forgetFound 0 = .ok (.aload_n 0, 1) := by decide +kernel
theorem dX7_forgetFound_1 : decode cX7_forgetFound 1 = .ok (.iconst 0, 1) := by decide +kernel
theorem dX7_forgetFound_2 : decode cX7_forgetFound 2 = .ok (.putfield 70, 3) := by decide +kernel
theorem dX7_forgetFound_5 : decode cX7_forgetFound 5 = .ok (.aload_n 0, 1) := by decide +kernel
theorem dX7_forgetFound_6 : decode cX7_forgetFound 6 = .ok (.iconst 0, 1) := by decide +kernel
theorem dX7_forgetFound_7 : decode cX7_forgetFound 7 = .ok (.putfield 74, 3) := by decide +kernel
theorem dX7_forgetFound_10 : decode cX7_forgetFound 10 = .ok (.return_, 1) := by decide +kernel
theorem dX7_surveyEndings_0 : decode cX7_surveyEndings 0 = .ok (.aload_n 0, 1) := by decide +kernel
theorem dX7_surveyEndings_1 : decode cX7_surveyEndings 1 = .ok (.getfield 70, 3) := by decide +kernel
theorem dX7_surveyEndings_4 : decode cX7_surveyEndings 4 = .ok (.ifCond .eq 4, 3) := by decide +kernel
theorem dX7_surveyEndings_7 : decode cX7_surveyEndings 7 = .ok (.return_, 1) := by decide +kernel
theorem dX7_surveyEndings_8 : decode cX7_surveyEndings 8 = .ok (.aload_n 0, 1) := by decide +kernel
theorem dX7_surveyEndings_9 : decode cX7_surveyEndings 9 = .ok (.getfield 30, 3) := by decide +kernel
theorem dX7_surveyEndings_12 : decode cX7_surveyEndings 12 = .ok (.invokevirtual 264, 3) := by decide +kernel
theorem dX7_surveyEndings_15 : decode cX7_surveyEndings 15 = .ok (.iconst 0, 1) := by decide +kernel
theorem dX7_surveyEndings_16 : decode cX7_surveyEndings 16 = .ok (.istore_n 1, 1) := by decide +kernel
theorem dX7_surveyEndings_17 : decode cX7_surveyEndings 17 = .ok (.iload_n 1, 1) := by decide +kernel
theorem dX7_surveyEndings_18 : decode cX7_surveyEndings 18 = .ok (.aload_n 0, 1) := by decide +kernel
theorem dX7_surveyEndings_19 : decode cX7_surveyEndings 19 = .ok (.getfield 10, 3) := by decide +kernel
theorem dX7_surveyEndings_22 : decode cX7_surveyEndings 22 = .ok (.iconst 0, 1) := by decide +kernel
theorem dX7_surveyEndings_23 : decode cX7_surveyEndings 23 = .ok (.invokevirtual 145, 3) := by decide +kernel
theorem dX7_surveyEndings_26 : decode cX7_surveyEndings 26 = .ok (.if_icmp .ge 66, 3) := by decide +kernel
theorem dX7_surveyEndings_29 : decode cX7_surveyEndings 29 = .ok (.iconst 0, 1) := by decide +kernel
theorem dX7_surveyEndings_30 : decode cX7_surveyEndings 30 = .ok (.istore_n 2, 1) := by decide +kernel
theorem dX7_surveyEndings_31 : decode cX7_surveyEndings 31 = .ok (.iload_n 2, 1) := by decide +kernel
theorem dX7_surveyEndings_32 : decode cX7_surveyEndings 32 = .ok (.aload_n 0, 1) := by decide +kernel
theorem dX7_surveyEndings_33 : decode cX7_surveyEndings 33 = .ok (.getfield 10, 3) := by decide +kernel
theorem dX7_surveyEndings_36 : decode cX7_surveyEndings 36 = .ok (.iconst 1, 1) := by decide +kernel
theorem dX7_surveyEndings_37 : decode cX7_surveyEndings 37 = .ok (.invokevirtual 145, 3) := by decide +kernel
theorem dX7_surveyEndings_40 : decode cX7_surveyEndings 40 = .ok (.if_icmp .ge 46, 3) := by decide +kernel
theorem dX7_surveyEndings_43 : decode cX7_surveyEndings 43 = .ok (.iconst 0, 1) := by decide +kernel
theorem dX7_surveyEndings_44 : decode cX7_surveyEndings 44 = .ok (.istore_n 3, 1) := by decide +kernel
theorem dX7_surveyEndings_45 : decode cX7_surveyEndings 45 = .ok (.iload_n 3, 1) := by decide +kernel
theorem dX7_surveyEndings_46 : decode cX7_surveyEndings 46 = .ok (.aload_n 0, 1) := by decide +kernel
theorem dX7_surveyEndings_47 : decode cX7_surveyEndings 47 = .ok (.getfield 10, 3) := by decide +kernel
theorem dX7_surveyEndings_50 : decode cX7_surveyEndings 50 = .ok (.iconst 2, 1) := by decide +kernel
theorem dX7_surveyEndings_51 : decode cX7_surveyEndings 51 = .ok (.invokevirtual 145, 3) := by decide +kernel
theorem dX7_surveyEndings_54 : decode cX7_surveyEndings 54 = .ok (.if_icmp .ge 26, 3) := by decide +kernel
theorem dX7_surveyEndings_57 : decode cX7_surveyEndings 57 = .ok (.aload_n 0, 1) := by decide +kernel
theorem dX7_surveyEndings_58 : decode cX7_surveyEndings 58 = .ok (.getfield 30, 3) := by decide +kernel
theorem dX7_surveyEndings_61 : decode cX7_surveyEndings 61 = .ok (.iload_n 1, 1) := by decide +kernel
theorem dX7_surveyEndings_62 : decode cX7_surveyEndings 62 = .ok (.iload_n 2, 1) := by decide +kernel
theorem dX7_surveyEndings_63 : decode cX7_surveyEndings 63 = .ok (.iload_n 3, 1) := by decide +kernel
theorem dX7_surveyEndings_64 : decode cX7_surveyEndings 64 = .ok (.aload_n 0, 1) := by decide +kernel
theorem dX7_surveyEndings_65 : decode cX7_surveyEndings 65 = .ok (.iload_n 1, 1) := by decide +kernel
theorem dX7_surveyEndings_66 : decode cX7_surveyEndings 66 = .ok (.iload_n 2, 1) := by decide +kernel
theorem dX7_surveyEndings_67 : decode cX7_surveyEndings 67 = .ok (.iload_n 3, 1) := by decide +kernel
theorem dX7_surveyEndings_68 : decode cX7_surveyEndings 68 = .ok (.invokevirtual 131, 3) := by decide +kernel
theorem dX7_surveyEndings_71 : decode cX7_surveyEndings 71 = .ok (.invokevirtual 267, 3) := by decide +kernel
theorem dX7_surveyEndings_74 : decode cX7_surveyEndings 74 = .ok (.iinc 3 1, 3) := by decide +kernel
theorem dX7_surveyEndings_77 : decode cX7_surveyEndings 77 = .ok (.goto (-32), 3) := by decide +kernel
theorem dX7_surveyEndings_80 : decode cX7_surveyEndings 80 = .ok (.iinc 2 1, 3) := by decide +kernel
theorem dX7_surveyEndings_83 : decode cX7_surveyEndings 83 = .ok (.goto (-52), 3) := by decide +kernel
theorem dX7_surveyEndings_86 : decode cX7_surveyEndings 86 = .ok (.iinc 1 1, 3) := by decide +kernel
theorem dX7_surveyEndings_89 : decode cX7_surveyEndings 89 = .ok (.goto (-72), 3) := by decide +kernel
theorem dX7_surveyEndings_92 : decode cX7_surveyEndings 92 = .ok (.aload_n 0, 1) := by decide +kernel
theorem dX7_surveyEndings_93 : decode cX7_surveyEndings 93 = .ok (.iconst 1, 1) := by decide +kernel
theorem dX7_surveyEndings_94 : decode cX7_surveyEndings 94 = .ok (.putfield 70, 3) := by decide +kernel
theorem dX7_surveyEndings_97 : decode cX7_surveyEndings 97 = .ok (.return_, 1) := by decide +kernel
theorem dX7_countPays_0 : decode cX7_countPays 0 = .ok (.aload_n 0, 1) := by decide +kernel
theorem dX7_countPays_1 : decode cX7_countPays 1 = .ok (.getfield 74, 3) := by decide +kernel
theorem dX7_countPays_4 : decode cX7_countPays 4 = .ok (.ifCond .eq 4, 3) := by decide +kernel
theorem dX7_countPays_7 : decode cX7_countPays 7 = .ok (.return_, 1) := by decide +kernel
theorem dX7_countPays_8 : decode cX7_countPays 8 = .ok (.aload_n 0, 1) := by decide +kernel
theorem dX7_countPays_9 : decode cX7_countPays 9 = .ok (.getfield 37, 3) := by decide +kernel
theorem dX7_countPays_12 : decode cX7_countPays 12 = .ok (.invokevirtual 270, 3) := by decide +kernel
theorem dX7_countPays_15 : decode cX7_countPays 15 = .ok (.iconst 0, 1) := by decide +kernel
theorem dX7_countPays_16 : decode cX7_countPays 16 = .ok (.istore_n 1, 1) := by decide +kernel
theorem dX7_countPays_17 : decode cX7_countPays 17 = .ok (.iload_n 1, 1) := by decide +kernel
theorem dX7_countPays_18 : decode cX7_countPays 18 = .ok (.aload_n 0, 1) := by decide +kernel
theorem dX7_countPays_19 : decode cX7_countPays 19 = .ok (.getfield 10, 3) := by decide +kernel
theorem dX7_countPays_22 : decode cX7_countPays 22 = .ok (.iconst 0, 1) := by decide +kernel
theorem dX7_countPays_23 : decode cX7_countPays 23 = .ok (.invokevirtual 145, 3) := by decide +kernel
theorem dX7_countPays_26 : decode cX7_countPays 26 = .ok (.if_icmp .ge 63, 3) := by decide +kernel
theorem dX7_countPays_29 : decode cX7_countPays 29 = .ok (.iconst 0, 1) := by decide +kernel
theorem dX7_countPays_30 : decode cX7_countPays 30 = .ok (.istore_n 2, 1) := by decide +kernel
theorem dX7_countPays_31 : decode cX7_countPays 31 = .ok (.iload_n 2, 1) := by decide +kernel
theorem dX7_countPays_32 : decode cX7_countPays 32 = .ok (.aload_n 0, 1) := by decide +kernel
theorem dX7_countPays_33 : decode cX7_countPays 33 = .ok (.getfield 10, 3) := by decide +kernel
theorem dX7_countPays_36 : decode cX7_countPays 36 = .ok (.iconst 1, 1) := by decide +kernel
theorem dX7_countPays_37 : decode cX7_countPays 37 = .ok (.invokevirtual 145, 3) := by decide +kernel
theorem dX7_countPays_40 : decode cX7_countPays 40 = .ok (.if_icmp .ge 43, 3) := by decide +kernel
theorem dX7_countPays_43 : decode cX7_countPays 43 = .ok (.iconst 0, 1) := by decide +kernel
theorem dX7_countPays_44 : decode cX7_countPays 44 = .ok (.istore_n 3, 1) := by decide +kernel
theorem dX7_countPays_45 : decode cX7_countPays 45 = .ok (.iload_n 3, 1) := by decide +kernel
theorem dX7_countPays_46 : decode cX7_countPays 46 = .ok (.aload_n 0, 1) := by decide +kernel
theorem dX7_countPays_47 : decode cX7_countPays 47 = .ok (.getfield 10, 3) := by decide +kernel
theorem dX7_countPays_50 : decode cX7_countPays 50 = .ok (.iconst 2, 1) := by decide +kernel
theorem dX7_countPays_51 : decode cX7_countPays 51 = .ok (.invokevirtual 145, 3) := by decide +kernel
theorem dX7_countPays_54 : decode cX7_countPays 54 = .ok (.if_icmp .ge 23, 3) := by decide +kernel
theorem dX7_countPays_57 : decode cX7_countPays 57 = .ok (.aload_n 0, 1) := by decide +kernel
theorem dX7_countPays_58 : decode cX7_countPays 58 = .ok (.getfield 37, 3) := by decide +kernel
theorem dX7_countPays_61 : decode cX7_countPays 61 = .ok (.aload_n 0, 1) := by decide +kernel
theorem dX7_countPays_62 : decode cX7_countPays 62 = .ok (.iload_n 1, 1) := by decide +kernel
theorem dX7_countPays_63 : decode cX7_countPays 63 = .ok (.iload_n 2, 1) := by decide +kernel
theorem dX7_countPays_64 : decode cX7_countPays 64 = .ok (.iload_n 3, 1) := by decide +kernel
theorem dX7_countPays_65 : decode cX7_countPays 65 = .ok (.invokevirtual 131, 3) := by decide +kernel
theorem dX7_countPays_68 : decode cX7_countPays 68 = .ok (.invokevirtual 271, 3) := by decide +kernel
theorem dX7_countPays_71 : decode cX7_countPays 71 = .ok (.iinc 3 1, 3) := by decide +kernel
theorem dX7_countPays_74 : decode cX7_countPays 74 = .ok (.goto (-29), 3) := by decide +kernel
theorem dX7_countPays_77 : decode cX7_countPays 77 = .ok (.iinc 2 1, 3) := by decide +kernel
theorem dX7_countPays_80 : decode cX7_countPays 80 = .ok (.goto (-49), 3) := by decide +kernel
theorem dX7_countPays_83 : decode cX7_countPays 83 = .ok (.iinc 1 1, 3) := by decide +kernel
theorem dX7_countPays_86 : decode cX7_countPays 86 = .ok (.goto (-69), 3) := by decide +kernel
theorem dX7_countPays_89 : decode cX7_countPays 89 = .ok (.aload_n 0, 1) := by decide +kernel
theorem dX7_countPays_90 : decode cX7_countPays 90 = .ok (.iconst 1, 1) := by decide +kernel
theorem dX7_countPays_91 : decode cX7_countPays 91 = .ok (.putfield 74, 3) := by decide +kernel
theorem dX7_countPays_94 : decode cX7_countPays 94 = .ok (.return_, 1) := by decide +kernel
theorem dX7_total_0 : decode cX7_total 0 = .ok (.aload_n 0, 1) := by decide +kernel
theorem dX7_total_1 : decode cX7_total 1 = .ok (.invokevirtual 161, 3) := by decide +kernel
theorem dX7_total_4 : decode cX7_total 4 = .ok (.iload_n 1, 1) := by decide +kernel
theorem dX7_total_5 : decode cX7_total 5 = .ok (.tableswitch 53 0 2 #[27, 36, 44], 27) := by decide +kernel
theorem dX7_total_32 : decode cX7_total 32 = .ok (.aload_n 0, 1) := by decide +kernel
theorem dX7_total_33 : decode cX7_total 33 = .ok (.getfield 10, 3) := by decide +kernel
theorem dX7_total_36 : decode cX7_total 36 = .ok (.invokevirtual 181, 3) := by decide +kernel
theorem dX7_total_39 : decode cX7_total 39 = .ok (.i2l, 1) := by decide +kernel
theorem dX7_total_40 : decode cX7_total 40 = .ok (.lreturn, 1) := by decide +kernel
theorem dX7_total_41 : decode cX7_total 41 = .ok (.aload_n 0, 1) := by decide +kernel
theorem dX7_total_42 : decode cX7_total 42 = .ok (.getfield 30, 3) := by decide +kernel
theorem dX7_total_45 : decode cX7_total 45 = .ok (.getfield 273, 3) := by decide +kernel
theorem dX7_total_48 : decode cX7_total 48 = .ok (.lreturn, 1) := by decide +kernel
theorem dX7_total_49 : decode cX7_total 49 = .ok (.aload_n 0, 1) := by decide +kernel
theorem dX7_total_50 : decode cX7_total 50 = .ok (.getfield 30, 3) := by decide +kernel
theorem dX7_total_53 : decode cX7_total 53 = .ok (.getfield 277, 3) := by decide +kernel
theorem dX7_total_56 : decode cX7_total 56 = .ok (.i2l, 1) := by decide +kernel
theorem dX7_total_57 : decode cX7_total 57 = .ok (.lreturn, 1) := by decide +kernel
theorem dX7_total_58 : decode cX7_total 58 = .ok (.aload_n 0, 1) := by decide +kernel
theorem dX7_total_59 : decode cX7_total 59 = .ok (.getfield 30, 3) := by decide +kernel
theorem dX7_total_62 : decode cX7_total 62 = .ok (.getfield 273, 3) := by decide +kernel
theorem dX7_total_65 : decode cX7_total 65 = .ok (.ldc2_w 179, 3) := by decide +kernel
theorem dX7_total_68 : decode cX7_total 68 = .ok (.lmul, 1) := by decide +kernel
theorem dX7_total_69 : decode cX7_total 69 = .ok (.aload_n 0, 1) := by decide +kernel
theorem dX7_total_70 : decode cX7_total 70 = .ok (.getfield 10, 3) := by decide +kernel
theorem dX7_total_73 : decode cX7_total 73 = .ok (.invokevirtual 181, 3) := by decide +kernel
theorem dX7_total_76 : decode cX7_total 76 = .ok (.i2l, 1) := by decide +kernel
theorem dX7_total_77 : decode cX7_total 77 = .ok (.aload_n 0, 1) := by decide +kernel
theorem dX7_total_78 : decode cX7_total 78 = .ok (.getfield 66, 3) := by decide +kernel
theorem dX7_total_81 : decode cX7_total 81 = .ok (.i2l, 1) := by decide +kernel
theorem dX7_total_82 : decode cX7_total 82 = .ok (.lmul, 1) := by decide +kernel
theorem dX7_total_83 : decode cX7_total 83 = .ok (.invokestatic 184, 3) := by decide +kernel
theorem dX7_total_86 : decode cX7_total 86 = .ok (.lreturn, 1) := by decide +kernel
theorem dX7_worthOf_0 : decode cX7_worthOf 0 = .ok (.iload 4, 2) := by decide +kernel
theorem dX7_worthOf_2 : decode cX7_worthOf 2 = .ok (.bipush 7, 2) := by decide +kernel
theorem dX7_worthOf_4 : decode cX7_worthOf 4 = .ok (.if_icmp .ne 14, 3) := by decide +kernel
theorem dX7_worthOf_7 : decode cX7_worthOf 7 = .ok (.aload_n 0, 1) := by decide +kernel
theorem dX7_worthOf_8 : decode cX7_worthOf 8 = .ok (.iload_n 1, 1) := by decide +kernel
theorem dX7_worthOf_9 : decode cX7_worthOf 9 = .ok (.iload_n 2, 1) := by decide +kernel
theorem dX7_worthOf_10 : decode cX7_worthOf 10 = .ok (.iload_n 3, 1) := by decide +kernel
theorem dX7_worthOf_11 : decode cX7_worthOf 11 = .ok (.invokevirtual 131, 3) := by decide +kernel
theorem dX7_worthOf_14 : decode cX7_worthOf 14 = .ok (.i2l, 1) := by decide +kernel
theorem dX7_worthOf_15 : decode cX7_worthOf 15 = .ok (.goto 15, 3) := by decide +kernel
theorem dX7_worthOf_18 : decode cX7_worthOf 18 = .ok (.aload_n 0, 1) := by decide +kernel
theorem dX7_worthOf_19 : decode cX7_worthOf 19 = .ok (.getfield 30, 3) := by decide +kernel
theorem dX7_worthOf_22 : decode cX7_worthOf 22 = .ok (.iload_n 1, 1) := by decide +kernel
theorem dX7_worthOf_23 : decode cX7_worthOf 23 = .ok (.iload_n 2, 1) := by decide +kernel
theorem dX7_worthOf_24 : decode cX7_worthOf 24 = .ok (.iload_n 3, 1) := by decide +kernel
theorem dX7_worthOf_25 : decode cX7_worthOf 25 = .ok (.iload 4, 2) := by decide +kernel
theorem dX7_worthOf_27 : decode cX7_worthOf 27 = .ok (.invokevirtual 280, 3) := by decide +kernel
theorem dX7_worthOf_30 : decode cX7_worthOf 30 = .ok (.lstore 5, 2) := by decide +kernel
theorem dX7_worthOf_32 : decode cX7_worthOf 32 = .ok (.lload 5, 2) := by decide +kernel
theorem dX7_worthOf_34 : decode cX7_worthOf 34 = .ok (.aload_n 0, 1) := by decide +kernel
theorem dX7_worthOf_35 : decode cX7_worthOf 35 = .ok (.getfield 10, 3) := by decide +kernel
theorem dX7_worthOf_38 : decode cX7_worthOf 38 = .ok (.iload 4, 2) := by decide +kernel
theorem dX7_worthOf_40 : decode cX7_worthOf 40 = .ok (.invokevirtual 283, 3) := by decide +kernel
theorem dX7_worthOf_43 : decode cX7_worthOf 43 = .ok (.i2l, 1) := by decide +kernel
theorem dX7_worthOf_44 : decode cX7_worthOf 44 = .ok (.lmul, 1) := by decide +kernel
theorem dX7_worthOf_45 : decode cX7_worthOf 45 = .ok (.lreturn, 1) := by decide +kernel
theorem dX7_bestHold_0 : decode cX7_bestHold 0 = .ok (.iconst 0, 1) := by decide +kernel
theorem dX7_bestHold_1 : decode cX7_bestHold 1 = .ok (.istore 4, 2) := by decide +kernel
theorem dX7_bestHold_3 : decode cX7_bestHold 3 = .ok (.aload_n 0, 1) := by decide +kernel
theorem dX7_bestHold_4 : decode cX7_bestHold 4 = .ok (.iload_n 1, 1) := by decide +kernel
theorem dX7_bestHold_5 : decode cX7_bestHold 5 = .ok (.iload_n 2, 1) := by decide +kernel
theorem dX7_bestHold_6 : decode cX7_bestHold 6 = .ok (.iload_n 3, 1) := by decide +kernel
theorem dX7_bestHold_7 : decode cX7_bestHold 7 = .ok (.iconst 0, 1) := by decide +kernel
theorem dX7_bestHold_8 : decode cX7_bestHold 8 = .ok (.invokevirtual 164, 3) := by decide +kernel
theorem dX7_bestHold_11 : decode cX7_bestHold 11 = .ok (.lstore 5, 2) := by decide +kernel
theorem dX7_bestHold_13 : decode cX7_bestHold 13 = .ok (.iconst 1, 1) := by decide +kernel
theorem dX7_bestHold_14 : decode cX7_bestHold 14 = .ok (.istore 7, 2) := by decide +kernel
theorem dX7_bestHold_16 : decode cX7_bestHold 16 = .ok (.iload 7, 2) := by decide +kernel
theorem dX7_bestHold_18 : decode cX7_bestHold 18 = .ok (.bipush 7, 2) := by decide +kernel
theorem dX7_bestHold_20 : decode cX7_bestHold 20 = .ok (.if_icmp .gt 36, 3) := by decide +kernel
theorem dX7_bestHold_23 : decode cX7_bestHold 23 = .ok (.aload_n 0, 1) := by decide +kernel
theorem dX7_bestHold_24 : decode cX7_bestHold 24 = .ok (.iload_n 1, 1) := by decide +kernel
theorem dX7_bestHold_25 : decode cX7_bestHold 25 = .ok (.iload_n 2, 1) := by decide +kernel
theorem dX7_bestHold_26 : decode cX7_bestHold 26 = .ok (.iload_n 3, 1) := by decide +kernel
theorem dX7_bestHold_27 : decode cX7_bestHold 27 = .ok (.iload 7, 2) := by decide +kernel
theorem dX7_bestHold_29 : decode cX7_bestHold 29 = .ok (.invokevirtual 164, 3) := by decide +kernel
theorem dX7_bestHold_32 : decode cX7_bestHold 32 = .ok (.lstore 8, 2) := by decide +kernel
theorem dX7_bestHold_34 : decode cX7_bestHold 34 = .ok (.lload 8, 2) := by decide +kernel
theorem dX7_bestHold_36 : decode cX7_bestHold 36 = .ok (.lload 5, 2) := by decide +kernel
theorem dX7_bestHold_38 : decode cX7_bestHold 38 = .ok (.lcmp, 1) := by decide +kernel
theorem dX7_bestHold_39 : decode cX7_bestHold 39 = .ok (.ifCond .le 11, 3) := by decide +kernel
theorem dX7_bestHold_42 : decode cX7_bestHold 42 = .ok (.lload 8, 2) := by decide +kernel
theorem dX7_bestHold_44 : decode cX7_bestHold 44 = .ok (.lstore 5, 2) := by decide +kernel
theorem dX7_bestHold_46 : decode cX7_bestHold 46 = .ok (.iload 7, 2) := by decide +kernel
theorem dX7_bestHold_48 : decode cX7_bestHold 48 = .ok (.istore 4, 2) := by decide +kernel
theorem dX7_bestHold_50 : decode cX7_bestHold 50 = .ok (.iinc 7 1, 3) := by decide +kernel
theorem dX7_bestHold_53 : decode cX7_bestHold 53 = .ok (.goto (-37), 3) := by decide +kernel
theorem dX7_bestHold_56 : decode cX7_bestHold 56 = .ok (.iload 4, 2) := by decide +kernel
theorem dX7_bestHold_58 : decode cX7_bestHold 58 = .ok (.ireturn, 1) := by decide +kernel
theorem dX7_playedBest_0 : decode cX7_playedBest 0 = .ok (.aload_n 0, 1) := by decide +kernel
theorem dX7_playedBest_1 : decode cX7_playedBest 1 = .ok (.invokevirtual 161, 3) := by decide +kernel
theorem dX7_playedBest_4 : decode cX7_playedBest 4 = .ok (.lconst 0, 1) := by decide +kernel
theorem dX7_playedBest_5 : decode cX7_playedBest 5 = .ok (.lstore_n 1, 1) := by decide +kernel
theorem dX7_playedBest_6 : decode cX7_playedBest 6 = .ok (.iconst 0, 1) := by decide +kernel
theorem dX7_playedBest_7 : decode cX7_playedBest 7 = .ok (.istore_n 3, 1) := by decide +kernel
theorem dX7_playedBest_8 : decode cX7_playedBest 8 = .ok (.iload_n 3, 1) := by decide +kernel
theorem dX7_playedBest_9 : decode cX7_playedBest 9 = .ok (.aload_n 0, 1) := by decide +kernel
theorem dX7_playedBest_10 : decode cX7_playedBest 10 = .ok (.getfield 10, 3) := by decide +kernel
theorem dX7_playedBest_13 : decode cX7_playedBest 13 = .ok (.iconst 0, 1) := by decide +kernel
theorem dX7_playedBest_14 : decode cX7_playedBest 14 = .ok (.invokevirtual 145, 3) := by decide +kernel
theorem dX7_playedBest_17 : decode cX7_playedBest 17 = .ok (.if_icmp .ge 74, 3) := by decide +kernel
theorem dX7_playedBest_20 : decode cX7_playedBest 20 = .ok (.iconst 0, 1) := by decide +kernel
theorem dX7_playedBest_21 : decode cX7_playedBest 21 = .ok (.istore 4, 2) := by decide +kernel
theorem dX7_playedBest_23 : decode cX7_playedBest 23 = .ok (.iload 4, 2) := by decide +kernel
theorem dX7_playedBest_25 : decode cX7_playedBest 25 = .ok (.aload_n 0, 1) := by decide +kernel
theorem dX7_playedBest_26 : decode cX7_playedBest 26 = .ok (.getfield 10, 3) := by decide +kernel
theorem dX7_playedBest_29 : decode cX7_playedBest 29 = .ok (.iconst 1, 1) := by decide +kernel
theorem dX7_playedBest_30 : decode cX7_playedBest 30 = .ok (.invokevirtual 145, 3) := by decide +kernel
theorem dX7_playedBest_33 : decode cX7_playedBest 33 = .ok (.if_icmp .ge 52, 3) := by decide +kernel
theorem dX7_playedBest_36 : decode cX7_playedBest 36 = .ok (.iconst 0, 1) := by decide +kernel
theorem dX7_playedBest_37 : decode cX7_playedBest 37 = .ok (.istore 5, 2) := by decide +kernel
theorem dX7_playedBest_39 : decode cX7_playedBest 39 = .ok (.iload 5, 2) := by decide +kernel
theorem dX7_playedBest_41 : decode cX7_playedBest 41 = .ok (.aload_n 0, 1) := by decide +kernel
theorem dX7_playedBest_42 : decode cX7_playedBest 42 = .ok (.getfield 10, 3) := by decide +kernel
theorem dX7_playedBest_45 : decode cX7_playedBest 45 = .ok (.iconst 2, 1) := by decide +kernel
theorem dX7_playedBest_46 : decode cX7_playedBest 46 = .ok (.invokevirtual 145, 3) := by decide +kernel
theorem dX7_playedBest_49 : decode cX7_playedBest 49 = .ok (.if_icmp .ge 30, 3) := by decide +kernel
theorem dX7_playedBest_52 : decode cX7_playedBest 52 = .ok (.lload_n 1, 1) := by decide +kernel
theorem dX7_playedBest_53 : decode cX7_playedBest 53 = .ok (.aload_n 0, 1) := by decide +kernel
theorem dX7_playedBest_54 : decode cX7_playedBest 54 = .ok (.iload_n 3, 1) := by decide +kernel
theorem dX7_playedBest_55 : decode cX7_playedBest 55 = .ok (.iload 4, 2) := by decide +kernel
theorem dX7_playedBest_57 : decode cX7_playedBest 57 = .ok (.iload 5, 2) := by decide +kernel
theorem dX7_playedBest_59 : decode cX7_playedBest 59 = .ok (.aload_n 0, 1) := by decide +kernel
theorem dX7_playedBest_60 : decode cX7_playedBest 60 = .ok (.iload_n 3, 1) := by decide +kernel
theorem dX7_playedBest_61 : decode cX7_playedBest 61 = .ok (.iload 4, 2) := by decide +kernel
theorem dX7_playedBest_63 : decode cX7_playedBest 63 = .ok (.iload 5, 2) := by decide +kernel
theorem dX7_playedBest_65 : decode cX7_playedBest 65 = .ok (.invokevirtual 168, 3) := by decide +kernel
theorem dX7_playedBest_68 : decode cX7_playedBest 68 = .ok (.invokevirtual 164, 3) := by decide +kernel
theorem dX7_playedBest_71 : decode cX7_playedBest 71 = .ok (.ladd, 1) := by decide +kernel
theorem dX7_playedBest_72 : decode cX7_playedBest 72 = .ok (.lstore_n 1, 1) := by decide +kernel
theorem dX7_playedBest_73 : decode cX7_playedBest 73 = .ok (.iinc 5 1, 3) := by decide +kernel
theorem dX7_playedBest_76 : decode cX7_playedBest 76 = .ok (.goto (-37), 3) := by decide +kernel
theorem dX7_playedBest_79 : decode cX7_playedBest 79 = .ok (.iinc 4 1, 3) := by decide +kernel
theorem dX7_playedBest_82 : decode cX7_playedBest 82 = .ok (.goto (-59), 3) := by decide +kernel
theorem dX7_playedBest_85 : decode cX7_playedBest 85 = .ok (.iinc 3 1, 3) := by decide +kernel
theorem dX7_playedBest_88 : decode cX7_playedBest 88 = .ok (.goto (-80), 3) := by decide +kernel
theorem dX7_playedBest_91 : decode cX7_playedBest 91 = .ok (.lload_n 1, 1) := by decide +kernel
theorem dX7_playedBest_92 : decode cX7_playedBest 92 = .ok (.lreturn, 1) := by decide +kernel
theorem dX7_weighPictures_0 : decode cX7_weighPictures 0 = .ok (.iload_n 1, 1) := by decide +kernel
theorem dX7_weighPictures_1 : decode cX7_weighPictures 1 = .ok (.ifCond .ne 7, 3) := by decide +kernel
theorem dX7_weighPictures_4 : decode cX7_weighPictures 4 = .ok (.iconst 1, 1) := by decide +kernel
theorem dX7_weighPictures_5 : decode cX7_weighPictures 5 = .ok (.goto 4, 3) := by decide +kernel
theorem dX7_weighPictures_8 : decode cX7_weighPictures 8 = .ok (.iconst 0, 1) := by decide +kernel
theorem dX7_weighPictures_9 : decode cX7_weighPictures 9 = .ok (.istore_n 2, 1) := by decide +kernel
theorem dX7_weighPictures_10 : decode cX7_weighPictures 10 = .ok (.iload_n 1, 1) := by decide +kernel
theorem dX7_weighPictures_11 : decode cX7_weighPictures 11 = .ok (.iconst 2, 1) := by decide +kernel
theorem dX7_weighPictures_12 : decode cX7_weighPictures 12 = .ok (.if_icmp .ne 7, 3) := by decide +kernel
theorem dX7_weighPictures_15 : decode cX7_weighPictures 15 = .ok (.iconst 1, 1) := by decide +kernel
theorem dX7_weighPictures_16 : decode cX7_weighPictures 16 = .ok (.goto 4, 3) := by decide +kernel
theorem dX7_weighPictures_19 : decode cX7_weighPictures 19 = .ok (.iconst 2, 1) := by decide +kernel
theorem dX7_weighPictures_20 : decode cX7_weighPictures 20 = .ok (.istore_n 3, 1) := by decide +kernel
theorem dX7_weighPictures_21 : decode cX7_weighPictures 21 = .ok (.iconst 0, 1) := by decide +kernel
theorem dX7_weighPictures_22 : decode cX7_weighPictures 22 = .ok (.istore 4, 2) := by decide +kernel
theorem dX7_weighPictures_24 : decode cX7_weighPictures 24 = .ok (.iload 4, 2) := by decide +kernel
theorem dX7_weighPictures_26 : decode cX7_weighPictures 26 = .ok (.bipush 8, 2) := by decide +kernel
theorem dX7_weighPictures_28 : decode cX7_weighPictures 28 = .ok (.if_icmp .ge 148, 3) := by decide +kernel
theorem dX7_weighPictures_31 : decode cX7_weighPictures 31 = .ok (.lconst 0, 1) := by decide +kernel
theorem dX7_weighPictures_32 : decode cX7_weighPictures 32 = .ok (.lstore 5, 2) := by decide +kernel
theorem dX7_weighPictures_34 : decode cX7_weighPictures 34 = .ok (.iconst 0, 1) := by decide +kernel
theorem dX7_weighPictures_35 : decode cX7_weighPictures 35 = .ok (.istore 7, 2) := by decide +kernel
theorem dX7_weighPictures_37 : decode cX7_weighPictures 37 = .ok (.iload 7, 2) := by decide +kernel
theorem dX7_weighPictures_39 : decode cX7_weighPictures 39 = .ok (.aload_n 0, 1) := by decide +kernel
theorem dX7_weighPictures_40 : decode cX7_weighPictures 40 = .ok (.getfield 10, 3) := by decide +kernel
theorem dX7_weighPictures_43 : decode cX7_weighPictures 43 = .ok (.iload_n 2, 1) := by decide +kernel
theorem dX7_weighPictures_44 : decode cX7_weighPictures 44 = .ok (.invokevirtual 145, 3) := by decide +kernel
theorem dX7_weighPictures_47 : decode cX7_weighPictures 47 = .ok (.if_icmp .ge 114, 3) := by decide +kernel
theorem dX7_weighPictures_50 : decode cX7_weighPictures 50 = .ok (.aload_n 0, 1) := by decide +kernel
theorem dX7_weighPictures_51 : decode cX7_weighPictures 51 = .ok (.getfield 10, 3) := by decide +kernel
theorem dX7_weighPictures_54 : decode cX7_weighPictures 54 = .ok (.iload_n 2, 1) := by decide +kernel
theorem dX7_weighPictures_55 : decode cX7_weighPictures 55 = .ok (.iload 7, 2) := by decide +kernel
theorem dX7_weighPictures_57 : decode cX7_weighPictures 57 = .ok (.invokevirtual 102, 3) := by decide +kernel
theorem dX7_weighPictures_60 : decode cX7_weighPictures 60 = .ok (.istore 8, 2) := by decide +kernel
theorem dX7_weighPictures_62 : decode cX7_weighPictures 62 = .ok (.iconst 0, 1) := by decide +kernel
theorem dX7_weighPictures_63 : decode cX7_weighPictures 63 = .ok (.istore 9, 2) := by decide +kernel
theorem dX7_weighPictures_65 : decode cX7_weighPictures 65 = .ok (.iload 9, 2) := by decide +kernel
theorem dX7_weighPictures_67 : decode cX7_weighPictures 67 = .ok (.aload_n 0, 1) := by decide +kernel
theorem dX7_weighPictures_68 : decode cX7_weighPictures 68 = .ok (.getfield 10, 3) := by decide +kernel
theorem dX7_weighPictures_71 : decode cX7_weighPictures 71 = .ok (.iload_n 3, 1) := by decide +kernel
theorem dX7_weighPictures_72 : decode cX7_weighPictures 72 = .ok (.invokevirtual 145, 3) := by decide +kernel
theorem dX7_weighPictures_75 : decode cX7_weighPictures 75 = .ok (.if_icmp .ge 80, 3) := by decide +kernel
theorem dX7_weighPictures_78 : decode cX7_weighPictures 78 = .ok (.aload_n 0, 1) := by decide +kernel
theorem dX7_weighPictures_79 : decode cX7_weighPictures 79 = .ok (.getfield 10, 3) := by decide +kernel
theorem dX7_weighPictures_82 : decode cX7_weighPictures 82 = .ok (.iload_n 3, 1) := by decide +kernel
theorem dX7_weighPictures_83 : decode cX7_weighPictures 83 = .ok (.iload 9, 2) := by decide +kernel
theorem dX7_weighPictures_85 : decode cX7_weighPictures 85 = .ok (.invokevirtual 102, 3) := by decide +kernel
theorem dX7_weighPictures_88 : decode cX7_weighPictures 88 = .ok (.istore 10, 2) := by decide +kernel
theorem dX7_weighPictures_90 : decode cX7_weighPictures 90 = .ok (.iload_n 1, 1) := by decide +kernel
theorem dX7_weighPictures_91 : decode cX7_weighPictures 91 = .ok (.ifCond .ne 15, 3) := by decide +kernel
theorem dX7_weighPictures_94 : decode cX7_weighPictures 94 = .ok (.iload 4, 2) := by decide +kernel
theorem dX7_weighPictures_96 : decode cX7_weighPictures 96 = .ok (.iload 8, 2) := by decide +kernel
theorem dX7_weighPictures_98 : decode cX7_weighPictures 98 = .ok (.iload 10, 2) := by decide +kernel
theorem dX7_weighPictures_100 : decode cX7_weighPictures 100 = .ok (.invokestatic 255, 3) := by decide +kernel
theorem dX7_weighPictures_103 : decode cX7_weighPictures 103 = .ok (.goto 29, 3) := by decide +kernel
theorem dX7_weighPictures_106 : decode cX7_weighPictures 106 = .ok (.iload_n 1, 1) := by decide +kernel
theorem dX7_weighPictures_107 : decode cX7_weighPictures 107 = .ok (.iconst 1, 1) := by decide +kernel
theorem dX7_weighPictures_108 : decode cX7_weighPictures 108 = .ok (.if_icmp .ne 15, 3) := by decide +kernel
theorem dX7_weighPictures_111 : decode cX7_weighPictures 111 = .ok (.iload 8, 2) := by decide +kernel
theorem dX7_weighPictures_113 : decode cX7_weighPictures 113 = .ok (.iload 4, 2) := by decide +kernel
theorem dX7_weighPictures_115 : decode cX7_weighPictures 115 = .ok (.iload 10, 2) := by decide +kernel
theorem dX7_weighPictures_117 : decode cX7_weighPictures 117 = .ok (.invokestatic 255, 3) := by decide +kernel
theorem dX7_weighPictures_120 : decode cX7_weighPictures 120 = .ok (.goto 12, 3) := by decide +kernel
theorem dX7_weighPictures_123 : decode cX7_weighPictures 123 = .ok (.iload 8, 2) := by decide +kernel
theorem dX7_weighPictures_125 : decode cX7_weighPictures 125 = .ok (.iload 10, 2) := by decide +kernel
theorem dX7_weighPictures_127 : decode cX7_weighPictures 127 = .ok (.iload 4, 2) := by decide +kernel
theorem dX7_weighPictures_129 : decode cX7_weighPictures 129 = .ok (.invokestatic 255, 3) := by decide +kernel
theorem dX7_weighPictures_132 : decode cX7_weighPictures 132 = .ok (.istore 11, 2) := by decide +kernel
theorem dX7_weighPictures_134 : decode cX7_weighPictures 134 = .ok (.lload 5, 2) := by decide +kernel
theorem dX7_weighPictures_136 : decode cX7_weighPictures 136 = .ok (.aload_n 0, 1) := by decide +kernel
theorem dX7_weighPictures_137 : decode cX7_weighPictures 137 = .ok (.getfield 23, 3) := by decide +kernel
theorem dX7_weighPictures_140 : decode cX7_weighPictures 140 = .ok (.iload 11, 2) := by decide +kernel
theorem dX7_weighPictures_142 : decode cX7_weighPictures 142 = .ok (.invokevirtual 258, 3) := by decide +kernel
theorem dX7_weighPictures_145 : decode cX7_weighPictures 145 = .ok (.i2l, 1) := by decide +kernel
theorem dX7_weighPictures_146 : decode cX7_weighPictures 146 = .ok (.ladd, 1) := by decide +kernel
theorem dX7_weighPictures_147 : decode cX7_weighPictures 147 = .ok (.lstore 5, 2) := by decide +kernel
theorem dX7_weighPictures_149 : decode cX7_weighPictures 149 = .ok (.iinc 9 1, 3) := by decide +kernel
theorem dX7_weighPictures_152 : decode cX7_weighPictures 152 = .ok (.goto (-87), 3) := by decide +kernel
theorem dX7_weighPictures_155 : decode cX7_weighPictures 155 = .ok (.iinc 7 1, 3) := by decide +kernel
theorem dX7_weighPictures_158 : decode cX7_weighPictures 158 = .ok (.goto (-121), 3) := by decide +kernel
theorem dX7_weighPictures_161 : decode cX7_weighPictures 161 = .ok (.aload_n 0, 1) := by decide +kernel
theorem dX7_weighPictures_162 : decode cX7_weighPictures 162 = .ok (.getfield 62, 3) := by decide +kernel
theorem dX7_weighPictures_165 : decode cX7_weighPictures 165 = .ok (.iload 4, 2) := by decide +kernel
theorem dX7_weighPictures_167 : decode cX7_weighPictures 167 = .ok (.lload 5, 2) := by decide +kernel
theorem dX7_weighPictures_169 : decode cX7_weighPictures 169 = .ok (.lastore, 1) := by decide +kernel
theorem dX7_weighPictures_170 : decode cX7_weighPictures 170 = .ok (.iinc 4 1, 3) := by decide +kernel
theorem dX7_weighPictures_173 : decode cX7_weighPictures 173 = .ok (.goto (-149), 3) := by decide +kernel
theorem dX7_weighPictures_176 : decode cX7_weighPictures 176 = .ok (.return_, 1) := by decide +kernel
theorem dX7_bitsOf_0 : decode cX7_bitsOf 0 = .ok (.dload_n 0, 1) := by decide +kernel
theorem dX7_bitsOf_1 : decode cX7_bitsOf 1 = .ok (.dconst 0, 1) := by decide +kernel
theorem dX7_bitsOf_2 : decode cX7_bitsOf 2 = .ok (.dcmp .g, 1) := by decide +kernel
theorem dX7_bitsOf_3 : decode cX7_bitsOf 3 = .ok (.ifCond .gt 5, 3) := by decide +kernel
theorem dX7_bitsOf_6 : decode cX7_bitsOf 6 = .ok (.lconst 0, 1) := by decide +kernel
theorem dX7_bitsOf_7 : decode cX7_bitsOf 7 = .ok (.lreturn, 1) := by decide +kernel
theorem dX7_bitsOf_8 : decode cX7_bitsOf 8 = .ok (.dload_n 0, 1) := by decide +kernel
theorem dX7_bitsOf_9 : decode cX7_bitsOf 9 = .ok (.dstore_n 2, 1) := by decide +kernel
theorem dX7_bitsOf_10 : decode cX7_bitsOf 10 = .ok (.ldc2_w 286, 3) := by decide +kernel
theorem dX7_bitsOf_13 : decode cX7_bitsOf 13 = .ok (.lstore 4, 2) := by decide +kernel
theorem dX7_bitsOf_15 : decode cX7_bitsOf 15 = .ok (.dload_n 2, 1) := by decide +kernel
theorem dX7_bitsOf_16 : decode cX7_bitsOf 16 = .ok (.dconst 1, 1) := by decide +kernel
theorem dX7_bitsOf_17 : decode cX7_bitsOf 17 = .ok (.dcmp .g, 1) := by decide +kernel
theorem dX7_bitsOf_18 : decode cX7_bitsOf 18 = .ok (.ifCond .ge 25, 3) := by decide +kernel
theorem dX7_bitsOf_21 : decode cX7_bitsOf 21 = .ok (.lload 4, 2) := by decide +kernel
theorem dX7_bitsOf_23 : decode cX7_bitsOf 23 = .ok (.lconst 1, 1) := by decide +kernel
theorem dX7_bitsOf_24 : decode cX7_bitsOf 24 = .ok (.lcmp, 1) := by decide +kernel
theorem dX7_bitsOf_25 : decode cX7_bitsOf 25 = .ok (.ifCond .le 18, 3) := by decide +kernel
theorem dX7_bitsOf_28 : decode cX7_bitsOf 28 = .ok (.dload_n 2, 1) := by decide +kernel
theorem dX7_bitsOf_29 : decode cX7_bitsOf 29 = .ok (.ldc2_w 288, 3) := by decide +kernel
theorem dX7_bitsOf_32 : decode cX7_bitsOf 32 = .ok (.dmul, 1) := by decide +kernel
theorem dX7_bitsOf_33 : decode cX7_bitsOf 33 = .ok (.dstore_n 2, 1) := by decide +kernel
theorem dX7_bitsOf_34 : decode cX7_bitsOf 34 = .ok (.lload 4, 2) := by decide +kernel
theorem dX7_bitsOf_36 : decode cX7_bitsOf 36 = .ok (.lconst 1, 1) := by decide +kernel
theorem dX7_bitsOf_37 : decode cX7_bitsOf 37 = .ok (.lsub, 1) := by decide +kernel
theorem dX7_bitsOf_38 : decode cX7_bitsOf 38 = .ok (.lstore 4, 2) := by decide +kernel
theorem dX7_bitsOf_40 : decode cX7_bitsOf 40 = .ok (.goto (-25), 3) := by decide +kernel
theorem dX7_bitsOf_43 : decode cX7_bitsOf 43 = .ok (.dload_n 2, 1) := by decide +kernel
theorem dX7_bitsOf_44 : decode cX7_bitsOf 44 = .ok (.dconst 1, 1) := by decide +kernel
theorem dX7_bitsOf_45 : decode cX7_bitsOf 45 = .ok (.dcmp .g, 1) := by decide +kernel
theorem dX7_bitsOf_46 : decode cX7_bitsOf 46 = .ok (.ifCond .ge 10, 3) := by decide +kernel
theorem dX7_bitsOf_49 : decode cX7_bitsOf 49 = .ok (.dload_n 2, 1) := by decide +kernel
theorem dX7_bitsOf_50 : decode cX7_bitsOf 50 = .ok (.ldc2_w 290, 3) := by decide +kernel
theorem dX7_bitsOf_53 : decode cX7_bitsOf 53 = .ok (.dmul, 1) := by decide +kernel
theorem dX7_bitsOf_54 : decode cX7_bitsOf 54 = .ok (.d2l, 1) := by decide +kernel
theorem dX7_bitsOf_55 : decode cX7_bitsOf 55 = .ok (.lreturn, 1) := by decide +kernel
theorem dX7_bitsOf_56 : decode cX7_bitsOf 56 = .ok (.lload 4, 2) := by decide +kernel
theorem dX7_bitsOf_58 : decode cX7_bitsOf 58 = .ok (.bipush 52, 2) := by decide +kernel
theorem dX7_bitsOf_60 : decode cX7_bitsOf 60 = .ok (.lshl, 1) := by decide +kernel
theorem dX7_bitsOf_61 : decode cX7_bitsOf 61 = .ok (.dload_n 2, 1) := by decide +kernel
theorem dX7_bitsOf_62 : decode cX7_bitsOf 62 = .ok (.dconst 1, 1) := by decide +kernel
theorem dX7_bitsOf_63 : decode cX7_bitsOf 63 = .ok (.dsub, 1) := by decide +kernel
theorem dX7_bitsOf_64 : decode cX7_bitsOf 64 = .ok (.ldc2_w 290, 3) := by decide +kernel
theorem dX7_bitsOf_67 : decode cX7_bitsOf 67 = .ok (.dmul, 1) := by decide +kernel
theorem dX7_bitsOf_68 : decode cX7_bitsOf 68 = .ok (.d2l, 1) := by decide +kernel
theorem dX7_bitsOf_69 : decode cX7_bitsOf 69 = .ok (.ladd, 1) := by decide +kernel
theorem dX7_bitsOf_70 : decode cX7_bitsOf 70 = .ok (.lreturn, 1) := by decide +kernel
