theorem dX11_init_0 : decode cX11_init 0 = .ok (.aload_n 0, 1) := by decide +kernel
theorem dX11_init_1 : decode cX11_init 1 = .ok (.invokespecial 1, 3) := by decide +kernel
theorem dX11_init_4 : decode cX11_init 4 = .ok (.aload_n 0, 1) := by decide +kernel
theorem dX11_init_5 : decode cX11_init 5 = .ok (.new 7, 3) := by decide +kernel
theorem dX11_init_8 : decode cX11_init 8 = .ok (.dup, 1) := by decide +kernel
theorem dX11_init_9 : decode cX11_init 9 = .ok (.invokespecial 9, 3) := by decide +kernel
theorem dX11_init_12 : decode cX11_init 12 = .ok (.putfield 10, 3) := by decide +kernel
theorem dX11_init_15 : decode cX11_init 15 = .ok (.aload_n 0, 1) := by decide +kernel
theorem dX11_init_16 : decode cX11_init 16 = .ok (.new 16, 3) := by decide +kernel
theorem dX11_init_19 : decode cX11_init 19 = .ok (.dup, 1) := by decide +kernel
theorem dX11_init_20 : decode cX11_init 20 = .ok (.iconst 4, 1) := by decide +kernel
theorem dX11_init_21 : decode cX11_init 21 = .ok (.invokespecial 18, 3) := by decide +kernel
theorem dX11_init_24 : decode cX11_init 24 = .ok (.putfield 21, 3) := by decide +kernel
theorem dX11_init_27 : decode cX11_init 27 = .ok (.aload_n 0, 1) := by decide +kernel
theorem dX11_init_28 : decode cX11_init 28 = .ok (.new 25, 3) := by decide +kernel
theorem dX11_init_31 : decode cX11_init 31 = .ok (.dup, 1) := by decide +kernel
theorem dX11_init_32 : decode cX11_init 32 = .ok (.invokespecial 27, 3) := by decide +kernel
theorem dX11_init_35 : decode cX11_init 35 = .ok (.putfield 28, 3) := by decide +kernel
theorem dX11_init_38 : decode cX11_init 38 = .ok (.aload_n 0, 1) := by decide +kernel
theorem dX11_init_39 : decode cX11_init 39 = .ok (.new 25, 3) := by decide +kernel
theorem dX11_init_42 : decode cX11_init 42 = .ok (.dup, 1) := by decide +kernel
theorem dX11_init_43 : decode cX11_init 43 = .ok (.invokespecial 27, 3) := by decide +kernel
theorem dX11_init_46 : decode cX11_init 46 = .ok (.putfield 32, 3) := by decide +kernel
theorem dX11_init_49 : decode cX11_init 49 = .ok (.aload_n 0, 1) := by decide +kernel
theorem dX11_init_50 : decode cX11_init 50 = .ok (.new 25, 3) := by decide +kernel
theorem dX11_init_53 : decode cX11_init 53 = .ok (.dup, 1) := by decide +kernel
theorem dX11_init_54 : decode cX11_init 54 = .ok (.invokespecial 27, 3) := by decide +kernel
theorem dX11_init_57 : decode cX11_init 57 = .ok (.putfield 35, 3) := by decide +kernel
theorem dX11_init_60 : decode cX11_init 60 = .ok (.aload_n 0, 1) := by decide +kernel
theorem dX11_init_61 : decode cX11_init 61 = .ok (.new 38, 3) := by decide +kernel
theorem dX11_init_64 : decode cX11_init 64 = .ok (.dup, 1) := by decide +kernel
theorem dX11_init_65 : decode cX11_init 65 = .ok (.invokespecial 40, 3) := by decide +kernel
theorem dX11_init_68 : decode cX11_init 68 = .ok (.putfield 41, 3) := by decide +kernel
theorem dX11_init_71 : decode cX11_init 71 = .ok (.aload_n 0, 1) := by decide +kernel
theorem dX11_init_72 : decode cX11_init 72 = .ok (.bipush 7, 2) := by decide +kernel
theorem dX11_init_74 : decode cX11_init 74 = .ok (.newarray .int, 2) := by decide +kernel
theorem dX11_init_76 : decode cX11_init 76 = .ok (.putfield 45, 3) := by decide +kernel
theorem dX11_init_79 : decode cX11_init 79 = .ok (.aload_n 0, 1) := by decide +kernel
theorem dX11_init_80 : decode cX11_init 80 = .ok (.bipush 16, 2) := by decide +kernel
theorem dX11_init_82 : decode cX11_init 82 = .ok (.newarray .int, 2) := by decide +kernel
theorem dX11_init_84 : decode cX11_init 84 = .ok (.putfield 49, 3) := by decide +kernel
theorem dX11_init_87 : decode cX11_init 87 = .ok (.aload_n 0, 1) := by decide +kernel
theorem dX11_init_88 : decode cX11_init 88 = .ok (.bipush 6, 2) := by decide +kernel
theorem dX11_init_90 : decode cX11_init 90 = .ok (.newarray .int, 2) := by decide +kernel
theorem dX11_init_92 : decode cX11_init 92 = .ok (.putfield 52, 3) := by decide +kernel
theorem dX11_init_95 : decode cX11_init 95 = .ok (.aload_n 0, 1) := by decide +kernel
theorem dX11_init_96 : decode cX11_init 96 = .ok (.iconst 0, 1) := by decide +kernel
theorem dX11_init_97 : decode cX11_init 97 = .ok (.putfield 55, 3) := by decide +kernel
theorem dX11_init_100 : decode cX11_init 100 = .ok (.return_, 1) := by decide +kernel
theorem dX11_letter_0 : decode cX11_letter 0 = .ok (.aload_n 0, 1) := by decide +kernel
theorem dX11_letter_1 : decode cX11_letter 1 = .ok (.aload_n 0, 1) := by decide +kernel
theorem dX11_letter_2 : decode cX11_letter 2 = .ok (.getfield 10, 3) := by decide +kernel
theorem dX11_letter_5 : decode cX11_letter 5 = .ok (.getfield 59, 3) := by decide +kernel
theorem dX11_letter_8 : decode cX11_letter 8 = .ok (.iload_n 1, 1) := by decide +kernel
theorem dX11_letter_9 : decode cX11_letter 9 = .ok (.sipush 255, 3) := by decide +kernel
theorem dX11_letter_12 : decode cX11_letter 12 = .ok (.invokevirtual 62, 3) := by decide +kernel
theorem dX11_letter_15 : decode cX11_letter 15 = .ok (.ireturn, 1) := by decide +kernel
theorem dX11_inn_0 : decode cX11_inn 0 = .ok (.aload_n 0, 1) := by decide +kernel
theorem dX11_inn_1 : decode cX11_inn 1 = .ok (.getfield 10, 3) := by decide +kernel
theorem dX11_inn_4 : decode cX11_inn 4 = .ok (.invokevirtual 66, 3) := by decide +kernel
theorem dX11_inn_7 : decode cX11_inn 7 = .ok (.istore_n 1, 1) := by decide +kernel
theorem dX11_inn_8 : decode cX11_inn 8 = .ok (.iload_n 1, 1) := by decide +kernel
theorem dX11_inn_9 : decode cX11_inn 9 = .ok (.ifCond .lt 11, 3) := by decide +kernel
theorem dX11_inn_12 : decode cX11_inn 12 = .ok (.sipush (-1000), 3) := by decide +kernel
theorem dX11_inn_15 : decode cX11_inn 15 = .ok (.iload_n 1, 1) := by decide +kernel
theorem dX11_inn_16 : decode cX11_inn 16 = .ok (.isub, 1) := by decide +kernel
theorem dX11_inn_17 : decode cX11_inn 17 = .ok (.goto 7, 3) := by decide +kernel
theorem dX11_inn_20 : decode cX11_inn 20 = .ok (.aload_n 0, 1) := by decide +kernel
theorem dX11_inn_21 : decode cX11_inn 21 = .ok (.invokevirtual 70, 3) := by decide +kernel
theorem dX11_inn_24 : decode cX11_inn 24 = .ok (.istore_n 2, 1) := by decide +kernel
theorem dX11_inn_25 : decode cX11_inn 25 = .ok (.aload_n 0, 1) := by decide +kernel
theorem dX11_inn_26 : decode cX11_inn 26 = .ok (.getfield 10, 3) := by decide +kernel
theorem dX11_inn_29 : decode cX11_inn 29 = .ok (.getfield 59, 3) := by decide +kernel
theorem dX11_inn_32 : decode cX11_inn 32 = .ok (.invokevirtual 73, 3) := by decide +kernel
theorem dX11_inn_35 : decode cX11_inn 35 = .ok (.iload_n 2, 1) := by decide +kernel
theorem dX11_inn_36 : decode cX11_inn 36 = .ok (.ireturn, 1) := by decide +kernel
theorem dX11_chance_0 : decode cX11_chance 0 = .ok (.iload_n 1, 1) := by decide +kernel
theorem dX11_chance_1 : decode cX11_chance 1 = .ok (.ifCond .lt 14, 3) := by decide +kernel
theorem dX11_chance_4 : decode cX11_chance 4 = .ok (.iload_n 1, 1) := by decide +kernel
theorem dX11_chance_5 : decode cX11_chance 5 = .ok (.aload_n 0, 1) := by decide +kernel
theorem dX11_chance_6 : decode cX11_chance 6 = .ok (.getfield 28, 3) := by decide +kernel
theorem dX11_chance_9 : decode cX11_chance 9 = .ok (.getfield 76, 3) := by decide +kernel
theorem dX11_chance_12 : decode cX11_chance 12 = .ok (.if_icmp .lt 9, 3) := by decide +kernel
theorem dX11_chance_15 : decode cX11_chance 15 = .ok (.aload_n 0, 1) := by decide +kernel
theorem dX11_chance_16 : decode cX11_chance 16 = .ok (.iconst (-1), 1) := by decide +kernel
theorem dX11_chance_17 : decode cX11_chance 17 = .ok (.invokevirtual 80, 3) := by decide +kernel
theorem dX11_chance_20 : decode cX11_chance 20 = .ok (.ireturn, 1) := by decide +kernel
theorem dX11_chance_21 : decode cX11_chance 21 = .ok (.aload_n 0, 1) := by decide +kernel
theorem dX11_chance_22 : decode cX11_chance 22 = .ok (.getfield 28, 3) := by decide +kernel
theorem dX11_chance_25 : decode cX11_chance 25 = .ok (.iload_n 1, 1) := by decide +kernel
theorem dX11_chance_26 : decode cX11_chance 26 = .ok (.invokevirtual 84, 3) := by decide +kernel
theorem dX11_chance_29 : decode cX11_chance 29 = .ok (.ireturn, 1) := by decide +kernel
theorem dX11_bet_0 : decode cX11_bet 0 = .ok (.aload_n 0, 1) := by decide +kernel
theorem dX11_bet_1 : decode cX11_bet 1 = .ok (.getfield 28, 3) := by decide +kernel
theorem dX11_bet_4 : decode cX11_bet 4 = .ok (.iload_n 1, 1) := by decide +kernel
theorem dX11_bet_5 : decode cX11_bet 5 = .ok (.invokevirtual 87, 3) := by decide +kernel
theorem dX11_bet_8 : decode cX11_bet 8 = .ok (.ifCond .ne 9, 3) := by decide +kernel
theorem dX11_bet_11 : decode cX11_bet 11 = .ok (.aload_n 0, 1) := by decide +kernel
theorem dX11_bet_12 : decode cX11_bet 12 = .ok (.iconst (-1), 1) := by decide +kernel
theorem dX11_bet_13 : decode cX11_bet 13 = .ok (.invokevirtual 80, 3) := by decide +kernel
theorem dX11_bet_16 : decode cX11_bet 16 = .ok (.ireturn, 1) := by decide +kernel
theorem dX11_bet_17 : decode cX11_bet 17 = .ok (.iload_n 2, 1) := by decide +kernel
theorem dX11_bet_18 : decode cX11_bet 18 = .ok (.ifCond .lt 9, 3) := by decide +kernel
theorem dX11_bet_21 : decode cX11_bet 21 = .ok (.iload_n 2, 1) := by decide +kernel
theorem dX11_bet_22 : decode cX11_bet 22 = .ok (.bipush 6, 2) := by decide +kernel
theorem dX11_bet_24 : decode cX11_bet 24 = .ok (.if_icmp .le 10, 3) := by decide +kernel
theorem dX11_bet_27 : decode cX11_bet 27 = .ok (.aload_n 0, 1) := by decide +kernel
theorem dX11_bet_28 : decode cX11_bet 28 = .ok (.bipush (-2), 2) := by decide +kernel
theorem dX11_bet_30 : decode cX11_bet 30 = .ok (.invokevirtual 80, 3) := by decide +kernel
theorem dX11_bet_33 : decode cX11_bet 33 = .ok (.ireturn, 1) := by decide +kernel
theorem dX11_bet_34 : decode cX11_bet 34 = .ok (.aload_n 0, 1) := by decide +kernel
theorem dX11_bet_35 : decode cX11_bet 35 = .ok (.getfield 28, 3) := by decide +kernel
theorem dX11_bet_38 : decode cX11_bet 38 = .ok (.iload_n 1, 1) := by decide +kernel
theorem dX11_bet_39 : decode cX11_bet 39 = .ok (.iload_n 2, 1) := by decide +kernel
theorem dX11_bet_40 : decode cX11_bet 40 = .ok (.invokevirtual 91, 3) := by decide +kernel
theorem dX11_bet_43 : decode cX11_bet 43 = .ok (.ireturn, 1) := by decide +kernel
theorem dX11_set_0 : decode cX11_set 0 = .ok (.aload_n 0, 1) := by decide +kernel
theorem dX11_set_1 : decode cX11_set 1 = .ok (.getfield 28, 3) := by decide +kernel
theorem dX11_set_4 : decode cX11_set 4 = .ok (.iload_n 1, 1) := by decide +kernel
theorem dX11_set_5 : decode cX11_set 5 = .ok (.invokevirtual 87, 3) := by decide +kernel
theorem dX11_set_8 : decode cX11_set 8 = .ok (.ifCond .ne 9, 3) := by decide +kernel
theorem dX11_set_11 : decode cX11_set 11 = .ok (.aload_n 0, 1) := by decide +kernel
theorem dX11_set_12 : decode cX11_set 12 = .ok (.iconst (-1), 1) := by decide +kernel
theorem dX11_set_13 : decode cX11_set 13 = .ok (.invokevirtual 80, 3) := by decide +kernel
theorem dX11_set_16 : decode cX11_set 16 = .ok (.ireturn, 1) := by decide +kernel
theorem dX11_set_17 : decode cX11_set 17 = .ok (.iload_n 2, 1) := by decide +kernel
theorem dX11_set_18 : decode cX11_set 18 = .ok (.ifCond .eq 15, 3) := by decide +kernel
theorem dX11_set_21 : decode cX11_set 21 = .ok (.iload_n 2, 1) := by decide +kernel
theorem dX11_set_22 : decode cX11_set 22 = .ok (.iconst 1, 1) := by decide +kernel
theorem dX11_set_23 : decode cX11_set 23 = .ok (.if_icmp .eq 10, 3) := by decide +kernel
theorem dX11_set_26 : decode cX11_set 26 = .ok (.aload_n 0, 1) := by decide +kernel
theorem dX11_set_27 : decode cX11_set 27 = .ok (.bipush (-2), 2) := by decide +kernel
theorem dX11_set_29 : decode cX11_set 29 = .ok (.invokevirtual 80, 3) := by decide +kernel
theorem dX11_set_32 : decode cX11_set 32 = .ok (.ireturn, 1) := by decide +kernel
theorem dX11_set_33 : decode cX11_set 33 = .ok (.iload_n 2, 1) := by decide +kernel
theorem dX11_set_34 : decode cX11_set 34 = .ok (.ifCond .ne 7, 3) := by decide +kernel
theorem dX11_set_37 : decode cX11_set 37 = .ok (.iconst 1, 1) := by decide +kernel
theorem dX11_set_38 : decode cX11_set 38 = .ok (.goto 4, 3) := by decide +kernel
theorem dX11_set_41 : decode cX11_set 41 = .ok (.iconst 0, 1) := by decide +kernel
theorem dX11_set_42 : decode cX11_set 42 = .ok (.istore 4, 2) := by decide +kernel
theorem dX11_set_44 : decode cX11_set 44 = .ok (.iload_n 3, 1) := by decide +kernel
theorem dX11_set_45 : decode cX11_set 45 = .ok (.iload 4, 2) := by decide +kernel
theorem dX11_set_47 : decode cX11_set 47 = .ok (.ifCond .eq 7, 3) := by decide +kernel
theorem dX11_set_50 : decode cX11_set 50 = .ok (.iconst 1, 1) := by decide +kernel
theorem dX11_set_51 : decode cX11_set 51 = .ok (.goto 4, 3) := by decide +kernel
theorem dX11_set_54 : decode cX11_set 54 = .ok (.iconst 0, 1) := by decide +kernel
theorem dX11_set_55 : decode cX11_set 55 = .ok (.if_icmp .ge 10, 3) := by decide +kernel
theorem dX11_set_58 : decode cX11_set 58 = .ok (.aload_n 0, 1) := by decide +kernel
theorem dX11_set_59 : decode cX11_set 59 = .ok (.bipush (-4), 2) := by decide +kernel
theorem dX11_set_61 : decode cX11_set 61 = .ok (.invokevirtual 80, 3) := by decide +kernel
theorem dX11_set_64 : decode cX11_set 64 = .ok (.ireturn, 1) := by decide +kernel
theorem dX11_set_65 : decode cX11_set 65 = .ok (.iload_n 3, 1) := by decide +kernel
theorem dX11_set_66 : decode cX11_set 66 = .ok (.iload 4, 2) := by decide +kernel
theorem dX11_set_68 : decode cX11_set 68 = .ok (.ifCond .eq 8, 3) := by decide +kernel
theorem dX11_set_71 : decode cX11_set 71 = .ok (.bipush 99, 2) := by decide +kernel
theorem dX11_set_73 : decode cX11_set 73 = .ok (.goto 5, 3) := by decide +kernel
theorem dX11_set_76 : decode cX11_set 76 = .ok (.bipush 9, 2) := by decide +kernel
theorem dX11_set_78 : decode cX11_set 78 = .ok (.if_icmp .le 10, 3) := by decide +kernel
theorem dX11_set_81 : decode cX11_set 81 = .ok (.aload_n 0, 1) := by decide +kernel
theorem dX11_set_82 : decode cX11_set 82 = .ok (.bipush (-6), 2) := by decide +kernel
theorem dX11_set_84 : decode cX11_set 84 = .ok (.invokevirtual 80, 3) := by decide +kernel
theorem dX11_set_87 : decode cX11_set 87 = .ok (.ireturn, 1) := by decide +kernel
theorem dX11_set_88 : decode cX11_set 88 = .ok (.iload 4, 2) := by decide +kernel
theorem dX11_set_90 : decode cX11_set 90 = .ok (.ifCond .eq 7, 3) := by decide +kernel
theorem dX11_set_93 : decode cX11_set 93 = .ok (.iconst 3, 1) := by decide +kernel
theorem dX11_set_94 : decode cX11_set 94 = .ok (.goto 4, 3) := by decide +kernel
theorem dX11_set_97 : decode cX11_set 97 = .ok (.iconst 4, 1) := by decide +kernel
theorem dX11_set_98 : decode cX11_set 98 = .ok (.istore 5, 2) := by decide +kernel
theorem dX11_set_100 : decode cX11_set 100 = .ok (.aload_n 0, 1) := by decide +kernel
theorem dX11_set_101 : decode cX11_set 101 = .ok (.getfield 28, 3) := by decide +kernel
theorem dX11_set_104 : decode cX11_set 104 = .ok (.iload_n 1, 1) := by decide +kernel
theorem dX11_set_105 : decode cX11_set 105 = .ok (.iload 5, 2) := by decide +kernel
theorem dX11_set_107 : decode cX11_set 107 = .ok (.invokevirtual 91, 3) := by decide +kernel
theorem dX11_set_110 : decode cX11_set 110 = .ok (.istore 6, 2) := by decide +kernel
theorem dX11_set_112 : decode cX11_set 112 = .ok (.aload_n 0, 1) := by decide +kernel
theorem dX11_set_113 : decode cX11_set 113 = .ok (.getfield 28, 3) := by decide +kernel
theorem dX11_set_116 : decode cX11_set 116 = .ok (.iload_n 1, 1) := by decide +kernel
theorem dX11_set_117 : decode cX11_set 117 = .ok (.iload 5, 2) := by decide +kernel
theorem dX11_set_119 : decode cX11_set 119 = .ok (.iload_n 3, 1) := by decide +kernel
theorem dX11_set_120 : decode cX11_set 120 = .ok (.invokevirtual 95, 3) := by decide +kernel
theorem dX11_set_123 : decode cX11_set 123 = .ok (.iload 6, 2) := by decide +kernel
theorem dX11_set_125 : decode cX11_set 125 = .ok (.ireturn, 1) := by decide +kernel
theorem dX11_fund_0 : decode cX11_fund 0 = .ok (.iload_n 1, 1) := by decide +kernel
theorem dX11_fund_1 : decode cX11_fund 1 = .ok (.invokestatic 99, 3) := by decide +kernel
theorem dX11_fund_4 : decode cX11_fund 4 = .ok (.ifCond .ne 9, 3) := by decide +kernel
theorem dX11_fund_7 : decode cX11_fund 7 = .ok (.aload_n 0, 1) := by decide +kernel
theorem dX11_fund_8 : decode cX11_fund 8 = .ok (.iconst (-1), 1) := by decide +kernel
theorem dX11_fund_9 : decode cX11_fund 9 = .ok (.invokevirtual 80, 3) := by decide +kernel
theorem dX11_fund_12 : decode cX11_fund 12 = .ok (.ireturn, 1) := by decide +kernel
theorem dX11_fund_13 : decode cX11_fund 13 = .ok (.iload_n 2, 1) := by decide +kernel
theorem dX11_fund_14 : decode cX11_fund 14 = .ok (.ifCond .ge 10, 3) := by decide +kernel
theorem dX11_fund_17 : decode cX11_fund 17 = .ok (.aload_n 0, 1) := by decide +kernel
theorem dX11_fund_18 : decode cX11_fund 18 = .ok (.bipush (-4), 2) := by decide +kernel
theorem dX11_fund_20 : decode cX11_fund 20 = .ok (.invokevirtual 80, 3) := by decide +kernel
theorem dX11_fund_23 : decode cX11_fund 23 = .ok (.ireturn, 1) := by decide +kernel
theorem dX11_fund_24 : decode cX11_fund 24 = .ok (.iload_n 2, 1) := by decide +kernel
theorem dX11_fund_25 : decode cX11_fund 25 = .ok (.bipush 99, 2) := by decide +kernel
theorem dX11_fund_27 : decode cX11_fund 27 = .ok (.if_icmp .le 10, 3) := by decide +kernel
theorem dX11_fund_30 : decode cX11_fund 30 = .ok (.aload_n 0, 1) := by decide +kernel
theorem dX11_fund_31 : decode cX11_fund 31 = .ok (.bipush (-6), 2) := by decide +kernel
theorem dX11_fund_33 : decode cX11_fund 33 = .ok (.invokevirtual 80, 3) := by decide +kernel
theorem dX11_fund_36 : decode cX11_fund 36 = .ok (.ireturn, 1) := by decide +kernel
theorem dX11_fund_37 : decode cX11_fund 37 = .ok (.aload_n 0, 1) := by decide +kernel
theorem dX11_fund_38 : decode cX11_fund 38 = .ok (.getfield 28, 3) := by decide +kernel
theorem dX11_fund_41 : decode cX11_fund 41 = .ok (.iload_n 1, 1) := by decide +kernel
theorem dX11_fund_42 : decode cX11_fund 42 = .ok (.invokevirtual 102, 3) := by decide +kernel
theorem dX11_fund_45 : decode cX11_fund 45 = .ok (.istore_n 3, 1) := by decide +kernel
theorem dX11_fund_46 : decode cX11_fund 46 = .ok (.aload_n 0, 1) := by decide +kernel
theorem dX11_fund_47 : decode cX11_fund 47 = .ok (.getfield 28, 3) := by decide +kernel
theorem dX11_fund_50 : decode cX11_fund 50 = .ok (.iload_n 1, 1) := by decide +kernel
theorem dX11_fund_51 : decode cX11_fund 51 = .ok (.iload_n 2, 1) := by decide +kernel
theorem dX11_fund_52 : decode cX11_fund 52 = .ok (.invokevirtual 105, 3) := by decide +kernel
theorem dX11_fund_55 : decode cX11_fund 55 = .ok (.iload_n 3, 1) := by decide +kernel
theorem dX11_fund_56 : decode cX11_fund 56 = .ok (.ireturn, 1) := by decide +kernel
theorem dX11_ways_0 : decode cX11_ways 0 = .ok (.aload_n 0, 1) := by decide +kernel
theorem dX11_ways_1 : decode cX11_ways 1 = .ok (.getfield 28, 3) := by decide +kernel
theorem dX11_ways_4 : decode cX11_ways 4 = .ok (.iload_n 1, 1) := by decide +kernel
theorem dX11_ways_5 : decode cX11_ways 5 = .ok (.invokevirtual 109, 3) := by decide +kernel
theorem dX11_ways_8 : decode cX11_ways 8 = .ok (.ifCond .ne 9, 3) := by decide +kernel
theorem dX11_ways_11 : decode cX11_ways 11 = .ok (.aload_n 0, 1) := by decide +kernel
theorem dX11_ways_12 : decode cX11_ways 12 = .ok (.iconst (-1), 1) := by decide +kernel
theorem dX11_ways_13 : decode cX11_ways 13 = .ok (.invokevirtual 80, 3) := by decide +kernel
theorem dX11_ways_16 : decode cX11_ways 16 = .ok (.ireturn, 1) := by decide +kernel
theorem dX11_ways_17 : decode cX11_ways 17 = .ok (.iload_n 2, 1) := by decide +kernel
theorem dX11_ways_18 : decode cX11_ways 18 = .ok (.ifCond .eq 15, 3) := by decide +kernel
theorem dX11_ways_21 : decode cX11_ways 21 = .ok (.iload_n 2, 1) := by decide +kernel
theorem dX11_ways_22 : decode cX11_ways 22 = .ok (.iconst 1, 1) := by decide +kernel
theorem dX11_ways_23 : decode cX11_ways 23 = .ok (.if_icmp .eq 10, 3) := by decide +kernel
theorem dX11_ways_26 : decode cX11_ways 26 = .ok (.aload_n 0, 1) := by decide +kernel
theorem dX11_ways_27 : decode cX11_ways 27 = .ok (.bipush (-2), 2) := by decide +kernel
theorem dX11_ways_29 : decode cX11_ways 29 = .ok (.invokevirtual 80, 3) := by decide +kernel
theorem dX11_ways_32 : decode cX11_ways 32 = .ok (.ireturn, 1) := by decide +kernel
theorem dX11_ways_33 : decode cX11_ways 33 = .ok (.iload_n 2, 1) := by decide +kernel
theorem dX11_ways_34 : decode cX11_ways 34 = .ok (.ifCond .ne 14, 3) := by decide +kernel
theorem dX11_ways_37 : decode cX11_ways 37 = .ok (.aload_n 0, 1) := by decide +kernel
theorem dX11_ways_38 : decode cX11_ways 38 = .ok (.getfield 41, 3) := by decide +kernel
theorem dX11_ways_41 : decode cX11_ways 41 = .ok (.iload_n 1, 1) := by decide +kernel
theorem dX11_ways_42 : decode cX11_ways 42 = .ok (.invokevirtual 112, 3) := by decide +kernel
theorem dX11_ways_45 : decode cX11_ways 45 = .ok (.goto 11, 3) := by decide +kernel
theorem dX11_ways_48 : decode cX11_ways 48 = .ok (.aload_n 0, 1) := by decide +kernel
theorem dX11_ways_49 : decode cX11_ways 49 = .ok (.getfield 41, 3) := by decide +kernel
theorem dX11_ways_52 : decode cX11_ways 52 = .ok (.iload_n 1, 1) := by decide +kernel
theorem dX11_ways_53 : decode cX11_ways 53 = .ok (.invokevirtual 115, 3) := by decide +kernel
theorem dX11_ways_56 : decode cX11_ways 56 = .ok (.ireturn, 1) := by decide +kernel
theorem dX11_standing_0 : decode cX11_standing 0 = .ok (.aload_n 0, 1) := by decide +kernel
theorem dX11_standing_1 : decode cX11_standing 1 = .ok (.getfield 28, 3) := by decide +kernel
theorem dX11_standing_4 : decode cX11_standing 4 = .ok (.iload_n 1, 1) := by decide +kernel
theorem dX11_standing_5 : decode cX11_standing 5 = .ok (.invokevirtual 87, 3) := by decide +kernel
theorem dX11_standing_8 : decode cX11_standing 8 = .ok (.ifCond .eq 14, 3) := by decide +kernel
theorem dX11_standing_11 : decode cX11_standing 11 = .ok (.aload_n 0, 1) := by decide +kernel
theorem dX11_standing_12 : decode cX11_standing 12 = .ok (.getfield 28, 3) := by decide +kernel
theorem dX11_standing_15 : decode cX11_standing 15 = .ok (.iload_n 2, 1) := by decide +kernel
theorem dX11_standing_16 : decode cX11_standing 16 = .ok (.invokevirtual 109, 3) := by decide +kernel
theorem dX11_standing_19 : decode cX11_standing 19 = .ok (.ifCond .ne 9, 3) := by decide +kernel
theorem dX11_standing_22 : decode cX11_standing 22 = .ok (.aload_n 0, 1) := by decide +kernel
theorem dX11_standing_23 : decode cX11_standing 23 = .ok (.iconst (-1), 1) := by decide +kernel
theorem dX11_standing_24 : decode cX11_standing 24 = .ok (.invokevirtual 80, 3) := by decide +kernel
theorem dX11_standing_27 : decode cX11_standing 27 = .ok (.ireturn, 1) := by decide +kernel
theorem dX11_standing_28 : decode cX11_standing 28 = .ok (.aload_n 0, 1) := by decide +kernel
theorem dX11_standing_29 : decode cX11_standing 29 = .ok (.getfield 41, 3) := by decide +kernel
theorem dX11_standing_32 : decode cX11_standing 32 = .ok (.iload_n 1, 1) := by decide +kernel
theorem dX11_standing_33 : decode cX11_standing 33 = .ok (.iload_n 2, 1) := by decide +kernel
theorem dX11_standing_34 : decode cX11_standing 34 = .ok (.invokevirtual 118, 3) := by decide +kernel
theorem dX11_standing_37 : decode cX11_standing 37 = .ok (.ireturn, 1) := by decide +kernel
theorem dX11_purse_0 : decode cX11_purse 0 = .ok (.iload_n 1, 1) := by decide +kernel
theorem dX11_purse_1 : decode cX11_purse 1 = .ok (.invokestatic 99, 3) := by decide +kernel
theorem dX11_purse_4 : decode cX11_purse 4 = .ok (.ifCond .eq 14, 3) := by decide +kernel
theorem dX11_purse_7 : decode cX11_purse 7 = .ok (.aload_n 0, 1) := by decide +kernel
theorem dX11_purse_8 : decode cX11_purse 8 = .ok (.getfield 28, 3) := by decide +kernel
theorem dX11_purse_11 : decode cX11_purse 11 = .ok (.iload_n 2, 1) := by decide +kernel
theorem dX11_purse_12 : decode cX11_purse 12 = .ok (.invokevirtual 109, 3) := by decide +kernel
theorem dX11_purse_15 : decode cX11_purse 15 = .ok (.ifCond .ne 9, 3) := by decide +kernel
theorem dX11_purse_18 : decode cX11_purse 18 = .ok (.aload_n 0, 1) := by decide +kernel
theorem dX11_purse_19 : decode cX11_purse 19 = .ok (.iconst (-1), 1) := by decide +kernel
theorem dX11_purse_20 : decode cX11_purse 20 = .ok (.invokevirtual 121, 3) := by decide +kernel
theorem dX11_purse_23 : decode cX11_purse 23 = .ok (.ireturn, 1) := by decide +kernel
theorem dX11_purse_24 : decode cX11_purse 24 = .ok (.aload_n 0, 1) := by decide +kernel
theorem dX11_purse_25 : decode cX11_purse 25 = .ok (.aload_n 0, 1) := by decide +kernel
theorem dX11_purse_26 : decode cX11_purse 26 = .ok (.getfield 28, 3) := by decide +kernel
theorem dX11_purse_29 : decode cX11_purse 29 = .ok (.iload_n 1, 1) := by decide +kernel
theorem dX11_purse_30 : decode cX11_purse 30 = .ok (.iload_n 2, 1) := by decide +kernel
theorem dX11_purse_31 : decode cX11_purse 31 = .ok (.invokevirtual 124, 3) := by decide +kernel
theorem dX11_purse_34 : decode cX11_purse 34 = .ok (.ireturn, 1) := by decide +kernel
theorem dX11_mean_0 : decode cX11_mean 0 = .ok (.iload_n 1, 1) := by decide +kernel
theorem dX11_mean_1 : decode cX11_mean 1 = .ok (.invokestatic 99, 3) := by decide +kernel
theorem dX11_mean_4 : decode cX11_mean 4 = .ok (.ifCond .eq 15, 3) := by decide +kernel
theorem dX11_mean_7 : decode cX11_mean 7 = .ok (.aload_n 0, 1) := by decide +kernel
theorem dX11_mean_8 : decode cX11_mean 8 = .ok (.aload_n 0, 1) := by decide +kernel
theorem dX11_mean_9 : decode cX11_mean 9 = .ok (.getfield 28, 3) := by decide +kernel
theorem dX11_mean_12 : decode cX11_mean 12 = .ok (.iload_n 1, 1) := by decide +kernel
theorem dX11_mean_13 : decode cX11_mean 13 = .ok (.invokevirtual 128, 3) := by decide +kernel
theorem dX11_mean_16 : decode cX11_mean 16 = .ok (.goto 8, 3) := by decide +kernel
theorem dX11_mean_19 : decode cX11_mean 19 = .ok (.aload_n 0, 1) := by decide +kernel
theorem dX11_mean_20 : decode cX11_mean 20 = .ok (.iconst (-1), 1) := by decide +kernel
theorem dX11_mean_21 : decode cX11_mean 21 = .ok (.invokevirtual 121, 3) := by decide +kernel
theorem dX11_mean_24 : decode cX11_mean 24 = .ok (.ireturn, 1) := by decide +kernel
theorem dX11_worst_0 : decode cX11_worst 0 = .ok (.aload_n 0, 1) := by decide +kernel
theorem dX11_worst_1 : decode cX11_worst 1 = .ok (.iload_n 1, 1) := by decide +kernel
theorem dX11_worst_2 : decode cX11_worst 2 = .ok (.iload_n 2, 1) := by decide +kernel
theorem dX11_worst_3 : decode cX11_worst 3 = .ok (.iconst (-1), 1) := by decide +kernel
theorem dX11_worst_4 : decode cX11_worst 4 = .ok (.invokevirtual 132, 3) := by decide +kernel
theorem dX11_worst_7 : decode cX11_worst 7 = .ok (.ireturn, 1) := by decide +kernel
theorem dX11_best_0 : decode cX11_best 0 = .ok (.aload_n 0, 1) := by decide +kernel
theorem dX11_best_1 : decode cX11_best 1 = .ok (.iload_n 1, 1) := by decide +kernel
theorem dX11_best_2 : decode cX11_best 2 = .ok (.iload_n 2, 1) := by decide +kernel
theorem dX11_best_3 : decode cX11_best 3 = .ok (.iconst 1, 1) := by decide +kernel
theorem dX11_best_4 : decode cX11_best 4 = .ok (.invokevirtual 132, 3) := by decide +kernel
theorem dX11_best_7 : decode cX11_best 7 = .ok (.ireturn, 1) := by decide +kernel
theorem dX11_sure_0 : decode cX11_sure 0 = .ok (.iload_n 1, 1) := by decide +kernel
theorem dX11_sure_1 : decode cX11_sure 1 = .ok (.invokestatic 99, 3) := by decide +kernel
theorem dX11_sure_4 : decode cX11_sure 4 = .ok (.ifCond .ne 9, 3) := by decide +kernel
theorem dX11_sure_7 : decode cX11_sure 7 = .ok (.aload_n 0, 1) := by decide +kernel
theorem dX11_sure_8 : decode cX11_sure 8 = .ok (.iconst (-1), 1) := by decide +kernel
theorem dX11_sure_9 : decode cX11_sure 9 = .ok (.invokevirtual 80, 3) := by decide +kernel
theorem dX11_sure_12 : decode cX11_sure 12 = .ok (.ireturn, 1) := by decide +kernel
theorem dX11_sure_13 : decode cX11_sure 13 = .ok (.aload_n 0, 1) := by decide +kernel
theorem dX11_sure_14 : decode cX11_sure 14 = .ok (.aload_n 0, 1) := by decide +kernel
theorem dX11_sure_15 : decode cX11_sure 15 = .ok (.getfield 28, 3) := by decide +kernel
theorem dX11_sure_18 : decode cX11_sure 18 = .ok (.iload_n 1, 1) := by decide +kernel
theorem dX11_sure_19 : decode cX11_sure 19 = .ok (.aload_n 0, 1) := by decide +kernel
theorem dX11_sure_20 : decode cX11_sure 20 = .ok (.aload_n 0, 1) := by decide +kernel
theorem dX11_sure_21 : decode cX11_sure 21 = .ok (.getfield 28, 3) := by decide +kernel
theorem dX11_sure_24 : decode cX11_sure 24 = .ok (.iload_n 1, 1) := by decide +kernel
theorem dX11_sure_25 : decode cX11_sure 25 = .ok (.iconst (-1), 1) := by decide +kernel
theorem dX11_sure_26 : decode cX11_sure 26 = .ok (.invokevirtual 136, 3) := by decide +kernel
theorem dX11_sure_29 : decode cX11_sure 29 = .ok (.invokevirtual 124, 3) := by decide +kernel
theorem dX11_sure_32 : decode cX11_sure 32 = .ok (.ifCond .lt 7, 3) := by decide +kernel
theorem dX11_sure_35 : decode cX11_sure 35 = .ok (.iconst 1, 1) := by decide +kernel
theorem dX11_sure_36 : decode cX11_sure 36 = .ok (.goto 4, 3) := by decide +kernel
theorem dX11_sure_39 : decode cX11_sure 39 = .ok (.iconst 0, 1) := by decide +kernel
theorem dX11_sure_40 : decode cX11_sure 40 = .ok (.istore_n 2, 1) := by decide +kernel
theorem dX11_sure_41 : decode cX11_sure 41 = .ok (.aload_n 0, 1) := by decide +kernel
theorem dX11_sure_42 : decode cX11_sure 42 = .ok (.aload_n 0, 1) := by decide +kernel
theorem dX11_sure_43 : decode cX11_sure 43 = .ok (.getfield 28, 3) := by decide +kernel
theorem dX11_sure_46 : decode cX11_sure 46 = .ok (.iload_n 1, 1) := by decide +kernel
theorem dX11_sure_47 : decode cX11_sure 47 = .ok (.aload_n 0, 1) := by decide +kernel
theorem dX11_sure_48 : decode cX11_sure 48 = .ok (.aload_n 0, 1) := by decide +kernel
theorem dX11_sure_49 : decode cX11_sure 49 = .ok (.getfield 28, 3) := by decide +kernel
theorem dX11_sure_52 : decode cX11_sure 52 = .ok (.iload_n 1, 1) := by decide +kernel
theorem dX11_sure_53 : decode cX11_sure 53 = .ok (.iconst 1, 1) := by decide +kernel
theorem dX11_sure_54 : decode cX11_sure 54 = .ok (.invokevirtual 136, 3) := by decide +kernel
theorem dX11_sure_57 : decode cX11_sure 57 = .ok (.invokevirtual 124, 3) := by decide +kernel
theorem dX11_sure_60 : decode cX11_sure 60 = .ok (.ifCond .le 7, 3) := by decide +kernel
theorem dX11_sure_63 : decode cX11_sure 63 = .ok (.iconst 1, 1) := by decide +kernel
theorem dX11_sure_64 : decode cX11_sure 64 = .ok (.goto 4, 3) := by decide +kernel
theorem dX11_sure_67 : decode cX11_sure 67 = .ok (.iconst 0, 1) := by decide +kernel
theorem dX11_sure_68 : decode cX11_sure 68 = .ok (.istore_n 3, 1) := by decide +kernel
theorem dX11_sure_69 : decode cX11_sure 69 = .ok (.iload_n 2, 1) := by decide +kernel
theorem dX11_sure_70 : decode cX11_sure 70 = .ok (.ifCond .eq 11, 3) := by decide +kernel
theorem dX11_sure_73 : decode cX11_sure 73 = .ok (.iload_n 3, 1) := by decide +kernel
theorem dX11_sure_74 : decode cX11_sure 74 = .ok (.ifCond .eq 7, 3) := by decide +kernel
theorem dX11_sure_77 : decode cX11_sure 77 = .ok (.iconst 1, 1) := by decide +kernel
theorem dX11_sure_78 : decode cX11_sure 78 = .ok (.goto 4, 3) := by decide +kernel
theorem dX11_sure_81 : decode cX11_sure 81 = .ok (.iconst 0, 1) := by decide +kernel
theorem dX11_sure_82 : decode cX11_sure 82 = .ok (.ireturn, 1) := by decide +kernel
theorem dX11_likely_0 : decode cX11_likely 0 = .ok (.iload_n 1, 1) := by decide +kernel
theorem dX11_likely_1 : decode cX11_likely 1 = .ok (.invokestatic 99, 3) := by decide +kernel
theorem dX11_likely_4 : decode cX11_likely 4 = .ok (.ifCond .ne 9, 3) := by decide +kernel
theorem dX11_likely_7 : decode cX11_likely 7 = .ok (.aload_n 0, 1) := by decide +kernel
theorem dX11_likely_8 : decode cX11_likely 8 = .ok (.iconst (-1), 1) := by decide +kernel
theorem dX11_likely_9 : decode cX11_likely 9 = .ok (.invokevirtual 80, 3) := by decide +kernel
theorem dX11_likely_12 : decode cX11_likely 12 = .ok (.ireturn, 1) := by decide +kernel
theorem dX11_likely_13 : decode cX11_likely 13 = .ok (.aload_n 0, 1) := by decide +kernel
theorem dX11_likely_14 : decode cX11_likely 14 = .ok (.getfield 28, 3) := by decide +kernel
theorem dX11_likely_17 : decode cX11_likely 17 = .ok (.invokevirtual 139, 3) := by decide +kernel
theorem dX11_likely_20 : decode cX11_likely 20 = .ok (.istore_n 2, 1) := by decide +kernel
theorem dX11_likely_21 : decode cX11_likely 21 = .ok (.lconst 0, 1) := by decide +kernel
theorem dX11_likely_22 : decode cX11_likely 22 = .ok (.lstore_n 3, 1) := by decide +kernel
theorem dX11_likely_23 : decode cX11_likely 23 = .ok (.iconst 0, 1) := by decide +kernel
theorem dX11_likely_24 : decode cX11_likely 24 = .ok (.istore 5, 2) := by decide +kernel
theorem dX11_likely_26 : decode cX11_likely 26 = .ok (.iload 5, 2) := by decide +kernel
theorem dX11_likely_28 : decode cX11_likely 28 = .ok (.iload_n 2, 1) := by decide +kernel
theorem dX11_likely_29 : decode cX11_likely 29 = .ok (.if_icmp .ge 35, 3) := by decide +kernel
theorem dX11_likely_32 : decode cX11_likely 32 = .ok (.aload_n 0, 1) := by decide +kernel
theorem dX11_likely_33 : decode cX11_likely 33 = .ok (.aload_n 0, 1) := by decide +kernel
theorem dX11_likely_34 : decode cX11_likely 34 = .ok (.getfield 28, 3) := by decide +kernel
theorem dX11_likely_37 : decode cX11_likely 37 = .ok (.iload_n 1, 1) := by decide +kernel
theorem dX11_likely_38 : decode cX11_likely 38 = .ok (.iload 5, 2) := by decide +kernel
theorem dX11_likely_40 : decode cX11_likely 40 = .ok (.invokevirtual 124, 3) := by decide +kernel
theorem dX11_likely_43 : decode cX11_likely 43 = .ok (.ifCond .le 15, 3) := by decide +kernel
theorem dX11_likely_46 : decode cX11_likely 46 = .ok (.lload_n 3, 1) := by decide +kernel
theorem dX11_likely_47 : decode cX11_likely 47 = .ok (.aload_n 0, 1) := by decide +kernel
theorem dX11_likely_48 : decode cX11_likely 48 = .ok (.getfield 28, 3) := by decide +kernel
theorem dX11_likely_51 : decode cX11_likely 51 = .ok (.iload 5, 2) := by decide +kernel
theorem dX11_likely_53 : decode cX11_likely 53 = .ok (.invokevirtual 142, 3) := by decide +kernel
theorem dX11_likely_56 : decode cX11_likely 56 = .ok (.ladd, 1) := by decide +kernel
theorem dX11_likely_57 : decode cX11_likely 57 = .ok (.lstore_n 3, 1) := by decide +kernel
theorem dX11_likely_58 : decode cX11_likely 58 = .ok (.iinc 5 1, 3) := by decide +kernel
theorem dX11_likely_61 : decode cX11_likely 61 = .ok (.goto (-35), 3) := by decide +kernel
theorem dX11_likely_64 : decode cX11_likely 64 = .ok (.aload_n 0, 1) := by decide +kernel
theorem dX11_likely_65 : decode cX11_likely 65 = .ok (.getfield 28, 3) := by decide +kernel
theorem dX11_likely_68 : decode cX11_likely 68 = .ok (.lload_n 3, 1) := by decide +kernel
theorem dX11_likely_69 : decode cX11_likely 69 = .ok (.invokestatic 146, 3) := by decide +kernel
theorem dX11_likely_72 : decode cX11_likely 72 = .ok (.ireturn, 1) := by decide +kernel
theorem dX11_voids_0 : decode cX11_voids 0 = .ok (.aload_n 0, 1) := by decide +kernel
theorem dX11_voids_1 : decode cX11_voids 1 = .ok (.getfield 28, 3) := by decide +kernel
theorem dX11_voids_4 : decode cX11_voids 4 = .ok (.invokevirtual 139, 3) := by decide +kernel
theorem dX11_voids_7 : decode cX11_voids 7 = .ok (.istore_n 1, 1) := by decide +kernel
theorem dX11_voids_8 : decode cX11_voids 8 = .ok (.iconst 0, 1) := by decide +kernel
theorem dX11_voids_9 : decode cX11_voids 9 = .ok (.istore_n 2, 1) := by decide +kernel
theorem dX11_voids_10 : decode cX11_voids 10 = .ok (.iconst 0, 1) := by decide +kernel
theorem dX11_voids_11 : decode cX11_voids 11 = .ok (.istore_n 3, 1) := by decide +kernel
theorem dX11_voids_12 : decode cX11_voids 12 = .ok (.iload_n 3, 1) := by decide +kernel
theorem dX11_voids_13 : decode cX11_voids 13 = .ok (.iload_n 1, 1) := by decide +kernel
theorem dX11_voids_14 : decode cX11_voids 14 = .ok (.if_icmp .ge 20, 3) := by decide +kernel
theorem dX11_voids_17 : decode cX11_voids 17 = .ok (.iload_n 2, 1) := by decide +kernel
theorem dX11_voids_18 : decode cX11_voids 18 = .ok (.aload_n 0, 1) := by decide +kernel
theorem dX11_voids_19 : decode cX11_voids 19 = .ok (.getfield 41, 3) := by decide +kernel
theorem dX11_voids_22 : decode cX11_voids 22 = .ok (.iload_n 3, 1) := by decide +kernel
theorem dX11_voids_23 : decode cX11_voids 23 = .ok (.invokevirtual 150, 3) := by decide +kernel
theorem dX11_voids_26 : decode cX11_voids 26 = .ok (.ior, 1) := by decide +kernel
theorem dX11_voids_27 : decode cX11_voids 27 = .ok (.istore_n 2, 1) := by decide +kernel
theorem dX11_voids_28 : decode cX11_voids 28 = .ok (.iinc 3 1, 3) := by decide +kernel
theorem dX11_voids_31 : decode cX11_voids 31 = .ok (.goto (-19), 3) := by decide +kernel
theorem dX11_voids_34 : decode cX11_voids 34 = .ok (.iload_n 2, 1) := by decide +kernel
theorem dX11_voids_35 : decode cX11_voids 35 = .ok (.ireturn, 1) := by decide +kernel
theorem dX11_sparing_0 : decode cX11_sparing 0 = .ok (.iload_n 1, 1) := by decide +kernel
theorem dX11_sparing_1 : decode cX11_sparing 1 = .ok (.invokestatic 99, 3) := by decide +kernel
theorem dX11_sparing_4 : decode cX11_sparing 4 = .ok (.ifCond .ne 9, 3) := by decide +kernel
theorem dX11_sparing_7 : decode cX11_sparing 7 = .ok (.aload_n 0, 1) := by decide +kernel
theorem dX11_sparing_8 : decode cX11_sparing 8 = .ok (.iconst (-1), 1) := by decide +kernel
theorem dX11_sparing_9 : decode cX11_sparing 9 = .ok (.invokevirtual 80, 3) := by decide +kernel
theorem dX11_sparing_12 : decode cX11_sparing 12 = .ok (.ireturn, 1) := by decide +kernel
theorem dX11_sparing_13 : decode cX11_sparing 13 = .ok (.aload_n 0, 1) := by decide +kernel
theorem dX11_sparing_14 : decode cX11_sparing 14 = .ok (.getfield 32, 3) := by decide +kernel
theorem dX11_sparing_17 : decode cX11_sparing 17 = .ok (.aload_n 0, 1) := by decide +kernel
theorem dX11_sparing_18 : decode cX11_sparing 18 = .ok (.getfield 28, 3) := by decide +kernel
theorem dX11_sparing_21 : decode cX11_sparing 21 = .ok (.invokevirtual 153, 3) := by decide +kernel
theorem dX11_sparing_24 : decode cX11_sparing 24 = .ok (.aload_n 0, 1) := by decide +kernel
theorem dX11_sparing_25 : decode cX11_sparing 25 = .ok (.aload_n 0, 1) := by decide +kernel
theorem dX11_sparing_26 : decode cX11_sparing 26 = .ok (.getfield 28, 3) := by decide +kernel
theorem dX11_sparing_29 : decode cX11_sparing 29 = .ok (.iload_n 1, 1) := by decide +kernel
theorem dX11_sparing_30 : decode cX11_sparing 30 = .ok (.invokevirtual 157, 3) := by decide +kernel
theorem dX11_sparing_33 : decode cX11_sparing 33 = .ok (.istore_n 2, 1) := by decide +kernel
theorem dX11_sparing_34 : decode cX11_sparing 34 = .ok (.bipush (-9), 2) := by decide +kernel
theorem dX11_sparing_36 : decode cX11_sparing 36 = .ok (.istore_n 3, 1) := by decide +kernel
theorem dX11_sparing_37 : decode cX11_sparing 37 = .ok (.iconst 0, 1) := by decide +kernel
theorem dX11_sparing_38 : decode cX11_sparing 38 = .ok (.istore 4, 2) := by decide +kernel
theorem dX11_sparing_40 : decode cX11_sparing 40 = .ok (.iload 4, 2) := by decide +kernel
theorem dX11_sparing_42 : decode cX11_sparing 42 = .ok (.aload_n 0, 1) := by decide +kernel
theorem dX11_sparing_43 : decode cX11_sparing 43 = .ok (.getfield 28, 3) := by decide +kernel
theorem dX11_sparing_46 : decode cX11_sparing 46 = .ok (.getfield 160, 3) := by decide +kernel
theorem dX11_sparing_49 : decode cX11_sparing 49 = .ok (.if_icmp .ge 100, 3) := by decide +kernel
theorem dX11_sparing_52 : decode cX11_sparing 52 = .ok (.aload_n 0, 1) := by decide +kernel
theorem dX11_sparing_53 : decode cX11_sparing 53 = .ok (.getfield 28, 3) := by decide +kernel
theorem dX11_sparing_56 : decode cX11_sparing 56 = .ok (.iload 4, 2) := by decide +kernel
theorem dX11_sparing_58 : decode cX11_sparing 58 = .ok (.iconst 5, 1) := by decide +kernel
theorem dX11_sparing_59 : decode cX11_sparing 59 = .ok (.invokevirtual 91, 3) := by decide +kernel
theorem dX11_sparing_62 : decode cX11_sparing 62 = .ok (.iload_n 1, 1) := by decide +kernel
theorem dX11_sparing_63 : decode cX11_sparing 63 = .ok (.if_icmp .ne 80, 3) := by decide +kernel
theorem dX11_sparing_66 : decode cX11_sparing 66 = .ok (.iconst 0, 1) := by decide +kernel
theorem dX11_sparing_67 : decode cX11_sparing 67 = .ok (.istore 5, 2) := by decide +kernel
theorem dX11_sparing_69 : decode cX11_sparing 69 = .ok (.iload 5, 2) := by decide +kernel
theorem dX11_sparing_71 : decode cX11_sparing 71 = .ok (.bipush 99, 2) := by decide +kernel
theorem dX11_sparing_73 : decode cX11_sparing 73 = .ok (.if_icmp .gt 50, 3) := by decide +kernel
theorem dX11_sparing_76 : decode cX11_sparing 76 = .ok (.aload_n 0, 1) := by decide +kernel
theorem dX11_sparing_77 : decode cX11_sparing 77 = .ok (.getfield 32, 3) := by decide +kernel
theorem dX11_sparing_80 : decode cX11_sparing 80 = .ok (.iload 4, 2) := by decide +kernel
theorem dX11_sparing_82 : decode cX11_sparing 82 = .ok (.iconst 3, 1) := by decide +kernel
theorem dX11_sparing_83 : decode cX11_sparing 83 = .ok (.iload 5, 2) := by decide +kernel
theorem dX11_sparing_85 : decode cX11_sparing 85 = .ok (.invokevirtual 95, 3) := by decide +kernel
theorem dX11_sparing_88 : decode cX11_sparing 88 = .ok (.aload_n 0, 1) := by decide +kernel
theorem dX11_sparing_89 : decode cX11_sparing 89 = .ok (.aload_n 0, 1) := by decide +kernel
theorem dX11_sparing_90 : decode cX11_sparing 90 = .ok (.getfield 32, 3) := by decide +kernel
theorem dX11_sparing_93 : decode cX11_sparing 93 = .ok (.iload_n 1, 1) := by decide +kernel
theorem dX11_sparing_94 : decode cX11_sparing 94 = .ok (.invokevirtual 157, 3) := by decide +kernel
theorem dX11_sparing_97 : decode cX11_sparing 97 = .ok (.istore 6, 2) := by decide +kernel
theorem dX11_sparing_99 : decode cX11_sparing 99 = .ok (.iload 6, 2) := by decide +kernel
theorem dX11_sparing_101 : decode cX11_sparing 101 = .ok (.iload_n 2, 1) := by decide +kernel
theorem dX11_sparing_102 : decode cX11_sparing 102 = .ok (.if_icmp .le 15, 3) := by decide +kernel
theorem dX11_sparing_105 : decode cX11_sparing 105 = .ok (.iload 6, 2) := by decide +kernel
theorem dX11_sparing_107 : decode cX11_sparing 107 = .ok (.istore_n 2, 1) := by decide +kernel
theorem dX11_sparing_108 : decode cX11_sparing 108 = .ok (.bipush 100, 2) := by decide +kernel
theorem dX11_sparing_110 : decode cX11_sparing 110 = .ok (.iload 4, 2) := by decide +kernel
theorem dX11_sparing_112 : decode cX11_sparing 112 = .ok (.imul, 1) := by decide +kernel
theorem dX11_sparing_113 : decode cX11_sparing 113 = .ok (.iload 5, 2) := by decide +kernel
theorem dX11_sparing_115 : decode cX11_sparing 115 = .ok (.iadd, 1) := by decide +kernel
theorem dX11_sparing_116 : decode cX11_sparing 116 = .ok (.istore_n 3, 1) := by decide +kernel
theorem dX11_sparing_117 : decode cX11_sparing 117 = .ok (.iinc 5 1, 3) := by decide +kernel
theorem dX11_sparing_120 : decode cX11_sparing 120 = .ok (.goto (-51), 3) := by decide +kernel
theorem dX11_sparing_123 : decode cX11_sparing 123 = .ok (.aload_n 0, 1) := by decide +kernel
theorem dX11_sparing_124 : decode cX11_sparing 124 = .ok (.getfield 32, 3) := by decide +kernel
theorem dX11_sparing_127 : decode cX11_sparing 127 = .ok (.iload 4, 2) := by decide +kernel
theorem dX11_sparing_129 : decode cX11_sparing 129 = .ok (.iconst 3, 1) := by decide +kernel
theorem dX11_sparing_130 : decode cX11_sparing 130 = .ok (.aload_n 0, 1) := by decide +kernel
theorem dX11_sparing_131 : decode cX11_sparing 131 = .ok (.getfield 28, 3) := by decide +kernel
theorem dX11_sparing_134 : decode cX11_sparing 134 = .ok (.iload 4, 2) := by decide +kernel
theorem dX11_sparing_136 : decode cX11_sparing 136 = .ok (.iconst 3, 1) := by decide +kernel
theorem dX11_sparing_137 : decode cX11_sparing 137 = .ok (.invokevirtual 91, 3) := by decide +kernel
theorem dX11_sparing_140 : decode cX11_sparing 140 = .ok (.invokevirtual 95, 3) := by decide +kernel
theorem dX11_sparing_143 : decode cX11_sparing 143 = .ok (.iinc 4 1, 3) := by decide +kernel
theorem dX11_sparing_146 : decode cX11_sparing 146 = .ok (.goto (-106), 3) := by decide +kernel
theorem dX11_sparing_149 : decode cX11_sparing 149 = .ok (.iload_n 3, 1) := by decide +kernel
theorem dX11_sparing_150 : decode cX11_sparing 150 = .ok (.ireturn, 1) := by decide +kernel
theorem dX11_safeOdds_0 : decode cX11_safeOdds 0 = .ok (.aload_n 0, 1) := by decide +kernel
theorem dX11_safeOdds_1 : decode cX11_safeOdds 1 = .ok (.getfield 28, 3) := by decide +kernel
theorem dX11_safeOdds_4 : decode cX11_safeOdds 4 = .ok (.iload_n 1, 1) := by decide +kernel
theorem dX11_safeOdds_5 : decode cX11_safeOdds 5 = .ok (.invokevirtual 87, 3) := by decide +kernel
theorem dX11_safeOdds_8 : decode cX11_safeOdds 8 = .ok (.ifCond .ne 9, 3) := by decide +kernel
theorem dX11_safeOdds_11 : decode cX11_safeOdds 11 = .ok (.aload_n 0, 1) := by decide +kernel
theorem dX11_safeOdds_12 : decode cX11_safeOdds 12 = .ok (.iconst (-1), 1) := by decide +kernel
theorem dX11_safeOdds_13 : decode cX11_safeOdds 13 = .ok (.invokevirtual 80, 3) := by decide +kernel
theorem dX11_safeOdds_16 : decode cX11_safeOdds 16 = .ok (.ireturn, 1) := by decide +kernel
theorem dX11_safeOdds_17 : decode cX11_safeOdds 17 = .ok (.aload_n 0, 1) := by decide +kernel
theorem dX11_safeOdds_18 : decode cX11_safeOdds 18 = .ok (.getfield 32, 3) := by decide +kernel
theorem dX11_safeOdds_21 : decode cX11_safeOdds 21 = .ok (.aload_n 0, 1) := by decide +kernel
theorem dX11_safeOdds_22 : decode cX11_safeOdds 22 = .ok (.getfield 28, 3) := by decide +kernel
theorem dX11_safeOdds_25 : decode cX11_safeOdds 25 = .ok (.invokevirtual 153, 3) := by decide +kernel
theorem dX11_safeOdds_28 : decode cX11_safeOdds 28 = .ok (.aload_n 0, 1) := by decide +kernel
theorem dX11_safeOdds_29 : decode cX11_safeOdds 29 = .ok (.getfield 28, 3) := by decide +kernel
theorem dX11_safeOdds_32 : decode cX11_safeOdds 32 = .ok (.iload_n 1, 1) := by decide +kernel
theorem dX11_safeOdds_33 : decode cX11_safeOdds 33 = .ok (.bipush 6, 2) := by decide +kernel
theorem dX11_safeOdds_35 : decode cX11_safeOdds 35 = .ok (.invokevirtual 91, 3) := by decide +kernel
theorem dX11_safeOdds_38 : decode cX11_safeOdds 38 = .ok (.istore_n 2, 1) := by decide +kernel
theorem dX11_safeOdds_39 : decode cX11_safeOdds 39 = .ok (.bipush 9, 2) := by decide +kernel
theorem dX11_safeOdds_41 : decode cX11_safeOdds 41 = .ok (.istore_n 3, 1) := by decide +kernel
theorem dX11_safeOdds_42 : decode cX11_safeOdds 42 = .ok (.iload_n 3, 1) := by decide +kernel
theorem dX11_safeOdds_43 : decode cX11_safeOdds 43 = .ok (.ifCond .lt 33, 3) := by decide +kernel
theorem dX11_safeOdds_46 : decode cX11_safeOdds 46 = .ok (.aload_n 0, 1) := by decide +kernel
theorem dX11_safeOdds_47 : decode cX11_safeOdds 47 = .ok (.getfield 32, 3) := by decide +kernel
theorem dX11_safeOdds_50 : decode cX11_safeOdds 50 = .ok (.iload_n 1, 1) := by decide +kernel
theorem dX11_safeOdds_51 : decode cX11_safeOdds 51 = .ok (.iconst 4, 1) := by decide +kernel
theorem dX11_safeOdds_52 : decode cX11_safeOdds 52 = .ok (.iload_n 3, 1) := by decide +kernel
theorem dX11_safeOdds_53 : decode cX11_safeOdds 53 = .ok (.invokevirtual 95, 3) := by decide +kernel
theorem dX11_safeOdds_56 : decode cX11_safeOdds 56 = .ok (.aload_n 0, 1) := by decide +kernel
theorem dX11_safeOdds_57 : decode cX11_safeOdds 57 = .ok (.aload_n 0, 1) := by decide +kernel
theorem dX11_safeOdds_58 : decode cX11_safeOdds 58 = .ok (.getfield 32, 3) := by decide +kernel
theorem dX11_safeOdds_61 : decode cX11_safeOdds 61 = .ok (.iload_n 2, 1) := by decide +kernel
theorem dX11_safeOdds_62 : decode cX11_safeOdds 62 = .ok (.invokevirtual 128, 3) := by decide +kernel
theorem dX11_safeOdds_65 : decode cX11_safeOdds 65 = .ok (.ifCond .lt 5, 3) := by decide +kernel
theorem dX11_safeOdds_68 : decode cX11_safeOdds 68 = .ok (.iload_n 3, 1) := by decide +kernel
theorem dX11_safeOdds_69 : decode cX11_safeOdds 69 = .ok (.ireturn, 1) := by decide +kernel
theorem dX11_safeOdds_70 : decode cX11_safeOdds 70 = .ok (.iinc 3 (-1), 3) := by decide +kernel
theorem dX11_safeOdds_73 : decode cX11_safeOdds 73 = .ok (.goto (-31), 3) := by decide +kernel
theorem dX11_safeOdds_76 : decode cX11_safeOdds 76 = .ok (.bipush (-9), 2) := by decide +kernel
theorem dX11_safeOdds_78 : decode cX11_safeOdds 78 = .ok (.ireturn, 1) := by decide +kernel
theorem dX11_host_0 : decode cX11_host 0 = .ok (.iconst 0, 1) := by decide +kernel
theorem dX11_host_1 : decode cX11_host 1 = .ok (.istore_n 1, 1) := by decide +kernel
theorem dX11_host_2 : decode cX11_host 2 = .ok (.iconst 1, 1) := by decide +kernel
theorem dX11_host_3 : decode cX11_host 3 = .ok (.istore_n 2, 1) := by decide +kernel
theorem dX11_host_4 : decode cX11_host 4 = .ok (.iload_n 2, 1) := by decide +kernel
theorem dX11_host_5 : decode cX11_host 5 = .ok (.iconst 4, 1) := by decide +kernel
theorem dX11_host_6 : decode cX11_host 6 = .ok (.if_icmp .ge 32, 3) := by decide +kernel
theorem dX11_host_9 : decode cX11_host 9 = .ok (.aload_n 0, 1) := by decide +kernel
theorem dX11_host_10 : decode cX11_host 10 = .ok (.aload_n 0, 1) := by decide +kernel
theorem dX11_host_11 : decode cX11_host 11 = .ok (.getfield 28, 3) := by decide +kernel
theorem dX11_host_14 : decode cX11_host 14 = .ok (.iload_n 2, 1) := by decide +kernel
theorem dX11_host_15 : decode cX11_host 15 = .ok (.invokevirtual 128, 3) := by decide +kernel
theorem dX11_host_18 : decode cX11_host 18 = .ok (.aload_n 0, 1) := by decide +kernel
theorem dX11_host_19 : decode cX11_host 19 = .ok (.aload_n 0, 1) := by decide +kernel
theorem dX11_host_20 : decode cX11_host 20 = .ok (.getfield 28, 3) := by decide +kernel
theorem dX11_host_23 : decode cX11_host 23 = .ok (.iload_n 1, 1) := by decide +kernel
theorem dX11_host_24 : decode cX11_host 24 = .ok (.invokevirtual 128, 3) := by decide +kernel
theorem dX11_host_27 : decode cX11_host 27 = .ok (.if_icmp .le 5, 3) := by decide +kernel
theorem dX11_host_30 : decode cX11_host 30 = .ok (.iload_n 2, 1) := by decide +kernel
theorem dX11_host_31 : decode cX11_host 31 = .ok (.istore_n 1, 1) := by decide +kernel
theorem dX11_host_32 : decode cX11_host 32 = .ok (.iinc 2 1, 3) := by decide +kernel
theorem dX11_host_35 : decode cX11_host 35 = .ok (.goto (-31), 3) := by decide +kernel
theorem dX11_host_38 : decode cX11_host 38 = .ok (.iload_n 1, 1) := by decide +kernel
theorem dX11_host_39 : decode cX11_host 39 = .ok (.ireturn, 1) := by decide +kernel
theorem dX11_settling_0 : decode cX11_settling 0 = .ok (.aload_n 0, 1) := by decide +kernel
theorem dX11_settling_1 : decode cX11_settling 1 = .ok (.getfield 28, 3) := by decide +kernel
theorem dX11_settling_4 : decode cX11_settling 4 = .ok (.iload_n 1, 1) := by decide +kernel
theorem dX11_settling_5 : decode cX11_settling 5 = .ok (.invokevirtual 109, 3) := by decide +kernel
theorem dX11_settling_8 : decode cX11_settling 8 = .ok (.ifCond .eq 13, 3) := by decide +kernel
theorem dX11_settling_11 : decode cX11_settling 11 = .ok (.iconst 4, 1) := by decide +kernel
theorem dX11_settling_12 : decode cX11_settling 12 = .ok (.aload_n 0, 1) := by decide +kernel
theorem dX11_settling_13 : decode cX11_settling 13 = .ok (.iload_n 1, 1) := by decide +kernel
theorem dX11_settling_14 : decode cX11_settling 14 = .ok (.invokevirtual 163, 3) := by decide +kernel
theorem dX11_settling_17 : decode cX11_settling 17 = .ok (.isub, 1) := by decide +kernel
theorem dX11_settling_18 : decode cX11_settling 18 = .ok (.goto 8, 3) := by decide +kernel
theorem dX11_settling_21 : decode cX11_settling 21 = .ok (.aload_n 0, 1) := by decide +kernel
theorem dX11_settling_22 : decode cX11_settling 22 = .ok (.iconst (-1), 1) := by decide +kernel
theorem dX11_settling_23 : decode cX11_settling 23 = .ok (.invokevirtual 80, 3) := by decide +kernel
theorem dX11_settling_26 : decode cX11_settling 26 = .ok (.ireturn, 1) := by decide +kernel
theorem dX11_cannotPay_0 : decode cX11_cannotPay 0 = .ok (.aload_n 0, 1) := by decide +kernel
theorem dX11_cannotPay_1 : decode cX11_cannotPay 1 = .ok (.getfield 28, 3) := by decide +kernel
theorem dX11_cannotPay_4 : decode cX11_cannotPay 4 = .ok (.iload_n 1, 1) := by decide +kernel
theorem dX11_cannotPay_5 : decode cX11_cannotPay 5 = .ok (.invokevirtual 109, 3) := by decide +kernel
theorem dX11_cannotPay_8 : decode cX11_cannotPay 8 = .ok (.ifCond .ne 9, 3) := by decide +kernel
theorem dX11_cannotPay_11 : decode cX11_cannotPay 11 = .ok (.aload_n 0, 1) := by decide +kernel
theorem dX11_cannotPay_12 : decode cX11_cannotPay 12 = .ok (.iconst (-1), 1) := by decide +kernel
theorem dX11_cannotPay_13 : decode cX11_cannotPay 13 = .ok (.invokevirtual 80, 3) := by decide +kernel
theorem dX11_cannotPay_16 : decode cX11_cannotPay 16 = .ok (.ireturn, 1) := by decide +kernel
theorem dX11_cannotPay_17 : decode cX11_cannotPay 17 = .ok (.iconst 0, 1) := by decide +kernel
theorem dX11_cannotPay_18 : decode cX11_cannotPay 18 = .ok (.istore_n 2, 1) := by decide +kernel
theorem dX11_cannotPay_19 : decode cX11_cannotPay 19 = .ok (.iconst 0, 1) := by decide +kernel
theorem dX11_cannotPay_20 : decode cX11_cannotPay 20 = .ok (.istore_n 3, 1) := by decide +kernel
theorem dX11_cannotPay_21 : decode cX11_cannotPay 21 = .ok (.iload_n 3, 1) := by decide +kernel
theorem dX11_cannotPay_22 : decode cX11_cannotPay 22 = .ok (.iconst 4, 1) := by decide +kernel
theorem dX11_cannotPay_23 : decode cX11_cannotPay 23 = .ok (.if_icmp .ge 37, 3) := by decide +kernel
theorem dX11_cannotPay_26 : decode cX11_cannotPay 26 = .ok (.aload_n 0, 1) := by decide +kernel
theorem dX11_cannotPay_27 : decode cX11_cannotPay 27 = .ok (.aload_n 0, 1) := by decide +kernel
theorem dX11_cannotPay_28 : decode cX11_cannotPay 28 = .ok (.getfield 28, 3) := by decide +kernel
theorem dX11_cannotPay_31 : decode cX11_cannotPay 31 = .ok (.iload_n 3, 1) := by decide +kernel
theorem dX11_cannotPay_32 : decode cX11_cannotPay 32 = .ok (.iload_n 1, 1) := by decide +kernel
theorem dX11_cannotPay_33 : decode cX11_cannotPay 33 = .ok (.invokevirtual 124, 3) := by decide +kernel
theorem dX11_cannotPay_36 : decode cX11_cannotPay 36 = .ok (.aload_n 0, 1) := by decide +kernel
theorem dX11_cannotPay_37 : decode cX11_cannotPay 37 = .ok (.getfield 28, 3) := by decide +kernel
theorem dX11_cannotPay_40 : decode cX11_cannotPay 40 = .ok (.iload_n 3, 1) := by decide +kernel
theorem dX11_cannotPay_41 : decode cX11_cannotPay 41 = .ok (.invokevirtual 102, 3) := by decide +kernel
theorem dX11_cannotPay_44 : decode cX11_cannotPay 44 = .ok (.iadd, 1) := by decide +kernel
theorem dX11_cannotPay_45 : decode cX11_cannotPay 45 = .ok (.ifCond .ge 9, 3) := by decide +kernel
theorem dX11_cannotPay_48 : decode cX11_cannotPay 48 = .ok (.iload_n 2, 1) := by decide +kernel
theorem dX11_cannotPay_49 : decode cX11_cannotPay 49 = .ok (.iconst 1, 1) := by decide +kernel
theorem dX11_cannotPay_50 : decode cX11_cannotPay 50 = .ok (.iload_n 3, 1) := by decide +kernel
theorem dX11_cannotPay_51 : decode cX11_cannotPay 51 = .ok (.ishl, 1) := by decide +kernel
theorem dX11_cannotPay_52 : decode cX11_cannotPay 52 = .ok (.ior, 1) := by decide +kernel
theorem dX11_cannotPay_53 : decode cX11_cannotPay 53 = .ok (.istore_n 2, 1) := by decide +kernel
theorem dX11_cannotPay_54 : decode cX11_cannotPay 54 = .ok (.iinc 3 1, 3) := by decide +kernel
theorem dX11_cannotPay_57 : decode cX11_cannotPay 57 = .ok (.goto (-36), 3) := by decide +kernel
theorem dX11_cannotPay_60 : decode cX11_cannotPay 60 = .ok (.iload_n 2, 1) := by decide +kernel
theorem dX11_cannotPay_61 : decode cX11_cannotPay 61 = .ok (.ireturn, 1) := by decide +kernel
theorem dX11_rings_0 : decode cX11_rings 0 = .ok (.iconst 0, 1) := by decide +kernel
theorem dX11_rings_1 : decode cX11_rings 1 = .ok (.istore_n 1, 1) := by decide +kernel
theorem dX11_rings_2 : decode cX11_rings 2 = .ok (.iload_n 1, 1) := by decide +kernel
theorem dX11_rings_3 : decode cX11_rings 3 = .ok (.aload_n 0, 1) := by decide +kernel
theorem dX11_rings_4 : decode cX11_rings 4 = .ok (.getfield 28, 3) := by decide +kernel
theorem dX11_rings_7 : decode cX11_rings 7 = .ok (.getfield 160, 3) := by decide +kernel
theorem dX11_rings_10 : decode cX11_rings 10 = .ok (.if_icmp .ge 29, 3) := by decide +kernel
theorem dX11_rings_13 : decode cX11_rings 13 = .ok (.aload_n 0, 1) := by decide +kernel
theorem dX11_rings_14 : decode cX11_rings 14 = .ok (.getfield 52, 3) := by decide +kernel
theorem dX11_rings_17 : decode cX11_rings 17 = .ok (.iload_n 1, 1) := by decide +kernel
theorem dX11_rings_18 : decode cX11_rings 18 = .ok (.aload_n 0, 1) := by decide +kernel
theorem dX11_rings_19 : decode cX11_rings 19 = .ok (.getfield 41, 3) := by decide +kernel
theorem dX11_rings_22 : decode cX11_rings 22 = .ok (.aload_n 0, 1) := by decide +kernel
theorem dX11_rings_23 : decode cX11_rings 23 = .ok (.getfield 28, 3) := by decide +kernel
theorem dX11_rings_26 : decode cX11_rings 26 = .ok (.iload_n 1, 1) := by decide +kernel
theorem dX11_rings_27 : decode cX11_rings 27 = .ok (.invokevirtual 166, 3) := by decide +kernel
theorem dX11_rings_30 : decode cX11_rings 30 = .ok (.invokestatic 169, 3) := by decide +kernel
theorem dX11_rings_33 : decode cX11_rings 33 = .ok (.iinc 1 1, 3) := by decide +kernel
theorem dX11_rings_36 : decode cX11_rings 36 = .ok (.goto (-34), 3) := by decide +kernel
theorem dX11_rings_39 : decode cX11_rings 39 = .ok (.iconst 0, 1) := by decide +kernel
theorem dX11_rings_40 : decode cX11_rings 40 = .ok (.istore_n 1, 1) := by decide +kernel
theorem dX11_rings_41 : decode cX11_rings 41 = .ok (.iload_n 1, 1) := by decide +kernel
theorem dX11_rings_42 : decode cX11_rings 42 = .ok (.aload_n 0, 1) := by decide +kernel
theorem dX11_rings_43 : decode cX11_rings 43 = .ok (.getfield 28, 3) := by decide +kernel
theorem dX11_rings_46 : decode cX11_rings 46 = .ok (.getfield 160, 3) := by decide +kernel
theorem dX11_rings_49 : decode cX11_rings 49 = .ok (.if_icmp .ge 68, 3) := by decide +kernel
theorem dX11_rings_52 : decode cX11_rings 52 = .ok (.iconst 0, 1) := by decide +kernel
theorem dX11_rings_53 : decode cX11_rings 53 = .ok (.istore_n 2, 1) := by decide +kernel
theorem dX11_rings_54 : decode cX11_rings 54 = .ok (.iload_n 2, 1) := by decide +kernel
theorem dX11_rings_55 : decode cX11_rings 55 = .ok (.aload_n 0, 1) := by decide +kernel
theorem dX11_rings_56 : decode cX11_rings 56 = .ok (.getfield 28, 3) := by decide +kernel
theorem dX11_rings_59 : decode cX11_rings 59 = .ok (.getfield 160, 3) := by decide +kernel
theorem dX11_rings_62 : decode cX11_rings 62 = .ok (.if_icmp .ge 49, 3) := by decide +kernel
theorem dX11_rings_65 : decode cX11_rings 65 = .ok (.aload_n 0, 1) := by decide +kernel
theorem dX11_rings_66 : decode cX11_rings 66 = .ok (.getfield 52, 3) := by decide +kernel
theorem dX11_rings_69 : decode cX11_rings 69 = .ok (.iload_n 2, 1) := by decide +kernel
theorem dX11_rings_70 : decode cX11_rings 70 = .ok (.invokestatic 173, 3) := by decide +kernel
theorem dX11_rings_73 : decode cX11_rings 73 = .ok (.iload_n 1, 1) := by decide +kernel
theorem dX11_rings_74 : decode cX11_rings 74 = .ok (.invokestatic 177, 3) := by decide +kernel
theorem dX11_rings_77 : decode cX11_rings 77 = .ok (.ifCond .eq 28, 3) := by decide +kernel
theorem dX11_rings_80 : decode cX11_rings 80 = .ok (.aload_n 0, 1) := by decide +kernel
theorem dX11_rings_81 : decode cX11_rings 81 = .ok (.getfield 52, 3) := by decide +kernel
theorem dX11_rings_84 : decode cX11_rings 84 = .ok (.iload_n 2, 1) := by decide +kernel
theorem dX11_rings_85 : decode cX11_rings 85 = .ok (.aload_n 0, 1) := by decide +kernel
theorem dX11_rings_86 : decode cX11_rings 86 = .ok (.getfield 52, 3) := by decide +kernel
theorem dX11_rings_89 : decode cX11_rings 89 = .ok (.iload_n 2, 1) := by decide +kernel
theorem dX11_rings_90 : decode cX11_rings 90 = .ok (.invokestatic 173, 3) := by decide +kernel
theorem dX11_rings_93 : decode cX11_rings 93 = .ok (.aload_n 0, 1) := by decide +kernel
theorem dX11_rings_94 : decode cX11_rings 94 = .ok (.getfield 52, 3) := by decide +kernel
theorem dX11_rings_97 : decode cX11_rings 97 = .ok (.iload_n 1, 1) := by decide +kernel
theorem dX11_rings_98 : decode cX11_rings 98 = .ok (.invokestatic 173, 3) := by decide +kernel
theorem dX11_rings_101 : decode cX11_rings 101 = .ok (.ior, 1) := by decide +kernel
theorem dX11_rings_102 : decode cX11_rings 102 = .ok (.invokestatic 169, 3) := by decide +kernel
theorem dX11_rings_105 : decode cX11_rings 105 = .ok (.iinc 2 1, 3) := by decide +kernel
theorem dX11_rings_108 : decode cX11_rings 108 = .ok (.goto (-54), 3) := by decide +kernel
theorem dX11_rings_111 : decode cX11_rings 111 = .ok (.iinc 1 1, 3) := by decide +kernel
theorem dX11_rings_114 : decode cX11_rings 114 = .ok (.goto (-73), 3) := by decide +kernel
theorem dX11_rings_117 : decode cX11_rings 117 = .ok (.iconst 0, 1) := by decide +kernel
theorem dX11_rings_118 : decode cX11_rings 118 = .ok (.istore_n 1, 1) := by decide +kernel
theorem dX11_rings_119 : decode cX11_rings 119 = .ok (.iconst 0, 1) := by decide +kernel
theorem dX11_rings_120 : decode cX11_rings 120 = .ok (.istore_n 2, 1) := by decide +kernel
theorem dX11_rings_121 : decode cX11_rings 121 = .ok (.iload_n 2, 1) := by decide +kernel
theorem dX11_rings_122 : decode cX11_rings 122 = .ok (.aload_n 0, 1) := by decide +kernel
theorem dX11_rings_123 : decode cX11_rings 123 = .ok (.getfield 28, 3) := by decide +kernel
theorem dX11_rings_126 : decode cX11_rings 126 = .ok (.getfield 160, 3) := by decide +kernel
theorem dX11_rings_129 : decode cX11_rings 129 = .ok (.if_icmp .ge 24, 3) := by decide +kernel
theorem dX11_rings_132 : decode cX11_rings 132 = .ok (.iload_n 1, 1) := by decide +kernel
theorem dX11_rings_133 : decode cX11_rings 133 = .ok (.aload_n 0, 1) := by decide +kernel
theorem dX11_rings_134 : decode cX11_rings 134 = .ok (.getfield 52, 3) := by decide +kernel
theorem dX11_rings_137 : decode cX11_rings 137 = .ok (.iload_n 2, 1) := by decide +kernel
theorem dX11_rings_138 : decode cX11_rings 138 = .ok (.invokestatic 173, 3) := by decide +kernel
theorem dX11_rings_141 : decode cX11_rings 141 = .ok (.iconst 1, 1) := by decide +kernel
theorem dX11_rings_142 : decode cX11_rings 142 = .ok (.iload_n 2, 1) := by decide +kernel
theorem dX11_rings_143 : decode cX11_rings 143 = .ok (.ishl, 1) := by decide +kernel
theorem dX11_rings_144 : decode cX11_rings 144 = .ok (.iand, 1) := by decide +kernel
theorem dX11_rings_145 : decode cX11_rings 145 = .ok (.ior, 1) := by decide +kernel
theorem dX11_rings_146 : decode cX11_rings 146 = .ok (.istore_n 1, 1) := by decide +kernel
theorem dX11_rings_147 : decode cX11_rings 147 = .ok (.iinc 2 1, 3) := by decide +kernel
theorem dX11_rings_150 : decode cX11_rings 150 = .ok (.goto (-29), 3) := by decide +kernel
theorem dX11_rings_153 : decode cX11_rings 153 = .ok (.iload_n 1, 1) := by decide +kernel
theorem dX11_rings_154 : decode cX11_rings 154 = .ok (.ireturn, 1) := by decide +kernel
theorem dX11_row_0 : decode cX11_row 0 = .ok (.aload_n 0, 1) := by decide +kernel
theorem dX11_row_1 : decode cX11_row 1 = .ok (.aload_n 0, 1) := by decide +kernel
theorem dX11_row_2 : decode cX11_row 2 = .ok (.getfield 21, 3) := by decide +kernel
theorem dX11_row_5 : decode cX11_row 5 = .ok (.iload_n 1, 1) := by decide +kernel
theorem dX11_row_6 : decode cX11_row 6 = .ok (.sipush 999, 3) := by decide +kernel
theorem dX11_row_9 : decode cX11_row 9 = .ok (.invokevirtual 62, 3) := by decide +kernel
theorem dX11_row_12 : decode cX11_row 12 = .ok (.ireturn, 1) := by decide +kernel
theorem dX11_fitting_0 : decode cX11_fitting 0 = .ok (.iload_n 1, 1) := by decide +kernel
theorem dX11_fitting_1 : decode cX11_fitting 1 = .ok (.ifCond .eq 15, 3) := by decide +kernel
theorem dX11_fitting_4 : decode cX11_fitting 4 = .ok (.iload_n 1, 1) := by decide +kernel
theorem dX11_fitting_5 : decode cX11_fitting 5 = .ok (.iconst 1, 1) := by decide +kernel
theorem dX11_fitting_6 : decode cX11_fitting 6 = .ok (.if_icmp .eq 10, 3) := by decide +kernel
theorem dX11_fitting_9 : decode cX11_fitting 9 = .ok (.aload_n 0, 1) := by decide +kernel
theorem dX11_fitting_10 : decode cX11_fitting 10 = .ok (.bipush (-2), 2) := by decide +kernel
theorem dX11_fitting_12 : decode cX11_fitting 12 = .ok (.invokevirtual 80, 3) := by decide +kernel
theorem dX11_fitting_15 : decode cX11_fitting 15 = .ok (.ireturn, 1) := by decide +kernel
theorem dX11_fitting_16 : decode cX11_fitting 16 = .ok (.aload_n 0, 1) := by decide +kernel
theorem dX11_fitting_17 : decode cX11_fitting 17 = .ok (.getfield 28, 3) := by decide +kernel
theorem dX11_fitting_20 : decode cX11_fitting 20 = .ok (.invokevirtual 139, 3) := by decide +kernel
theorem dX11_fitting_23 : decode cX11_fitting 23 = .ok (.istore_n 2, 1) := by decide +kernel
theorem dX11_fitting_24 : decode cX11_fitting 24 = .ok (.iconst 0, 1) := by decide +kernel
theorem dX11_fitting_25 : decode cX11_fitting 25 = .ok (.istore_n 3, 1) := by decide +kernel
theorem dX11_fitting_26 : decode cX11_fitting 26 = .ok (.iconst 0, 1) := by decide +kernel
theorem dX11_fitting_27 : decode cX11_fitting 27 = .ok (.istore 4, 2) := by decide +kernel
theorem dX11_fitting_29 : decode cX11_fitting 29 = .ok (.iload 4, 2) := by decide +kernel
theorem dX11_fitting_31 : decode cX11_fitting 31 = .ok (.iload_n 2, 1) := by decide +kernel
theorem dX11_fitting_32 : decode cX11_fitting 32 = .ok (.if_icmp .ge 27, 3) := by decide +kernel
theorem dX11_fitting_35 : decode cX11_fitting 35 = .ok (.aload_n 0, 1) := by decide +kernel
theorem dX11_fitting_36 : decode cX11_fitting 36 = .ok (.iload 4, 2) := by decide +kernel
theorem dX11_fitting_38 : decode cX11_fitting 38 = .ok (.invokevirtual 181, 3) := by decide +kernel
theorem dX11_fitting_41 : decode cX11_fitting 41 = .ok (.bipush (-9), 2) := by decide +kernel
theorem dX11_fitting_43 : decode cX11_fitting 43 = .ok (.if_icmp .ne 10, 3) := by decide +kernel
theorem dX11_fitting_46 : decode cX11_fitting 46 = .ok (.iload_n 3, 1) := by decide +kernel
theorem dX11_fitting_47 : decode cX11_fitting 47 = .ok (.iconst 1, 1) := by decide +kernel
theorem dX11_fitting_48 : decode cX11_fitting 48 = .ok (.iload 4, 2) := by decide +kernel
theorem dX11_fitting_50 : decode cX11_fitting 50 = .ok (.ishl, 1) := by decide +kernel
theorem dX11_fitting_51 : decode cX11_fitting 51 = .ok (.ior, 1) := by decide +kernel
theorem dX11_fitting_52 : decode cX11_fitting 52 = .ok (.istore_n 3, 1) := by decide +kernel
theorem dX11_fitting_53 : decode cX11_fitting 53 = .ok (.iinc 4 1, 3) := by decide +kernel
theorem dX11_fitting_56 : decode cX11_fitting 56 = .ok (.goto (-27), 3) := by decide +kernel
theorem dX11_fitting_59 : decode cX11_fitting 59 = .ok (.iload_n 1, 1) := by decide +kernel
theorem dX11_fitting_60 : decode cX11_fitting 60 = .ok (.ifCond .ne 7, 3) := by decide +kernel
theorem dX11_fitting_63 : decode cX11_fitting 63 = .ok (.iload_n 3, 1) := by decide +kernel
theorem dX11_fitting_64 : decode cX11_fitting 64 = .ok (.goto 7, 3) := by decide +kernel
theorem dX11_fitting_67 : decode cX11_fitting 67 = .ok (.iload_n 3, 1) := by decide +kernel
theorem dX11_fitting_68 : decode cX11_fitting 68 = .ok (.invokestatic 184, 3) := by decide +kernel
theorem dX11_fitting_71 : decode cX11_fitting 71 = .ok (.ireturn, 1) := by decide +kernel
theorem dX11_judge_0 : decode cX11_judge 0 = .ok (.aload_n 0, 1) := by decide +kernel
theorem dX11_judge_1 : decode cX11_judge 1 = .ok (.getfield 28, 3) := by decide +kernel
theorem dX11_judge_4 : decode cX11_judge 4 = .ok (.iload_n 1, 1) := by decide +kernel
theorem dX11_judge_5 : decode cX11_judge 5 = .ok (.invokevirtual 109, 3) := by decide +kernel
theorem dX11_judge_8 : decode cX11_judge 8 = .ok (.ifCond .ne 9, 3) := by decide +kernel
theorem dX11_judge_11 : decode cX11_judge 11 = .ok (.aload_n 0, 1) := by decide +kernel
theorem dX11_judge_12 : decode cX11_judge 12 = .ok (.iconst (-1), 1) := by decide +kernel
theorem dX11_judge_13 : decode cX11_judge 13 = .ok (.invokevirtual 80, 3) := by decide +kernel
theorem dX11_judge_16 : decode cX11_judge 16 = .ok (.ireturn, 1) := by decide +kernel
theorem dX11_judge_17 : decode cX11_judge 17 = .ok (.aload_n 0, 1) := by decide +kernel
theorem dX11_judge_18 : decode cX11_judge 18 = .ok (.iload_n 1, 1) := by decide +kernel
theorem dX11_judge_19 : decode cX11_judge 19 = .ok (.invokevirtual 181, 3) := by decide +kernel
theorem dX11_judge_22 : decode cX11_judge 22 = .ok (.istore_n 2, 1) := by decide +kernel
theorem dX11_judge_23 : decode cX11_judge 23 = .ok (.aload_n 0, 1) := by decide +kernel
theorem dX11_judge_24 : decode cX11_judge 24 = .ok (.getfield 21, 3) := by decide +kernel
theorem dX11_judge_27 : decode cX11_judge 27 = .ok (.invokevirtual 73, 3) := by decide +kernel
theorem dX11_judge_30 : decode cX11_judge 30 = .ok (.iload_n 2, 1) := by decide +kernel
theorem dX11_judge_31 : decode cX11_judge 31 = .ok (.ireturn, 1) := by decide +kernel
theorem dX11_seeds_0 : decode cX11_seeds 0 = .ok (.iload_n 3, 1) := by decide +kernel
theorem dX11_seeds_1 : decode cX11_seeds 1 = .ok (.invokestatic 99, 3) := by decide +kernel
theorem dX11_seeds_4 : decode cX11_seeds 4 = .ok (.ifCond .ne 9, 3) := by decide +kernel
theorem dX11_seeds_7 : decode cX11_seeds 7 = .ok (.aload_n 0, 1) := by decide +kernel
theorem dX11_seeds_8 : decode cX11_seeds 8 = .ok (.iconst (-1), 1) := by decide +kernel
theorem dX11_seeds_9 : decode cX11_seeds 9 = .ok (.invokevirtual 121, 3) := by decide +kernel
theorem dX11_seeds_12 : decode cX11_seeds 12 = .ok (.ireturn, 1) := by decide +kernel
theorem dX11_seeds_13 : decode cX11_seeds 13 = .ok (.iload_n 1, 1) := by decide +kernel
theorem dX11_seeds_14 : decode cX11_seeds 14 = .ok (.iconst 1, 1) := by decide +kernel
theorem dX11_seeds_15 : decode cX11_seeds 15 = .ok (.if_icmp .ge 10, 3) := by decide +kernel
theorem dX11_seeds_18 : decode cX11_seeds 18 = .ok (.aload_n 0, 1) := by decide +kernel
theorem dX11_seeds_19 : decode cX11_seeds 19 = .ok (.bipush (-4), 2) := by decide +kernel
theorem dX11_seeds_21 : decode cX11_seeds 21 = .ok (.invokevirtual 121, 3) := by decide +kernel
theorem dX11_seeds_24 : decode cX11_seeds 24 = .ok (.ireturn, 1) := by decide +kernel
theorem dX11_seeds_25 : decode cX11_seeds 25 = .ok (.iload_n 1, 1) := by decide +kernel
theorem dX11_seeds_26 : decode cX11_seeds 26 = .ok (.bipush 30, 2) := by decide +kernel
theorem dX11_seeds_28 : decode cX11_seeds 28 = .ok (.if_icmp .le 10, 3) := by decide +kernel
theorem dX11_seeds_31 : decode cX11_seeds 31 = .ok (.aload_n 0, 1) := by decide +kernel
theorem dX11_seeds_32 : decode cX11_seeds 32 = .ok (.bipush (-6), 2) := by decide +kernel
theorem dX11_seeds_34 : decode cX11_seeds 34 = .ok (.invokevirtual 121, 3) := by decide +kernel
theorem dX11_seeds_37 : decode cX11_seeds 37 = .ok (.ireturn, 1) := by decide +kernel
theorem dX11_seeds_38 : decode cX11_seeds 38 = .ok (.iload_n 2, 1) := by decide +kernel
theorem dX11_seeds_39 : decode cX11_seeds 39 = .ok (.istore 4, 2) := by decide +kernel
theorem dX11_seeds_41 : decode cX11_seeds 41 = .ok (.iconst 0, 1) := by decide +kernel
theorem dX11_seeds_42 : decode cX11_seeds 42 = .ok (.istore 5, 2) := by decide +kernel
theorem dX11_seeds_44 : decode cX11_seeds 44 = .ok (.iconst 0, 1) := by decide +kernel
theorem dX11_seeds_45 : decode cX11_seeds 45 = .ok (.istore 6, 2) := by decide +kernel
theorem dX11_seeds_47 : decode cX11_seeds 47 = .ok (.iload 6, 2) := by decide +kernel
theorem dX11_seeds_49 : decode cX11_seeds 49 = .ok (.iload_n 1, 1) := by decide +kernel
theorem dX11_seeds_50 : decode cX11_seeds 50 = .ok (.if_icmp .ge 85, 3) := by decide +kernel
theorem dX11_seeds_53 : decode cX11_seeds 53 = .ok (.iconst 0, 1) := by decide +kernel
theorem dX11_seeds_54 : decode cX11_seeds 54 = .ok (.istore 7, 2) := by decide +kernel
theorem dX11_seeds_56 : decode cX11_seeds 56 = .ok (.iconst 0, 1) := by decide +kernel
theorem dX11_seeds_57 : decode cX11_seeds 57 = .ok (.istore 8, 2) := by decide +kernel
theorem dX11_seeds_59 : decode cX11_seeds 59 = .ok (.iload 8, 2) := by decide +kernel
theorem dX11_seeds_61 : decode cX11_seeds 61 = .ok (.aload_n 0, 1) := by decide +kernel
theorem dX11_seeds_62 : decode cX11_seeds 62 = .ok (.getfield 28, 3) := by decide +kernel
theorem dX11_seeds_65 : decode cX11_seeds 65 = .ok (.getfield 76, 3) := by decide +kernel
theorem dX11_seeds_68 : decode cX11_seeds 68 = .ok (.if_icmp .ge 45, 3) := by decide +kernel
theorem dX11_seeds_71 : decode cX11_seeds 71 = .ok (.iload 4, 2) := by decide +kernel
theorem dX11_seeds_73 : decode cX11_seeds 73 = .ok (.ldc 189, 2) := by decide +kernel
theorem dX11_seeds_75 : decode cX11_seeds 75 = .ok (.imul, 1) := by decide +kernel
theorem dX11_seeds_76 : decode cX11_seeds 76 = .ok (.ldc 190, 2) := by decide +kernel
theorem dX11_seeds_78 : decode cX11_seeds 78 = .ok (.iadd, 1) := by decide +kernel
theorem dX11_seeds_79 : decode cX11_seeds 79 = .ok (.istore 4, 2) := by decide +kernel
theorem dX11_seeds_81 : decode cX11_seeds 81 = .ok (.iload 4, 2) := by decide +kernel
theorem dX11_seeds_83 : decode cX11_seeds 83 = .ok (.invokestatic 191, 3) := by decide +kernel
theorem dX11_seeds_86 : decode cX11_seeds 86 = .ok (.aload_n 0, 1) := by decide +kernel
theorem dX11_seeds_87 : decode cX11_seeds 87 = .ok (.getfield 28, 3) := by decide +kernel
theorem dX11_seeds_90 : decode cX11_seeds 90 = .ok (.iload 8, 2) := by decide +kernel
theorem dX11_seeds_92 : decode cX11_seeds 92 = .ok (.invokevirtual 84, 3) := by decide +kernel
theorem dX11_seeds_95 : decode cX11_seeds 95 = .ok (.if_icmp .ge 12, 3) := by decide +kernel
theorem dX11_seeds_98 : decode cX11_seeds 98 = .ok (.iload 7, 2) := by decide +kernel
theorem dX11_seeds_100 : decode cX11_seeds 100 = .ok (.iconst 1, 1) := by decide +kernel
theorem dX11_seeds_101 : decode cX11_seeds 101 = .ok (.iload 8, 2) := by decide +kernel
theorem dX11_seeds_103 : decode cX11_seeds 103 = .ok (.ishl, 1) := by decide +kernel
theorem dX11_seeds_104 : decode cX11_seeds 104 = .ok (.ior, 1) := by decide +kernel
theorem dX11_seeds_105 : decode cX11_seeds 105 = .ok (.istore 7, 2) := by decide +kernel
theorem dX11_seeds_107 : decode cX11_seeds 107 = .ok (.iinc 8 1, 3) := by decide +kernel
theorem dX11_seeds_110 : decode cX11_seeds 110 = .ok (.goto (-51), 3) := by decide +kernel
theorem dX11_seeds_113 : decode cX11_seeds 113 = .ok (.iload 5, 2) := by decide +kernel
theorem dX11_seeds_115 : decode cX11_seeds 115 = .ok (.aload_n 0, 1) := by decide +kernel
theorem dX11_seeds_116 : decode cX11_seeds 116 = .ok (.aload_n 0, 1) := by decide +kernel
theorem dX11_seeds_117 : decode cX11_seeds 117 = .ok (.getfield 28, 3) := by decide +kernel
theorem dX11_seeds_120 : decode cX11_seeds 120 = .ok (.iload_n 3, 1) := by decide +kernel
theorem dX11_seeds_121 : decode cX11_seeds 121 = .ok (.iload 7, 2) := by decide +kernel
theorem dX11_seeds_123 : decode cX11_seeds 123 = .ok (.invokevirtual 124, 3) := by decide +kernel
theorem dX11_seeds_126 : decode cX11_seeds 126 = .ok (.iadd, 1) := by decide +kernel
theorem dX11_seeds_127 : decode cX11_seeds 127 = .ok (.istore 5, 2) := by decide +kernel
theorem dX11_seeds_129 : decode cX11_seeds 129 = .ok (.iinc 6 1, 3) := by decide +kernel
theorem dX11_seeds_132 : decode cX11_seeds 132 = .ok (.goto (-85), 3) := by decide +kernel
theorem dX11_seeds_135 : decode cX11_seeds 135 = .ok (.iload 5, 2) := by decide +kernel
theorem dX11_seeds_137 : decode cX11_seeds 137 = .ok (.ireturn, 1) := by decide +kernel
theorem dX11_image_0 : decode cX11_image 0 = .ok (.aload_n 0, 1) := by decide +kernel
theorem dX11_image_1 : decode cX11_image 1 = .ok (.getfield 35, 3) := by decide +kernel
theorem dX11_image_4 : decode cX11_image 4 = .ok (.aload_n 0, 1) := by decide +kernel
theorem dX11_image_5 : decode cX11_image 5 = .ok (.getfield 28, 3) := by decide +kernel
theorem dX11_image_8 : decode cX11_image 8 = .ok (.invokevirtual 153, 3) := by decide +kernel
theorem dX11_image_11 : decode cX11_image 11 = .ok (.aload_n 0, 1) := by decide +kernel
theorem dX11_image_12 : decode cX11_image 12 = .ok (.iconst 1, 1) := by decide +kernel
theorem dX11_image_13 : decode cX11_image 13 = .ok (.putfield 55, 3) := by decide +kernel
theorem dX11_image_16 : decode cX11_image 16 = .ok (.aload_n 0, 1) := by decide +kernel
theorem dX11_image_17 : decode cX11_image 17 = .ok (.getfield 35, 3) := by decide +kernel
theorem dX11_image_20 : decode cX11_image 20 = .ok (.getfield 160, 3) := by decide +kernel
theorem dX11_image_23 : decode cX11_image 23 = .ok (.ireturn, 1) := by decide +kernel
theorem dX11_on_0 : decode cX11_on 0 = .ok (.aload_n 0, 1) := by decide +kernel
theorem dX11_on_1 : decode cX11_on 1 = .ok (.getfield 55, 3) := by decide +kernel
theorem dX11_on_4 : decode cX11_on 4 = .ok (.ifCond .ne 10, 3) := by decide +kernel
theorem dX11_on_7 : decode cX11_on 7 = .ok (.aload_n 0, 1) := by decide +kernel
theorem dX11_on_8 : decode cX11_on 8 = .ok (.bipush (-3), 2) := by decide +kernel
theorem dX11_on_10 : decode cX11_on 10 = .ok (.invokevirtual 80, 3) := by decide +kernel
theorem dX11_on_13 : decode cX11_on 13 = .ok (.ireturn, 1) := by decide +kernel
theorem dX11_on_14 : decode cX11_on 14 = .ok (.aload_n 0, 1) := by decide +kernel
theorem dX11_on_15 : decode cX11_on 15 = .ok (.getfield 28, 3) := by decide +kernel
theorem dX11_on_18 : decode cX11_on 18 = .ok (.aload_n 0, 1) := by decide +kernel
theorem dX11_on_19 : decode cX11_on 19 = .ok (.getfield 35, 3) := by decide +kernel
theorem dX11_on_22 : decode cX11_on 22 = .ok (.invokevirtual 153, 3) := by decide +kernel
theorem dX11_on_25 : decode cX11_on 25 = .ok (.aload_n 0, 1) := by decide +kernel
theorem dX11_on_26 : decode cX11_on 26 = .ok (.getfield 41, 3) := by decide +kernel
theorem dX11_on_29 : decode cX11_on 29 = .ok (.aload_n 0, 1) := by decide +kernel
theorem dX11_on_30 : decode cX11_on 30 = .ok (.getfield 28, 3) := by decide +kernel
theorem dX11_on_33 : decode cX11_on 33 = .ok (.invokevirtual 194, 3) := by decide +kernel
theorem dX11_on_36 : decode cX11_on 36 = .ok (.aload_n 0, 1) := by decide +kernel
theorem dX11_on_37 : decode cX11_on 37 = .ok (.getfield 28, 3) := by decide +kernel
theorem dX11_on_40 : decode cX11_on 40 = .ok (.getfield 160, 3) := by decide +kernel
theorem dX11_on_43 : decode cX11_on 43 = .ok (.ireturn, 1) := by decide +kernel
theorem dX11_count_0 : decode cX11_count 0 = .ok (.iload_n 1, 1) := by decide +kernel
theorem dX11_count_1 : decode cX11_count 1 = .ok (.tableswitch 90 0 5 #[39, 47, 55, 63, 71, 79], 39) := by decide +kernel
theorem dX11_count_40 : decode cX11_count 40 = .ok (.aload_n 0, 1) := by decide +kernel
theorem dX11_count_41 : decode cX11_count 41 = .ok (.getfield 28, 3) := by decide +kernel
theorem dX11_count_44 : decode cX11_count 44 = .ok (.getfield 76, 3) := by decide +kernel
theorem dX11_count_47 : decode cX11_count 47 = .ok (.ireturn, 1) := by decide +kernel
theorem dX11_count_48 : decode cX11_count 48 = .ok (.aload_n 0, 1) := by decide +kernel
theorem dX11_count_49 : decode cX11_count 49 = .ok (.getfield 28, 3) := by decide +kernel
theorem dX11_count_52 : decode cX11_count 52 = .ok (.getfield 160, 3) := by decide +kernel
theorem dX11_count_55 : decode cX11_count 55 = .ok (.ireturn, 1) := by decide +kernel
theorem dX11_count_56 : decode cX11_count 56 = .ok (.aload_n 0, 1) := by decide +kernel
theorem dX11_count_57 : decode cX11_count 57 = .ok (.getfield 28, 3) := by decide +kernel
theorem dX11_count_60 : decode cX11_count 60 = .ok (.invokevirtual 139, 3) := by decide +kernel
theorem dX11_count_63 : decode cX11_count 63 = .ok (.ireturn, 1) := by decide +kernel
theorem dX11_count_64 : decode cX11_count 64 = .ok (.aload_n 0, 1) := by decide +kernel
theorem dX11_count_65 : decode cX11_count 65 = .ok (.getfield 28, 3) := by decide +kernel
theorem dX11_count_68 : decode cX11_count 68 = .ok (.invokevirtual 197, 3) := by decide +kernel
theorem dX11_count_71 : decode cX11_count 71 = .ok (.ireturn, 1) := by decide +kernel
theorem dX11_count_72 : decode cX11_count 72 = .ok (.aload_n 0, 1) := by decide +kernel
theorem dX11_count_73 : decode cX11_count 73 = .ok (.getfield 21, 3) := by decide +kernel
theorem dX11_count_76 : decode cX11_count 76 = .ok (.getfield 200, 3) := by decide +kernel
theorem dX11_count_79 : decode cX11_count 79 = .ok (.ireturn, 1) := by decide +kernel
theorem dX11_count_80 : decode cX11_count 80 = .ok (.aload_n 0, 1) := by decide +kernel
theorem dX11_count_81 : decode cX11_count 81 = .ok (.getfield 10, 3) := by decide +kernel
theorem dX11_count_84 : decode cX11_count 84 = .ok (.getfield 59, 3) := by decide +kernel
theorem dX11_count_87 : decode cX11_count 87 = .ok (.getfield 200, 3) := by decide +kernel
theorem dX11_count_90 : decode cX11_count 90 = .ok (.ireturn, 1) := by decide +kernel
theorem dX11_count_91 : decode cX11_count 91 = .ok (.iload_n 1, 1) := by decide +kernel
theorem dX11_count_92 : decode cX11_count 92 = .ok (.bipush 11, 2) := by decide +kernel
theorem dX11_count_94 : decode cX11_count 94 = .ok (.if_icmp .lt 23, 3) := by decide +kernel
theorem dX11_count_97 : decode cX11_count 97 = .ok (.iload_n 1, 1) := by decide +kernel
theorem dX11_count_98 : decode cX11_count 98 = .ok (.bipush 16, 2) := by decide +kernel
theorem dX11_count_100 : decode cX11_count 100 = .ok (.if_icmp .gt 17, 3) := by decide +kernel
theorem dX11_count_103 : decode cX11_count 103 = .ok (.aload_n 0, 1) := by decide +kernel
theorem dX11_count_104 : decode cX11_count 104 = .ok (.getfield 45, 3) := by decide +kernel
theorem dX11_count_107 : decode cX11_count 107 = .ok (.iload_n 1, 1) := by decide +kernel
theorem dX11_count_108 : decode cX11_count 108 = .ok (.bipush 10, 2) := by decide +kernel
theorem dX11_count_110 : decode cX11_count 110 = .ok (.isub, 1) := by decide +kernel
theorem dX11_count_111 : decode cX11_count 111 = .ok (.invokestatic 173, 3) := by decide +kernel
theorem dX11_count_114 : decode cX11_count 114 = .ok (.goto 5, 3) := by decide +kernel
theorem dX11_count_117 : decode cX11_count 117 = .ok (.bipush (-9), 2) := by decide +kernel
theorem dX11_count_119 : decode cX11_count 119 = .ok (.ireturn, 1) := by decide +kernel
theorem dX11_innTold_0 : decode cX11_innTold 0 = .ok (.aload_n 0, 1) := by decide +kernel
theorem dX11_innTold_1 : decode cX11_innTold 1 = .ok (.getfield 32, 3) := by decide +kernel
theorem dX11_innTold_4 : decode cX11_innTold 4 = .ok (.aload_n 0, 1) := by decide +kernel
theorem dX11_innTold_5 : decode cX11_innTold 5 = .ok (.getfield 28, 3) := by decide +kernel
theorem dX11_innTold_8 : decode cX11_innTold 8 = .ok (.invokevirtual 153, 3) := by decide +kernel
theorem dX11_innTold_11 : decode cX11_innTold 11 = .ok (.aload_n 0, 1) := by decide +kernel
theorem dX11_innTold_12 : decode cX11_innTold 12 = .ok (.getfield 10, 3) := by decide +kernel
theorem dX11_innTold_15 : decode cX11_innTold 15 = .ok (.invokevirtual 203, 3) := by decide +kernel
theorem dX11_innTold_18 : decode cX11_innTold 18 = .ok (.iconst 0, 1) := by decide +kernel
theorem dX11_innTold_19 : decode cX11_innTold 19 = .ok (.istore_n 1, 1) := by decide +kernel
theorem dX11_innTold_20 : decode cX11_innTold 20 = .ok (.aload_n 0, 1) := by decide +kernel
theorem dX11_innTold_21 : decode cX11_innTold 21 = .ok (.getfield 10, 3) := by decide +kernel
theorem dX11_innTold_24 : decode cX11_innTold 24 = .ok (.invokevirtual 206, 3) := by decide +kernel
theorem dX11_innTold_27 : decode cX11_innTold 27 = .ok (.ifCond .eq 55, 3) := by decide +kernel
theorem dX11_innTold_30 : decode cX11_innTold 30 = .ok (.iload_n 1, 1) := by decide +kernel
theorem dX11_innTold_31 : decode cX11_innTold 31 = .ok (.bipush 80, 2) := by decide +kernel
theorem dX11_innTold_33 : decode cX11_innTold 33 = .ok (.if_icmp .ge 49, 3) := by decide +kernel
theorem dX11_innTold_36 : decode cX11_innTold 36 = .ok (.aload_n 0, 1) := by decide +kernel
theorem dX11_innTold_37 : decode cX11_innTold 37 = .ok (.getfield 10, 3) := by decide +kernel
theorem dX11_innTold_40 : decode cX11_innTold 40 = .ok (.getfield 210, 3) := by decide +kernel
theorem dX11_innTold_43 : decode cX11_innTold 43 = .ok (.istore_n 2, 1) := by decide +kernel
theorem dX11_innTold_44 : decode cX11_innTold 44 = .ok (.aload_n 0, 1) := by decide +kernel
theorem dX11_innTold_45 : decode cX11_innTold 45 = .ok (.getfield 10, 3) := by decide +kernel
theorem dX11_innTold_48 : decode cX11_innTold 48 = .ok (.invokevirtual 213, 3) := by decide +kernel
theorem dX11_innTold_51 : decode cX11_innTold 51 = .ok (.istore_n 3, 1) := by decide +kernel
theorem dX11_innTold_52 : decode cX11_innTold 52 = .ok (.aload_n 0, 1) := by decide +kernel
theorem dX11_innTold_53 : decode cX11_innTold 53 = .ok (.getfield 32, 3) := by decide +kernel
theorem dX11_innTold_56 : decode cX11_innTold 56 = .ok (.iload_n 3, 1) := by decide +kernel
theorem dX11_innTold_57 : decode cX11_innTold 57 = .ok (.aload_n 0, 1) := by decide +kernel
theorem dX11_innTold_58 : decode cX11_innTold 58 = .ok (.getfield 10, 3) := by decide +kernel
theorem dX11_innTold_61 : decode cX11_innTold 61 = .ok (.getfield 216, 3) := by decide +kernel
theorem dX11_innTold_64 : decode cX11_innTold 64 = .ok (.invokevirtual 219, 3) := by decide +kernel
theorem dX11_innTold_67 : decode cX11_innTold 67 = .ok (.ifCond .ne 9, 3) := by decide +kernel
theorem dX11_innTold_70 : decode cX11_innTold 70 = .ok (.sipush (-2000), 3) := by decide +kernel
theorem dX11_innTold_73 : decode cX11_innTold 73 = .ok (.iload_n 2, 1) := by decide +kernel
theorem dX11_innTold_74 : decode cX11_innTold 74 = .ok (.isub, 1) := by decide +kernel
theorem dX11_innTold_75 : decode cX11_innTold 75 = .ok (.ireturn, 1) := by decide +kernel
theorem dX11_innTold_76 : decode cX11_innTold 76 = .ok (.iinc 1 1, 3) := by decide +kernel
theorem dX11_innTold_79 : decode cX11_innTold 79 = .ok (.goto (-59), 3) := by decide +kernel
theorem dX11_innTold_82 : decode cX11_innTold 82 = .ok (.aload_n 0, 1) := by decide +kernel
theorem dX11_innTold_83 : decode cX11_innTold 83 = .ok (.getfield 28, 3) := by decide +kernel
theorem dX11_innTold_86 : decode cX11_innTold 86 = .ok (.aload_n 0, 1) := by decide +kernel
theorem dX11_innTold_87 : decode cX11_innTold 87 = .ok (.getfield 32, 3) := by decide +kernel
theorem dX11_innTold_90 : decode cX11_innTold 90 = .ok (.invokevirtual 153, 3) := by decide +kernel
theorem dX11_innTold_93 : decode cX11_innTold 93 = .ok (.aload_n 0, 1) := by decide +kernel
theorem dX11_innTold_94 : decode cX11_innTold 94 = .ok (.getfield 41, 3) := by decide +kernel
theorem dX11_innTold_97 : decode cX11_innTold 97 = .ok (.aload_n 0, 1) := by decide +kernel
theorem dX11_innTold_98 : decode cX11_innTold 98 = .ok (.getfield 28, 3) := by decide +kernel
theorem dX11_innTold_101 : decode cX11_innTold 101 = .ok (.invokevirtual 194, 3) := by decide +kernel
theorem dX11_innTold_104 : decode cX11_innTold 104 = .ok (.iload_n 1, 1) := by decide +kernel
theorem dX11_innTold_105 : decode cX11_innTold 105 = .ok (.ireturn, 1) := by decide +kernel
theorem dX11_taken_0 : decode cX11_taken 0 = .ok (.iload_n 2, 1) := by decide +kernel
theorem dX11_taken_1 : decode cX11_taken 1 = .ok (.ifCond .ge 10, 3) := by decide +kernel
theorem dX11_taken_4 : decode cX11_taken 4 = .ok (.aload_n 0, 1) := by decide +kernel
theorem dX11_taken_5 : decode cX11_taken 5 = .ok (.bipush (-4), 2) := by decide +kernel
theorem dX11_taken_7 : decode cX11_taken 7 = .ok (.invokevirtual 80, 3) := by decide +kernel
theorem dX11_taken_10 : decode cX11_taken 10 = .ok (.ireturn, 1) := by decide +kernel
theorem dX11_taken_11 : decode cX11_taken 11 = .ok (.iload_n 2, 1) := by decide +kernel
theorem dX11_taken_12 : decode cX11_taken 12 = .ok (.iload_n 3, 1) := by decide +kernel
theorem dX11_taken_13 : decode cX11_taken 13 = .ok (.if_icmp .gt 10, 3) := by decide +kernel
theorem dX11_taken_16 : decode cX11_taken 16 = .ok (.aload_n 1, 1) := by decide +kernel
theorem dX11_taken_17 : decode cX11_taken 17 = .ok (.invokevirtual 223, 3) := by decide +kernel
theorem dX11_taken_20 : decode cX11_taken 20 = .ok (.ifCond .eq 10, 3) := by decide +kernel
theorem dX11_taken_23 : decode cX11_taken 23 = .ok (.aload_n 0, 1) := by decide +kernel
theorem dX11_taken_24 : decode cX11_taken 24 = .ok (.bipush (-6), 2) := by decide +kernel
theorem dX11_taken_26 : decode cX11_taken 26 = .ok (.invokevirtual 80, 3) := by decide +kernel
theorem dX11_taken_29 : decode cX11_taken 29 = .ok (.ireturn, 1) := by decide +kernel
theorem dX11_taken_30 : decode cX11_taken 30 = .ok (.aload_n 1, 1) := by decide +kernel
theorem dX11_taken_31 : decode cX11_taken 31 = .ok (.iload_n 2, 1) := by decide +kernel
theorem dX11_taken_32 : decode cX11_taken 32 = .ok (.invokevirtual 226, 3) := by decide +kernel
theorem dX11_taken_35 : decode cX11_taken 35 = .ok (.aload_n 1, 1) := by decide +kernel
theorem dX11_taken_36 : decode cX11_taken 36 = .ok (.getfield 200, 3) := by decide +kernel
theorem dX11_taken_39 : decode cX11_taken 39 = .ok (.ireturn, 1) := by decide +kernel
theorem dX11_extreme_0 : decode cX11_extreme 0 = .ok (.iload_n 1, 1) := by decide +kernel
theorem dX11_extreme_1 : decode cX11_extreme 1 = .ok (.invokestatic 99, 3) := by decide +kernel
theorem dX11_extreme_4 : decode cX11_extreme 4 = .ok (.ifCond .ne 9, 3) := by decide +kernel
theorem dX11_extreme_7 : decode cX11_extreme 7 = .ok (.aload_n 0, 1) := by decide +kernel
theorem dX11_extreme_8 : decode cX11_extreme 8 = .ok (.iconst (-1), 1) := by decide +kernel
theorem dX11_extreme_9 : decode cX11_extreme 9 = .ok (.invokevirtual 121, 3) := by decide +kernel
theorem dX11_extreme_12 : decode cX11_extreme 12 = .ok (.ireturn, 1) := by decide +kernel
theorem dX11_extreme_13 : decode cX11_extreme 13 = .ok (.iload_n 2, 1) := by decide +kernel
theorem dX11_extreme_14 : decode cX11_extreme 14 = .ok (.ifCond .eq 15, 3) := by decide +kernel
theorem dX11_extreme_17 : decode cX11_extreme 17 = .ok (.iload_n 2, 1) := by decide +kernel
theorem dX11_extreme_18 : decode cX11_extreme 18 = .ok (.iconst 1, 1) := by decide +kernel
theorem dX11_extreme_19 : decode cX11_extreme 19 = .ok (.if_icmp .eq 10, 3) := by decide +kernel
theorem dX11_extreme_22 : decode cX11_extreme 22 = .ok (.aload_n 0, 1) := by decide +kernel
theorem dX11_extreme_23 : decode cX11_extreme 23 = .ok (.bipush (-2), 2) := by decide +kernel
theorem dX11_extreme_25 : decode cX11_extreme 25 = .ok (.invokevirtual 121, 3) := by decide +kernel
theorem dX11_extreme_28 : decode cX11_extreme 28 = .ok (.ireturn, 1) := by decide +kernel
theorem dX11_extreme_29 : decode cX11_extreme 29 = .ok (.aload_n 0, 1) := by decide +kernel
theorem dX11_extreme_30 : decode cX11_extreme 30 = .ok (.aload_n 0, 1) := by decide +kernel
theorem dX11_extreme_31 : decode cX11_extreme 31 = .ok (.getfield 28, 3) := by decide +kernel
theorem dX11_extreme_34 : decode cX11_extreme 34 = .ok (.iload_n 1, 1) := by decide +kernel
theorem dX11_extreme_35 : decode cX11_extreme 35 = .ok (.iload_n 3, 1) := by decide +kernel
theorem dX11_extreme_36 : decode cX11_extreme 36 = .ok (.invokevirtual 136, 3) := by decide +kernel
theorem dX11_extreme_39 : decode cX11_extreme 39 = .ok (.istore 4, 2) := by decide +kernel
theorem dX11_extreme_41 : decode cX11_extreme 41 = .ok (.iload_n 2, 1) := by decide +kernel
theorem dX11_extreme_42 : decode cX11_extreme 42 = .ok (.ifCond .ne 17, 3) := by decide +kernel
theorem dX11_extreme_45 : decode cX11_extreme 45 = .ok (.aload_n 0, 1) := by decide +kernel
theorem dX11_extreme_46 : decode cX11_extreme 46 = .ok (.aload_n 0, 1) := by decide +kernel
theorem dX11_extreme_47 : decode cX11_extreme 47 = .ok (.getfield 28, 3) := by decide +kernel
theorem dX11_extreme_50 : decode cX11_extreme 50 = .ok (.iload_n 1, 1) := by decide +kernel
theorem dX11_extreme_51 : decode cX11_extreme 51 = .ok (.iload 4, 2) := by decide +kernel
theorem dX11_extreme_53 : decode cX11_extreme 53 = .ok (.invokevirtual 124, 3) := by decide +kernel
theorem dX11_extreme_56 : decode cX11_extreme 56 = .ok (.goto 5, 3) := by decide +kernel
theorem dX11_extreme_59 : decode cX11_extreme 59 = .ok (.iload 4, 2) := by decide +kernel
theorem dX11_extreme_61 : decode cX11_extreme 61 = .ok (.ireturn, 1) := by decide +kernel
theorem dX11_purseOf_0 : decode cX11_purseOf 0 = .ok (.iconst 0, 1) := by decide +kernel
theorem dX11_purseOf_1 : decode cX11_purseOf 1 = .ok (.istore 4, 2) := by decide +kernel
theorem dX11_purseOf_3 : decode cX11_purseOf 3 = .ok (.iconst 0, 1) := by decide +kernel
theorem dX11_purseOf_4 : decode cX11_purseOf 4 = .ok (.istore 5, 2) := by decide +kernel
theorem dX11_purseOf_6 : decode cX11_purseOf 6 = .ok (.iload 5, 2) := by decide +kernel
theorem dX11_purseOf_8 : decode cX11_purseOf 8 = .ok (.aload_n 1, 1) := by decide +kernel
theorem dX11_purseOf_9 : decode cX11_purseOf 9 = .ok (.getfield 160, 3) := by decide +kernel
theorem dX11_purseOf_12 : decode cX11_purseOf 12 = .ok (.if_icmp .ge 56, 3) := by decide +kernel
theorem dX11_purseOf_15 : decode cX11_purseOf 15 = .ok (.aload_n 0, 1) := by decide +kernel
theorem dX11_purseOf_16 : decode cX11_purseOf 16 = .ok (.aload_n 1, 1) := by decide +kernel
theorem dX11_purseOf_17 : decode cX11_purseOf 17 = .ok (.iload 5, 2) := by decide +kernel
theorem dX11_purseOf_19 : decode cX11_purseOf 19 = .ok (.iload_n 3, 1) := by decide +kernel
theorem dX11_purseOf_20 : decode cX11_purseOf 20 = .ok (.invokevirtual 229, 3) := by decide +kernel
theorem dX11_purseOf_23 : decode cX11_purseOf 23 = .ok (.istore 6, 2) := by decide +kernel
theorem dX11_purseOf_25 : decode cX11_purseOf 25 = .ok (.aload_n 1, 1) := by decide +kernel
theorem dX11_purseOf_26 : decode cX11_purseOf 26 = .ok (.iload 5, 2) := by decide +kernel
theorem dX11_purseOf_28 : decode cX11_purseOf 28 = .ok (.iconst 5, 1) := by decide +kernel
theorem dX11_purseOf_29 : decode cX11_purseOf 29 = .ok (.invokevirtual 91, 3) := by decide +kernel
theorem dX11_purseOf_32 : decode cX11_purseOf 32 = .ok (.iload_n 2, 1) := by decide +kernel
theorem dX11_purseOf_33 : decode cX11_purseOf 33 = .ok (.if_icmp .ne 10, 3) := by decide +kernel
theorem dX11_purseOf_36 : decode cX11_purseOf 36 = .ok (.iload 4, 2) := by decide +kernel
theorem dX11_purseOf_38 : decode cX11_purseOf 38 = .ok (.iload 6, 2) := by decide +kernel
theorem dX11_purseOf_40 : decode cX11_purseOf 40 = .ok (.iadd, 1) := by decide +kernel
theorem dX11_purseOf_41 : decode cX11_purseOf 41 = .ok (.istore 4, 2) := by decide +kernel
theorem dX11_purseOf_43 : decode cX11_purseOf 43 = .ok (.aload_n 1, 1) := by decide +kernel
theorem dX11_purseOf_44 : decode cX11_purseOf 44 = .ok (.iload 5, 2) := by decide +kernel
theorem dX11_purseOf_46 : decode cX11_purseOf 46 = .ok (.bipush 6, 2) := by decide +kernel
theorem dX11_purseOf_48 : decode cX11_purseOf 48 = .ok (.invokevirtual 91, 3) := by decide +kernel
theorem dX11_purseOf_51 : decode cX11_purseOf 51 = .ok (.iload_n 2, 1) := by decide +kernel
theorem dX11_purseOf_52 : decode cX11_purseOf 52 = .ok (.if_icmp .ne 10, 3) := by decide +kernel
theorem dX11_purseOf_55 : decode cX11_purseOf 55 = .ok (.iload 4, 2) := by decide +kernel
theorem dX11_purseOf_57 : decode cX11_purseOf 57 = .ok (.iload 6, 2) := by decide +kernel
theorem dX11_purseOf_59 : decode cX11_purseOf 59 = .ok (.isub, 1) := by decide +kernel
theorem dX11_purseOf_60 : decode cX11_purseOf 60 = .ok (.istore 4, 2) := by decide +kernel
theorem dX11_purseOf_62 : decode cX11_purseOf 62 = .ok (.iinc 5 1, 3) := by decide +kernel
theorem dX11_purseOf_65 : decode cX11_purseOf 65 = .ok (.goto (-59), 3) := by decide +kernel
theorem dX11_purseOf_68 : decode cX11_purseOf 68 = .ok (.iload 4, 2) := by decide +kernel
theorem dX11_purseOf_70 : decode cX11_purseOf 70 = .ok (.ireturn, 1) := by decide +kernel
theorem dX11_bettorsGain_0 : decode cX11_bettorsGain 0 = .ok (.aload_n 1, 1) := by decide +kernel
theorem dX11_bettorsGain_1 : decode cX11_bettorsGain 1 = .ok (.iload_n 2, 1) := by decide +kernel
theorem dX11_bettorsGain_2 : decode cX11_bettorsGain 2 = .ok (.iconst 3, 1) := by decide +kernel
theorem dX11_bettorsGain_3 : decode cX11_bettorsGain 3 = .ok (.invokevirtual 91, 3) := by decide +kernel
theorem dX11_bettorsGain_6 : decode cX11_bettorsGain 6 = .ok (.istore 4, 2) := by decide +kernel
theorem dX11_bettorsGain_8 : decode cX11_bettorsGain 8 = .ok (.aload_n 0, 1) := by decide +kernel
theorem dX11_bettorsGain_9 : decode cX11_bettorsGain 9 = .ok (.getfield 41, 3) := by decide +kernel
theorem dX11_bettorsGain_12 : decode cX11_bettorsGain 12 = .ok (.iload_n 2, 1) := by decide +kernel
theorem dX11_bettorsGain_13 : decode cX11_bettorsGain 13 = .ok (.iload_n 3, 1) := by decide +kernel
theorem dX11_bettorsGain_14 : decode cX11_bettorsGain 14 = .ok (.invokevirtual 118, 3) := by decide +kernel
theorem dX11_bettorsGain_17 : decode cX11_bettorsGain 17 = .ok (.lookupswitch 41 #[(0, 37), (1, 27)], 27) := by decide +kernel
theorem dX11_bettorsGain_44 : decode cX11_bettorsGain 44 = .ok (.iload 4, 2) := by decide +kernel
theorem dX11_bettorsGain_46 : decode cX11_bettorsGain 46 = .ok (.aload_n 1, 1) := by decide +kernel
theorem dX11_bettorsGain_47 : decode cX11_bettorsGain 47 = .ok (.iload_n 2, 1) := by decide +kernel
theorem dX11_bettorsGain_48 : decode cX11_bettorsGain 48 = .ok (.iconst 4, 1) := by decide +kernel
theorem dX11_bettorsGain_49 : decode cX11_bettorsGain 49 = .ok (.invokevirtual 91, 3) := by decide +kernel
theorem dX11_bettorsGain_52 : decode cX11_bettorsGain 52 = .ok (.imul, 1) := by decide +kernel
theorem dX11_bettorsGain_53 : decode cX11_bettorsGain 53 = .ok (.ireturn, 1) := by decide +kernel
theorem dX11_bettorsGain_54 : decode cX11_bettorsGain 54 = .ok (.iload 4, 2) := by decide +kernel
theorem dX11_bettorsGain_56 : decode cX11_bettorsGain 56 = .ok (.ineg, 1) := by decide +kernel
theorem dX11_bettorsGain_57 : decode cX11_bettorsGain 57 = .ok (.ireturn, 1) := by decide +kernel
theorem dX11_bettorsGain_58 : decode cX11_bettorsGain 58 = .ok (.iconst 0, 1) := by decide +kernel
theorem dX11_bettorsGain_59 : decode cX11_bettorsGain 59 = .ok (.ireturn, 1) := by decide +kernel
theorem dX11_meanOf_0 : decode cX11_meanOf 0 = .ok (.aload_n 1, 1) := by decide +kernel
theorem dX11_meanOf_1 : decode cX11_meanOf 1 = .ok (.invokevirtual 139, 3) := by decide +kernel
theorem dX11_meanOf_4 : decode cX11_meanOf 4 = .ok (.istore_n 3, 1) := by decide +kernel
theorem dX11_meanOf_5 : decode cX11_meanOf 5 = .ok (.lconst 0, 1) := by decide +kernel
theorem dX11_meanOf_6 : decode cX11_meanOf 6 = .ok (.lstore 4, 2) := by decide +kernel
theorem dX11_meanOf_8 : decode cX11_meanOf 8 = .ok (.iconst 0, 1) := by decide +kernel
theorem dX11_meanOf_9 : decode cX11_meanOf 9 = .ok (.istore 6, 2) := by decide +kernel
theorem dX11_meanOf_11 : decode cX11_meanOf 11 = .ok (.iload 6, 2) := by decide +kernel
theorem dX11_meanOf_13 : decode cX11_meanOf 13 = .ok (.iload_n 3, 1) := by decide +kernel
theorem dX11_meanOf_14 : decode cX11_meanOf 14 = .ok (.if_icmp .ge 30, 3) := by decide +kernel
theorem dX11_meanOf_17 : decode cX11_meanOf 17 = .ok (.lload 4, 2) := by decide +kernel
theorem dX11_meanOf_19 : decode cX11_meanOf 19 = .ok (.aload_n 1, 1) := by decide +kernel
theorem dX11_meanOf_20 : decode cX11_meanOf 20 = .ok (.iload 6, 2) := by decide +kernel
theorem dX11_meanOf_22 : decode cX11_meanOf 22 = .ok (.invokevirtual 142, 3) := by decide +kernel
theorem dX11_meanOf_25 : decode cX11_meanOf 25 = .ok (.aload_n 0, 1) := by decide +kernel
theorem dX11_meanOf_26 : decode cX11_meanOf 26 = .ok (.aload_n 1, 1) := by decide +kernel
theorem dX11_meanOf_27 : decode cX11_meanOf 27 = .ok (.iload_n 2, 1) := by decide +kernel
theorem dX11_meanOf_28 : decode cX11_meanOf 28 = .ok (.iload 6, 2) := by decide +kernel
theorem dX11_meanOf_30 : decode cX11_meanOf 30 = .ok (.invokevirtual 124, 3) := by decide +kernel
theorem dX11_meanOf_33 : decode cX11_meanOf 33 = .ok (.i2l, 1) := by decide +kernel
theorem dX11_meanOf_34 : decode cX11_meanOf 34 = .ok (.lmul, 1) := by decide +kernel
theorem dX11_meanOf_35 : decode cX11_meanOf 35 = .ok (.ladd, 1) := by decide +kernel
theorem dX11_meanOf_36 : decode cX11_meanOf 36 = .ok (.lstore 4, 2) := by decide +kernel
theorem dX11_meanOf_38 : decode cX11_meanOf 38 = .ok (.iinc 6 1, 3) := by decide +kernel
theorem dX11_meanOf_41 : decode cX11_meanOf 41 = .ok (.goto (-30), 3) := by decide +kernel
theorem dX11_meanOf_44 : decode cX11_meanOf 44 = .ok (.aload_n 1, 1) := by decide +kernel
theorem dX11_meanOf_45 : decode cX11_meanOf 45 = .ok (.lload 4, 2) := by decide +kernel
theorem dX11_meanOf_47 : decode cX11_meanOf 47 = .ok (.invokestatic 146, 3) := by decide +kernel
theorem dX11_meanOf_50 : decode cX11_meanOf 50 = .ok (.ireturn, 1) := by decide +kernel
theorem dX11_inHundredths_0 : decode cX11_inHundredths 0 = .ok (.aload_n 0, 1) := by decide +kernel
theorem dX11_inHundredths_1 : decode cX11_inHundredths 1 = .ok (.invokevirtual 232, 3) := by decide +kernel
theorem dX11_inHundredths_4 : decode cX11_inHundredths 4 = .ok (.lstore_n 3, 1) := by decide +kernel
theorem dX11_inHundredths_5 : decode cX11_inHundredths 5 = .ok (.lload_n 3, 1) := by decide +kernel
theorem dX11_inHundredths_6 : decode cX11_inHundredths 6 = .ok (.lconst 0, 1) := by decide +kernel
theorem dX11_inHundredths_7 : decode cX11_inHundredths 7 = .ok (.lcmp, 1) := by decide +kernel
theorem dX11_inHundredths_8 : decode cX11_inHundredths 8 = .ok (.ifCond .le 14, 3) := by decide +kernel
theorem dX11_inHundredths_11 : decode cX11_inHundredths 11 = .ok (.lload_n 1, 1) := by decide +kernel
theorem dX11_inHundredths_12 : decode cX11_inHundredths 12 = .ok (.ldc2_w 236, 3) := by decide +kernel
theorem dX11_inHundredths_15 : decode cX11_inHundredths 15 = .ok (.lmul, 1) := by decide +kernel
theorem dX11_inHundredths_16 : decode cX11_inHundredths 16 = .ok (.lload_n 3, 1) := by decide +kernel
theorem dX11_inHundredths_17 : decode cX11_inHundredths 17 = .ok (.ldiv, 1) := by decide +kernel
theorem dX11_inHundredths_18 : decode cX11_inHundredths 18 = .ok (.l2i, 1) := by decide +kernel
theorem dX11_inHundredths_19 : decode cX11_inHundredths 19 = .ok (.goto 4, 3) := by decide +kernel
theorem dX11_inHundredths_22 : decode cX11_inHundredths 22 = .ok (.iconst 0, 1) := by decide +kernel
theorem dX11_inHundredths_23 : decode cX11_inHundredths 23 = .ok (.ireturn, 1) := by decide +kernel
theorem dX11_extremeEnd_0 : decode cX11_extremeEnd 0 = .ok (.aload_n 1, 1) := by decide +kernel
theorem dX11_extremeEnd_1 : decode cX11_extremeEnd 1 = .ok (.invokevirtual 139, 3) := by decide +kernel
theorem dX11_extremeEnd_4 : decode cX11_extremeEnd 4 = .ok (.istore 4, 2) := by decide +kernel
theorem dX11_extremeEnd_6 : decode cX11_extremeEnd 6 = .ok (.iconst 0, 1) := by decide +kernel
theorem dX11_extremeEnd_7 : decode cX11_extremeEnd 7 = .ok (.istore 5, 2) := by decide +kernel
theorem dX11_extremeEnd_9 : decode cX11_extremeEnd 9 = .ok (.iload_n 3, 1) := by decide +kernel
theorem dX11_extremeEnd_10 : decode cX11_extremeEnd 10 = .ok (.aload_n 0, 1) := by decide +kernel
theorem dX11_extremeEnd_11 : decode cX11_extremeEnd 11 = .ok (.aload_n 1, 1) := by decide +kernel
theorem dX11_extremeEnd_12 : decode cX11_extremeEnd 12 = .ok (.iload_n 2, 1) := by decide +kernel
theorem dX11_extremeEnd_13 : decode cX11_extremeEnd 13 = .ok (.iconst 0, 1) := by decide +kernel
theorem dX11_extremeEnd_14 : decode cX11_extremeEnd 14 = .ok (.invokevirtual 124, 3) := by decide +kernel
theorem dX11_extremeEnd_17 : decode cX11_extremeEnd 17 = .ok (.imul, 1) := by decide +kernel
theorem dX11_extremeEnd_18 : decode cX11_extremeEnd 18 = .ok (.istore 6, 2) := by decide +kernel
theorem dX11_extremeEnd_20 : decode cX11_extremeEnd 20 = .ok (.iconst 1, 1) := by decide +kernel
theorem dX11_extremeEnd_21 : decode cX11_extremeEnd 21 = .ok (.istore 7, 2) := by decide +kernel
theorem dX11_extremeEnd_23 : decode cX11_extremeEnd 23 = .ok (.iload 7, 2) := by decide +kernel
theorem dX11_extremeEnd_25 : decode cX11_extremeEnd 25 = .ok (.iload 4, 2) := by decide +kernel
theorem dX11_extremeEnd_27 : decode cX11_extremeEnd 27 = .ok (.if_icmp .ge 36, 3) := by decide +kernel
theorem dX11_extremeEnd_30 : decode cX11_extremeEnd 30 = .ok (.iload_n 3, 1) := by decide +kernel
theorem dX11_extremeEnd_31 : decode cX11_extremeEnd 31 = .ok (.aload_n 0, 1) := by decide +kernel
theorem dX11_extremeEnd_32 : decode cX11_extremeEnd 32 = .ok (.aload_n 1, 1) := by decide +kernel
theorem dX11_extremeEnd_33 : decode cX11_extremeEnd 33 = .ok (.iload_n 2, 1) := by decide +kernel
theorem dX11_extremeEnd_34 : decode cX11_extremeEnd 34 = .ok (.iload 7, 2) := by decide +kernel
theorem dX11_extremeEnd_36 : decode cX11_extremeEnd 36 = .ok (.invokevirtual 124, 3) := by decide +kernel
theorem dX11_extremeEnd_39 : decode cX11_extremeEnd 39 = .ok (.imul, 1) := by decide +kernel
theorem dX11_extremeEnd_40 : decode cX11_extremeEnd 40 = .ok (.istore 8, 2) := by decide +kernel
theorem dX11_extremeEnd_42 : decode cX11_extremeEnd 42 = .ok (.iload 8, 2) := by decide +kernel
theorem dX11_extremeEnd_44 : decode cX11_extremeEnd 44 = .ok (.iload 6, 2) := by decide +kernel
theorem dX11_extremeEnd_46 : decode cX11_extremeEnd 46 = .ok (.if_icmp .le 11, 3) := by decide +kernel
theorem dX11_extremeEnd_49 : decode cX11_extremeEnd 49 = .ok (.iload 8, 2) := by decide +kernel
theorem dX11_extremeEnd_51 : decode cX11_extremeEnd 51 = .ok (.istore 6, 2) := by decide +kernel
theorem dX11_extremeEnd_53 : decode cX11_extremeEnd 53 = .ok (.iload 7, 2) := by decide +kernel
theorem dX11_extremeEnd_55 : decode cX11_extremeEnd 55 = .ok (.istore 5, 2) := by decide +kernel
theorem dX11_extremeEnd_57 : decode cX11_extremeEnd 57 = .ok (.iinc 7 1, 3) := by decide +kernel
theorem dX11_extremeEnd_60 : decode cX11_extremeEnd 60 = .ok (.goto (-37), 3) := by decide +kernel
theorem dX11_extremeEnd_63 : decode cX11_extremeEnd 63 = .ok (.iload 5, 2) := by decide +kernel
theorem dX11_extremeEnd_65 : decode cX11_extremeEnd 65 = .ok (.ireturn, 1) := by decide +kernel
theorem dX11_worstOf_0 : decode cX11_worstOf 0 = .ok (.aload_n 0, 1) := by decide +kernel
theorem dX11_worstOf_1 : decode cX11_worstOf 1 = .ok (.aload_n 1, 1) := by decide +kernel
theorem dX11_worstOf_2 : decode cX11_worstOf 2 = .ok (.iload_n 2, 1) := by decide +kernel
theorem dX11_worstOf_3 : decode cX11_worstOf 3 = .ok (.aload_n 0, 1) := by decide +kernel
theorem dX11_worstOf_4 : decode cX11_worstOf 4 = .ok (.aload_n 1, 1) := by decide +kernel
theorem dX11_worstOf_5 : decode cX11_worstOf 5 = .ok (.iload_n 2, 1) := by decide +kernel
theorem dX11_worstOf_6 : decode cX11_worstOf 6 = .ok (.iconst (-1), 1) := by decide +kernel
theorem dX11_worstOf_7 : decode cX11_worstOf 7 = .ok (.invokevirtual 136, 3) := by decide +kernel
theorem dX11_worstOf_10 : decode cX11_worstOf 10 = .ok (.invokevirtual 124, 3) := by decide +kernel
theorem dX11_worstOf_13 : decode cX11_worstOf 13 = .ok (.ireturn, 1) := by decide +kernel
theorem dX11_mostGroups_0 : decode cX11_mostGroups 0 = .ok (.iconst 1, 1) := by decide +kernel
theorem dX11_mostGroups_1 : decode cX11_mostGroups 1 = .ok (.istore_n 2, 1) := by decide +kernel
theorem dX11_mostGroups_2 : decode cX11_mostGroups 2 = .ok (.iload_n 2, 1) := by decide +kernel
theorem dX11_mostGroups_3 : decode cX11_mostGroups 3 = .ok (.bipush 16, 2) := by decide +kernel
theorem dX11_mostGroups_5 : decode cX11_mostGroups 5 = .ok (.if_icmp .ge 92, 3) := by decide +kernel
theorem dX11_mostGroups_8 : decode cX11_mostGroups 8 = .ok (.iconst 0, 1) := by decide +kernel
theorem dX11_mostGroups_9 : decode cX11_mostGroups 9 = .ok (.istore_n 3, 1) := by decide +kernel
theorem dX11_mostGroups_10 : decode cX11_mostGroups 10 = .ok (.iconst 0, 1) := by decide +kernel
theorem dX11_mostGroups_11 : decode cX11_mostGroups 11 = .ok (.istore 4, 2) := by decide +kernel
theorem dX11_mostGroups_13 : decode cX11_mostGroups 13 = .ok (.iconst 0, 1) := by decide +kernel
theorem dX11_mostGroups_14 : decode cX11_mostGroups 14 = .ok (.istore 5, 2) := by decide +kernel
theorem dX11_mostGroups_16 : decode cX11_mostGroups 16 = .ok (.iload 5, 2) := by decide +kernel
theorem dX11_mostGroups_18 : decode cX11_mostGroups 18 = .ok (.iconst 4, 1) := by decide +kernel
theorem dX11_mostGroups_19 : decode cX11_mostGroups 19 = .ok (.if_icmp .ge 52, 3) := by decide +kernel
theorem dX11_mostGroups_22 : decode cX11_mostGroups 22 = .ok (.iload_n 2, 1) := by decide +kernel
theorem dX11_mostGroups_23 : decode cX11_mostGroups 23 = .ok (.iload 5, 2) := by decide +kernel
theorem dX11_mostGroups_25 : decode cX11_mostGroups 25 = .ok (.invokestatic 177, 3) := by decide +kernel
theorem dX11_mostGroups_28 : decode cX11_mostGroups 28 = .ok (.ifCond .eq 37, 3) := by decide +kernel
theorem dX11_mostGroups_31 : decode cX11_mostGroups 31 = .ok (.iload 4, 2) := by decide +kernel
theorem dX11_mostGroups_33 : decode cX11_mostGroups 33 = .ok (.aload_n 0, 1) := by decide +kernel
theorem dX11_mostGroups_34 : decode cX11_mostGroups 34 = .ok (.aload_n 0, 1) := by decide +kernel
theorem dX11_mostGroups_35 : decode cX11_mostGroups 35 = .ok (.getfield 28, 3) := by decide +kernel
theorem dX11_mostGroups_38 : decode cX11_mostGroups 38 = .ok (.iload 5, 2) := by decide +kernel
theorem dX11_mostGroups_40 : decode cX11_mostGroups 40 = .ok (.iload_n 1, 1) := by decide +kernel
theorem dX11_mostGroups_41 : decode cX11_mostGroups 41 = .ok (.invokevirtual 124, 3) := by decide +kernel
theorem dX11_mostGroups_44 : decode cX11_mostGroups 44 = .ok (.iadd, 1) := by decide +kernel
theorem dX11_mostGroups_45 : decode cX11_mostGroups 45 = .ok (.istore 4, 2) := by decide +kernel
theorem dX11_mostGroups_47 : decode cX11_mostGroups 47 = .ok (.iload_n 3, 1) := by decide +kernel
theorem dX11_mostGroups_48 : decode cX11_mostGroups 48 = .ok (.aload_n 0, 1) := by decide +kernel
theorem dX11_mostGroups_49 : decode cX11_mostGroups 49 = .ok (.getfield 49, 3) := by decide +kernel
theorem dX11_mostGroups_52 : decode cX11_mostGroups 52 = .ok (.iload_n 2, 1) := by decide +kernel
theorem dX11_mostGroups_53 : decode cX11_mostGroups 53 = .ok (.iconst 1, 1) := by decide +kernel
theorem dX11_mostGroups_54 : decode cX11_mostGroups 54 = .ok (.iload 5, 2) := by decide +kernel
theorem dX11_mostGroups_56 : decode cX11_mostGroups 56 = .ok (.ishl, 1) := by decide +kernel
theorem dX11_mostGroups_57 : decode cX11_mostGroups 57 = .ok (.isub, 1) := by decide +kernel
theorem dX11_mostGroups_58 : decode cX11_mostGroups 58 = .ok (.invokestatic 173, 3) := by decide +kernel
theorem dX11_mostGroups_61 : decode cX11_mostGroups 61 = .ok (.invokestatic 238, 3) := by decide +kernel
theorem dX11_mostGroups_64 : decode cX11_mostGroups 64 = .ok (.istore_n 3, 1) := by decide +kernel
theorem dX11_mostGroups_65 : decode cX11_mostGroups 65 = .ok (.iinc 5 1, 3) := by decide +kernel
theorem dX11_mostGroups_68 : decode cX11_mostGroups 68 = .ok (.goto (-52), 3) := by decide +kernel
theorem dX11_mostGroups_71 : decode cX11_mostGroups 71 = .ok (.aload_n 0, 1) := by decide +kernel
theorem dX11_mostGroups_72 : decode cX11_mostGroups 72 = .ok (.getfield 49, 3) := by decide +kernel
theorem dX11_mostGroups_75 : decode cX11_mostGroups 75 = .ok (.iload_n 2, 1) := by decide +kernel
theorem dX11_mostGroups_76 : decode cX11_mostGroups 76 = .ok (.iload 4, 2) := by decide +kernel
theorem dX11_mostGroups_78 : decode cX11_mostGroups 78 = .ok (.ifCond .ne 9, 3) := by decide +kernel
theorem dX11_mostGroups_81 : decode cX11_mostGroups 81 = .ok (.iload_n 3, 1) := by decide +kernel
theorem dX11_mostGroups_82 : decode cX11_mostGroups 82 = .ok (.iconst 1, 1) := by decide +kernel
theorem dX11_mostGroups_83 : decode cX11_mostGroups 83 = .ok (.iadd, 1) := by decide +kernel
theorem dX11_mostGroups_84 : decode cX11_mostGroups 84 = .ok (.goto 4, 3) := by decide +kernel
theorem dX11_mostGroups_87 : decode cX11_mostGroups 87 = .ok (.iload_n 3, 1) := by decide +kernel
theorem dX11_mostGroups_88 : decode cX11_mostGroups 88 = .ok (.invokestatic 169, 3) := by decide +kernel
theorem dX11_mostGroups_91 : decode cX11_mostGroups 91 = .ok (.iinc 2 1, 3) := by decide +kernel
theorem dX11_mostGroups_94 : decode cX11_mostGroups 94 = .ok (.goto (-92), 3) := by decide +kernel
theorem dX11_mostGroups_97 : decode cX11_mostGroups 97 = .ok (.aload_n 0, 1) := by decide +kernel
theorem dX11_mostGroups_98 : decode cX11_mostGroups 98 = .ok (.getfield 49, 3) := by decide +kernel
theorem dX11_mostGroups_101 : decode cX11_mostGroups 101 = .ok (.bipush 15, 2) := by decide +kernel
theorem dX11_mostGroups_103 : decode cX11_mostGroups 103 = .ok (.invokestatic 173, 3) := by decide +kernel
theorem dX11_mostGroups_106 : decode cX11_mostGroups 106 = .ok (.ireturn, 1) := by decide +kernel
theorem dX11_firstUnlike_0 : decode cX11_firstUnlike 0 = .ok (.iconst 0, 1) := by decide +kernel
theorem dX11_firstUnlike_1 : decode cX11_firstUnlike 1 = .ok (.istore_n 2, 1) := by decide +kernel
theorem dX11_firstUnlike_2 : decode cX11_firstUnlike 2 = .ok (.iload_n 2, 1) := by decide +kernel
theorem dX11_firstUnlike_3 : decode cX11_firstUnlike 3 = .ok (.aload_n 0, 1) := by decide +kernel
theorem dX11_firstUnlike_4 : decode cX11_firstUnlike 4 = .ok (.getfield 21, 3) := by decide +kernel
theorem dX11_firstUnlike_7 : decode cX11_firstUnlike 7 = .ok (.getfield 200, 3) := by decide +kernel
theorem dX11_firstUnlike_10 : decode cX11_firstUnlike 10 = .ok (.if_icmp .ge 36, 3) := by decide +kernel
theorem dX11_firstUnlike_13 : decode cX11_firstUnlike 13 = .ok (.aload_n 0, 1) := by decide +kernel
theorem dX11_firstUnlike_14 : decode cX11_firstUnlike 14 = .ok (.getfield 21, 3) := by decide +kernel
theorem dX11_firstUnlike_17 : decode cX11_firstUnlike 17 = .ok (.iload_n 2, 1) := by decide +kernel
theorem dX11_firstUnlike_18 : decode cX11_firstUnlike 18 = .ok (.invokevirtual 243, 3) := by decide +kernel
theorem dX11_firstUnlike_21 : decode cX11_firstUnlike 21 = .ok (.aload_n 0, 1) := by decide +kernel
theorem dX11_firstUnlike_22 : decode cX11_firstUnlike 22 = .ok (.aload_n 0, 1) := by decide +kernel
theorem dX11_firstUnlike_23 : decode cX11_firstUnlike 23 = .ok (.getfield 28, 3) := by decide +kernel
theorem dX11_firstUnlike_26 : decode cX11_firstUnlike 26 = .ok (.iload_n 2, 1) := by decide +kernel
theorem dX11_firstUnlike_27 : decode cX11_firstUnlike 27 = .ok (.iload_n 1, 1) := by decide +kernel
theorem dX11_firstUnlike_28 : decode cX11_firstUnlike 28 = .ok (.invokevirtual 124, 3) := by decide +kernel
theorem dX11_firstUnlike_31 : decode cX11_firstUnlike 31 = .ok (.sipush 500, 3) := by decide +kernel
theorem dX11_firstUnlike_34 : decode cX11_firstUnlike 34 = .ok (.iadd, 1) := by decide +kernel
theorem dX11_firstUnlike_35 : decode cX11_firstUnlike 35 = .ok (.if_icmp .eq 5, 3) := by decide +kernel
theorem dX11_firstUnlike_38 : decode cX11_firstUnlike 38 = .ok (.iload_n 2, 1) := by decide +kernel
theorem dX11_firstUnlike_39 : decode cX11_firstUnlike 39 = .ok (.ireturn, 1) := by decide +kernel
theorem dX11_firstUnlike_40 : decode cX11_firstUnlike 40 = .ok (.iinc 2 1, 3) := by decide +kernel
theorem dX11_firstUnlike_43 : decode cX11_firstUnlike 43 = .ok (.goto (-41), 3) := by decide +kernel
theorem dX11_firstUnlike_46 : decode cX11_firstUnlike 46 = .ok (.bipush (-9), 2) := by decide +kernel
theorem dX11_firstUnlike_48 : decode cX11_firstUnlike 48 = .ok (.ireturn, 1) := by decide +kernel
theorem dX11_drawBy_0 : decode cX11_drawBy 0 = .ok (.iload_n 0, 1) := by decide +kernel
theorem dX11_drawBy_1 : decode cX11_drawBy 1 = .ok (.ldc 246, 2) := by decide +kernel
theorem dX11_drawBy_3 : decode cX11_drawBy 3 = .ok (.iand, 1) := by decide +kernel
theorem dX11_drawBy_4 : decode cX11_drawBy 4 = .ok (.sipush 256, 3) := by decide +kernel
theorem dX11_drawBy_7 : decode cX11_drawBy 7 = .ok (.idiv, 1) := by decide +kernel
theorem dX11_drawBy_8 : decode cX11_drawBy 8 = .ok (.bipush 100, 2) := by decide +kernel
theorem dX11_drawBy_10 : decode cX11_drawBy 10 = .ok (.irem, 1) := by decide +kernel
theorem dX11_drawBy_11 : decode cX11_drawBy 11 = .ok (.ireturn, 1) := by decide +kernel
theorem dX11_refused_0 : decode cX11_refused 0 = .ok (.aload_n 0, 1) := by decide +kernel
theorem dX11_refused_1 : decode cX11_refused 1 = .ok (.getfield 45, 3) := by decide +kernel
theorem dX11_refused_4 : decode cX11_refused 4 = .ok (.iload_n 1, 1) := by decide +kernel
theorem dX11_refused_5 : decode cX11_refused 5 = .ok (.ineg, 1) := by decide +kernel
theorem dX11_refused_6 : decode cX11_refused 6 = .ok (.aload_n 0, 1) := by decide +kernel
theorem dX11_refused_7 : decode cX11_refused 7 = .ok (.getfield 45, 3) := by decide +kernel
theorem dX11_refused_10 : decode cX11_refused 10 = .ok (.iload_n 1, 1) := by decide +kernel
theorem dX11_refused_11 : decode cX11_refused 11 = .ok (.ineg, 1) := by decide +kernel
theorem dX11_refused_12 : decode cX11_refused 12 = .ok (.invokestatic 173, 3) := by decide +kernel
theorem dX11_refused_15 : decode cX11_refused 15 = .ok (.iconst 1, 1) := by decide +kernel
theorem dX11_refused_16 : decode cX11_refused 16 = .ok (.iadd, 1) := by decide +kernel
theorem dX11_refused_17 : decode cX11_refused 17 = .ok (.invokestatic 169, 3) := by decide +kernel
theorem dX11_refused_20 : decode cX11_refused 20 = .ok (.iload_n 1, 1) := by decide +kernel
theorem dX11_refused_21 : decode cX11_refused 21 = .ok (.ireturn, 1) := by decide +kernel
theorem dX11_refusedFar_0 : decode cX11_refusedFar 0 = .ok (.ldc 247, 2) := by decide +kernel
theorem dX11_refusedFar_2 : decode cX11_refusedFar 2 = .ok (.aload_n 0, 1) := by decide +kernel
theorem dX11_refusedFar_3 : decode cX11_refusedFar 3 = .ok (.iload_n 1, 1) := by decide +kernel
theorem dX11_refusedFar_4 : decode cX11_refusedFar 4 = .ok (.invokevirtual 80, 3) := by decide +kernel
theorem dX11_refusedFar_7 : decode cX11_refusedFar 7 = .ok (.isub, 1) := by decide +kernel
theorem dX11_refusedFar_8 : decode cX11_refusedFar 8 = .ok (.ireturn, 1) := by decide +kernel
theorem dX11_isPerson_0 : decode cX11_isPerson 0 = .ok (.iload_n 0, 1) := by decide +kernel
theorem dX11_isPerson_1 : decode cX11_isPerson 1 = .ok (.ifCond .lt 12, 3) := by decide +kernel
theorem dX11_isPerson_4 : decode cX11_isPerson 4 = .ok (.iload_n 0, 1) := by decide +kernel
theorem dX11_isPerson_5 : decode cX11_isPerson 5 = .ok (.iconst 4, 1) := by decide +kernel
theorem dX11_isPerson_6 : decode cX11_isPerson 6 = .ok (.if_icmp .ge 7, 3) := by decide +kernel
theorem dX11_isPerson_9 : decode cX11_isPerson 9 = .ok (.iconst 1, 1) := by decide +kernel
theorem dX11_isPerson_10 : decode cX11_isPerson 10 = .ok (.goto 4, 3) := by decide +kernel
theorem dX11_isPerson_13 : decode cX11_isPerson 13 = .ok (.iconst 0, 1) := by decide +kernel
theorem dX11_isPerson_14 : decode cX11_isPerson 14 = .ok (.ireturn, 1) := by decide +kernel
theorem dX11_has_0 : decode cX11_has 0 = .ok (.iload_n 0, 1) := by decide +kernel
theorem dX11_has_1 : decode cX11_has 1 = .ok (.iload_n 1, 1) := by decide +kernel
theorem dX11_has_2 : decode cX11_has 2 = .ok (.ishr, 1) := by decide +kernel
theorem dX11_has_3 : decode cX11_has 3 = .ok (.iconst 1, 1) := by decide +kernel
theorem dX11_has_4 : decode cX11_has 4 = .ok (.iand, 1) := by decide +kernel
theorem dX11_has_5 : decode cX11_has 5 = .ok (.iconst 1, 1) := by decide +kernel
theorem dX11_has_6 : decode cX11_has 6 = .ok (.if_icmp .ne 7, 3) := by decide +kernel
theorem dX11_has_9 : decode cX11_has 9 = .ok (.iconst 1, 1) := by decide +kernel
theorem dX11_has_10 : decode cX11_has 10 = .ok (.goto 4, 3) := by decide +kernel
theorem dX11_has_13 : decode cX11_has 13 = .ok (.iconst 0, 1) := by decide +kernel
theorem dX11_has_14 : decode cX11_has 14 = .ok (.ireturn, 1) := by decide +kernel
theorem dX11_at_0 : decode cX11_at 0 = .ok (.aload_n 0, 1) := by decide +kernel
theorem dX11_at_1 : decode cX11_at 1 = .ok (.ifnull 19, 3) := by decide +kernel
theorem dX11_at_4 : decode cX11_at 4 = .ok (.iload_n 1, 1) := by decide +kernel
theorem dX11_at_5 : decode cX11_at 5 = .ok (.ifCond .lt 15, 3) := by decide +kernel
theorem dX11_at_8 : decode cX11_at 8 = .ok (.iload_n 1, 1) := by decide +kernel
theorem dX11_at_9 : decode cX11_at 9 = .ok (.aload_n 0, 1) := by decide +kernel
theorem dX11_at_10 : decode cX11_at 10 = .ok (.arraylength, 1) := by decide +kernel
theorem dX11_at_11 : decode cX11_at 11 = .ok (.if_icmp .ge 9, 3) := by decide +kernel
theorem dX11_at_14 : decode cX11_at 14 = .ok (.aload_n 0, 1) := by decide +kernel
theorem dX11_at_15 : decode cX11_at 15 = .ok (.iload_n 1, 1) := by decide +kernel
theorem dX11_at_16 : decode cX11_at 16 = .ok (.iaload, 1) := by decide +kernel
theorem dX11_at_17 : decode cX11_at 17 = .ok (.goto 4, 3) := by decide +kernel
theorem dX11_at_20 : decode cX11_at 20 = .ok (.iconst 0, 1) := by decide +kernel
theorem dX11_at_21 : decode cX11_at 21 = .ok (.ireturn, 1) := by decide +kernel
theorem dX11_put_0 : decode cX11_put 0 = .ok (.aload_n 0, 1) := by decide +kernel
theorem dX11_put_1 : decode cX11_put 1 = .ok (.ifnull 17, 3) := by decide +kernel
theorem dX11_put_4 : decode cX11_put 4 = .ok (.iload_n 1, 1) := by decide +kernel
theorem dX11_put_5 : decode cX11_put 5 = .ok (.ifCond .lt 13, 3) := by decide +kernel
theorem dX11_put_8 : decode cX11_put 8 = .ok (.iload_n 1, 1) := by decide +kernel
theorem dX11_put_9 : decode cX11_put 9 = .ok (.aload_n 0, 1) := by decide +kernel
theorem dX11_put_10 : decode cX11_put 10 = .ok (.arraylength, 1) := by decide +kernel
theorem dX11_put_11 : decode cX11_put 11 = .ok (.if_icmp .ge 7, 3) := by decide +kernel
theorem dX11_put_14 : decode cX11_put 14 = .ok (.aload_n 0, 1) := by decide +kernel
theorem dX11_put_15 : decode cX11_put 15 = .ok (.iload_n 1, 1) := by decide +kernel
theorem dX11_put_16 : decode cX11_put 16 = .ok (.iload_n 2, 1) := by decide +kernel
theorem dX11_put_17 : decode cX11_put 17 = .ok (.iastore, 1) := by decide +kernel
theorem dX11_put_18 : decode cX11_put 18 = .ok (.return_, 1) := by decide +kernel
theorem dX11_copy_0 : decode cX11_copy 0 = .ok (.aload_n 0, 1) := by decide +kernel
theorem dX11_copy_1 : decode cX11_copy 1 = .ok (.ifnull 7, 3) := by decide +kernel
theorem dX11_copy_4 : decode cX11_copy 4 = .ok (.aload_n 1, 1) := by decide +kernel
theorem dX11_copy_5 : decode cX11_copy 5 = .ok (.ifnonnull 4, 3) := by decide +kernel
theorem dX11_copy_8 : decode cX11_copy 8 = .ok (.return_, 1) := by decide +kernel
theorem dX11_copy_9 : decode cX11_copy 9 = .ok (.iconst 0, 1) := by decide +kernel
theorem dX11_copy_10 : decode cX11_copy 10 = .ok (.istore_n 2, 1) := by decide +kernel
theorem dX11_copy_11 : decode cX11_copy 11 = .ok (.iload_n 2, 1) := by decide +kernel
theorem dX11_copy_12 : decode cX11_copy 12 = .ok (.aload_n 1, 1) := by decide +kernel
theorem dX11_copy_13 : decode cX11_copy 13 = .ok (.arraylength, 1) := by decide +kernel
theorem dX11_copy_14 : decode cX11_copy 14 = .ok (.if_icmp .ge 21, 3) := by decide +kernel
theorem dX11_copy_17 : decode cX11_copy 17 = .ok (.iload_n 2, 1) := by decide +kernel
theorem dX11_copy_18 : decode cX11_copy 18 = .ok (.aload_n 0, 1) := by decide +kernel
theorem dX11_copy_19 : decode cX11_copy 19 = .ok (.arraylength, 1) := by decide +kernel
theorem dX11_copy_20 : decode cX11_copy 20 = .ok (.if_icmp .ge 15, 3) := by decide +kernel
theorem dX11_copy_23 : decode cX11_copy 23 = .ok (.aload_n 1, 1) := by decide +kernel
theorem dX11_copy_24 : decode cX11_copy 24 = .ok (.iload_n 2, 1) := by decide +kernel
theorem dX11_copy_25 : decode cX11_copy 25 = .ok (.aload_n 0, 1) := by decide +kernel
theorem dX11_copy_26 : decode cX11_copy 26 = .ok (.iload_n 2, 1) := by decide +kernel
theorem dX11_copy_27 : decode cX11_copy 27 = .ok (.iaload, 1) := by decide +kernel
theorem dX11_copy_28 : decode cX11_copy 28 = .ok (.iastore, 1) := by decide +kernel
theorem dX11_copy_29 : decode cX11_copy 29 = .ok (.iinc 2 1, 3) := by decide +kernel
theorem dX11_copy_32 : decode cX11_copy 32 = .ok (.goto (-21), 3) := by decide +kernel
theorem dX11_copy_35 : decode cX11_copy 35 = .ok (.return_, 1) := by decide +kernel
theorem dL_law_0 : decode cL_law 0 = .ok (.new 7, 3) := by decide +kernel
theorem dL_law_3 : decode cL_law 3 = .ok (.dup, 1) := by decide +kernel
theorem dL_law_4 : decode cL_law 4 = .ok (.invokespecial 9, 3) := by decide +kernel
theorem dL_law_7 : decode cL_law 7 = .ok (.astore_n 1, 1) := by decide +kernel
theorem dL_law_8 : decode cL_law 8 = .ok (.new 10, 3) := by decide +kernel
theorem dL_law_11 : decode cL_law 11 = .ok (.dup, 1) := by decide +kernel
theorem dL_law_12 : decode cL_law 12 = .ok (.invokespecial 12, 3) := by decide +kernel
theorem dL_law_15 : decode cL_law 15 = .ok (.astore_n 2, 1) := by decide +kernel
theorem dL_law_16 : decode cL_law 16 = .ok (.iconst 0, 1) := by decide +kernel
theorem dL_law_17 : decode cL_law 17 = .ok (.istore_n 3, 1) := by decide +kernel
theorem dL_law_18 : decode cL_law 18 = .ok (.iload_n 3, 1) := by decide +kernel
theorem dL_law_19 : decode cL_law 19 = .ok (.aload_n 0, 1) := by decide +kernel
theorem dL_law_20 : decode cL_law 20 = .ok (.arraylength, 1) := by decide +kernel
theorem dL_law_21 : decode cL_law 21 = .ok (.iconst 4, 1) := by decide +kernel
theorem dL_law_22 : decode cL_law 22 = .ok (.isub, 1) := by decide +kernel
theorem dL_law_23 : decode cL_law 23 = .ok (.if_icmp .gt 837, 3) := by decide +kernel
theorem dL_law_26 : decode cL_law 26 = .ok (.aload_n 0, 1) := by decide +kernel
theorem dL_law_27 : decode cL_law 27 = .ok (.iload_n 3, 1) := by decide +kernel
theorem dL_law_28 : decode cL_law 28 = .ok (.iaload, 1) := by decide +kernel
theorem dL_law_29 : decode cL_law 29 = .ok (.bipush 31, 2) := by decide +kernel
theorem dL_law_31 : decode cL_law 31 = .ok (.iand, 1) := by decide +kernel
theorem dL_law_32 : decode cL_law 32 = .ok (.tableswitch 822 0 27 #[128, 151, 164, 187, 220, 263, 296, 329, 362, 395, 418, 451, 484, 507, 530, 543, 566, 589, 602, 625, 648, 661, 684, 707, 730, 773, 786, 799], 128) := by decide +kernel
theorem dL_law_160 : decode cL_law 160 = .ok (.aload_n 1, 1) := by decide +kernel
theorem dL_law_161 : decode cL_law 161 = .ok (.aload_n 0, 1) := by decide +kernel
theorem dL_law_162 : decode cL_law 162 = .ok (.iload_n 3, 1) := by decide +kernel
theorem dL_law_163 : decode cL_law 163 = .ok (.iconst 1, 1) := by decide +kernel
theorem dL_law_164 : decode cL_law 164 = .ok (.iadd, 1) := by decide +kernel
theorem dL_law_165 : decode cL_law 165 = .ok (.iaload, 1) := by decide +kernel
theorem dL_law_166 : decode cL_law 166 = .ok (.invokevirtual 13, 3) := by decide +kernel
theorem dL_law_169 : decode cL_law 169 = .ok (.aload_n 2, 1) := by decide +kernel
theorem dL_law_170 : decode cL_law 170 = .ok (.aload_n 0, 1) := by decide +kernel
theorem dL_law_171 : decode cL_law 171 = .ok (.iload_n 3, 1) := by decide +kernel
theorem dL_law_172 : decode cL_law 172 = .ok (.iconst 1, 1) := by decide +kernel
theorem dL_law_173 : decode cL_law 173 = .ok (.iadd, 1) := by decide +kernel
theorem dL_law_174 : decode cL_law 174 = .ok (.iaload, 1) := by decide +kernel
theorem dL_law_175 : decode cL_law 175 = .ok (.invokevirtual 17, 3) := by decide +kernel
theorem dL_law_178 : decode cL_law 178 = .ok (.if_icmp .eq 676, 3) := by decide +kernel
theorem dL_law_181 : decode cL_law 181 = .ok (.iconst 0, 1) := by decide +kernel
theorem dL_law_182 : decode cL_law 182 = .ok (.ireturn, 1) := by decide +kernel
theorem dL_law_183 : decode cL_law 183 = .ok (.aload_n 1, 1) := by decide +kernel
theorem dL_law_184 : decode cL_law 184 = .ok (.invokevirtual 18, 3) := by decide +kernel
theorem dL_law_187 : decode cL_law 187 = .ok (.aload_n 2, 1) := by decide +kernel
theorem dL_law_188 : decode cL_law 188 = .ok (.invokevirtual 22, 3) := by decide +kernel
theorem dL_law_191 : decode cL_law 191 = .ok (.if_icmp .eq 663, 3) := by decide +kernel
theorem dL_law_194 : decode cL_law 194 = .ok (.iconst 0, 1) := by decide +kernel
theorem dL_law_195 : decode cL_law 195 = .ok (.ireturn, 1) := by decide +kernel
theorem dL_law_196 : decode cL_law 196 = .ok (.aload_n 1, 1) := by decide +kernel
theorem dL_law_197 : decode cL_law 197 = .ok (.aload_n 0, 1) := by decide +kernel
theorem dL_law_198 : decode cL_law 198 = .ok (.iload_n 3, 1) := by decide +kernel
theorem dL_law_199 : decode cL_law 199 = .ok (.iconst 1, 1) := by decide +kernel
theorem dL_law_200 : decode cL_law 200 = .ok (.iadd, 1) := by decide +kernel
theorem dL_law_201 : decode cL_law 201 = .ok (.iaload, 1) := by decide +kernel
theorem dL_law_202 : decode cL_law 202 = .ok (.invokevirtual 23, 3) := by decide +kernel
theorem dL_law_205 : decode cL_law 205 = .ok (.aload_n 2, 1) := by decide +kernel
theorem dL_law_206 : decode cL_law 206 = .ok (.aload_n 0, 1) := by decide +kernel
theorem dL_law_207 : decode cL_law 207 = .ok (.iload_n 3, 1) := by decide +kernel
theorem dL_law_208 : decode cL_law 208 = .ok (.iconst 1, 1) := by decide +kernel
theorem dL_law_209 : decode cL_law 209 = .ok (.iadd, 1) := by decide +kernel
theorem dL_law_210 : decode cL_law 210 = .ok (.iaload, 1) := by decide +kernel
theorem dL_law_211 : decode cL_law 211 = .ok (.invokevirtual 26, 3) := by decide +kernel
theorem dL_law_214 : decode cL_law 214 = .ok (.if_icmp .eq 640, 3) := by decide +kernel
theorem dL_law_217 : decode cL_law 217 = .ok (.iconst 0, 1) := by decide +kernel
theorem dL_law_218 : decode cL_law 218 = .ok (.ireturn, 1) := by decide +kernel
theorem dL_law_219 : decode cL_law 219 = .ok (.aload_n 1, 1) := by decide +kernel
theorem dL_law_220 : decode cL_law 220 = .ok (.aload_n 0, 1) := by decide +kernel
theorem dL_law_221 : decode cL_law 221 = .ok (.iload_n 3, 1) := by decide +kernel
theorem dL_law_222 : decode cL_law 222 = .ok (.iconst 1, 1) := by decide +kernel
theorem dL_law_223 : decode cL_law 223 = .ok (.iadd, 1) := by decide +kernel
theorem dL_law_224 : decode cL_law 224 = .ok (.iaload, 1) := by decide +kernel
theorem dL_law_225 : decode cL_law 225 = .ok (.aload_n 0, 1) := by decide +kernel
theorem dL_law_226 : decode cL_law 226 = .ok (.iload_n 3, 1) := by decide +kernel
theorem dL_law_227 : decode cL_law 227 = .ok (.iconst 2, 1) := by decide +kernel
theorem dL_law_228 : decode cL_law 228 = .ok (.iadd, 1) := by decide +kernel
theorem dL_law_229 : decode cL_law 229 = .ok (.iaload, 1) := by decide +kernel
theorem dL_law_230 : decode cL_law 230 = .ok (.invokevirtual 27, 3) := by decide +kernel
theorem dL_law_233 : decode cL_law 233 = .ok (.aload_n 2, 1) := by decide +kernel
theorem dL_law_234 : decode cL_law 234 = .ok (.aload_n 0, 1) := by decide +kernel
theorem dL_law_235 : decode cL_law 235 = .ok (.iload_n 3, 1) := by decide +kernel
theorem dL_law_236 : decode cL_law 236 = .ok (.iconst 1, 1) := by decide +kernel
theorem dL_law_237 : decode cL_law 237 = .ok (.iadd, 1) := by decide +kernel
theorem dL_law_238 : decode cL_law 238 = .ok (.iaload, 1) := by decide +kernel
theorem dL_law_239 : decode cL_law 239 = .ok (.aload_n 0, 1) := by decide +kernel
theorem dL_law_240 : decode cL_law 240 = .ok (.iload_n 3, 1) := by decide +kernel
theorem dL_law_241 : decode cL_law 241 = .ok (.iconst 2, 1) := by decide +kernel
theorem dL_law_242 : decode cL_law 242 = .ok (.iadd, 1) := by decide +kernel
theorem dL_law_243 : decode cL_law 243 = .ok (.iaload, 1) := by decide +kernel
theorem dL_law_244 : decode cL_law 244 = .ok (.invokevirtual 31, 3) := by decide +kernel
theorem dL_law_247 : decode cL_law 247 = .ok (.if_icmp .eq 607, 3) := by decide +kernel
theorem dL_law_250 : decode cL_law 250 = .ok (.iconst 0, 1) := by decide +kernel
theorem dL_law_251 : decode cL_law 251 = .ok (.ireturn, 1) := by decide +kernel
theorem dL_law_252 : decode cL_law 252 = .ok (.aload_n 1, 1) := by decide +kernel
theorem dL_law_253 : decode cL_law 253 = .ok (.aload_n 0, 1) := by decide +kernel
theorem dL_law_254 : decode cL_law 254 = .ok (.iload_n 3, 1) := by decide +kernel
theorem dL_law_255 : decode cL_law 255 = .ok (.iconst 1, 1) := by decide +kernel
theorem dL_law_256 : decode cL_law 256 = .ok (.iadd, 1) := by decide +kernel
theorem dL_law_257 : decode cL_law 257 = .ok (.iaload, 1) := by decide +kernel
theorem dL_law_258 : decode cL_law 258 = .ok (.aload_n 0, 1) := by decide +kernel
theorem dL_law_259 : decode cL_law 259 = .ok (.iload_n 3, 1) := by decide +kernel
theorem dL_law_260 : decode cL_law 260 = .ok (.iconst 2, 1) := by decide +kernel
theorem dL_law_261 : decode cL_law 261 = .ok (.iadd, 1) := by decide +kernel
theorem dL_law_262 : decode cL_law 262 = .ok (.iaload, 1) := by decide +kernel
theorem dL_law_263 : decode cL_law 263 = .ok (.aload_n 0, 1) := by decide +kernel
theorem dL_law_264 : decode cL_law 264 = .ok (.iload_n 3, 1) := by decide +kernel
theorem dL_law_265 : decode cL_law 265 = .ok (.iconst 3, 1) := by decide +kernel
theorem dL_law_266 : decode cL_law 266 = .ok (.iadd, 1) := by decide +kernel
theorem dL_law_267 : decode cL_law 267 = .ok (.iaload, 1) := by decide +kernel
theorem dL_law_268 : decode cL_law 268 = .ok (.invokevirtual 32, 3) := by decide +kernel
theorem dL_law_271 : decode cL_law 271 = .ok (.aload_n 2, 1) := by decide +kernel
theorem dL_law_272 : decode cL_law 272 = .ok (.aload_n 0, 1) := by decide +kernel
theorem dL_law_273 : decode cL_law 273 = .ok (.iload_n 3, 1) := by decide +kernel
theorem dL_law_274 : decode cL_law 274 = .ok (.iconst 1, 1) := by decide +kernel
theorem dL_law_275 : decode cL_law 275 = .ok (.iadd, 1) := by decide +kernel
theorem dL_law_276 : decode cL_law 276 = .ok (.iaload, 1) := by decide +kernel
theorem dL_law_277 : decode cL_law 277 = .ok (.aload_n 0, 1) := by decide +kernel
theorem dL_law_278 : decode cL_law 278 = .ok (.iload_n 3, 1) := by decide +kernel
theorem dL_law_279 : decode cL_law 279 = .ok (.iconst 2, 1) := by decide +kernel
theorem dL_law_280 : decode cL_law 280 = .ok (.iadd, 1) := by decide +kernel
theorem dL_law_281 : decode cL_law 281 = .ok (.iaload, 1) := by decide +kernel
theorem dL_law_282 : decode cL_law 282 = .ok (.aload_n 0, 1) := by decide +kernel
theorem dL_law_283 : decode cL_law 283 = .ok (.iload_n 3, 1) := by decide +kernel
theorem dL_law_284 : decode cL_law 284 = .ok (.iconst 3, 1) := by decide +kernel
theorem dL_law_285 : decode cL_law 285 = .ok (.iadd, 1) := by decide +kernel
theorem dL_law_286 : decode cL_law 286 = .ok (.iaload, 1) := by decide +kernel
theorem dL_law_287 : decode cL_law 287 = .ok (.invokevirtual 36, 3) := by decide +kernel
theorem dL_law_290 : decode cL_law 290 = .ok (.if_icmp .eq 564, 3) := by decide +kernel
theorem dL_law_293 : decode cL_law 293 = .ok (.iconst 0, 1) := by decide +kernel
theorem dL_law_294 : decode cL_law 294 = .ok (.ireturn, 1) := by decide +kernel
theorem dL_law_295 : decode cL_law 295 = .ok (.aload_n 1, 1) := by decide +kernel
theorem dL_law_296 : decode cL_law 296 = .ok (.aload_n 0, 1) := by decide +kernel
theorem dL_law_297 : decode cL_law 297 = .ok (.iload_n 3, 1) := by decide +kernel
theorem dL_law_298 : decode cL_law 298 = .ok (.iconst 1, 1) := by decide +kernel
theorem dL_law_299 : decode cL_law 299 = .ok (.iadd, 1) := by decide +kernel
theorem dL_law_300 : decode cL_law 300 = .ok (.iaload, 1) := by decide +kernel
theorem dL_law_301 : decode cL_law 301 = .ok (.aload_n 0, 1) := by decide +kernel
theorem dL_law_302 : decode cL_law 302 = .ok (.iload_n 3, 1) := by decide +kernel
theorem dL_law_303 : decode cL_law 303 = .ok (.iconst 2, 1) := by decide +kernel
theorem dL_law_304 : decode cL_law 304 = .ok (.iadd, 1) := by decide +kernel
theorem dL_law_305 : decode cL_law 305 = .ok (.iaload, 1) := by decide +kernel
theorem dL_law_306 : decode cL_law 306 = .ok (.invokevirtual 37, 3) := by decide +kernel
theorem dL_law_309 : decode cL_law 309 = .ok (.aload_n 2, 1) := by decide +kernel
theorem dL_law_310 : decode cL_law 310 = .ok (.aload_n 0, 1) := by decide +kernel
theorem dL_law_311 : decode cL_law 311 = .ok (.iload_n 3, 1) := by decide +kernel
theorem dL_law_312 : decode cL_law 312 = .ok (.iconst 1, 1) := by decide +kernel
theorem dL_law_313 : decode cL_law 313 = .ok (.iadd, 1) := by decide +kernel
theorem dL_law_314 : decode cL_law 314 = .ok (.iaload, 1) := by decide +kernel
theorem dL_law_315 : decode cL_law 315 = .ok (.aload_n 0, 1) := by decide +kernel
theorem dL_law_316 : decode cL_law 316 = .ok (.iload_n 3, 1) := by decide +kernel
theorem dL_law_317 : decode cL_law 317 = .ok (.iconst 2, 1) := by decide +kernel
theorem dL_law_318 : decode cL_law 318 = .ok (.iadd, 1) := by decide +kernel
theorem dL_law_319 : decode cL_law 319 = .ok (.iaload, 1) := by decide +kernel
theorem dL_law_320 : decode cL_law 320 = .ok (.invokevirtual 40, 3) := by decide +kernel
theorem dL_law_323 : decode cL_law 323 = .ok (.if_icmp .eq 531, 3) := by decide +kernel
theorem dL_law_326 : decode cL_law 326 = .ok (.iconst 0, 1) := by decide +kernel
theorem dL_law_327 : decode cL_law 327 = .ok (.ireturn, 1) := by decide +kernel
theorem dL_law_328 : decode cL_law 328 = .ok (.aload_n 1, 1) := by decide +kernel
theorem dL_law_329 : decode cL_law 329 = .ok (.aload_n 0, 1) := by decide +kernel
theorem dL_law_330 : decode cL_law 330 = .ok (.iload_n 3, 1) := by decide +kernel
theorem dL_law_331 : decode cL_law 331 = .ok (.iconst 1, 1) := by decide +kernel
theorem dL_law_332 : decode cL_law 332 = .ok (.iadd, 1) := by decide +kernel
theorem dL_law_333 : decode cL_law 333 = .ok (.iaload, 1) := by decide +kernel
theorem dL_law_334 : decode cL_law 334 = .ok (.aload_n 0, 1) := by decide +kernel
theorem dL_law_335 : decode cL_law 335 = .ok (.iload_n 3, 1) := by decide +kernel
theorem dL_law_336 : decode cL_law 336 = .ok (.iconst 2, 1) := by decide +kernel
theorem dL_law_337 : decode cL_law 337 = .ok (.iadd, 1) := by decide +kernel
theorem dL_law_338 : decode cL_law 338 = .ok (.iaload, 1) := by decide +kernel
theorem dL_law_339 : decode cL_law 339 = .ok (.invokevirtual 41, 3) := by decide +kernel
theorem dL_law_342 : decode cL_law 342 = .ok (.aload_n 2, 1) := by decide +kernel
theorem dL_law_343 : decode cL_law 343 = .ok (.aload_n 0, 1) := by decide +kernel
theorem dL_law_344 : decode cL_law 344 = .ok (.iload_n 3, 1) := by decide +kernel
theorem dL_law_345 : decode cL_law 345 = .ok (.iconst 1, 1) := by decide +kernel
theorem dL_law_346 : decode cL_law 346 = .ok (.iadd, 1) := by decide +kernel
theorem dL_law_347 : decode cL_law 347 = .ok (.iaload, 1) := by decide +kernel
theorem dL_law_348 : decode cL_law 348 = .ok (.aload_n 0, 1) := by decide +kernel
theorem dL_law_349 : decode cL_law 349 = .ok (.iload_n 3, 1) := by decide +kernel
theorem dL_law_350 : decode cL_law 350 = .ok (.iconst 2, 1) := by decide +kernel
theorem dL_law_351 : decode cL_law 351 = .ok (.iadd, 1) := by decide +kernel
theorem dL_law_352 : decode cL_law 352 = .ok (.iaload, 1) := by decide +kernel
theorem dL_law_353 : decode cL_law 353 = .ok (.invokevirtual 44, 3) := by decide +kernel
theorem dL_law_356 : decode cL_law 356 = .ok (.if_icmp .eq 498, 3) := by decide +kernel
theorem dL_law_359 : decode cL_law 359 = .ok (.iconst 0, 1) := by decide +kernel
theorem dL_law_360 : decode cL_law 360 = .ok (.ireturn, 1) := by decide +kernel
theorem dL_law_361 : decode cL_law 361 = .ok (.aload_n 1, 1) := by decide +kernel
theorem dL_law_362 : decode cL_law 362 = .ok (.aload_n 0, 1) := by decide +kernel
theorem dL_law_363 : decode cL_law 363 = .ok (.iload_n 3, 1) := by decide +kernel
theorem dL_law_364 : decode cL_law 364 = .ok (.iconst 1, 1) := by decide +kernel
theorem dL_law_365 : decode cL_law 365 = .ok (.iadd, 1) := by decide +kernel
theorem dL_law_366 : decode cL_law 366 = .ok (.iaload, 1) := by decide +kernel
theorem dL_law_367 : decode cL_law 367 = .ok (.aload_n 0, 1) := by decide +kernel
theorem dL_law_368 : decode cL_law 368 = .ok (.iload_n 3, 1) := by decide +kernel
theorem dL_law_369 : decode cL_law 369 = .ok (.iconst 2, 1) := by decide +kernel
theorem dL_law_370 : decode cL_law 370 = .ok (.iadd, 1) := by decide +kernel
theorem dL_law_371 : decode cL_law 371 = .ok (.iaload, 1) := by decide +kernel
theorem dL_law_372 : decode cL_law 372 = .ok (.invokevirtual 45, 3) := by decide +kernel
theorem dL_law_375 : decode cL_law 375 = .ok (.aload_n 2, 1) := by decide +kernel
theorem dL_law_376 : decode cL_law 376 = .ok (.aload_n 0, 1) := by decide +kernel
theorem dL_law_377 : decode cL_law 377 = .ok (.iload_n 3, 1) := by decide +kernel
theorem dL_law_378 : decode cL_law 378 = .ok (.iconst 1, 1) := by decide +kernel
theorem dL_law_379 : decode cL_law 379 = .ok (.iadd, 1) := by decide +kernel
theorem dL_law_380 : decode cL_law 380 = .ok (.iaload, 1) := by decide +kernel
theorem dL_law_381 : decode cL_law 381 = .ok (.aload_n 0, 1) := by decide +kernel
theorem dL_law_382 : decode cL_law 382 = .ok (.iload_n 3, 1) := by decide +kernel
theorem dL_law_383 : decode cL_law 383 = .ok (.iconst 2, 1) := by decide +kernel
theorem dL_law_384 : decode cL_law 384 = .ok (.iadd, 1) := by decide +kernel
theorem dL_law_385 : decode cL_law 385 = .ok (.iaload, 1) := by decide +kernel
theorem dL_law_386 : decode cL_law 386 = .ok (.invokevirtual 48, 3) := by decide +kernel
theorem dL_law_389 : decode cL_law 389 = .ok (.if_icmp .eq 465, 3) := by decide +kernel
theorem dL_law_392 : decode cL_law 392 = .ok (.iconst 0, 1) := by decide +kernel
theorem dL_law_393 : decode cL_law 393 = .ok (.ireturn, 1) := by decide +kernel
theorem dL_law_394 : decode cL_law 394 = .ok (.aload_n 1, 1) := by decide +kernel
theorem dL_law_395 : decode cL_law 395 = .ok (.aload_n 0, 1) := by decide +kernel
theorem dL_law_396 : decode cL_law 396 = .ok (.iload_n 3, 1) := by decide +kernel
theorem dL_law_397 : decode cL_law 397 = .ok (.iconst 1, 1) := by decide +kernel
theorem dL_law_398 : decode cL_law 398 = .ok (.iadd, 1) := by decide +kernel
theorem dL_law_399 : decode cL_law 399 = .ok (.iaload, 1) := by decide +kernel
theorem dL_law_400 : decode cL_law 400 = .ok (.aload_n 0, 1) := by decide +kernel
theorem dL_law_401 : decode cL_law 401 = .ok (.iload_n 3, 1) := by decide +kernel
theorem dL_law_402 : decode cL_law 402 = .ok (.iconst 2, 1) := by decide +kernel
theorem dL_law_403 : decode cL_law 403 = .ok (.iadd, 1) := by decide +kernel
theorem dL_law_404 : decode cL_law 404 = .ok (.iaload, 1) := by decide +kernel
theorem dL_law_405 : decode cL_law 405 = .ok (.invokevirtual 49, 3) := by decide +kernel
theorem dL_law_408 : decode cL_law 408 = .ok (.aload_n 2, 1) := by decide +kernel
theorem dL_law_409 : decode cL_law 409 = .ok (.aload_n 0, 1) := by decide +kernel
theorem dL_law_410 : decode cL_law 410 = .ok (.iload_n 3, 1) := by decide +kernel
theorem dL_law_411 : decode cL_law 411 = .ok (.iconst 1, 1) := by decide +kernel
theorem dL_law_412 : decode cL_law 412 = .ok (.iadd, 1) := by decide +kernel
theorem dL_law_413 : decode cL_law 413 = .ok (.iaload, 1) := by decide +kernel
theorem dL_law_414 : decode cL_law 414 = .ok (.aload_n 0, 1) := by decide +kernel
theorem dL_law_415 : decode cL_law 415 = .ok (.iload_n 3, 1) := by decide +kernel
theorem dL_law_416 : decode cL_law 416 = .ok (.iconst 2, 1) := by decide +kernel
theorem dL_law_417 : decode cL_law 417 = .ok (.iadd, 1) := by decide +kernel
theorem dL_law_418 : decode cL_law 418 = .ok (.iaload, 1) := by decide +kernel
theorem dL_law_419 : decode cL_law 419 = .ok (.invokevirtual 52, 3) := by decide +kernel
theorem dL_law_422 : decode cL_law 422 = .ok (.if_icmp .eq 432, 3) := by decide +kernel
theorem dL_law_425 : decode cL_law 425 = .ok (.iconst 0, 1) := by decide +kernel
theorem dL_law_426 : decode cL_law 426 = .ok (.ireturn, 1) := by decide +kernel
theorem dL_law_427 : decode cL_law 427 = .ok (.aload_n 1, 1) := by decide +kernel
theorem dL_law_428 : decode cL_law 428 = .ok (.aload_n 0, 1) := by decide +kernel
theorem dL_law_429 : decode cL_law 429 = .ok (.iload_n 3, 1) := by decide +kernel
theorem dL_law_430 : decode cL_law 430 = .ok (.iconst 1, 1) := by decide +kernel
theorem dL_law_431 : decode cL_law 431 = .ok (.iadd, 1) := by decide +kernel
theorem dL_law_432 : decode cL_law 432 = .ok (.iaload, 1) := by decide +kernel
theorem dL_law_433 : decode cL_law 433 = .ok (.invokevirtual 53, 3) := by decide +kernel
theorem dL_law_436 : decode cL_law 436 = .ok (.aload_n 2, 1) := by decide +kernel
theorem dL_law_437 : decode cL_law 437 = .ok (.aload_n 0, 1) := by decide +kernel
theorem dL_law_438 : decode cL_law 438 = .ok (.iload_n 3, 1) := by decide +kernel
theorem dL_law_439 : decode cL_law 439 = .ok (.iconst 1, 1) := by decide +kernel
theorem dL_law_440 : decode cL_law 440 = .ok (.iadd, 1) := by decide +kernel
theorem dL_law_441 : decode cL_law 441 = .ok (.iaload, 1) := by decide +kernel
theorem dL_law_442 : decode cL_law 442 = .ok (.invokevirtual 56, 3) := by decide +kernel
theorem dL_law_445 : decode cL_law 445 = .ok (.if_icmp .eq 409, 3) := by decide +kernel
theorem dL_law_448 : decode cL_law 448 = .ok (.iconst 0, 1) := by decide +kernel
theorem dL_law_449 : decode cL_law 449 = .ok (.ireturn, 1) := by decide +kernel
theorem dL_law_450 : decode cL_law 450 = .ok (.aload_n 1, 1) := by decide +kernel
theorem dL_law_451 : decode cL_law 451 = .ok (.aload_n 0, 1) := by decide +kernel
theorem dL_law_452 : decode cL_law 452 = .ok (.iload_n 3, 1) := by decide +kernel
theorem dL_law_453 : decode cL_law 453 = .ok (.iconst 1, 1) := by decide +kernel
theorem dL_law_454 : decode cL_law 454 = .ok (.iadd, 1) := by decide +kernel
theorem dL_law_455 : decode cL_law 455 = .ok (.iaload, 1) := by decide +kernel
theorem dL_law_456 : decode cL_law 456 = .ok (.aload_n 0, 1) := by decide +kernel
theorem dL_law_457 : decode cL_law 457 = .ok (.iload_n 3, 1) := by decide +kernel
theorem dL_law_458 : decode cL_law 458 = .ok (.iconst 2, 1) := by decide +kernel
theorem dL_law_459 : decode cL_law 459 = .ok (.iadd, 1) := by decide +kernel
theorem dL_law_460 : decode cL_law 460 = .ok (.iaload, 1) := by decide +kernel
theorem dL_law_461 : decode cL_law 461 = .ok (.invokevirtual 57, 3) := by decide +kernel
theorem dL_law_464 : decode cL_law 464 = .ok (.aload_n 2, 1) := by decide +kernel
theorem dL_law_465 : decode cL_law 465 = .ok (.aload_n 0, 1) := by decide +kernel
theorem dL_law_466 : decode cL_law 466 = .ok (.iload_n 3, 1) := by decide +kernel
theorem dL_law_467 : decode cL_law 467 = .ok (.iconst 1, 1) := by decide +kernel
theorem dL_law_468 : decode cL_law 468 = .ok (.iadd, 1) := by decide +kernel
theorem dL_law_469 : decode cL_law 469 = .ok (.iaload, 1) := by decide +kernel
theorem dL_law_470 : decode cL_law 470 = .ok (.aload_n 0, 1) := by decide +kernel
theorem dL_law_471 : decode cL_law 471 = .ok (.iload_n 3, 1) := by decide +kernel
theorem dL_law_472 : decode cL_law 472 = .ok (.iconst 2, 1) := by decide +kernel
theorem dL_law_473 : decode cL_law 473 = .ok (.iadd, 1) := by decide +kernel
theorem dL_law_474 : decode cL_law 474 = .ok (.iaload, 1) := by decide +kernel
theorem dL_law_475 : decode cL_law 475 = .ok (.invokevirtual 60, 3) := by decide +kernel
theorem dL_law_478 : decode cL_law 478 = .ok (.if_icmp .eq 376, 3) := by decide +kernel
theorem dL_law_481 : decode cL_law 481 = .ok (.iconst 0, 1) := by decide +kernel
theorem dL_law_482 : decode cL_law 482 = .ok (.ireturn, 1) := by decide +kernel
theorem dL_law_483 : decode cL_law 483 = .ok (.aload_n 1, 1) := by decide +kernel
theorem dL_law_484 : decode cL_law 484 = .ok (.aload_n 0, 1) := by decide +kernel
theorem dL_law_485 : decode cL_law 485 = .ok (.iload_n 3, 1) := by decide +kernel
theorem dL_law_486 : decode cL_law 486 = .ok (.iconst 1, 1) := by decide +kernel
theorem dL_law_487 : decode cL_law 487 = .ok (.iadd, 1) := by decide +kernel
theorem dL_law_488 : decode cL_law 488 = .ok (.iaload, 1) := by decide +kernel
theorem dL_law_489 : decode cL_law 489 = .ok (.aload_n 0, 1) := by decide +kernel
theorem dL_law_490 : decode cL_law 490 = .ok (.iload_n 3, 1) := by decide +kernel
theorem dL_law_491 : decode cL_law 491 = .ok (.iconst 2, 1) := by decide +kernel
theorem dL_law_492 : decode cL_law 492 = .ok (.iadd, 1) := by decide +kernel
theorem dL_law_493 : decode cL_law 493 = .ok (.iaload, 1) := by decide +kernel
theorem dL_law_494 : decode cL_law 494 = .ok (.invokevirtual 61, 3) := by decide +kernel
theorem dL_law_497 : decode cL_law 497 = .ok (.aload_n 2, 1) := by decide +kernel
theorem dL_law_498 : decode cL_law 498 = .ok (.aload_n 0, 1) := by decide +kernel
theorem dL_law_499 : decode cL_law 499 = .ok (.iload_n 3, 1) := by decide +kernel
theorem dL_law_500 : decode cL_law 500 = .ok (.iconst 1, 1) := by decide +kernel
theorem dL_law_501 : decode cL_law 501 = .ok (.iadd, 1) := by decide +kernel
theorem dL_law_502 : decode cL_law 502 = .ok (.iaload, 1) := by decide +kernel
theorem dL_law_503 : decode cL_law 503 = .ok (.aload_n 0, 1) := by decide +kernel
theorem dL_law_504 : decode cL_law 504 = .ok (.iload_n 3, 1) := by decide +kernel
theorem dL_law_505 : decode cL_law 505 = .ok (.iconst 2, 1) := by decide +kernel
theorem dL_law_506 : decode cL_law 506 = .ok (.iadd, 1) := by decide +kernel
theorem dL_law_507 : decode cL_law 507 = .ok (.iaload, 1) := by decide +kernel
theorem dL_law_508 : decode cL_law 508 = .ok (.invokevirtual 64, 3) := by decide +kernel
theorem dL_law_511 : decode cL_law 511 = .ok (.if_icmp .eq 343, 3) := by decide +kernel
theorem dL_law_514 : decode cL_law 514 = .ok (.iconst 0, 1) := by decide +kernel
theorem dL_law_515 : decode cL_law 515 = .ok (.ireturn, 1) := by decide +kernel
theorem dL_law_516 : decode cL_law 516 = .ok (.aload_n 1, 1) := by decide +kernel
theorem dL_law_517 : decode cL_law 517 = .ok (.aload_n 0, 1) := by decide +kernel
theorem dL_law_518 : decode cL_law 518 = .ok (.iload_n 3, 1) := by decide +kernel
theorem dL_law_519 : decode cL_law 519 = .ok (.iconst 1, 1) := by decide +kernel
theorem dL_law_520 : decode cL_law 520 = .ok (.iadd, 1) := by decide +kernel
theorem dL_law_521 : decode cL_law 521 = .ok (.iaload, 1) := by decide +kernel
theorem dL_law_522 : decode cL_law 522 = .ok (.invokevirtual 65, 3) := by decide +kernel
theorem dL_law_525 : decode cL_law 525 = .ok (.aload_n 2, 1) := by decide +kernel
theorem dL_law_526 : decode cL_law 526 = .ok (.aload_n 0, 1) := by decide +kernel
theorem dL_law_527 : decode cL_law 527 = .ok (.iload_n 3, 1) := by decide +kernel
theorem dL_law_528 : decode cL_law 528 = .ok (.iconst 1, 1) := by decide +kernel
theorem dL_law_529 : decode cL_law 529 = .ok (.iadd, 1) := by decide +kernel
theorem dL_law_530 : decode cL_law 530 = .ok (.iaload, 1) := by decide +kernel
theorem dL_law_531 : decode cL_law 531 = .ok (.invokevirtual 68, 3) := by decide +kernel
theorem dL_law_534 : decode cL_law 534 = .ok (.if_icmp .eq 320, 3) := by decide +kernel
theorem dL_law_537 : decode cL_law 537 = .ok (.iconst 0, 1) := by decide +kernel
theorem dL_law_538 : decode cL_law 538 = .ok (.ireturn, 1) := by decide +kernel
theorem dL_law_539 : decode cL_law 539 = .ok (.aload_n 1, 1) := by decide +kernel
theorem dL_law_540 : decode cL_law 540 = .ok (.aload_n 0, 1) := by decide +kernel
theorem dL_law_541 : decode cL_law 541 = .ok (.iload_n 3, 1) := by decide +kernel
theorem dL_law_542 : decode cL_law 542 = .ok (.iconst 1, 1) := by decide +kernel
theorem dL_law_543 : decode cL_law 543 = .ok (.iadd, 1) := by decide +kernel
theorem dL_law_544 : decode cL_law 544 = .ok (.iaload, 1) := by decide +kernel
theorem dL_law_545 : decode cL_law 545 = .ok (.invokevirtual 69, 3) := by decide +kernel
theorem dL_law_548 : decode cL_law 548 = .ok (.aload_n 2, 1) := by decide +kernel
theorem dL_law_549 : decode cL_law 549 = .ok (.aload_n 0, 1) := by decide +kernel
theorem dL_law_550 : decode cL_law 550 = .ok (.iload_n 3, 1) := by decide +kernel
theorem dL_law_551 : decode cL_law 551 = .ok (.iconst 1, 1) := by decide +kernel
theorem dL_law_552 : decode cL_law 552 = .ok (.iadd, 1) := by decide +kernel
theorem dL_law_553 : decode cL_law 553 = .ok (.iaload, 1) := by decide +kernel
theorem dL_law_554 : decode cL_law 554 = .ok (.invokevirtual 72, 3) := by decide +kernel
theorem dL_law_557 : decode cL_law 557 = .ok (.if_icmp .eq 297, 3) := by decide +kernel
theorem dL_law_560 : decode cL_law 560 = .ok (.iconst 0, 1) := by decide +kernel
theorem dL_law_561 : decode cL_law 561 = .ok (.ireturn, 1) := by decide +kernel
theorem dL_law_562 : decode cL_law 562 = .ok (.aload_n 1, 1) := by decide +kernel
theorem dL_law_563 : decode cL_law 563 = .ok (.invokevirtual 73, 3) := by decide +kernel
theorem dL_law_566 : decode cL_law 566 = .ok (.aload_n 2, 1) := by decide +kernel
theorem dL_law_567 : decode cL_law 567 = .ok (.invokevirtual 76, 3) := by decide +kernel
theorem dL_law_570 : decode cL_law 570 = .ok (.if_icmp .eq 284, 3) := by decide +kernel
theorem dL_law_573 : decode cL_law 573 = .ok (.iconst 0, 1) := by decide +kernel
theorem dL_law_574 : decode cL_law 574 = .ok (.ireturn, 1) := by decide +kernel
theorem dL_law_575 : decode cL_law 575 = .ok (.aload_n 1, 1) := by decide +kernel
theorem dL_law_576 : decode cL_law 576 = .ok (.aload_n 0, 1) := by decide +kernel
theorem dL_law_577 : decode cL_law 577 = .ok (.iload_n 3, 1) := by decide +kernel
theorem dL_law_578 : decode cL_law 578 = .ok (.iconst 1, 1) := by decide +kernel
theorem dL_law_579 : decode cL_law 579 = .ok (.iadd, 1) := by decide +kernel
theorem dL_law_580 : decode cL_law 580 = .ok (.iaload, 1) := by decide +kernel
theorem dL_law_581 : decode cL_law 581 = .ok (.invokevirtual 77, 3) := by decide +kernel
theorem dL_law_584 : decode cL_law 584 = .ok (.aload_n 2, 1) := by decide +kernel
theorem dL_law_585 : decode cL_law 585 = .ok (.aload_n 0, 1) := by decide +kernel
theorem dL_law_586 : decode cL_law 586 = .ok (.iload_n 3, 1) := by decide +kernel
theorem dL_law_587 : decode cL_law 587 = .ok (.iconst 1, 1) := by decide +kernel
theorem dL_law_588 : decode cL_law 588 = .ok (.iadd, 1) := by decide +kernel
theorem dL_law_589 : decode cL_law 589 = .ok (.iaload, 1) := by decide +kernel
theorem dL_law_590 : decode cL_law 590 = .ok (.invokevirtual 80, 3) := by decide +kernel
theorem dL_law_593 : decode cL_law 593 = .ok (.if_icmp .eq 261, 3) := by decide +kernel
theorem dL_law_596 : decode cL_law 596 = .ok (.iconst 0, 1) := by decide +kernel
theorem dL_law_597 : decode cL_law 597 = .ok (.ireturn, 1) := by decide +kernel
theorem dL_law_598 : decode cL_law 598 = .ok (.aload_n 1, 1) := by decide +kernel
theorem dL_law_599 : decode cL_law 599 = .ok (.aload_n 0, 1) := by decide +kernel
theorem dL_law_600 : decode cL_law 600 = .ok (.iload_n 3, 1) := by decide +kernel
theorem dL_law_601 : decode cL_law 601 = .ok (.iconst 1, 1) := by decide +kernel
theorem dL_law_602 : decode cL_law 602 = .ok (.iadd, 1) := by decide +kernel
theorem dL_law_603 : decode cL_law 603 = .ok (.iaload, 1) := by decide +kernel
theorem dL_law_604 : decode cL_law 604 = .ok (.invokevirtual 81, 3) := by decide +kernel
theorem dL_law_607 : decode cL_law 607 = .ok (.aload_n 2, 1) := by decide +kernel
theorem dL_law_608 : decode cL_law 608 = .ok (.aload_n 0, 1) := by decide +kernel
theorem dL_law_609 : decode cL_law 609 = .ok (.iload_n 3, 1) := by decide +kernel
theorem dL_law_610 : decode cL_law 610 = .ok (.iconst 1, 1) := by decide +kernel
theorem dL_law_611 : decode cL_law 611 = .ok (.iadd, 1) := by decide +kernel
theorem dL_law_612 : decode cL_law 612 = .ok (.iaload, 1) := by decide +kernel
theorem dL_law_613 : decode cL_law 613 = .ok (.invokevirtual 84, 3) := by decide +kernel
theorem dL_law_616 : decode cL_law 616 = .ok (.if_icmp .eq 238, 3) := by decide +kernel
theorem dL_law_619 : decode cL_law 619 = .ok (.iconst 0, 1) := by decide +kernel
theorem dL_law_620 : decode cL_law 620 = .ok (.ireturn, 1) := by decide +kernel
theorem dL_law_621 : decode cL_law 621 = .ok (.aload_n 1, 1) := by decide +kernel
theorem dL_law_622 : decode cL_law 622 = .ok (.invokevirtual 85, 3) := by decide +kernel
theorem dL_law_625 : decode cL_law 625 = .ok (.aload_n 2, 1) := by decide +kernel
theorem dL_law_626 : decode cL_law 626 = .ok (.invokevirtual 88, 3) := by decide +kernel
theorem dL_law_629 : decode cL_law 629 = .ok (.if_icmp .eq 225, 3) := by decide +kernel
theorem dL_law_632 : decode cL_law 632 = .ok (.iconst 0, 1) := by decide +kernel
theorem dL_law_633 : decode cL_law 633 = .ok (.ireturn, 1) := by decide +kernel
theorem dL_law_634 : decode cL_law 634 = .ok (.aload_n 1, 1) := by decide +kernel
theorem dL_law_635 : decode cL_law 635 = .ok (.aload_n 0, 1) := by decide +kernel
theorem dL_law_636 : decode cL_law 636 = .ok (.iload_n 3, 1) := by decide +kernel
theorem dL_law_637 : decode cL_law 637 = .ok (.iconst 1, 1) := by decide +kernel
theorem dL_law_638 : decode cL_law 638 = .ok (.iadd, 1) := by decide +kernel
theorem dL_law_639 : decode cL_law 639 = .ok (.iaload, 1) := by decide +kernel
theorem dL_law_640 : decode cL_law 640 = .ok (.invokevirtual 89, 3) := by decide +kernel
theorem dL_law_643 : decode cL_law 643 = .ok (.aload_n 2, 1) := by decide +kernel
theorem dL_law_644 : decode cL_law 644 = .ok (.aload_n 0, 1) := by decide +kernel
theorem dL_law_645 : decode cL_law 645 = .ok (.iload_n 3, 1) := by decide +kernel
theorem dL_law_646 : decode cL_law 646 = .ok (.iconst 1, 1) := by decide +kernel
theorem dL_law_647 : decode cL_law 647 = .ok (.iadd, 1) := by decide +kernel
theorem dL_law_648 : decode cL_law 648 = .ok (.iaload, 1) := by decide +kernel
theorem dL_law_649 : decode cL_law 649 = .ok (.invokevirtual 92, 3) := by decide +kernel
theorem dL_law_652 : decode cL_law 652 = .ok (.if_icmp .eq 202, 3) := by decide +kernel
theorem dL_law_655 : decode cL_law 655 = .ok (.iconst 0, 1) := by decide +kernel
theorem dL_law_656 : decode cL_law 656 = .ok (.ireturn, 1) := by decide +kernel
theorem dL_law_657 : decode cL_law 657 = .ok (.aload_n 1, 1) := by decide +kernel
theorem dL_law_658 : decode cL_law 658 = .ok (.aload_n 0, 1) := by decide +kernel
theorem dL_law_659 : decode cL_law 659 = .ok (.iload_n 3, 1) := by decide +kernel
theorem dL_law_660 : decode cL_law 660 = .ok (.iconst 1, 1) := by decide +kernel
theorem dL_law_661 : decode cL_law 661 = .ok (.iadd, 1) := by decide +kernel
theorem dL_law_662 : decode cL_law 662 = .ok (.iaload, 1) := by decide +kernel
theorem dL_law_663 : decode cL_law 663 = .ok (.invokevirtual 93, 3) := by decide +kernel
theorem dL_law_666 : decode cL_law 666 = .ok (.aload_n 2, 1) := by decide +kernel
theorem dL_law_667 : decode cL_law 667 = .ok (.aload_n 0, 1) := by decide +kernel
theorem dL_law_668 : decode cL_law 668 = .ok (.iload_n 3, 1) := by decide +kernel
theorem dL_law_669 : decode cL_law 669 = .ok (.iconst 1, 1) := by decide +kernel
theorem dL_law_670 : decode cL_law 670 = .ok (.iadd, 1) := by decide +kernel
theorem dL_law_671 : decode cL_law 671 = .ok (.iaload, 1) := by decide +kernel
theorem dL_law_672 : decode cL_law 672 = .ok (.invokevirtual 96, 3) := by decide +kernel
theorem dL_law_675 : decode cL_law 675 = .ok (.if_icmp .eq 179, 3) := by decide +kernel
theorem dL_law_678 : decode cL_law 678 = .ok (.iconst 0, 1) := by decide +kernel
theorem dL_law_679 : decode cL_law 679 = .ok (.ireturn, 1) := by decide +kernel
theorem dL_law_680 : decode cL_law 680 = .ok (.aload_n 1, 1) := by decide +kernel
theorem dL_law_681 : decode cL_law 681 = .ok (.invokevirtual 97, 3) := by decide +kernel
theorem dL_law_684 : decode cL_law 684 = .ok (.aload_n 2, 1) := by decide +kernel
theorem dL_law_685 : decode cL_law 685 = .ok (.invokevirtual 100, 3) := by decide +kernel
theorem dL_law_688 : decode cL_law 688 = .ok (.if_icmp .eq 166, 3) := by decide +kernel
theorem dL_law_691 : decode cL_law 691 = .ok (.iconst 0, 1) := by decide +kernel
theorem dL_law_692 : decode cL_law 692 = .ok (.ireturn, 1) := by decide +kernel
theorem dL_law_693 : decode cL_law 693 = .ok (.aload_n 1, 1) := by decide +kernel
theorem dL_law_694 : decode cL_law 694 = .ok (.aload_n 0, 1) := by decide +kernel
theorem dL_law_695 : decode cL_law 695 = .ok (.iload_n 3, 1) := by decide +kernel
theorem dL_law_696 : decode cL_law 696 = .ok (.iconst 1, 1) := by decide +kernel
theorem dL_law_697 : decode cL_law 697 = .ok (.iadd, 1) := by decide +kernel
theorem dL_law_698 : decode cL_law 698 = .ok (.iaload, 1) := by decide +kernel
theorem dL_law_699 : decode cL_law 699 = .ok (.invokevirtual 101, 3) := by decide +kernel
theorem dL_law_702 : decode cL_law 702 = .ok (.aload_n 2, 1) := by decide +kernel
theorem dL_law_703 : decode cL_law 703 = .ok (.aload_n 0, 1) := by decide +kernel
theorem dL_law_704 : decode cL_law 704 = .ok (.iload_n 3, 1) := by decide +kernel
theorem dL_law_705 : decode cL_law 705 = .ok (.iconst 1, 1) := by decide +kernel
theorem dL_law_706 : decode cL_law 706 = .ok (.iadd, 1) := by decide +kernel
theorem dL_law_707 : decode cL_law 707 = .ok (.iaload, 1) := by decide +kernel
theorem dL_law_708 : decode cL_law 708 = .ok (.invokevirtual 104, 3) := by decide +kernel
theorem dL_law_711 : decode cL_law 711 = .ok (.if_icmp .eq 143, 3) := by decide +kernel
theorem dL_law_714 : decode cL_law 714 = .ok (.iconst 0, 1) := by decide +kernel
theorem dL_law_715 : decode cL_law 715 = .ok (.ireturn, 1) := by decide +kernel
theorem dL_law_716 : decode cL_law 716 = .ok (.aload_n 1, 1) := by decide +kernel
theorem dL_law_717 : decode cL_law 717 = .ok (.aload_n 0, 1) := by decide +kernel
theorem dL_law_718 : decode cL_law 718 = .ok (.iload_n 3, 1) := by decide +kernel
theorem dL_law_719 : decode cL_law 719 = .ok (.iconst 1, 1) := by decide +kernel
theorem dL_law_720 : decode cL_law 720 = .ok (.iadd, 1) := by decide +kernel
theorem dL_law_721 : decode cL_law 721 = .ok (.iaload, 1) := by decide +kernel
theorem dL_law_722 : decode cL_law 722 = .ok (.invokevirtual 105, 3) := by decide +kernel
theorem dL_law_725 : decode cL_law 725 = .ok (.aload_n 2, 1) := by decide +kernel
theorem dL_law_726 : decode cL_law 726 = .ok (.aload_n 0, 1) := by decide +kernel
theorem dL_law_727 : decode cL_law 727 = .ok (.iload_n 3, 1) := by decide +kernel
theorem dL_law_728 : decode cL_law 728 = .ok (.iconst 1, 1) := by decide +kernel
theorem dL_law_729 : decode cL_law 729 = .ok (.iadd, 1) := by decide +kernel
theorem dL_law_730 : decode cL_law 730 = .ok (.iaload, 1) := by decide +kernel
theorem dL_law_731 : decode cL_law 731 = .ok (.invokevirtual 108, 3) := by decide +kernel
theorem dL_law_734 : decode cL_law 734 = .ok (.if_icmp .eq 120, 3) := by decide +kernel
theorem dL_law_737 : decode cL_law 737 = .ok (.iconst 0, 1) := by decide +kernel
theorem dL_law_738 : decode cL_law 738 = .ok (.ireturn, 1) := by decide +kernel
theorem dL_law_739 : decode cL_law 739 = .ok (.aload_n 1, 1) := by decide +kernel
theorem dL_law_740 : decode cL_law 740 = .ok (.aload_n 0, 1) := by decide +kernel
theorem dL_law_741 : decode cL_law 741 = .ok (.iload_n 3, 1) := by decide +kernel
theorem dL_law_742 : decode cL_law 742 = .ok (.iconst 1, 1) := by decide +kernel
theorem dL_law_743 : decode cL_law 743 = .ok (.iadd, 1) := by decide +kernel
theorem dL_law_744 : decode cL_law 744 = .ok (.iaload, 1) := by decide +kernel
theorem dL_law_745 : decode cL_law 745 = .ok (.invokevirtual 109, 3) := by decide +kernel
theorem dL_law_748 : decode cL_law 748 = .ok (.aload_n 2, 1) := by decide +kernel
theorem dL_law_749 : decode cL_law 749 = .ok (.aload_n 0, 1) := by decide +kernel
theorem dL_law_750 : decode cL_law 750 = .ok (.iload_n 3, 1) := by decide +kernel
theorem dL_law_751 : decode cL_law 751 = .ok (.iconst 1, 1) := by decide +kernel
theorem dL_law_752 : decode cL_law 752 = .ok (.iadd, 1) := by decide +kernel
theorem dL_law_753 : decode cL_law 753 = .ok (.iaload, 1) := by decide +kernel
theorem dL_law_754 : decode cL_law 754 = .ok (.invokevirtual 112, 3) := by decide +kernel
theorem dL_law_757 : decode cL_law 757 = .ok (.if_icmp .eq 97, 3) := by decide +kernel
theorem dL_law_760 : decode cL_law 760 = .ok (.iconst 0, 1) := by decide +kernel
theorem dL_law_761 : decode cL_law 761 = .ok (.ireturn, 1) := by decide +kernel
theorem dL_law_762 : decode cL_law 762 = .ok (.aload_n 1, 1) := by decide +kernel
theorem dL_law_763 : decode cL_law 763 = .ok (.aload_n 0, 1) := by decide +kernel
theorem dL_law_764 : decode cL_law 764 = .ok (.iload_n 3, 1) := by decide +kernel
theorem dL_law_765 : decode cL_law 765 = .ok (.iconst 1, 1) := by decide +kernel
theorem dL_law_766 : decode cL_law 766 = .ok (.iadd, 1) := by decide +kernel
theorem dL_law_767 : decode cL_law 767 = .ok (.iaload, 1) := by decide +kernel
theorem dL_law_768 : decode cL_law 768 = .ok (.aload_n 0, 1) := by decide +kernel
theorem dL_law_769 : decode cL_law 769 = .ok (.iload_n 3, 1) := by decide +kernel
theorem dL_law_770 : decode cL_law 770 = .ok (.iconst 2, 1) := by decide +kernel
theorem dL_law_771 : decode cL_law 771 = .ok (.iadd, 1) := by decide +kernel
theorem dL_law_772 : decode cL_law 772 = .ok (.iaload, 1) := by decide +kernel
theorem dL_law_773 : decode cL_law 773 = .ok (.aload_n 0, 1) := by decide +kernel
theorem dL_law_774 : decode cL_law 774 = .ok (.iload_n 3, 1) := by decide +kernel
theorem dL_law_775 : decode cL_law 775 = .ok (.iconst 3, 1) := by decide +kernel
theorem dL_law_776 : decode cL_law 776 = .ok (.iadd, 1) := by decide +kernel
theorem dL_law_777 : decode cL_law 777 = .ok (.iaload, 1) := by decide +kernel
theorem dL_law_778 : decode cL_law 778 = .ok (.invokevirtual 113, 3) := by decide +kernel
theorem dL_law_781 : decode cL_law 781 = .ok (.aload_n 2, 1) := by decide +kernel
theorem dL_law_782 : decode cL_law 782 = .ok (.aload_n 0, 1) := by decide +kernel
theorem dL_law_783 : decode cL_law 783 = .ok (.iload_n 3, 1) := by decide +kernel
theorem dL_law_784 : decode cL_law 784 = .ok (.iconst 1, 1) := by decide +kernel
theorem dL_law_785 : decode cL_law 785 = .ok (.iadd, 1) := by decide +kernel
theorem dL_law_786 : decode cL_law 786 = .ok (.iaload, 1) := by decide +kernel
theorem dL_law_787 : decode cL_law 787 = .ok (.aload_n 0, 1) := by decide +kernel
theorem dL_law_788 : decode cL_law 788 = .ok (.iload_n 3, 1) := by decide +kernel
theorem dL_law_789 : decode cL_law 789 = .ok (.iconst 2, 1) := by decide +kernel
theorem dL_law_790 : decode cL_law 790 = .ok (.iadd, 1) := by decide +kernel
theorem dL_law_791 : decode cL_law 791 = .ok (.iaload, 1) := by decide +kernel
theorem dL_law_792 : decode cL_law 792 = .ok (.aload_n 0, 1) := by decide +kernel
theorem dL_law_793 : decode cL_law 793 = .ok (.iload_n 3, 1) := by decide +kernel
theorem dL_law_794 : decode cL_law 794 = .ok (.iconst 3, 1) := by decide +kernel
theorem dL_law_795 : decode cL_law 795 = .ok (.iadd, 1) := by decide +kernel
theorem dL_law_796 : decode cL_law 796 = .ok (.iaload, 1) := by decide +kernel
theorem dL_law_797 : decode cL_law 797 = .ok (.invokevirtual 116, 3) := by decide +kernel
theorem dL_law_800 : decode cL_law 800 = .ok (.if_icmp .eq 54, 3) := by decide +kernel
theorem dL_law_803 : decode cL_law 803 = .ok (.iconst 0, 1) := by decide +kernel
theorem dL_law_804 : decode cL_law 804 = .ok (.ireturn, 1) := by decide +kernel
theorem dL_law_805 : decode cL_law 805 = .ok (.aload_n 1, 1) := by decide +kernel
theorem dL_law_806 : decode cL_law 806 = .ok (.invokevirtual 117, 3) := by decide +kernel
theorem dL_law_809 : decode cL_law 809 = .ok (.aload_n 2, 1) := by decide +kernel
theorem dL_law_810 : decode cL_law 810 = .ok (.invokevirtual 120, 3) := by decide +kernel
theorem dL_law_813 : decode cL_law 813 = .ok (.if_icmp .eq 41, 3) := by decide +kernel
theorem dL_law_816 : decode cL_law 816 = .ok (.iconst 0, 1) := by decide +kernel
theorem dL_law_817 : decode cL_law 817 = .ok (.ireturn, 1) := by decide +kernel
theorem dL_law_818 : decode cL_law 818 = .ok (.aload_n 1, 1) := by decide +kernel
theorem dL_law_819 : decode cL_law 819 = .ok (.invokevirtual 121, 3) := by decide +kernel
theorem dL_law_822 : decode cL_law 822 = .ok (.aload_n 2, 1) := by decide +kernel
theorem dL_law_823 : decode cL_law 823 = .ok (.invokevirtual 124, 3) := by decide +kernel
theorem dL_law_826 : decode cL_law 826 = .ok (.if_icmp .eq 28, 3) := by decide +kernel
theorem dL_law_829 : decode cL_law 829 = .ok (.iconst 0, 1) := by decide +kernel
theorem dL_law_830 : decode cL_law 830 = .ok (.ireturn, 1) := by decide +kernel
theorem dL_law_831 : decode cL_law 831 = .ok (.aload_n 1, 1) := by decide +kernel
theorem dL_law_832 : decode cL_law 832 = .ok (.aload_n 0, 1) := by decide +kernel
theorem dL_law_833 : decode cL_law 833 = .ok (.iload_n 3, 1) := by decide +kernel
theorem dL_law_834 : decode cL_law 834 = .ok (.iconst 1, 1) := by decide +kernel
theorem dL_law_835 : decode cL_law 835 = .ok (.iadd, 1) := by decide +kernel
theorem dL_law_836 : decode cL_law 836 = .ok (.iaload, 1) := by decide +kernel
theorem dL_law_837 : decode cL_law 837 = .ok (.invokevirtual 125, 3) := by decide +kernel
theorem dL_law_840 : decode cL_law 840 = .ok (.aload_n 2, 1) := by decide +kernel
theorem dL_law_841 : decode cL_law 841 = .ok (.aload_n 0, 1) := by decide +kernel
theorem dL_law_842 : decode cL_law 842 = .ok (.iload_n 3, 1) := by decide +kernel
theorem dL_law_843 : decode cL_law 843 = .ok (.iconst 1, 1) := by decide +kernel
theorem dL_law_844 : decode cL_law 844 = .ok (.iadd, 1) := by decide +kernel
theorem dL_law_845 : decode cL_law 845 = .ok (.iaload, 1) := by decide +kernel
theorem dL_law_846 : decode cL_law 846 = .ok (.invokevirtual 128, 3) := by decide +kernel
theorem dL_law_849 : decode cL_law 849 = .ok (.if_icmp .eq 5, 3) := by decide +kernel
theorem dL_law_852 : decode cL_law 852 = .ok (.iconst 0, 1) := by decide +kernel
theorem dL_law_853 : decode cL_law 853 = .ok (.ireturn, 1) := by decide +kernel
theorem dL_law_854 : decode cL_law 854 = .ok (.iinc 3 4, 3) := by decide +kernel
theorem dL_law_857 : decode cL_law 857 = .ok (.goto (-839), 3) := by decide +kernel
theorem dL_law_860 : decode cL_law 860 = .ok (.iconst 1, 1) := by decide +kernel
theorem dL_law_861 : decode cL_law 861 = .ok (.ireturn, 1) := by decide +kernel
