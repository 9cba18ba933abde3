theorem dX12_init_0 : decode cX12_init 0 = .ok (.aload_n 0, 1) := by decide +kernel
theorem dX12_init_1 : decode cX12_init 1 = .ok (.invokespecial 1, 3) := by decide +kernel
theorem dX12_init_4 : decode cX12_init 4 = .ok (.aload_n 0, 1) := by decide +kernel
theorem dX12_init_5 : decode cX12_init 5 = .ok (.bipush 7, 2) := by decide +kernel
theorem dX12_init_7 : decode cX12_init 7 = .ok (.newarray .int, 2) := by decide +kernel
theorem dX12_init_9 : decode cX12_init 9 = .ok (.putfield 7, 3) := by decide +kernel
theorem dX12_init_12 : decode cX12_init 12 = .ok (.aload_n 0, 1) := by decide +kernel
theorem dX12_init_13 : decode cX12_init 13 = .ok (.bipush 52, 2) := by decide +kernel
theorem dX12_init_15 : decode cX12_init 15 = .ok (.newarray .int, 2) := by decide +kernel
theorem dX12_init_17 : decode cX12_init 17 = .ok (.putfield 13, 3) := by decide +kernel
theorem dX12_init_20 : decode cX12_init 20 = .ok (.aload_n 0, 1) := by decide +kernel
theorem dX12_init_21 : decode cX12_init 21 = .ok (.bipush 52, 2) := by decide +kernel
theorem dX12_init_23 : decode cX12_init 23 = .ok (.newarray .int, 2) := by decide +kernel
theorem dX12_init_25 : decode cX12_init 25 = .ok (.putfield 16, 3) := by decide +kernel
theorem dX12_init_28 : decode cX12_init 28 = .ok (.aload_n 0, 1) := by decide +kernel
theorem dX12_init_29 : decode cX12_init 29 = .ok (.bipush 52, 2) := by decide +kernel
theorem dX12_init_31 : decode cX12_init 31 = .ok (.newarray .int, 2) := by decide +kernel
theorem dX12_init_33 : decode cX12_init 33 = .ok (.putfield 19, 3) := by decide +kernel
theorem dX12_init_36 : decode cX12_init 36 = .ok (.aload_n 0, 1) := by decide +kernel
theorem dX12_init_37 : decode cX12_init 37 = .ok (.bipush 80, 2) := by decide +kernel
theorem dX12_init_39 : decode cX12_init 39 = .ok (.newarray .int, 2) := by decide +kernel
theorem dX12_init_41 : decode cX12_init 41 = .ok (.putfield 22, 3) := by decide +kernel
theorem dX12_init_44 : decode cX12_init 44 = .ok (.aload_n 0, 1) := by decide +kernel
theorem dX12_init_45 : decode cX12_init 45 = .ok (.bipush 7, 2) := by decide +kernel
theorem dX12_init_47 : decode cX12_init 47 = .ok (.newarray .int, 2) := by decide +kernel
theorem dX12_init_49 : decode cX12_init 49 = .ok (.putfield 25, 3) := by decide +kernel
theorem dX12_init_52 : decode cX12_init 52 = .ok (.aload_n 0, 1) := by decide +kernel
theorem dX12_init_53 : decode cX12_init 53 = .ok (.iconst 4, 1) := by decide +kernel
theorem dX12_init_54 : decode cX12_init 54 = .ok (.newarray .int, 2) := by decide +kernel
theorem dX12_init_56 : decode cX12_init 56 = .ok (.putfield 28, 3) := by decide +kernel
theorem dX12_init_59 : decode cX12_init 59 = .ok (.iconst 0, 1) := by decide +kernel
theorem dX12_init_60 : decode cX12_init 60 = .ok (.istore_n 1, 1) := by decide +kernel
theorem dX12_init_61 : decode cX12_init 61 = .ok (.iload_n 1, 1) := by decide +kernel
theorem dX12_init_62 : decode cX12_init 62 = .ok (.iconst 4, 1) := by decide +kernel
theorem dX12_init_63 : decode cX12_init 63 = .ok (.if_icmp .ge 20, 3) := by decide +kernel
theorem dX12_init_66 : decode cX12_init 66 = .ok (.aload_n 0, 1) := by decide +kernel
theorem dX12_init_67 : decode cX12_init 67 = .ok (.getfield 13, 3) := by decide +kernel
theorem dX12_init_70 : decode cX12_init 70 = .ok (.bipush 6, 2) := by decide +kernel
theorem dX12_init_72 : decode cX12_init 72 = .ok (.iload_n 1, 1) := by decide +kernel
theorem dX12_init_73 : decode cX12_init 73 = .ok (.iadd, 1) := by decide +kernel
theorem dX12_init_74 : decode cX12_init 74 = .ok (.bipush 50, 2) := by decide +kernel
theorem dX12_init_76 : decode cX12_init 76 = .ok (.iastore, 1) := by decide +kernel
theorem dX12_init_77 : decode cX12_init 77 = .ok (.iinc 1 1, 3) := by decide +kernel
theorem dX12_init_80 : decode cX12_init 80 = .ok (.goto (-19), 3) := by decide +kernel
theorem dX12_init_83 : decode cX12_init 83 = .ok (.return_, 1) := by decide +kernel
theorem dX12_refuse_0 : decode cX12_refuse 0 = .ok (.aload_n 0, 1) := by decide +kernel
theorem dX12_refuse_1 : decode cX12_refuse 1 = .ok (.getfield 7, 3) := by decide +kernel
theorem dX12_refuse_4 : decode cX12_refuse 4 = .ok (.iload_n 1, 1) := by decide +kernel
theorem dX12_refuse_5 : decode cX12_refuse 5 = .ok (.ineg, 1) := by decide +kernel
theorem dX12_refuse_6 : decode cX12_refuse 6 = .ok (.dup2, 1) := by decide +kernel
theorem dX12_refuse_7 : decode cX12_refuse 7 = .ok (.iaload, 1) := by decide +kernel
theorem dX12_refuse_8 : decode cX12_refuse 8 = .ok (.iconst 1, 1) := by decide +kernel
theorem dX12_refuse_9 : decode cX12_refuse 9 = .ok (.iadd, 1) := by decide +kernel
theorem dX12_refuse_10 : decode cX12_refuse 10 = .ok (.iastore, 1) := by decide +kernel
theorem dX12_refuse_11 : decode cX12_refuse 11 = .ok (.iload_n 1, 1) := by decide +kernel
theorem dX12_refuse_12 : decode cX12_refuse 12 = .ok (.ireturn, 1) := by decide +kernel
theorem dX12_isIn_0 : decode cX12_isIn 0 = .ok (.iload_n 0, 1) := by decide +kernel
theorem dX12_isIn_1 : decode cX12_isIn 1 = .ok (.ifCond .lt 12, 3) := by decide +kernel
theorem dX12_isIn_4 : decode cX12_isIn 4 = .ok (.iload_n 0, 1) := by decide +kernel
theorem dX12_isIn_5 : decode cX12_isIn 5 = .ok (.iload_n 1, 1) := by decide +kernel
theorem dX12_isIn_6 : decode cX12_isIn 6 = .ok (.if_icmp .ge 7, 3) := by decide +kernel
theorem dX12_isIn_9 : decode cX12_isIn 9 = .ok (.iconst 1, 1) := by decide +kernel
theorem dX12_isIn_10 : decode cX12_isIn 10 = .ok (.goto 4, 3) := by decide +kernel
theorem dX12_isIn_13 : decode cX12_isIn 13 = .ok (.iconst 0, 1) := by decide +kernel
theorem dX12_isIn_14 : decode cX12_isIn 14 = .ok (.ireturn, 1) := by decide +kernel
theorem dX12_within_0 : decode cX12_within 0 = .ok (.iload_n 0, 1) := by decide +kernel
theorem dX12_within_1 : decode cX12_within 1 = .ok (.iload_n 1, 1) := by decide +kernel
theorem dX12_within_2 : decode cX12_within 2 = .ok (.if_icmp .ge 8, 3) := by decide +kernel
theorem dX12_within_5 : decode cX12_within 5 = .ok (.bipush (-4), 2) := by decide +kernel
theorem dX12_within_7 : decode cX12_within 7 = .ok (.goto 14, 3) := by decide +kernel
theorem dX12_within_10 : decode cX12_within 10 = .ok (.iload_n 0, 1) := by decide +kernel
theorem dX12_within_11 : decode cX12_within 11 = .ok (.iload_n 2, 1) := by decide +kernel
theorem dX12_within_12 : decode cX12_within 12 = .ok (.if_icmp .le 8, 3) := by decide +kernel
theorem dX12_within_15 : decode cX12_within 15 = .ok (.bipush (-6), 2) := by decide +kernel
theorem dX12_within_17 : decode cX12_within 17 = .ok (.goto 4, 3) := by decide +kernel
theorem dX12_within_20 : decode cX12_within 20 = .ok (.iconst 0, 1) := by decide +kernel
theorem dX12_within_21 : decode cX12_within 21 = .ok (.ireturn, 1) := by decide +kernel
theorem dX12_copies_0 : decode cX12_copies 0 = .ok (.iconst 0, 1) := by decide +kernel
theorem dX12_copies_1 : decode cX12_copies 1 = .ok (.istore_n 2, 1) := by decide +kernel
theorem dX12_copies_2 : decode cX12_copies 2 = .ok (.iload_n 2, 1) := by decide +kernel
theorem dX12_copies_3 : decode cX12_copies 3 = .ok (.bipush 52, 2) := by decide +kernel
theorem dX12_copies_5 : decode cX12_copies 5 = .ok (.if_icmp .ge 15, 3) := by decide +kernel
theorem dX12_copies_8 : decode cX12_copies 8 = .ok (.aload_n 1, 1) := by decide +kernel
theorem dX12_copies_9 : decode cX12_copies 9 = .ok (.iload_n 2, 1) := by decide +kernel
theorem dX12_copies_10 : decode cX12_copies 10 = .ok (.aload_n 0, 1) := by decide +kernel
theorem dX12_copies_11 : decode cX12_copies 11 = .ok (.iload_n 2, 1) := by decide +kernel
theorem dX12_copies_12 : decode cX12_copies 12 = .ok (.iaload, 1) := by decide +kernel
theorem dX12_copies_13 : decode cX12_copies 13 = .ok (.iastore, 1) := by decide +kernel
theorem dX12_copies_14 : decode cX12_copies 14 = .ok (.iinc 2 1, 3) := by decide +kernel
theorem dX12_copies_17 : decode cX12_copies 17 = .ok (.goto (-15), 3) := by decide +kernel
theorem dX12_copies_20 : decode cX12_copies 20 = .ok (.return_, 1) := by decide +kernel
theorem dX12_bits_0 : decode cX12_bits 0 = .ok (.iconst 0, 1) := by decide +kernel
theorem dX12_bits_1 : decode cX12_bits 1 = .ok (.istore_n 1, 1) := by decide +kernel
theorem dX12_bits_2 : decode cX12_bits 2 = .ok (.iload_n 0, 1) := by decide +kernel
theorem dX12_bits_3 : decode cX12_bits 3 = .ok (.istore_n 2, 1) := by decide +kernel
theorem dX12_bits_4 : decode cX12_bits 4 = .ok (.iload_n 2, 1) := by decide +kernel
theorem dX12_bits_5 : decode cX12_bits 5 = .ok (.ifCond .le 16, 3) := by decide +kernel
theorem dX12_bits_8 : decode cX12_bits 8 = .ok (.iload_n 1, 1) := by decide +kernel
theorem dX12_bits_9 : decode cX12_bits 9 = .ok (.iload_n 2, 1) := by decide +kernel
theorem dX12_bits_10 : decode cX12_bits 10 = .ok (.iconst 1, 1) := by decide +kernel
theorem dX12_bits_11 : decode cX12_bits 11 = .ok (.iand, 1) := by decide +kernel
theorem dX12_bits_12 : decode cX12_bits 12 = .ok (.iadd, 1) := by decide +kernel
theorem dX12_bits_13 : decode cX12_bits 13 = .ok (.istore_n 1, 1) := by decide +kernel
theorem dX12_bits_14 : decode cX12_bits 14 = .ok (.iload_n 2, 1) := by decide +kernel
theorem dX12_bits_15 : decode cX12_bits 15 = .ok (.iconst 1, 1) := by decide +kernel
theorem dX12_bits_16 : decode cX12_bits 16 = .ok (.ishr, 1) := by decide +kernel
theorem dX12_bits_17 : decode cX12_bits 17 = .ok (.istore_n 2, 1) := by decide +kernel
theorem dX12_bits_18 : decode cX12_bits 18 = .ok (.goto (-14), 3) := by decide +kernel
theorem dX12_bits_21 : decode cX12_bits 21 = .ok (.iload_n 1, 1) := by decide +kernel
theorem dX12_bits_22 : decode cX12_bits 22 = .ok (.ireturn, 1) := by decide +kernel
theorem dX12_isBet_0 : decode cX12_isBet 0 = .ok (.iload_n 1, 1) := by decide +kernel
theorem dX12_isBet_1 : decode cX12_isBet 1 = .ok (.aload_n 0, 1) := by decide +kernel
theorem dX12_isBet_2 : decode cX12_isBet 2 = .ok (.getfield 13, 3) := by decide +kernel
theorem dX12_isBet_5 : decode cX12_isBet 5 = .ok (.iconst 1, 1) := by decide +kernel
theorem dX12_isBet_6 : decode cX12_isBet 6 = .ok (.iaload, 1) := by decide +kernel
theorem dX12_isBet_7 : decode cX12_isBet 7 = .ok (.invokestatic 31, 3) := by decide +kernel
theorem dX12_isBet_10 : decode cX12_isBet 10 = .ok (.ireturn, 1) := by decide +kernel
theorem dX12_isPerson_0 : decode cX12_isPerson 0 = .ok (.iload_n 0, 1) := by decide +kernel
theorem dX12_isPerson_1 : decode cX12_isPerson 1 = .ok (.iconst 4, 1) := by decide +kernel
theorem dX12_isPerson_2 : decode cX12_isPerson 2 = .ok (.invokestatic 31, 3) := by decide +kernel
theorem dX12_isPerson_5 : decode cX12_isPerson 5 = .ok (.ireturn, 1) := by decide +kernel
theorem dX12_ends_0 : decode cX12_ends 0 = .ok (.iconst 1, 1) := by decide +kernel
theorem dX12_ends_1 : decode cX12_ends 1 = .ok (.aload_n 0, 1) := by decide +kernel
theorem dX12_ends_2 : decode cX12_ends 2 = .ok (.getfield 13, 3) := by decide +kernel
theorem dX12_ends_5 : decode cX12_ends 5 = .ok (.iconst 0, 1) := by decide +kernel
theorem dX12_ends_6 : decode cX12_ends 6 = .ok (.iaload, 1) := by decide +kernel
theorem dX12_ends_7 : decode cX12_ends 7 = .ok (.ishl, 1) := by decide +kernel
theorem dX12_ends_8 : decode cX12_ends 8 = .ok (.ireturn, 1) := by decide +kernel
theorem dX12_isEnd_0 : decode cX12_isEnd 0 = .ok (.iload_n 1, 1) := by decide +kernel
theorem dX12_isEnd_1 : decode cX12_isEnd 1 = .ok (.aload_n 0, 1) := by decide +kernel
theorem dX12_isEnd_2 : decode cX12_isEnd 2 = .ok (.invokevirtual 35, 3) := by decide +kernel
theorem dX12_isEnd_5 : decode cX12_isEnd 5 = .ok (.invokestatic 31, 3) := by decide +kernel
theorem dX12_isEnd_8 : decode cX12_isEnd 8 = .ok (.ireturn, 1) := by decide +kernel
theorem dX12_get_0 : decode cX12_get 0 = .ok (.aload_n 0, 1) := by decide +kernel
theorem dX12_get_1 : decode cX12_get 1 = .ok (.getfield 13, 3) := by decide +kernel
theorem dX12_get_4 : decode cX12_get 4 = .ok (.bipush 10, 2) := by decide +kernel
theorem dX12_get_6 : decode cX12_get 6 = .ok (.bipush 7, 2) := by decide +kernel
theorem dX12_get_8 : decode cX12_get 8 = .ok (.iload_n 1, 1) := by decide +kernel
theorem dX12_get_9 : decode cX12_get 9 = .ok (.imul, 1) := by decide +kernel
theorem dX12_get_10 : decode cX12_get 10 = .ok (.iadd, 1) := by decide +kernel
theorem dX12_get_11 : decode cX12_get 11 = .ok (.iload_n 2, 1) := by decide +kernel
theorem dX12_get_12 : decode cX12_get 12 = .ok (.iadd, 1) := by decide +kernel
theorem dX12_get_13 : decode cX12_get 13 = .ok (.iaload, 1) := by decide +kernel
theorem dX12_get_14 : decode cX12_get 14 = .ok (.ireturn, 1) := by decide +kernel
theorem dX12_letter_0 : decode cX12_letter 0 = .ok (.iload_n 1, 1) := by decide +kernel
theorem dX12_letter_1 : decode cX12_letter 1 = .ok (.iconst 0, 1) := by decide +kernel
theorem dX12_letter_2 : decode cX12_letter 2 = .ok (.sipush 255, 3) := by decide +kernel
theorem dX12_letter_5 : decode cX12_letter 5 = .ok (.invokestatic 39, 3) := by decide +kernel
theorem dX12_letter_8 : decode cX12_letter 8 = .ok (.istore_n 2, 1) := by decide +kernel
theorem dX12_letter_9 : decode cX12_letter 9 = .ok (.iload_n 2, 1) := by decide +kernel
theorem dX12_letter_10 : decode cX12_letter 10 = .ok (.ifCond .ne 15, 3) := by decide +kernel
theorem dX12_letter_13 : decode cX12_letter 13 = .ok (.aload_n 0, 1) := by decide +kernel
theorem dX12_letter_14 : decode cX12_letter 14 = .ok (.getfield 43, 3) := by decide +kernel
theorem dX12_letter_17 : decode cX12_letter 17 = .ok (.bipush 80, 2) := by decide +kernel
theorem dX12_letter_19 : decode cX12_letter 19 = .ok (.if_icmp .ne 6, 3) := by decide +kernel
theorem dX12_letter_22 : decode cX12_letter 22 = .ok (.bipush (-6), 2) := by decide +kernel
theorem dX12_letter_24 : decode cX12_letter 24 = .ok (.istore_n 2, 1) := by decide +kernel
theorem dX12_letter_25 : decode cX12_letter 25 = .ok (.iload_n 2, 1) := by decide +kernel
theorem dX12_letter_26 : decode cX12_letter 26 = .ok (.ifCond .eq 9, 3) := by decide +kernel
theorem dX12_letter_29 : decode cX12_letter 29 = .ok (.aload_n 0, 1) := by decide +kernel
theorem dX12_letter_30 : decode cX12_letter 30 = .ok (.iload_n 2, 1) := by decide +kernel
theorem dX12_letter_31 : decode cX12_letter 31 = .ok (.invokevirtual 47, 3) := by decide +kernel
theorem dX12_letter_34 : decode cX12_letter 34 = .ok (.ireturn, 1) := by decide +kernel
theorem dX12_letter_35 : decode cX12_letter 35 = .ok (.aload_n 0, 1) := by decide +kernel
theorem dX12_letter_36 : decode cX12_letter 36 = .ok (.getfield 22, 3) := by decide +kernel
theorem dX12_letter_39 : decode cX12_letter 39 = .ok (.aload_n 0, 1) := by decide +kernel
theorem dX12_letter_40 : decode cX12_letter 40 = .ok (.getfield 43, 3) := by decide +kernel
theorem dX12_letter_43 : decode cX12_letter 43 = .ok (.iload_n 1, 1) := by decide +kernel
theorem dX12_letter_44 : decode cX12_letter 44 = .ok (.iastore, 1) := by decide +kernel
theorem dX12_letter_45 : decode cX12_letter 45 = .ok (.aload_n 0, 1) := by decide +kernel
theorem dX12_letter_46 : decode cX12_letter 46 = .ok (.dup, 1) := by decide +kernel
theorem dX12_letter_47 : decode cX12_letter 47 = .ok (.getfield 43, 3) := by decide +kernel
theorem dX12_letter_50 : decode cX12_letter 50 = .ok (.iconst 1, 1) := by decide +kernel
theorem dX12_letter_51 : decode cX12_letter 51 = .ok (.iadd, 1) := by decide +kernel
theorem dX12_letter_52 : decode cX12_letter 52 = .ok (.putfield 43, 3) := by decide +kernel
theorem dX12_letter_55 : decode cX12_letter 55 = .ok (.aload_n 0, 1) := by decide +kernel
theorem dX12_letter_56 : decode cX12_letter 56 = .ok (.getfield 43, 3) := by decide +kernel
theorem dX12_letter_59 : decode cX12_letter 59 = .ok (.ireturn, 1) := by decide +kernel
theorem dX12_sign_0 : decode cX12_sign 0 = .ok (.aload_n 0, 1) := by decide +kernel
theorem dX12_sign_1 : decode cX12_sign 1 = .ok (.getfield 51, 3) := by decide +kernel
theorem dX12_sign_4 : decode cX12_sign 4 = .ok (.aload_n 0, 1) := by decide +kernel
theorem dX12_sign_5 : decode cX12_sign 5 = .ok (.getfield 43, 3) := by decide +kernel
theorem dX12_sign_8 : decode cX12_sign 8 = .ok (.if_icmp .ge 15, 3) := by decide +kernel
theorem dX12_sign_11 : decode cX12_sign 11 = .ok (.aload_n 0, 1) := by decide +kernel
theorem dX12_sign_12 : decode cX12_sign 12 = .ok (.getfield 22, 3) := by decide +kernel
theorem dX12_sign_15 : decode cX12_sign 15 = .ok (.aload_n 0, 1) := by decide +kernel
theorem dX12_sign_16 : decode cX12_sign 16 = .ok (.getfield 51, 3) := by decide +kernel
theorem dX12_sign_19 : decode cX12_sign 19 = .ok (.iaload, 1) := by decide +kernel
theorem dX12_sign_20 : decode cX12_sign 20 = .ok (.goto 4, 3) := by decide +kernel
theorem dX12_sign_23 : decode cX12_sign 23 = .ok (.iconst (-1), 1) := by decide +kernel
theorem dX12_sign_24 : decode cX12_sign 24 = .ok (.ireturn, 1) := by decide +kernel
theorem dX12_takes_0 : decode cX12_takes 0 = .ok (.aload_n 0, 1) := by decide +kernel
theorem dX12_takes_1 : decode cX12_takes 1 = .ok (.invokevirtual 54, 3) := by decide +kernel
theorem dX12_takes_4 : decode cX12_takes 4 = .ok (.iload_n 1, 1) := by decide +kernel
theorem dX12_takes_5 : decode cX12_takes 5 = .ok (.if_icmp .eq 5, 3) := by decide +kernel
theorem dX12_takes_8 : decode cX12_takes 8 = .ok (.iconst 0, 1) := by decide +kernel
theorem dX12_takes_9 : decode cX12_takes 9 = .ok (.ireturn, 1) := by decide +kernel
theorem dX12_takes_10 : decode cX12_takes 10 = .ok (.aload_n 0, 1) := by decide +kernel
theorem dX12_takes_11 : decode cX12_takes 11 = .ok (.dup, 1) := by decide +kernel
theorem dX12_takes_12 : decode cX12_takes 12 = .ok (.getfield 51, 3) := by decide +kernel
theorem dX12_takes_15 : decode cX12_takes 15 = .ok (.iconst 1, 1) := by decide +kernel
theorem dX12_takes_16 : decode cX12_takes 16 = .ok (.iadd, 1) := by decide +kernel
theorem dX12_takes_17 : decode cX12_takes 17 = .ok (.putfield 51, 3) := by decide +kernel
theorem dX12_takes_20 : decode cX12_takes 20 = .ok (.iconst 1, 1) := by decide +kernel
theorem dX12_takes_21 : decode cX12_takes 21 = .ok (.ireturn, 1) := by decide +kernel
theorem dX12_readsNumber_0 : decode cX12_readsNumber 0 = .ok (.aload_n 0, 1) := by decide +kernel
theorem dX12_readsNumber_1 : decode cX12_readsNumber 1 = .ok (.getfield 25, 3) := by decide +kernel
theorem dX12_readsNumber_4 : decode cX12_readsNumber 4 = .ok (.iload_n 1, 1) := by decide +kernel
theorem dX12_readsNumber_5 : decode cX12_readsNumber 5 = .ok (.iconst 0, 1) := by decide +kernel
theorem dX12_readsNumber_6 : decode cX12_readsNumber 6 = .ok (.iastore, 1) := by decide +kernel
theorem dX12_readsNumber_7 : decode cX12_readsNumber 7 = .ok (.iconst 0, 1) := by decide +kernel
theorem dX12_readsNumber_8 : decode cX12_readsNumber 8 = .ok (.istore_n 3, 1) := by decide +kernel
theorem dX12_readsNumber_9 : decode cX12_readsNumber 9 = .ok (.iload_n 3, 1) := by decide +kernel
theorem dX12_readsNumber_10 : decode cX12_readsNumber 10 = .ok (.iload_n 2, 1) := by decide +kernel
theorem dX12_readsNumber_11 : decode cX12_readsNumber 11 = .ok (.if_icmp .ge 57, 3) := by decide +kernel
theorem dX12_readsNumber_14 : decode cX12_readsNumber 14 = .ok (.aload_n 0, 1) := by decide +kernel
theorem dX12_readsNumber_15 : decode cX12_readsNumber 15 = .ok (.invokevirtual 54, 3) := by decide +kernel
theorem dX12_readsNumber_18 : decode cX12_readsNumber 18 = .ok (.bipush 48, 2) := by decide +kernel
theorem dX12_readsNumber_20 : decode cX12_readsNumber 20 = .ok (.isub, 1) := by decide +kernel
theorem dX12_readsNumber_21 : decode cX12_readsNumber 21 = .ok (.bipush 10, 2) := by decide +kernel
theorem dX12_readsNumber_23 : decode cX12_readsNumber 23 = .ok (.invokestatic 31, 3) := by decide +kernel
theorem dX12_readsNumber_26 : decode cX12_readsNumber 26 = .ok (.ifCond .eq 42, 3) := by decide +kernel
theorem dX12_readsNumber_29 : decode cX12_readsNumber 29 = .ok (.aload_n 0, 1) := by decide +kernel
theorem dX12_readsNumber_30 : decode cX12_readsNumber 30 = .ok (.getfield 25, 3) := by decide +kernel
theorem dX12_readsNumber_33 : decode cX12_readsNumber 33 = .ok (.iload_n 1, 1) := by decide +kernel
theorem dX12_readsNumber_34 : decode cX12_readsNumber 34 = .ok (.bipush 10, 2) := by decide +kernel
theorem dX12_readsNumber_36 : decode cX12_readsNumber 36 = .ok (.aload_n 0, 1) := by decide +kernel
theorem dX12_readsNumber_37 : decode cX12_readsNumber 37 = .ok (.getfield 25, 3) := by decide +kernel
theorem dX12_readsNumber_40 : decode cX12_readsNumber 40 = .ok (.iload_n 1, 1) := by decide +kernel
theorem dX12_readsNumber_41 : decode cX12_readsNumber 41 = .ok (.iaload, 1) := by decide +kernel
theorem dX12_readsNumber_42 : decode cX12_readsNumber 42 = .ok (.imul, 1) := by decide +kernel
theorem dX12_readsNumber_43 : decode cX12_readsNumber 43 = .ok (.aload_n 0, 1) := by decide +kernel
theorem dX12_readsNumber_44 : decode cX12_readsNumber 44 = .ok (.invokevirtual 54, 3) := by decide +kernel
theorem dX12_readsNumber_47 : decode cX12_readsNumber 47 = .ok (.iadd, 1) := by decide +kernel
theorem dX12_readsNumber_48 : decode cX12_readsNumber 48 = .ok (.bipush 48, 2) := by decide +kernel
theorem dX12_readsNumber_50 : decode cX12_readsNumber 50 = .ok (.isub, 1) := by decide +kernel
theorem dX12_readsNumber_51 : decode cX12_readsNumber 51 = .ok (.iastore, 1) := by decide +kernel
theorem dX12_readsNumber_52 : decode cX12_readsNumber 52 = .ok (.aload_n 0, 1) := by decide +kernel
theorem dX12_readsNumber_53 : decode cX12_readsNumber 53 = .ok (.dup, 1) := by decide +kernel
theorem dX12_readsNumber_54 : decode cX12_readsNumber 54 = .ok (.getfield 51, 3) := by decide +kernel
theorem dX12_readsNumber_57 : decode cX12_readsNumber 57 = .ok (.iconst 1, 1) := by decide +kernel
theorem dX12_readsNumber_58 : decode cX12_readsNumber 58 = .ok (.iadd, 1) := by decide +kernel
theorem dX12_readsNumber_59 : decode cX12_readsNumber 59 = .ok (.putfield 51, 3) := by decide +kernel
theorem dX12_readsNumber_62 : decode cX12_readsNumber 62 = .ok (.iinc 3 1, 3) := by decide +kernel
theorem dX12_readsNumber_65 : decode cX12_readsNumber 65 = .ok (.goto (-56), 3) := by decide +kernel
theorem dX12_readsNumber_68 : decode cX12_readsNumber 68 = .ok (.iload_n 3, 1) := by decide +kernel
theorem dX12_readsNumber_69 : decode cX12_readsNumber 69 = .ok (.ifCond .le 7, 3) := by decide +kernel
theorem dX12_readsNumber_72 : decode cX12_readsNumber 72 = .ok (.iconst 1, 1) := by decide +kernel
theorem dX12_readsNumber_73 : decode cX12_readsNumber 73 = .ok (.goto 4, 3) := by decide +kernel
theorem dX12_readsNumber_76 : decode cX12_readsNumber 76 = .ok (.iconst 0, 1) := by decide +kernel
theorem dX12_readsNumber_77 : decode cX12_readsNumber 77 = .ok (.ireturn, 1) := by decide +kernel
theorem dX12_kindOf_0 : decode cX12_kindOf 0 = .ok (.iload_n 0, 1) := by decide +kernel
theorem dX12_kindOf_1 : decode cX12_kindOf 1 = .ok (.lookupswitch 71 #[(97, 61), (101, 65), (110, 69), (111, 63), (112, 59), (120, 67)], 59) := by decide +kernel
theorem dX12_kindOf_60 : decode cX12_kindOf 60 = .ok (.iconst 0, 1) := by decide +kernel
theorem dX12_kindOf_61 : decode cX12_kindOf 61 = .ok (.ireturn, 1) := by decide +kernel
theorem dX12_kindOf_62 : decode cX12_kindOf 62 = .ok (.iconst 1, 1) := by decide +kernel
theorem dX12_kindOf_63 : decode cX12_kindOf 63 = .ok (.ireturn, 1) := by decide +kernel
theorem dX12_kindOf_64 : decode cX12_kindOf 64 = .ok (.iconst 2, 1) := by decide +kernel
theorem dX12_kindOf_65 : decode cX12_kindOf 65 = .ok (.ireturn, 1) := by decide +kernel
theorem dX12_kindOf_66 : decode cX12_kindOf 66 = .ok (.iconst 3, 1) := by decide +kernel
theorem dX12_kindOf_67 : decode cX12_kindOf 67 = .ok (.ireturn, 1) := by decide +kernel
theorem dX12_kindOf_68 : decode cX12_kindOf 68 = .ok (.iconst 4, 1) := by decide +kernel
theorem dX12_kindOf_69 : decode cX12_kindOf 69 = .ok (.ireturn, 1) := by decide +kernel
theorem dX12_kindOf_70 : decode cX12_kindOf 70 = .ok (.iconst 5, 1) := by decide +kernel
theorem dX12_kindOf_71 : decode cX12_kindOf 71 = .ok (.ireturn, 1) := by decide +kernel
theorem dX12_kindOf_72 : decode cX12_kindOf 72 = .ok (.bipush (-9), 2) := by decide +kernel
theorem dX12_kindOf_74 : decode cX12_kindOf 74 = .ok (.ireturn, 1) := by decide +kernel
theorem dX12_readsKind_0 : decode cX12_readsKind 0 = .ok (.aload_n 0, 1) := by decide +kernel
theorem dX12_readsKind_1 : decode cX12_readsKind 1 = .ok (.getfield 25, 3) := by decide +kernel
theorem dX12_readsKind_4 : decode cX12_readsKind 4 = .ok (.iconst 0, 1) := by decide +kernel
theorem dX12_readsKind_5 : decode cX12_readsKind 5 = .ok (.aload_n 0, 1) := by decide +kernel
theorem dX12_readsKind_6 : decode cX12_readsKind 6 = .ok (.invokevirtual 54, 3) := by decide +kernel
theorem dX12_readsKind_9 : decode cX12_readsKind 9 = .ok (.invokestatic 57, 3) := by decide +kernel
theorem dX12_readsKind_12 : decode cX12_readsKind 12 = .ok (.iastore, 1) := by decide +kernel
theorem dX12_readsKind_13 : decode cX12_readsKind 13 = .ok (.aload_n 0, 1) := by decide +kernel
theorem dX12_readsKind_14 : decode cX12_readsKind 14 = .ok (.getfield 25, 3) := by decide +kernel
theorem dX12_readsKind_17 : decode cX12_readsKind 17 = .ok (.iconst 0, 1) := by decide +kernel
theorem dX12_readsKind_18 : decode cX12_readsKind 18 = .ok (.iaload, 1) := by decide +kernel
theorem dX12_readsKind_19 : decode cX12_readsKind 19 = .ok (.ifCond .ge 5, 3) := by decide +kernel
theorem dX12_readsKind_22 : decode cX12_readsKind 22 = .ok (.iconst 0, 1) := by decide +kernel
theorem dX12_readsKind_23 : decode cX12_readsKind 23 = .ok (.ireturn, 1) := by decide +kernel
theorem dX12_readsKind_24 : decode cX12_readsKind 24 = .ok (.aload_n 0, 1) := by decide +kernel
theorem dX12_readsKind_25 : decode cX12_readsKind 25 = .ok (.dup, 1) := by decide +kernel
theorem dX12_readsKind_26 : decode cX12_readsKind 26 = .ok (.getfield 51, 3) := by decide +kernel
theorem dX12_readsKind_29 : decode cX12_readsKind 29 = .ok (.iconst 1, 1) := by decide +kernel
theorem dX12_readsKind_30 : decode cX12_readsKind 30 = .ok (.iadd, 1) := by decide +kernel
theorem dX12_readsKind_31 : decode cX12_readsKind 31 = .ok (.putfield 51, 3) := by decide +kernel
theorem dX12_readsKind_34 : decode cX12_readsKind 34 = .ok (.iconst 1, 1) := by decide +kernel
theorem dX12_readsKind_35 : decode cX12_readsKind 35 = .ok (.ireturn, 1) := by decide +kernel
theorem dX12_readsMark_0 : decode cX12_readsMark 0 = .ok (.aload_n 0, 1) := by decide +kernel
theorem dX12_readsMark_1 : decode cX12_readsMark 1 = .ok (.invokevirtual 54, 3) := by decide +kernel
theorem dX12_readsMark_4 : decode cX12_readsMark 4 = .ok (.bipush 98, 2) := by decide +kernel
theorem dX12_readsMark_6 : decode cX12_readsMark 6 = .ok (.if_icmp .ne 7, 3) := by decide +kernel
theorem dX12_readsMark_9 : decode cX12_readsMark 9 = .ok (.iconst 1, 1) := by decide +kernel
theorem dX12_readsMark_10 : decode cX12_readsMark 10 = .ok (.goto 4, 3) := by decide +kernel
theorem dX12_readsMark_13 : decode cX12_readsMark 13 = .ok (.iconst 0, 1) := by decide +kernel
theorem dX12_readsMark_14 : decode cX12_readsMark 14 = .ok (.istore_n 2, 1) := by decide +kernel
theorem dX12_readsMark_15 : decode cX12_readsMark 15 = .ok (.iload_n 2, 1) := by decide +kernel
theorem dX12_readsMark_16 : decode cX12_readsMark 16 = .ok (.ifCond .ne 14, 3) := by decide +kernel
theorem dX12_readsMark_19 : decode cX12_readsMark 19 = .ok (.aload_n 0, 1) := by decide +kernel
theorem dX12_readsMark_20 : decode cX12_readsMark 20 = .ok (.invokevirtual 54, 3) := by decide +kernel
theorem dX12_readsMark_23 : decode cX12_readsMark 23 = .ok (.bipush 104, 2) := by decide +kernel
theorem dX12_readsMark_25 : decode cX12_readsMark 25 = .ok (.if_icmp .eq 5, 3) := by decide +kernel
theorem dX12_readsMark_28 : decode cX12_readsMark 28 = .ok (.iconst 0, 1) := by decide +kernel
theorem dX12_readsMark_29 : decode cX12_readsMark 29 = .ok (.ireturn, 1) := by decide +kernel
theorem dX12_readsMark_30 : decode cX12_readsMark 30 = .ok (.aload_n 0, 1) := by decide +kernel
theorem dX12_readsMark_31 : decode cX12_readsMark 31 = .ok (.dup, 1) := by decide +kernel
theorem dX12_readsMark_32 : decode cX12_readsMark 32 = .ok (.getfield 51, 3) := by decide +kernel
theorem dX12_readsMark_35 : decode cX12_readsMark 35 = .ok (.iconst 1, 1) := by decide +kernel
theorem dX12_readsMark_36 : decode cX12_readsMark 36 = .ok (.iadd, 1) := by decide +kernel
theorem dX12_readsMark_37 : decode cX12_readsMark 37 = .ok (.putfield 51, 3) := by decide +kernel
theorem dX12_readsMark_40 : decode cX12_readsMark 40 = .ok (.aload_n 0, 1) := by decide +kernel
theorem dX12_readsMark_41 : decode cX12_readsMark 41 = .ok (.iload_n 1, 1) := by decide +kernel
theorem dX12_readsMark_42 : decode cX12_readsMark 42 = .ok (.iconst 1, 1) := by decide +kernel
theorem dX12_readsMark_43 : decode cX12_readsMark 43 = .ok (.invokevirtual 60, 3) := by decide +kernel
theorem dX12_readsMark_46 : decode cX12_readsMark 46 = .ok (.ifCond .ne 5, 3) := by decide +kernel
theorem dX12_readsMark_49 : decode cX12_readsMark 49 = .ok (.iconst 0, 1) := by decide +kernel
theorem dX12_readsMark_50 : decode cX12_readsMark 50 = .ok (.ireturn, 1) := by decide +kernel
theorem dX12_readsMark_51 : decode cX12_readsMark 51 = .ok (.aload_n 0, 1) := by decide +kernel
theorem dX12_readsMark_52 : decode cX12_readsMark 52 = .ok (.getfield 25, 3) := by decide +kernel
theorem dX12_readsMark_55 : decode cX12_readsMark 55 = .ok (.iload_n 1, 1) := by decide +kernel
theorem dX12_readsMark_56 : decode cX12_readsMark 56 = .ok (.dup2, 1) := by decide +kernel
theorem dX12_readsMark_57 : decode cX12_readsMark 57 = .ok (.iaload, 1) := by decide +kernel
theorem dX12_readsMark_58 : decode cX12_readsMark 58 = .ok (.iload_n 2, 1) := by decide +kernel
theorem dX12_readsMark_59 : decode cX12_readsMark 59 = .ok (.ifCond .eq 8, 3) := by decide +kernel
theorem dX12_readsMark_62 : decode cX12_readsMark 62 = .ok (.bipush 10, 2) := by decide +kernel
theorem dX12_readsMark_64 : decode cX12_readsMark 64 = .ok (.goto 4, 3) := by decide +kernel
theorem dX12_readsMark_67 : decode cX12_readsMark 67 = .ok (.iconst 0, 1) := by decide +kernel
theorem dX12_readsMark_68 : decode cX12_readsMark 68 = .ok (.iadd, 1) := by decide +kernel
theorem dX12_readsMark_69 : decode cX12_readsMark 69 = .ok (.iastore, 1) := by decide +kernel
theorem dX12_readsMark_70 : decode cX12_readsMark 70 = .ok (.iconst 1, 1) := by decide +kernel
theorem dX12_readsMark_71 : decode cX12_readsMark 71 = .ok (.ireturn, 1) := by decide +kernel
theorem dX12_readsStatement_0 : decode cX12_readsStatement 0 = .ok (.aload_n 0, 1) := by decide +kernel
theorem dX12_readsStatement_1 : decode cX12_readsStatement 1 = .ok (.invokevirtual 54, 3) := by decide +kernel
theorem dX12_readsStatement_4 : decode cX12_readsStatement 4 = .ok (.istore_n 1, 1) := by decide +kernel
theorem dX12_readsStatement_5 : decode cX12_readsStatement 5 = .ok (.iconst 0, 1) := by decide +kernel
theorem dX12_readsStatement_6 : decode cX12_readsStatement 6 = .ok (.istore_n 2, 1) := by decide +kernel
theorem dX12_readsStatement_7 : decode cX12_readsStatement 7 = .ok (.aload_n 0, 1) := by decide +kernel
theorem dX12_readsStatement_8 : decode cX12_readsStatement 8 = .ok (.dup, 1) := by decide +kernel
theorem dX12_readsStatement_9 : decode cX12_readsStatement 9 = .ok (.getfield 51, 3) := by decide +kernel
theorem dX12_readsStatement_12 : decode cX12_readsStatement 12 = .ok (.iconst 1, 1) := by decide +kernel
theorem dX12_readsStatement_13 : decode cX12_readsStatement 13 = .ok (.iadd, 1) := by decide +kernel
theorem dX12_readsStatement_14 : decode cX12_readsStatement 14 = .ok (.putfield 51, 3) := by decide +kernel
theorem dX12_readsStatement_17 : decode cX12_readsStatement 17 = .ok (.iload_n 1, 1) := by decide +kernel
theorem dX12_readsStatement_18 : decode cX12_readsStatement 18 = .ok (.lookupswitch 158 #[(98, 44), (102, 122), (104, 34)], 34) := by decide +kernel
theorem dX12_readsStatement_52 : decode cX12_readsStatement 52 = .ok (.aload_n 0, 1) := by decide +kernel
theorem dX12_readsStatement_53 : decode cX12_readsStatement 53 = .ok (.iconst 0, 1) := by decide +kernel
theorem dX12_readsStatement_54 : decode cX12_readsStatement 54 = .ok (.iconst 2, 1) := by decide +kernel
theorem dX12_readsStatement_55 : decode cX12_readsStatement 55 = .ok (.invokevirtual 60, 3) := by decide +kernel
theorem dX12_readsStatement_58 : decode cX12_readsStatement 58 = .ok (.istore_n 2, 1) := by decide +kernel
theorem dX12_readsStatement_59 : decode cX12_readsStatement 59 = .ok (.goto 129, 3) := by decide +kernel
theorem dX12_readsStatement_62 : decode cX12_readsStatement 62 = .ok (.aload_n 0, 1) := by decide +kernel
theorem dX12_readsStatement_63 : decode cX12_readsStatement 63 = .ok (.invokevirtual 63, 3) := by decide +kernel
theorem dX12_readsStatement_66 : decode cX12_readsStatement 66 = .ok (.ifCond .eq 69, 3) := by decide +kernel
theorem dX12_readsStatement_69 : decode cX12_readsStatement 69 = .ok (.aload_n 0, 1) := by decide +kernel
theorem dX12_readsStatement_70 : decode cX12_readsStatement 70 = .ok (.iconst 1, 1) := by decide +kernel
theorem dX12_readsStatement_71 : decode cX12_readsStatement 71 = .ok (.invokevirtual 67, 3) := by decide +kernel
theorem dX12_readsStatement_74 : decode cX12_readsStatement 74 = .ok (.ifCond .eq 61, 3) := by decide +kernel
theorem dX12_readsStatement_77 : decode cX12_readsStatement 77 = .ok (.aload_n 0, 1) := by decide +kernel
theorem dX12_readsStatement_78 : decode cX12_readsStatement 78 = .ok (.iconst 2, 1) := by decide +kernel
theorem dX12_readsStatement_79 : decode cX12_readsStatement 79 = .ok (.invokevirtual 67, 3) := by decide +kernel
theorem dX12_readsStatement_82 : decode cX12_readsStatement 82 = .ok (.ifCond .eq 53, 3) := by decide +kernel
theorem dX12_readsStatement_85 : decode cX12_readsStatement 85 = .ok (.aload_n 0, 1) := by decide +kernel
theorem dX12_readsStatement_86 : decode cX12_readsStatement 86 = .ok (.iconst 3, 1) := by decide +kernel
theorem dX12_readsStatement_87 : decode cX12_readsStatement 87 = .ok (.iconst 2, 1) := by decide +kernel
theorem dX12_readsStatement_88 : decode cX12_readsStatement 88 = .ok (.invokevirtual 60, 3) := by decide +kernel
theorem dX12_readsStatement_91 : decode cX12_readsStatement 91 = .ok (.ifCond .eq 44, 3) := by decide +kernel
theorem dX12_readsStatement_94 : decode cX12_readsStatement 94 = .ok (.aload_n 0, 1) := by decide +kernel
theorem dX12_readsStatement_95 : decode cX12_readsStatement 95 = .ok (.bipush 44, 2) := by decide +kernel
theorem dX12_readsStatement_97 : decode cX12_readsStatement 97 = .ok (.invokevirtual 71, 3) := by decide +kernel
theorem dX12_readsStatement_100 : decode cX12_readsStatement 100 = .ok (.ifCond .eq 35, 3) := by decide +kernel
theorem dX12_readsStatement_103 : decode cX12_readsStatement 103 = .ok (.aload_n 0, 1) := by decide +kernel
theorem dX12_readsStatement_104 : decode cX12_readsStatement 104 = .ok (.iconst 4, 1) := by decide +kernel
theorem dX12_readsStatement_105 : decode cX12_readsStatement 105 = .ok (.iconst 1, 1) := by decide +kernel
theorem dX12_readsStatement_106 : decode cX12_readsStatement 106 = .ok (.invokevirtual 60, 3) := by decide +kernel
theorem dX12_readsStatement_109 : decode cX12_readsStatement 109 = .ok (.ifCond .eq 26, 3) := by decide +kernel
theorem dX12_readsStatement_112 : decode cX12_readsStatement 112 = .ok (.aload_n 0, 1) := by decide +kernel
theorem dX12_readsStatement_113 : decode cX12_readsStatement 113 = .ok (.iconst 5, 1) := by decide +kernel
theorem dX12_readsStatement_114 : decode cX12_readsStatement 114 = .ok (.iconst 1, 1) := by decide +kernel
theorem dX12_readsStatement_115 : decode cX12_readsStatement 115 = .ok (.invokevirtual 60, 3) := by decide +kernel
theorem dX12_readsStatement_118 : decode cX12_readsStatement 118 = .ok (.ifCond .eq 17, 3) := by decide +kernel
theorem dX12_readsStatement_121 : decode cX12_readsStatement 121 = .ok (.aload_n 0, 1) := by decide +kernel
theorem dX12_readsStatement_122 : decode cX12_readsStatement 122 = .ok (.bipush 6, 2) := by decide +kernel
theorem dX12_readsStatement_124 : decode cX12_readsStatement 124 = .ok (.iconst 1, 1) := by decide +kernel
theorem dX12_readsStatement_125 : decode cX12_readsStatement 125 = .ok (.invokevirtual 60, 3) := by decide +kernel
theorem dX12_readsStatement_128 : decode cX12_readsStatement 128 = .ok (.ifCond .eq 7, 3) := by decide +kernel
theorem dX12_readsStatement_131 : decode cX12_readsStatement 131 = .ok (.iconst 1, 1) := by decide +kernel
theorem dX12_readsStatement_132 : decode cX12_readsStatement 132 = .ok (.goto 4, 3) := by decide +kernel
theorem dX12_readsStatement_135 : decode cX12_readsStatement 135 = .ok (.iconst 0, 1) := by decide +kernel
theorem dX12_readsStatement_136 : decode cX12_readsStatement 136 = .ok (.istore_n 2, 1) := by decide +kernel
theorem dX12_readsStatement_137 : decode cX12_readsStatement 137 = .ok (.goto 51, 3) := by decide +kernel
theorem dX12_readsStatement_140 : decode cX12_readsStatement 140 = .ok (.aload_n 0, 1) := by decide +kernel
theorem dX12_readsStatement_141 : decode cX12_readsStatement 141 = .ok (.iconst 0, 1) := by decide +kernel
theorem dX12_readsStatement_142 : decode cX12_readsStatement 142 = .ok (.iconst 1, 1) := by decide +kernel
theorem dX12_readsStatement_143 : decode cX12_readsStatement 143 = .ok (.invokevirtual 60, 3) := by decide +kernel
theorem dX12_readsStatement_146 : decode cX12_readsStatement 146 = .ok (.ifCond .eq 25, 3) := by decide +kernel
theorem dX12_readsStatement_149 : decode cX12_readsStatement 149 = .ok (.aload_n 0, 1) := by decide +kernel
theorem dX12_readsStatement_150 : decode cX12_readsStatement 150 = .ok (.bipush 44, 2) := by decide +kernel
theorem dX12_readsStatement_152 : decode cX12_readsStatement 152 = .ok (.invokevirtual 71, 3) := by decide +kernel
theorem dX12_readsStatement_155 : decode cX12_readsStatement 155 = .ok (.ifCond .eq 16, 3) := by decide +kernel
theorem dX12_readsStatement_158 : decode cX12_readsStatement 158 = .ok (.aload_n 0, 1) := by decide +kernel
theorem dX12_readsStatement_159 : decode cX12_readsStatement 159 = .ok (.iconst 1, 1) := by decide +kernel
theorem dX12_readsStatement_160 : decode cX12_readsStatement 160 = .ok (.iconst 2, 1) := by decide +kernel
theorem dX12_readsStatement_161 : decode cX12_readsStatement 161 = .ok (.invokevirtual 60, 3) := by decide +kernel
theorem dX12_readsStatement_164 : decode cX12_readsStatement 164 = .ok (.ifCond .eq 7, 3) := by decide +kernel
theorem dX12_readsStatement_167 : decode cX12_readsStatement 167 = .ok (.iconst 1, 1) := by decide +kernel
theorem dX12_readsStatement_168 : decode cX12_readsStatement 168 = .ok (.goto 4, 3) := by decide +kernel
theorem dX12_readsStatement_171 : decode cX12_readsStatement 171 = .ok (.iconst 0, 1) := by decide +kernel
theorem dX12_readsStatement_172 : decode cX12_readsStatement 172 = .ok (.istore_n 2, 1) := by decide +kernel
theorem dX12_readsStatement_173 : decode cX12_readsStatement 173 = .ok (.goto 15, 3) := by decide +kernel
theorem dX12_readsStatement_176 : decode cX12_readsStatement 176 = .ok (.aload_n 0, 1) := by decide +kernel
theorem dX12_readsStatement_177 : decode cX12_readsStatement 177 = .ok (.dup, 1) := by decide +kernel
theorem dX12_readsStatement_178 : decode cX12_readsStatement 178 = .ok (.getfield 51, 3) := by decide +kernel
theorem dX12_readsStatement_181 : decode cX12_readsStatement 181 = .ok (.iconst 1, 1) := by decide +kernel
theorem dX12_readsStatement_182 : decode cX12_readsStatement 182 = .ok (.isub, 1) := by decide +kernel
theorem dX12_readsStatement_183 : decode cX12_readsStatement 183 = .ok (.putfield 51, 3) := by decide +kernel
theorem dX12_readsStatement_186 : decode cX12_readsStatement 186 = .ok (.iconst 0, 1) := by decide +kernel
theorem dX12_readsStatement_187 : decode cX12_readsStatement 187 = .ok (.ireturn, 1) := by decide +kernel
theorem dX12_readsStatement_188 : decode cX12_readsStatement 188 = .ok (.iload_n 2, 1) := by decide +kernel
theorem dX12_readsStatement_189 : decode cX12_readsStatement 189 = .ok (.ifCond .eq 16, 3) := by decide +kernel
theorem dX12_readsStatement_192 : decode cX12_readsStatement 192 = .ok (.aload_n 0, 1) := by decide +kernel
theorem dX12_readsStatement_193 : decode cX12_readsStatement 193 = .ok (.bipush 59, 2) := by decide +kernel
theorem dX12_readsStatement_195 : decode cX12_readsStatement 195 = .ok (.invokevirtual 71, 3) := by decide +kernel
theorem dX12_readsStatement_198 : decode cX12_readsStatement 198 = .ok (.ifCond .eq 7, 3) := by decide +kernel
theorem dX12_readsStatement_201 : decode cX12_readsStatement 201 = .ok (.iconst 1, 1) := by decide +kernel
theorem dX12_readsStatement_202 : decode cX12_readsStatement 202 = .ok (.goto 4, 3) := by decide +kernel
theorem dX12_readsStatement_205 : decode cX12_readsStatement 205 = .ok (.iconst 0, 1) := by decide +kernel
theorem dX12_readsStatement_206 : decode cX12_readsStatement 206 = .ok (.ireturn, 1) := by decide +kernel
theorem dX12_isMark_0 : decode cX12_isMark 0 = .ok (.iload_n 1, 1) := by decide +kernel
theorem dX12_isMark_1 : decode cX12_isMark 1 = .ok (.bipush 10, 2) := by decide +kernel
theorem dX12_isMark_3 : decode cX12_isMark 3 = .ok (.if_icmp .ge 21, 3) := by decide +kernel
theorem dX12_isMark_6 : decode cX12_isMark 6 = .ok (.iload_n 1, 1) := by decide +kernel
theorem dX12_isMark_7 : decode cX12_isMark 7 = .ok (.aload_n 0, 1) := by decide +kernel
theorem dX12_isMark_8 : decode cX12_isMark 8 = .ok (.getfield 19, 3) := by decide +kernel
theorem dX12_isMark_11 : decode cX12_isMark 11 = .ok (.iconst 0, 1) := by decide +kernel
theorem dX12_isMark_12 : decode cX12_isMark 12 = .ok (.iaload, 1) := by decide +kernel
theorem dX12_isMark_13 : decode cX12_isMark 13 = .ok (.if_icmp .ge 7, 3) := by decide +kernel
theorem dX12_isMark_16 : decode cX12_isMark 16 = .ok (.iconst 1, 1) := by decide +kernel
theorem dX12_isMark_17 : decode cX12_isMark 17 = .ok (.goto 18, 3) := by decide +kernel
theorem dX12_isMark_20 : decode cX12_isMark 20 = .ok (.iconst 0, 1) := by decide +kernel
theorem dX12_isMark_21 : decode cX12_isMark 21 = .ok (.goto 14, 3) := by decide +kernel
theorem dX12_isMark_24 : decode cX12_isMark 24 = .ok (.iload_n 1, 1) := by decide +kernel
theorem dX12_isMark_25 : decode cX12_isMark 25 = .ok (.bipush 16, 2) := by decide +kernel
theorem dX12_isMark_27 : decode cX12_isMark 27 = .ok (.if_icmp .ge 7, 3) := by decide +kernel
theorem dX12_isMark_30 : decode cX12_isMark 30 = .ok (.iconst 1, 1) := by decide +kernel
theorem dX12_isMark_31 : decode cX12_isMark 31 = .ok (.goto 4, 3) := by decide +kernel
theorem dX12_isMark_34 : decode cX12_isMark 34 = .ok (.iconst 0, 1) := by decide +kernel
theorem dX12_isMark_35 : decode cX12_isMark 35 = .ok (.ireturn, 1) := by decide +kernel
theorem dX12_comes_0 : decode cX12_comes 0 = .ok (.iload_n 1, 1) := by decide +kernel
theorem dX12_comes_1 : decode cX12_comes 1 = .ok (.lookupswitch 230 #[(98, 80), (104, 27)], 27) := by decide +kernel
theorem dX12_comes_28 : decode cX12_comes 28 = .ok (.aload_n 0, 1) := by decide +kernel
theorem dX12_comes_29 : decode cX12_comes 29 = .ok (.getfield 25, 3) := by decide +kernel
theorem dX12_comes_32 : decode cX12_comes 32 = .ok (.iconst 0, 1) := by decide +kernel
theorem dX12_comes_33 : decode cX12_comes 33 = .ok (.iaload, 1) := by decide +kernel
theorem dX12_comes_34 : decode cX12_comes 34 = .ok (.iconst 1, 1) := by decide +kernel
theorem dX12_comes_35 : decode cX12_comes 35 = .ok (.if_icmp .lt 13, 3) := by decide +kernel
theorem dX12_comes_38 : decode cX12_comes 38 = .ok (.aload_n 0, 1) := by decide +kernel
theorem dX12_comes_39 : decode cX12_comes 39 = .ok (.getfield 19, 3) := by decide +kernel
theorem dX12_comes_42 : decode cX12_comes 42 = .ok (.iconst 0, 1) := by decide +kernel
theorem dX12_comes_43 : decode cX12_comes 43 = .ok (.iaload, 1) := by decide +kernel
theorem dX12_comes_44 : decode cX12_comes 44 = .ok (.iconst 4, 1) := by decide +kernel
theorem dX12_comes_45 : decode cX12_comes 45 = .ok (.if_icmp .ne 5, 3) := by decide +kernel
theorem dX12_comes_48 : decode cX12_comes 48 = .ok (.iconst 0, 1) := by decide +kernel
theorem dX12_comes_49 : decode cX12_comes 49 = .ok (.ireturn, 1) := by decide +kernel
theorem dX12_comes_50 : decode cX12_comes 50 = .ok (.aload_n 0, 1) := by decide +kernel
theorem dX12_comes_51 : decode cX12_comes 51 = .ok (.getfield 19, 3) := by decide +kernel
theorem dX12_comes_54 : decode cX12_comes 54 = .ok (.iconst 2, 1) := by decide +kernel
theorem dX12_comes_55 : decode cX12_comes 55 = .ok (.aload_n 0, 1) := by decide +kernel
theorem dX12_comes_56 : decode cX12_comes 56 = .ok (.getfield 19, 3) := by decide +kernel
theorem dX12_comes_59 : decode cX12_comes 59 = .ok (.iconst 0, 1) := by decide +kernel
theorem dX12_comes_60 : decode cX12_comes 60 = .ok (.iaload, 1) := by decide +kernel
theorem dX12_comes_61 : decode cX12_comes 61 = .ok (.iadd, 1) := by decide +kernel
theorem dX12_comes_62 : decode cX12_comes 62 = .ok (.aload_n 0, 1) := by decide +kernel
theorem dX12_comes_63 : decode cX12_comes 63 = .ok (.getfield 25, 3) := by decide +kernel
theorem dX12_comes_66 : decode cX12_comes 66 = .ok (.iconst 0, 1) := by decide +kernel
theorem dX12_comes_67 : decode cX12_comes 67 = .ok (.iaload, 1) := by decide +kernel
theorem dX12_comes_68 : decode cX12_comes 68 = .ok (.iastore, 1) := by decide +kernel
theorem dX12_comes_69 : decode cX12_comes 69 = .ok (.aload_n 0, 1) := by decide +kernel
theorem dX12_comes_70 : decode cX12_comes 70 = .ok (.getfield 19, 3) := by decide +kernel
theorem dX12_comes_73 : decode cX12_comes 73 = .ok (.iconst 0, 1) := by decide +kernel
theorem dX12_comes_74 : decode cX12_comes 74 = .ok (.dup2, 1) := by decide +kernel
theorem dX12_comes_75 : decode cX12_comes 75 = .ok (.iaload, 1) := by decide +kernel
theorem dX12_comes_76 : decode cX12_comes 76 = .ok (.iconst 1, 1) := by decide +kernel
theorem dX12_comes_77 : decode cX12_comes 77 = .ok (.iadd, 1) := by decide +kernel
theorem dX12_comes_78 : decode cX12_comes 78 = .ok (.iastore, 1) := by decide +kernel
theorem dX12_comes_79 : decode cX12_comes 79 = .ok (.iconst 1, 1) := by decide +kernel
theorem dX12_comes_80 : decode cX12_comes 80 = .ok (.ireturn, 1) := by decide +kernel
theorem dX12_comes_81 : decode cX12_comes 81 = .ok (.aload_n 0, 1) := by decide +kernel
theorem dX12_comes_82 : decode cX12_comes 82 = .ok (.aload_n 0, 1) := by decide +kernel
theorem dX12_comes_83 : decode cX12_comes 83 = .ok (.getfield 25, 3) := by decide +kernel
theorem dX12_comes_86 : decode cX12_comes 86 = .ok (.iconst 1, 1) := by decide +kernel
theorem dX12_comes_87 : decode cX12_comes 87 = .ok (.iaload, 1) := by decide +kernel
theorem dX12_comes_88 : decode cX12_comes 88 = .ok (.invokevirtual 74, 3) := by decide +kernel
theorem dX12_comes_91 : decode cX12_comes 91 = .ok (.ifCond .eq 81, 3) := by decide +kernel
theorem dX12_comes_94 : decode cX12_comes 94 = .ok (.aload_n 0, 1) := by decide +kernel
theorem dX12_comes_95 : decode cX12_comes 95 = .ok (.aload_n 0, 1) := by decide +kernel
theorem dX12_comes_96 : decode cX12_comes 96 = .ok (.getfield 25, 3) := by decide +kernel
theorem dX12_comes_99 : decode cX12_comes 99 = .ok (.iconst 2, 1) := by decide +kernel
theorem dX12_comes_100 : decode cX12_comes 100 = .ok (.iaload, 1) := by decide +kernel
theorem dX12_comes_101 : decode cX12_comes 101 = .ok (.invokevirtual 74, 3) := by decide +kernel
theorem dX12_comes_104 : decode cX12_comes 104 = .ok (.ifCond .eq 68, 3) := by decide +kernel
theorem dX12_comes_107 : decode cX12_comes 107 = .ok (.aload_n 0, 1) := by decide +kernel
theorem dX12_comes_108 : decode cX12_comes 108 = .ok (.getfield 25, 3) := by decide +kernel
theorem dX12_comes_111 : decode cX12_comes 111 = .ok (.iconst 3, 1) := by decide +kernel
theorem dX12_comes_112 : decode cX12_comes 112 = .ok (.iaload, 1) := by decide +kernel
theorem dX12_comes_113 : decode cX12_comes 113 = .ok (.ifCond .le 59, 3) := by decide +kernel
theorem dX12_comes_116 : decode cX12_comes 116 = .ok (.aload_n 0, 1) := by decide +kernel
theorem dX12_comes_117 : decode cX12_comes 117 = .ok (.getfield 25, 3) := by decide +kernel
theorem dX12_comes_120 : decode cX12_comes 120 = .ok (.iconst 5, 1) := by decide +kernel
theorem dX12_comes_121 : decode cX12_comes 121 = .ok (.iaload, 1) := by decide +kernel
theorem dX12_comes_122 : decode cX12_comes 122 = .ok (.invokestatic 77, 3) := by decide +kernel
theorem dX12_comes_125 : decode cX12_comes 125 = .ok (.ifCond .eq 47, 3) := by decide +kernel
theorem dX12_comes_128 : decode cX12_comes 128 = .ok (.aload_n 0, 1) := by decide +kernel
theorem dX12_comes_129 : decode cX12_comes 129 = .ok (.getfield 25, 3) := by decide +kernel
theorem dX12_comes_132 : decode cX12_comes 132 = .ok (.bipush 6, 2) := by decide +kernel
theorem dX12_comes_134 : decode cX12_comes 134 = .ok (.iaload, 1) := by decide +kernel
theorem dX12_comes_135 : decode cX12_comes 135 = .ok (.invokestatic 77, 3) := by decide +kernel
theorem dX12_comes_138 : decode cX12_comes 138 = .ok (.ifCond .eq 34, 3) := by decide +kernel
theorem dX12_comes_141 : decode cX12_comes 141 = .ok (.aload_n 0, 1) := by decide +kernel
theorem dX12_comes_142 : decode cX12_comes 142 = .ok (.getfield 25, 3) := by decide +kernel
theorem dX12_comes_145 : decode cX12_comes 145 = .ok (.iconst 5, 1) := by decide +kernel
theorem dX12_comes_146 : decode cX12_comes 146 = .ok (.iaload, 1) := by decide +kernel
theorem dX12_comes_147 : decode cX12_comes 147 = .ok (.aload_n 0, 1) := by decide +kernel
theorem dX12_comes_148 : decode cX12_comes 148 = .ok (.getfield 25, 3) := by decide +kernel
theorem dX12_comes_151 : decode cX12_comes 151 = .ok (.bipush 6, 2) := by decide +kernel
theorem dX12_comes_153 : decode cX12_comes 153 = .ok (.iaload, 1) := by decide +kernel
theorem dX12_comes_154 : decode cX12_comes 154 = .ok (.if_icmp .eq 18, 3) := by decide +kernel
theorem dX12_comes_157 : decode cX12_comes 157 = .ok (.aload_n 0, 1) := by decide +kernel
theorem dX12_comes_158 : decode cX12_comes 158 = .ok (.getfield 19, 3) := by decide +kernel
theorem dX12_comes_161 : decode cX12_comes 161 = .ok (.iconst 1, 1) := by decide +kernel
theorem dX12_comes_162 : decode cX12_comes 162 = .ok (.iaload, 1) := by decide +kernel
theorem dX12_comes_163 : decode cX12_comes 163 = .ok (.bipush 6, 2) := by decide +kernel
theorem dX12_comes_165 : decode cX12_comes 165 = .ok (.if_icmp .ge 7, 3) := by decide +kernel
theorem dX12_comes_168 : decode cX12_comes 168 = .ok (.iconst 1, 1) := by decide +kernel
theorem dX12_comes_169 : decode cX12_comes 169 = .ok (.goto 4, 3) := by decide +kernel
theorem dX12_comes_172 : decode cX12_comes 172 = .ok (.iconst 0, 1) := by decide +kernel
theorem dX12_comes_173 : decode cX12_comes 173 = .ok (.istore_n 2, 1) := by decide +kernel
theorem dX12_comes_174 : decode cX12_comes 174 = .ok (.iload_n 2, 1) := by decide +kernel
theorem dX12_comes_175 : decode cX12_comes 175 = .ok (.ifCond .ne 5, 3) := by decide +kernel
theorem dX12_comes_178 : decode cX12_comes 178 = .ok (.iconst 0, 1) := by decide +kernel
theorem dX12_comes_179 : decode cX12_comes 179 = .ok (.ireturn, 1) := by decide +kernel
theorem dX12_comes_180 : decode cX12_comes 180 = .ok (.iconst 0, 1) := by decide +kernel
theorem dX12_comes_181 : decode cX12_comes 181 = .ok (.istore_n 3, 1) := by decide +kernel
theorem dX12_comes_182 : decode cX12_comes 182 = .ok (.iload_n 3, 1) := by decide +kernel
theorem dX12_comes_183 : decode cX12_comes 183 = .ok (.bipush 7, 2) := by decide +kernel
theorem dX12_comes_185 : decode cX12_comes 185 = .ok (.if_icmp .ge 34, 3) := by decide +kernel
theorem dX12_comes_188 : decode cX12_comes 188 = .ok (.aload_n 0, 1) := by decide +kernel
theorem dX12_comes_189 : decode cX12_comes 189 = .ok (.getfield 19, 3) := by decide +kernel
theorem dX12_comes_192 : decode cX12_comes 192 = .ok (.bipush 10, 2) := by decide +kernel
theorem dX12_comes_194 : decode cX12_comes 194 = .ok (.bipush 7, 2) := by decide +kernel
theorem dX12_comes_196 : decode cX12_comes 196 = .ok (.aload_n 0, 1) := by decide +kernel
theorem dX12_comes_197 : decode cX12_comes 197 = .ok (.getfield 19, 3) := by decide +kernel
theorem dX12_comes_200 : decode cX12_comes 200 = .ok (.iconst 1, 1) := by decide +kernel
theorem dX12_comes_201 : decode cX12_comes 201 = .ok (.iaload, 1) := by decide +kernel
theorem dX12_comes_202 : decode cX12_comes 202 = .ok (.imul, 1) := by decide +kernel
theorem dX12_comes_203 : decode cX12_comes 203 = .ok (.iadd, 1) := by decide +kernel
theorem dX12_comes_204 : decode cX12_comes 204 = .ok (.iload_n 3, 1) := by decide +kernel
theorem dX12_comes_205 : decode cX12_comes 205 = .ok (.iadd, 1) := by decide +kernel
theorem dX12_comes_206 : decode cX12_comes 206 = .ok (.aload_n 0, 1) := by decide +kernel
theorem dX12_comes_207 : decode cX12_comes 207 = .ok (.getfield 25, 3) := by decide +kernel
theorem dX12_comes_210 : decode cX12_comes 210 = .ok (.iload_n 3, 1) := by decide +kernel
theorem dX12_comes_211 : decode cX12_comes 211 = .ok (.iaload, 1) := by decide +kernel
theorem dX12_comes_212 : decode cX12_comes 212 = .ok (.iastore, 1) := by decide +kernel
theorem dX12_comes_213 : decode cX12_comes 213 = .ok (.iinc 3 1, 3) := by decide +kernel
theorem dX12_comes_216 : decode cX12_comes 216 = .ok (.goto (-34), 3) := by decide +kernel
theorem dX12_comes_219 : decode cX12_comes 219 = .ok (.aload_n 0, 1) := by decide +kernel
theorem dX12_comes_220 : decode cX12_comes 220 = .ok (.getfield 19, 3) := by decide +kernel
theorem dX12_comes_223 : decode cX12_comes 223 = .ok (.iconst 1, 1) := by decide +kernel
theorem dX12_comes_224 : decode cX12_comes 224 = .ok (.dup2, 1) := by decide +kernel
theorem dX12_comes_225 : decode cX12_comes 225 = .ok (.iaload, 1) := by decide +kernel
theorem dX12_comes_226 : decode cX12_comes 226 = .ok (.iconst 1, 1) := by decide +kernel
theorem dX12_comes_227 : decode cX12_comes 227 = .ok (.iadd, 1) := by decide +kernel
theorem dX12_comes_228 : decode cX12_comes 228 = .ok (.iastore, 1) := by decide +kernel
theorem dX12_comes_229 : decode cX12_comes 229 = .ok (.iconst 1, 1) := by decide +kernel
theorem dX12_comes_230 : decode cX12_comes 230 = .ok (.ireturn, 1) := by decide +kernel
theorem dX12_comes_231 : decode cX12_comes 231 = .ok (.aload_n 0, 1) := by decide +kernel
theorem dX12_comes_232 : decode cX12_comes 232 = .ok (.getfield 25, 3) := by decide +kernel
theorem dX12_comes_235 : decode cX12_comes 235 = .ok (.iconst 0, 1) := by decide +kernel
theorem dX12_comes_236 : decode cX12_comes 236 = .ok (.iaload, 1) := by decide +kernel
theorem dX12_comes_237 : decode cX12_comes 237 = .ok (.invokestatic 77, 3) := by decide +kernel
theorem dX12_comes_240 : decode cX12_comes 240 = .ok (.ifCond .ne 5, 3) := by decide +kernel
theorem dX12_comes_243 : decode cX12_comes 243 = .ok (.iconst 0, 1) := by decide +kernel
theorem dX12_comes_244 : decode cX12_comes 244 = .ok (.ireturn, 1) := by decide +kernel
theorem dX12_comes_245 : decode cX12_comes 245 = .ok (.aload_n 0, 1) := by decide +kernel
theorem dX12_comes_246 : decode cX12_comes 246 = .ok (.getfield 19, 3) := by decide +kernel
theorem dX12_comes_249 : decode cX12_comes 249 = .ok (.bipush 6, 2) := by decide +kernel
theorem dX12_comes_251 : decode cX12_comes 251 = .ok (.aload_n 0, 1) := by decide +kernel
theorem dX12_comes_252 : decode cX12_comes 252 = .ok (.getfield 25, 3) := by decide +kernel
theorem dX12_comes_255 : decode cX12_comes 255 = .ok (.iconst 0, 1) := by decide +kernel
theorem dX12_comes_256 : decode cX12_comes 256 = .ok (.iaload, 1) := by decide +kernel
theorem dX12_comes_257 : decode cX12_comes 257 = .ok (.iadd, 1) := by decide +kernel
theorem dX12_comes_258 : decode cX12_comes 258 = .ok (.aload_n 0, 1) := by decide +kernel
theorem dX12_comes_259 : decode cX12_comes 259 = .ok (.getfield 25, 3) := by decide +kernel
theorem dX12_comes_262 : decode cX12_comes 262 = .ok (.iconst 1, 1) := by decide +kernel
theorem dX12_comes_263 : decode cX12_comes 263 = .ok (.iaload, 1) := by decide +kernel
theorem dX12_comes_264 : decode cX12_comes 264 = .ok (.iastore, 1) := by decide +kernel
theorem dX12_comes_265 : decode cX12_comes 265 = .ok (.iconst 1, 1) := by decide +kernel
theorem dX12_comes_266 : decode cX12_comes 266 = .ok (.ireturn, 1) := by decide +kernel
theorem dX12_reads_0 : decode cX12_reads 0 = .ok (.aload_n 0, 1) := by decide +kernel
theorem dX12_reads_1 : decode cX12_reads 1 = .ok (.iconst 0, 1) := by decide +kernel
theorem dX12_reads_2 : decode cX12_reads 2 = .ok (.putfield 51, 3) := by decide +kernel
theorem dX12_reads_5 : decode cX12_reads 5 = .ok (.iconst 0, 1) := by decide +kernel
theorem dX12_reads_6 : decode cX12_reads 6 = .ok (.istore_n 1, 1) := by decide +kernel
theorem dX12_reads_7 : decode cX12_reads 7 = .ok (.aload_n 0, 1) := by decide +kernel
theorem dX12_reads_8 : decode cX12_reads 8 = .ok (.invokevirtual 80, 3) := by decide +kernel
theorem dX12_reads_11 : decode cX12_reads 11 = .ok (.ifCond .ne 12, 3) := by decide +kernel
theorem dX12_reads_14 : decode cX12_reads 14 = .ok (.sipush (-1000), 3) := by decide +kernel
theorem dX12_reads_17 : decode cX12_reads 17 = .ok (.aload_n 0, 1) := by decide +kernel
theorem dX12_reads_18 : decode cX12_reads 18 = .ok (.getfield 51, 3) := by decide +kernel
theorem dX12_reads_21 : decode cX12_reads 21 = .ok (.isub, 1) := by decide +kernel
theorem dX12_reads_22 : decode cX12_reads 22 = .ok (.ireturn, 1) := by decide +kernel
theorem dX12_reads_23 : decode cX12_reads 23 = .ok (.iinc 1 1, 3) := by decide +kernel
theorem dX12_reads_26 : decode cX12_reads 26 = .ok (.aload_n 0, 1) := by decide +kernel
theorem dX12_reads_27 : decode cX12_reads 27 = .ok (.getfield 51, 3) := by decide +kernel
theorem dX12_reads_30 : decode cX12_reads 30 = .ok (.aload_n 0, 1) := by decide +kernel
theorem dX12_reads_31 : decode cX12_reads 31 = .ok (.getfield 43, 3) := by decide +kernel
theorem dX12_reads_34 : decode cX12_reads 34 = .ok (.if_icmp .lt (-27), 3) := by decide +kernel
theorem dX12_reads_37 : decode cX12_reads 37 = .ok (.aload_n 0, 1) := by decide +kernel
theorem dX12_reads_38 : decode cX12_reads 38 = .ok (.getfield 13, 3) := by decide +kernel
theorem dX12_reads_41 : decode cX12_reads 41 = .ok (.aload_n 0, 1) := by decide +kernel
theorem dX12_reads_42 : decode cX12_reads 42 = .ok (.getfield 19, 3) := by decide +kernel
theorem dX12_reads_45 : decode cX12_reads 45 = .ok (.invokestatic 83, 3) := by decide +kernel
theorem dX12_reads_48 : decode cX12_reads 48 = .ok (.aload_n 0, 1) := by decide +kernel
theorem dX12_reads_49 : decode cX12_reads 49 = .ok (.iconst 0, 1) := by decide +kernel
theorem dX12_reads_50 : decode cX12_reads 50 = .ok (.putfield 51, 3) := by decide +kernel
theorem dX12_reads_53 : decode cX12_reads 53 = .ok (.aload_n 0, 1) := by decide +kernel
theorem dX12_reads_54 : decode cX12_reads 54 = .ok (.getfield 51, 3) := by decide +kernel
theorem dX12_reads_57 : decode cX12_reads 57 = .ok (.aload_n 0, 1) := by decide +kernel
theorem dX12_reads_58 : decode cX12_reads 58 = .ok (.getfield 43, 3) := by decide +kernel
theorem dX12_reads_61 : decode cX12_reads 61 = .ok (.if_icmp .ge 36, 3) := by decide +kernel
theorem dX12_reads_64 : decode cX12_reads 64 = .ok (.aload_n 0, 1) := by decide +kernel
theorem dX12_reads_65 : decode cX12_reads 65 = .ok (.getfield 51, 3) := by decide +kernel
theorem dX12_reads_68 : decode cX12_reads 68 = .ok (.istore_n 2, 1) := by decide +kernel
theorem dX12_reads_69 : decode cX12_reads 69 = .ok (.aload_n 0, 1) := by decide +kernel
theorem dX12_reads_70 : decode cX12_reads 70 = .ok (.invokevirtual 54, 3) := by decide +kernel
theorem dX12_reads_73 : decode cX12_reads 73 = .ok (.istore_n 3, 1) := by decide +kernel
theorem dX12_reads_74 : decode cX12_reads 74 = .ok (.aload_n 0, 1) := by decide +kernel
theorem dX12_reads_75 : decode cX12_reads 75 = .ok (.invokevirtual 80, 3) := by decide +kernel
theorem dX12_reads_78 : decode cX12_reads 78 = .ok (.istore 4, 2) := by decide +kernel
theorem dX12_reads_80 : decode cX12_reads 80 = .ok (.aload_n 0, 1) := by decide +kernel
theorem dX12_reads_81 : decode cX12_reads 81 = .ok (.iload_n 3, 1) := by decide +kernel
theorem dX12_reads_82 : decode cX12_reads 82 = .ok (.invokevirtual 87, 3) := by decide +kernel
theorem dX12_reads_85 : decode cX12_reads 85 = .ok (.ifCond .ne 9, 3) := by decide +kernel
theorem dX12_reads_88 : decode cX12_reads 88 = .ok (.sipush (-2000), 3) := by decide +kernel
theorem dX12_reads_91 : decode cX12_reads 91 = .ok (.iload_n 2, 1) := by decide +kernel
theorem dX12_reads_92 : decode cX12_reads 92 = .ok (.isub, 1) := by decide +kernel
theorem dX12_reads_93 : decode cX12_reads 93 = .ok (.ireturn, 1) := by decide +kernel
theorem dX12_reads_94 : decode cX12_reads 94 = .ok (.goto (-41), 3) := by decide +kernel
theorem dX12_reads_97 : decode cX12_reads 97 = .ok (.aload_n 0, 1) := by decide +kernel
theorem dX12_reads_98 : decode cX12_reads 98 = .ok (.getfield 19, 3) := by decide +kernel
theorem dX12_reads_101 : decode cX12_reads 101 = .ok (.aload_n 0, 1) := by decide +kernel
theorem dX12_reads_102 : decode cX12_reads 102 = .ok (.getfield 13, 3) := by decide +kernel
theorem dX12_reads_105 : decode cX12_reads 105 = .ok (.invokestatic 83, 3) := by decide +kernel
theorem dX12_reads_108 : decode cX12_reads 108 = .ok (.iload_n 1, 1) := by decide +kernel
theorem dX12_reads_109 : decode cX12_reads 109 = .ok (.ireturn, 1) := by decide +kernel
theorem dX12_inn_0 : decode cX12_inn 0 = .ok (.aload_n 0, 1) := by decide +kernel
theorem dX12_inn_1 : decode cX12_inn 1 = .ok (.invokevirtual 90, 3) := by decide +kernel
theorem dX12_inn_4 : decode cX12_inn 4 = .ok (.istore_n 1, 1) := by decide +kernel
theorem dX12_inn_5 : decode cX12_inn 5 = .ok (.aload_n 0, 1) := by decide +kernel
theorem dX12_inn_6 : decode cX12_inn 6 = .ok (.iconst 0, 1) := by decide +kernel
theorem dX12_inn_7 : decode cX12_inn 7 = .ok (.putfield 43, 3) := by decide +kernel
theorem dX12_inn_10 : decode cX12_inn 10 = .ok (.iload_n 1, 1) := by decide +kernel
theorem dX12_inn_11 : decode cX12_inn 11 = .ok (.ireturn, 1) := by decide +kernel
theorem dX12_chance_0 : decode cX12_chance 0 = .ok (.iload_n 1, 1) := by decide +kernel
theorem dX12_chance_1 : decode cX12_chance 1 = .ok (.aload_n 0, 1) := by decide +kernel
theorem dX12_chance_2 : decode cX12_chance 2 = .ok (.getfield 13, 3) := by decide +kernel
theorem dX12_chance_5 : decode cX12_chance 5 = .ok (.iconst 0, 1) := by decide +kernel
theorem dX12_chance_6 : decode cX12_chance 6 = .ok (.iaload, 1) := by decide +kernel
theorem dX12_chance_7 : decode cX12_chance 7 = .ok (.invokestatic 31, 3) := by decide +kernel
theorem dX12_chance_10 : decode cX12_chance 10 = .ok (.ifCond .eq 14, 3) := by decide +kernel
theorem dX12_chance_13 : decode cX12_chance 13 = .ok (.aload_n 0, 1) := by decide +kernel
theorem dX12_chance_14 : decode cX12_chance 14 = .ok (.getfield 13, 3) := by decide +kernel
theorem dX12_chance_17 : decode cX12_chance 17 = .ok (.iconst 2, 1) := by decide +kernel
theorem dX12_chance_18 : decode cX12_chance 18 = .ok (.iload_n 1, 1) := by decide +kernel
theorem dX12_chance_19 : decode cX12_chance 19 = .ok (.iadd, 1) := by decide +kernel
theorem dX12_chance_20 : decode cX12_chance 20 = .ok (.iaload, 1) := by decide +kernel
theorem dX12_chance_21 : decode cX12_chance 21 = .ok (.goto 8, 3) := by decide +kernel
theorem dX12_chance_24 : decode cX12_chance 24 = .ok (.aload_n 0, 1) := by decide +kernel
theorem dX12_chance_25 : decode cX12_chance 25 = .ok (.iconst (-1), 1) := by decide +kernel
theorem dX12_chance_26 : decode cX12_chance 26 = .ok (.invokevirtual 47, 3) := by decide +kernel
theorem dX12_chance_29 : decode cX12_chance 29 = .ok (.ireturn, 1) := by decide +kernel
theorem dX12_bet_0 : decode cX12_bet 0 = .ok (.aload_n 0, 1) := by decide +kernel
theorem dX12_bet_1 : decode cX12_bet 1 = .ok (.iload_n 1, 1) := by decide +kernel
theorem dX12_bet_2 : decode cX12_bet 2 = .ok (.invokevirtual 93, 3) := by decide +kernel
theorem dX12_bet_5 : decode cX12_bet 5 = .ok (.ifCond .ne 11, 3) := by decide +kernel
theorem dX12_bet_8 : decode cX12_bet 8 = .ok (.aload_n 0, 1) := by decide +kernel
theorem dX12_bet_9 : decode cX12_bet 9 = .ok (.iconst (-1), 1) := by decide +kernel
theorem dX12_bet_10 : decode cX12_bet 10 = .ok (.invokevirtual 47, 3) := by decide +kernel
theorem dX12_bet_13 : decode cX12_bet 13 = .ok (.goto 27, 3) := by decide +kernel
theorem dX12_bet_16 : decode cX12_bet 16 = .ok (.iload_n 2, 1) := by decide +kernel
theorem dX12_bet_17 : decode cX12_bet 17 = .ok (.bipush 7, 2) := by decide +kernel
theorem dX12_bet_19 : decode cX12_bet 19 = .ok (.invokestatic 31, 3) := by decide +kernel
theorem dX12_bet_22 : decode cX12_bet 22 = .ok (.ifCond .eq 12, 3) := by decide +kernel
theorem dX12_bet_25 : decode cX12_bet 25 = .ok (.aload_n 0, 1) := by decide +kernel
theorem dX12_bet_26 : decode cX12_bet 26 = .ok (.iload_n 1, 1) := by decide +kernel
theorem dX12_bet_27 : decode cX12_bet 27 = .ok (.iload_n 2, 1) := by decide +kernel
theorem dX12_bet_28 : decode cX12_bet 28 = .ok (.invokevirtual 96, 3) := by decide +kernel
theorem dX12_bet_31 : decode cX12_bet 31 = .ok (.goto 9, 3) := by decide +kernel
theorem dX12_bet_34 : decode cX12_bet 34 = .ok (.aload_n 0, 1) := by decide +kernel
theorem dX12_bet_35 : decode cX12_bet 35 = .ok (.bipush (-2), 2) := by decide +kernel
theorem dX12_bet_37 : decode cX12_bet 37 = .ok (.invokevirtual 47, 3) := by decide +kernel
theorem dX12_bet_40 : decode cX12_bet 40 = .ok (.ireturn, 1) := by decide +kernel
theorem dX12_set_0 : decode cX12_set 0 = .ok (.aload_n 0, 1) := by decide +kernel
theorem dX12_set_1 : decode cX12_set 1 = .ok (.iload_n 1, 1) := by decide +kernel
theorem dX12_set_2 : decode cX12_set 2 = .ok (.invokevirtual 93, 3) := by decide +kernel
theorem dX12_set_5 : decode cX12_set 5 = .ok (.ifCond .ne 7, 3) := by decide +kernel
theorem dX12_set_8 : decode cX12_set 8 = .ok (.iconst (-1), 1) := by decide +kernel
theorem dX12_set_9 : decode cX12_set 9 = .ok (.goto 40, 3) := by decide +kernel
theorem dX12_set_12 : decode cX12_set 12 = .ok (.iload_n 2, 1) := by decide +kernel
theorem dX12_set_13 : decode cX12_set 13 = .ok (.iconst 2, 1) := by decide +kernel
theorem dX12_set_14 : decode cX12_set 14 = .ok (.invokestatic 31, 3) := by decide +kernel
theorem dX12_set_17 : decode cX12_set 17 = .ok (.ifCond .ne 8, 3) := by decide +kernel
theorem dX12_set_20 : decode cX12_set 20 = .ok (.bipush (-2), 2) := by decide +kernel
theorem dX12_set_22 : decode cX12_set 22 = .ok (.goto 27, 3) := by decide +kernel
theorem dX12_set_25 : decode cX12_set 25 = .ok (.iload_n 3, 1) := by decide +kernel
theorem dX12_set_26 : decode cX12_set 26 = .ok (.iload_n 2, 1) := by decide +kernel
theorem dX12_set_27 : decode cX12_set 27 = .ok (.ifCond .ne 7, 3) := by decide +kernel
theorem dX12_set_30 : decode cX12_set 30 = .ok (.iconst 1, 1) := by decide +kernel
theorem dX12_set_31 : decode cX12_set 31 = .ok (.goto 4, 3) := by decide +kernel
theorem dX12_set_34 : decode cX12_set 34 = .ok (.iconst 0, 1) := by decide +kernel
theorem dX12_set_35 : decode cX12_set 35 = .ok (.iload_n 2, 1) := by decide +kernel
theorem dX12_set_36 : decode cX12_set 36 = .ok (.ifCond .ne 8, 3) := by decide +kernel
theorem dX12_set_39 : decode cX12_set 39 = .ok (.bipush 99, 2) := by decide +kernel
theorem dX12_set_41 : decode cX12_set 41 = .ok (.goto 5, 3) := by decide +kernel
theorem dX12_set_44 : decode cX12_set 44 = .ok (.bipush 9, 2) := by decide +kernel
theorem dX12_set_46 : decode cX12_set 46 = .ok (.invokestatic 39, 3) := by decide +kernel
theorem dX12_set_49 : decode cX12_set 49 = .ok (.istore 4, 2) := by decide +kernel
theorem dX12_set_51 : decode cX12_set 51 = .ok (.iload 4, 2) := by decide +kernel
theorem dX12_set_53 : decode cX12_set 53 = .ok (.ifCond .eq 10, 3) := by decide +kernel
theorem dX12_set_56 : decode cX12_set 56 = .ok (.aload_n 0, 1) := by decide +kernel
theorem dX12_set_57 : decode cX12_set 57 = .ok (.iload 4, 2) := by decide +kernel
theorem dX12_set_59 : decode cX12_set 59 = .ok (.invokevirtual 47, 3) := by decide +kernel
theorem dX12_set_62 : decode cX12_set 62 = .ok (.ireturn, 1) := by decide +kernel
theorem dX12_set_63 : decode cX12_set 63 = .ok (.aload_n 0, 1) := by decide +kernel
theorem dX12_set_64 : decode cX12_set 64 = .ok (.iload_n 1, 1) := by decide +kernel
theorem dX12_set_65 : decode cX12_set 65 = .ok (.iconst 3, 1) := by decide +kernel
theorem dX12_set_66 : decode cX12_set 66 = .ok (.iload_n 2, 1) := by decide +kernel
theorem dX12_set_67 : decode cX12_set 67 = .ok (.iadd, 1) := by decide +kernel
theorem dX12_set_68 : decode cX12_set 68 = .ok (.invokevirtual 96, 3) := by decide +kernel
theorem dX12_set_71 : decode cX12_set 71 = .ok (.istore 5, 2) := by decide +kernel
theorem dX12_set_73 : decode cX12_set 73 = .ok (.aload_n 0, 1) := by decide +kernel
theorem dX12_set_74 : decode cX12_set 74 = .ok (.getfield 13, 3) := by decide +kernel
theorem dX12_set_77 : decode cX12_set 77 = .ok (.bipush 10, 2) := by decide +kernel
theorem dX12_set_79 : decode cX12_set 79 = .ok (.bipush 7, 2) := by decide +kernel
theorem dX12_set_81 : decode cX12_set 81 = .ok (.iload_n 1, 1) := by decide +kernel
theorem dX12_set_82 : decode cX12_set 82 = .ok (.imul, 1) := by decide +kernel
theorem dX12_set_83 : decode cX12_set 83 = .ok (.iadd, 1) := by decide +kernel
theorem dX12_set_84 : decode cX12_set 84 = .ok (.iconst 3, 1) := by decide +kernel
theorem dX12_set_85 : decode cX12_set 85 = .ok (.iadd, 1) := by decide +kernel
theorem dX12_set_86 : decode cX12_set 86 = .ok (.iload_n 2, 1) := by decide +kernel
theorem dX12_set_87 : decode cX12_set 87 = .ok (.iadd, 1) := by decide +kernel
theorem dX12_set_88 : decode cX12_set 88 = .ok (.iload_n 3, 1) := by decide +kernel
theorem dX12_set_89 : decode cX12_set 89 = .ok (.iastore, 1) := by decide +kernel
theorem dX12_set_90 : decode cX12_set 90 = .ok (.iload 5, 2) := by decide +kernel
theorem dX12_set_92 : decode cX12_set 92 = .ok (.ireturn, 1) := by decide +kernel
theorem dX12_fund_0 : decode cX12_fund 0 = .ok (.iload_n 1, 1) := by decide +kernel
theorem dX12_fund_1 : decode cX12_fund 1 = .ok (.invokestatic 77, 3) := by decide +kernel
theorem dX12_fund_4 : decode cX12_fund 4 = .ok (.ifCond .eq 13, 3) := by decide +kernel
theorem dX12_fund_7 : decode cX12_fund 7 = .ok (.iload_n 2, 1) := by decide +kernel
theorem dX12_fund_8 : decode cX12_fund 8 = .ok (.iconst 0, 1) := by decide +kernel
theorem dX12_fund_9 : decode cX12_fund 9 = .ok (.bipush 99, 2) := by decide +kernel
theorem dX12_fund_11 : decode cX12_fund 11 = .ok (.invokestatic 39, 3) := by decide +kernel
theorem dX12_fund_14 : decode cX12_fund 14 = .ok (.goto 4, 3) := by decide +kernel
theorem dX12_fund_17 : decode cX12_fund 17 = .ok (.iconst (-1), 1) := by decide +kernel
theorem dX12_fund_18 : decode cX12_fund 18 = .ok (.istore_n 3, 1) := by decide +kernel
theorem dX12_fund_19 : decode cX12_fund 19 = .ok (.iload_n 3, 1) := by decide +kernel
theorem dX12_fund_20 : decode cX12_fund 20 = .ok (.ifCond .eq 9, 3) := by decide +kernel
theorem dX12_fund_23 : decode cX12_fund 23 = .ok (.aload_n 0, 1) := by decide +kernel
theorem dX12_fund_24 : decode cX12_fund 24 = .ok (.iload_n 3, 1) := by decide +kernel
theorem dX12_fund_25 : decode cX12_fund 25 = .ok (.invokevirtual 47, 3) := by decide +kernel
theorem dX12_fund_28 : decode cX12_fund 28 = .ok (.ireturn, 1) := by decide +kernel
theorem dX12_fund_29 : decode cX12_fund 29 = .ok (.aload_n 0, 1) := by decide +kernel
theorem dX12_fund_30 : decode cX12_fund 30 = .ok (.getfield 13, 3) := by decide +kernel
theorem dX12_fund_33 : decode cX12_fund 33 = .ok (.bipush 6, 2) := by decide +kernel
theorem dX12_fund_35 : decode cX12_fund 35 = .ok (.iload_n 1, 1) := by decide +kernel
theorem dX12_fund_36 : decode cX12_fund 36 = .ok (.iadd, 1) := by decide +kernel
theorem dX12_fund_37 : decode cX12_fund 37 = .ok (.iaload, 1) := by decide +kernel
theorem dX12_fund_38 : decode cX12_fund 38 = .ok (.istore 4, 2) := by decide +kernel
theorem dX12_fund_40 : decode cX12_fund 40 = .ok (.aload_n 0, 1) := by decide +kernel
theorem dX12_fund_41 : decode cX12_fund 41 = .ok (.getfield 13, 3) := by decide +kernel
theorem dX12_fund_44 : decode cX12_fund 44 = .ok (.bipush 6, 2) := by decide +kernel
theorem dX12_fund_46 : decode cX12_fund 46 = .ok (.iload_n 1, 1) := by decide +kernel
theorem dX12_fund_47 : decode cX12_fund 47 = .ok (.iadd, 1) := by decide +kernel
theorem dX12_fund_48 : decode cX12_fund 48 = .ok (.iload_n 2, 1) := by decide +kernel
theorem dX12_fund_49 : decode cX12_fund 49 = .ok (.iastore, 1) := by decide +kernel
theorem dX12_fund_50 : decode cX12_fund 50 = .ok (.iload 4, 2) := by decide +kernel
theorem dX12_fund_52 : decode cX12_fund 52 = .ok (.ireturn, 1) := by decide +kernel
theorem dX12_isSo_0 : decode cX12_isSo 0 = .ok (.iload_n 0, 1) := by decide +kernel
theorem dX12_isSo_1 : decode cX12_isSo 1 = .ok (.bipush 10, 2) := by decide +kernel
theorem dX12_isSo_3 : decode cX12_isSo 3 = .ok (.if_icmp .ge 20, 3) := by decide +kernel
theorem dX12_isSo_6 : decode cX12_isSo 6 = .ok (.iload_n 1, 1) := by decide +kernel
theorem dX12_isSo_7 : decode cX12_isSo 7 = .ok (.iload_n 0, 1) := by decide +kernel
theorem dX12_isSo_8 : decode cX12_isSo 8 = .ok (.ishr, 1) := by decide +kernel
theorem dX12_isSo_9 : decode cX12_isSo 9 = .ok (.iconst 1, 1) := by decide +kernel
theorem dX12_isSo_10 : decode cX12_isSo 10 = .ok (.iand, 1) := by decide +kernel
theorem dX12_isSo_11 : decode cX12_isSo 11 = .ok (.iconst 1, 1) := by decide +kernel
theorem dX12_isSo_12 : decode cX12_isSo 12 = .ok (.if_icmp .ne 7, 3) := by decide +kernel
theorem dX12_isSo_15 : decode cX12_isSo 15 = .ok (.iconst 1, 1) := by decide +kernel
theorem dX12_isSo_16 : decode cX12_isSo 16 = .ok (.goto 24, 3) := by decide +kernel
theorem dX12_isSo_19 : decode cX12_isSo 19 = .ok (.iconst 0, 1) := by decide +kernel
theorem dX12_isSo_20 : decode cX12_isSo 20 = .ok (.goto 20, 3) := by decide +kernel
theorem dX12_isSo_23 : decode cX12_isSo 23 = .ok (.iload_n 2, 1) := by decide +kernel
theorem dX12_isSo_24 : decode cX12_isSo 24 = .ok (.iload_n 0, 1) := by decide +kernel
theorem dX12_isSo_25 : decode cX12_isSo 25 = .ok (.bipush 10, 2) := by decide +kernel
theorem dX12_isSo_27 : decode cX12_isSo 27 = .ok (.isub, 1) := by decide +kernel
theorem dX12_isSo_28 : decode cX12_isSo 28 = .ok (.ishr, 1) := by decide +kernel
theorem dX12_isSo_29 : decode cX12_isSo 29 = .ok (.iconst 1, 1) := by decide +kernel
theorem dX12_isSo_30 : decode cX12_isSo 30 = .ok (.iand, 1) := by decide +kernel
theorem dX12_isSo_31 : decode cX12_isSo 31 = .ok (.iconst 1, 1) := by decide +kernel
theorem dX12_isSo_32 : decode cX12_isSo 32 = .ok (.if_icmp .ne 7, 3) := by decide +kernel
theorem dX12_isSo_35 : decode cX12_isSo 35 = .ok (.iconst 1, 1) := by decide +kernel
theorem dX12_isSo_36 : decode cX12_isSo 36 = .ok (.goto 4, 3) := by decide +kernel
theorem dX12_isSo_39 : decode cX12_isSo 39 = .ok (.iconst 0, 1) := by decide +kernel
theorem dX12_isSo_40 : decode cX12_isSo 40 = .ok (.ireturn, 1) := by decide +kernel
theorem dX12_isWonBy_0 : decode cX12_isWonBy 0 = .ok (.aload_n 0, 1) := by decide +kernel
theorem dX12_isWonBy_1 : decode cX12_isWonBy 1 = .ok (.iload_n 1, 1) := by decide +kernel
theorem dX12_isWonBy_2 : decode cX12_isWonBy 2 = .ok (.iconst 1, 1) := by decide +kernel
theorem dX12_isWonBy_3 : decode cX12_isWonBy 3 = .ok (.invokevirtual 96, 3) := by decide +kernel
theorem dX12_isWonBy_6 : decode cX12_isWonBy 6 = .ok (.iload_n 2, 1) := by decide +kernel
theorem dX12_isWonBy_7 : decode cX12_isWonBy 7 = .ok (.iload_n 3, 1) := by decide +kernel
theorem dX12_isWonBy_8 : decode cX12_isWonBy 8 = .ok (.invokestatic 100, 3) := by decide +kernel
theorem dX12_isWonBy_11 : decode cX12_isWonBy 11 = .ok (.istore 4, 2) := by decide +kernel
theorem dX12_isWonBy_13 : decode cX12_isWonBy 13 = .ok (.aload_n 0, 1) := by decide +kernel
theorem dX12_isWonBy_14 : decode cX12_isWonBy 14 = .ok (.iload_n 1, 1) := by decide +kernel
theorem dX12_isWonBy_15 : decode cX12_isWonBy 15 = .ok (.iconst 2, 1) := by decide +kernel
theorem dX12_isWonBy_16 : decode cX12_isWonBy 16 = .ok (.invokevirtual 96, 3) := by decide +kernel
theorem dX12_isWonBy_19 : decode cX12_isWonBy 19 = .ok (.iload_n 2, 1) := by decide +kernel
theorem dX12_isWonBy_20 : decode cX12_isWonBy 20 = .ok (.iload_n 3, 1) := by decide +kernel
theorem dX12_isWonBy_21 : decode cX12_isWonBy 21 = .ok (.invokestatic 100, 3) := by decide +kernel
theorem dX12_isWonBy_24 : decode cX12_isWonBy 24 = .ok (.istore 5, 2) := by decide +kernel
theorem dX12_isWonBy_26 : decode cX12_isWonBy 26 = .ok (.aload_n 0, 1) := by decide +kernel
theorem dX12_isWonBy_27 : decode cX12_isWonBy 27 = .ok (.iload_n 1, 1) := by decide +kernel
theorem dX12_isWonBy_28 : decode cX12_isWonBy 28 = .ok (.iconst 0, 1) := by decide +kernel
theorem dX12_isWonBy_29 : decode cX12_isWonBy 29 = .ok (.invokevirtual 96, 3) := by decide +kernel
theorem dX12_isWonBy_32 : decode cX12_isWonBy 32 = .ok (.tableswitch 108 1 5 #[36, 47, 63, 79, 92], 36) := by decide +kernel
theorem dX12_isWonBy_68 : decode cX12_isWonBy 68 = .ok (.iload 4, 2) := by decide +kernel
theorem dX12_isWonBy_70 : decode cX12_isWonBy 70 = .ok (.ifCond .ne 7, 3) := by decide +kernel
theorem dX12_isWonBy_73 : decode cX12_isWonBy 73 = .ok (.iconst 1, 1) := by decide +kernel
theorem dX12_isWonBy_74 : decode cX12_isWonBy 74 = .ok (.goto 4, 3) := by decide +kernel
theorem dX12_isWonBy_77 : decode cX12_isWonBy 77 = .ok (.iconst 0, 1) := by decide +kernel
theorem dX12_isWonBy_78 : decode cX12_isWonBy 78 = .ok (.ireturn, 1) := by decide +kernel
theorem dX12_isWonBy_79 : decode cX12_isWonBy 79 = .ok (.iload 4, 2) := by decide +kernel
theorem dX12_isWonBy_81 : decode cX12_isWonBy 81 = .ok (.ifCond .eq 12, 3) := by decide +kernel
theorem dX12_isWonBy_84 : decode cX12_isWonBy 84 = .ok (.iload 5, 2) := by decide +kernel
theorem dX12_isWonBy_86 : decode cX12_isWonBy 86 = .ok (.ifCond .eq 7, 3) := by decide +kernel
theorem dX12_isWonBy_89 : decode cX12_isWonBy 89 = .ok (.iconst 1, 1) := by decide +kernel
theorem dX12_isWonBy_90 : decode cX12_isWonBy 90 = .ok (.goto 4, 3) := by decide +kernel
theorem dX12_isWonBy_93 : decode cX12_isWonBy 93 = .ok (.iconst 0, 1) := by decide +kernel
theorem dX12_isWonBy_94 : decode cX12_isWonBy 94 = .ok (.ireturn, 1) := by decide +kernel
theorem dX12_isWonBy_95 : decode cX12_isWonBy 95 = .ok (.iload 4, 2) := by decide +kernel
theorem dX12_isWonBy_97 : decode cX12_isWonBy 97 = .ok (.ifCond .ne 8, 3) := by decide +kernel
theorem dX12_isWonBy_100 : decode cX12_isWonBy 100 = .ok (.iload 5, 2) := by decide +kernel
theorem dX12_isWonBy_102 : decode cX12_isWonBy 102 = .ok (.ifCond .eq 7, 3) := by decide +kernel
theorem dX12_isWonBy_105 : decode cX12_isWonBy 105 = .ok (.iconst 1, 1) := by decide +kernel
theorem dX12_isWonBy_106 : decode cX12_isWonBy 106 = .ok (.goto 4, 3) := by decide +kernel
theorem dX12_isWonBy_109 : decode cX12_isWonBy 109 = .ok (.iconst 0, 1) := by decide +kernel
theorem dX12_isWonBy_110 : decode cX12_isWonBy 110 = .ok (.ireturn, 1) := by decide +kernel
theorem dX12_isWonBy_111 : decode cX12_isWonBy 111 = .ok (.iload 4, 2) := by decide +kernel
theorem dX12_isWonBy_113 : decode cX12_isWonBy 113 = .ok (.iload 5, 2) := by decide +kernel
theorem dX12_isWonBy_115 : decode cX12_isWonBy 115 = .ok (.if_icmp .eq 7, 3) := by decide +kernel
theorem dX12_isWonBy_118 : decode cX12_isWonBy 118 = .ok (.iconst 1, 1) := by decide +kernel
theorem dX12_isWonBy_119 : decode cX12_isWonBy 119 = .ok (.goto 4, 3) := by decide +kernel
theorem dX12_isWonBy_122 : decode cX12_isWonBy 122 = .ok (.iconst 0, 1) := by decide +kernel
theorem dX12_isWonBy_123 : decode cX12_isWonBy 123 = .ok (.ireturn, 1) := by decide +kernel
theorem dX12_isWonBy_124 : decode cX12_isWonBy 124 = .ok (.iload 4, 2) := by decide +kernel
theorem dX12_isWonBy_126 : decode cX12_isWonBy 126 = .ok (.ifCond .ne 12, 3) := by decide +kernel
theorem dX12_isWonBy_129 : decode cX12_isWonBy 129 = .ok (.iload 5, 2) := by decide +kernel
theorem dX12_isWonBy_131 : decode cX12_isWonBy 131 = .ok (.ifCond .ne 7, 3) := by decide +kernel
theorem dX12_isWonBy_134 : decode cX12_isWonBy 134 = .ok (.iconst 1, 1) := by decide +kernel
theorem dX12_isWonBy_135 : decode cX12_isWonBy 135 = .ok (.goto 4, 3) := by decide +kernel
theorem dX12_isWonBy_138 : decode cX12_isWonBy 138 = .ok (.iconst 0, 1) := by decide +kernel
theorem dX12_isWonBy_139 : decode cX12_isWonBy 139 = .ok (.ireturn, 1) := by decide +kernel
theorem dX12_isWonBy_140 : decode cX12_isWonBy 140 = .ok (.iload 4, 2) := by decide +kernel
theorem dX12_isWonBy_142 : decode cX12_isWonBy 142 = .ok (.ireturn, 1) := by decide +kernel
theorem dX12_isWay_0 : decode cX12_isWay 0 = .ok (.iconst 0, 1) := by decide +kernel
theorem dX12_isWay_1 : decode cX12_isWay 1 = .ok (.istore_n 3, 1) := by decide +kernel
theorem dX12_isWay_2 : decode cX12_isWay 2 = .ok (.iload_n 3, 1) := by decide +kernel
theorem dX12_isWay_3 : decode cX12_isWay 3 = .ok (.aload_n 0, 1) := by decide +kernel
theorem dX12_isWay_4 : decode cX12_isWay 4 = .ok (.getfield 13, 3) := by decide +kernel
theorem dX12_isWay_7 : decode cX12_isWay 7 = .ok (.iconst 1, 1) := by decide +kernel
theorem dX12_isWay_8 : decode cX12_isWay 8 = .ok (.iaload, 1) := by decide +kernel
theorem dX12_isWay_9 : decode cX12_isWay 9 = .ok (.if_icmp .ge 35, 3) := by decide +kernel
theorem dX12_isWay_12 : decode cX12_isWay 12 = .ok (.aload_n 0, 1) := by decide +kernel
theorem dX12_isWay_13 : decode cX12_isWay 13 = .ok (.iload_n 3, 1) := by decide +kernel
theorem dX12_isWay_14 : decode cX12_isWay 14 = .ok (.iload_n 1, 1) := by decide +kernel
theorem dX12_isWay_15 : decode cX12_isWay 15 = .ok (.iload_n 2, 1) := by decide +kernel
theorem dX12_isWay_16 : decode cX12_isWay 16 = .ok (.invokevirtual 104, 3) := by decide +kernel
theorem dX12_isWay_19 : decode cX12_isWay 19 = .ok (.iload_n 2, 1) := by decide +kernel
theorem dX12_isWay_20 : decode cX12_isWay 20 = .ok (.iload_n 3, 1) := by decide +kernel
theorem dX12_isWay_21 : decode cX12_isWay 21 = .ok (.ishr, 1) := by decide +kernel
theorem dX12_isWay_22 : decode cX12_isWay 22 = .ok (.iconst 1, 1) := by decide +kernel
theorem dX12_isWay_23 : decode cX12_isWay 23 = .ok (.iand, 1) := by decide +kernel
theorem dX12_isWay_24 : decode cX12_isWay 24 = .ok (.iconst 1, 1) := by decide +kernel
theorem dX12_isWay_25 : decode cX12_isWay 25 = .ok (.if_icmp .ne 7, 3) := by decide +kernel
theorem dX12_isWay_28 : decode cX12_isWay 28 = .ok (.iconst 1, 1) := by decide +kernel
theorem dX12_isWay_29 : decode cX12_isWay 29 = .ok (.goto 4, 3) := by decide +kernel
theorem dX12_isWay_32 : decode cX12_isWay 32 = .ok (.iconst 0, 1) := by decide +kernel
theorem dX12_isWay_33 : decode cX12_isWay 33 = .ok (.if_icmp .eq 5, 3) := by decide +kernel
theorem dX12_isWay_36 : decode cX12_isWay 36 = .ok (.iconst 0, 1) := by decide +kernel
theorem dX12_isWay_37 : decode cX12_isWay 37 = .ok (.ireturn, 1) := by decide +kernel
theorem dX12_isWay_38 : decode cX12_isWay 38 = .ok (.iinc 3 1, 3) := by decide +kernel
theorem dX12_isWay_41 : decode cX12_isWay 41 = .ok (.goto (-39), 3) := by decide +kernel
theorem dX12_isWay_44 : decode cX12_isWay 44 = .ok (.iconst 1, 1) := by decide +kernel
theorem dX12_isWay_45 : decode cX12_isWay 45 = .ok (.ireturn, 1) := by decide +kernel
theorem dX12_findsWays_0 : decode cX12_findsWays 0 = .ok (.aload_n 0, 1) := by decide +kernel
theorem dX12_findsWays_1 : decode cX12_findsWays 1 = .ok (.iconst 0, 1) := by decide +kernel
theorem dX12_findsWays_2 : decode cX12_findsWays 2 = .ok (.putfield 107, 3) := by decide +kernel
theorem dX12_findsWays_5 : decode cX12_findsWays 5 = .ok (.aload_n 0, 1) := by decide +kernel
theorem dX12_findsWays_6 : decode cX12_findsWays 6 = .ok (.bipush (-9), 2) := by decide +kernel
theorem dX12_findsWays_8 : decode cX12_findsWays 8 = .ok (.putfield 110, 3) := by decide +kernel
theorem dX12_findsWays_11 : decode cX12_findsWays 11 = .ok (.aload_n 0, 1) := by decide +kernel
theorem dX12_findsWays_12 : decode cX12_findsWays 12 = .ok (.iconst 0, 1) := by decide +kernel
theorem dX12_findsWays_13 : decode cX12_findsWays 13 = .ok (.putfield 113, 3) := by decide +kernel
theorem dX12_findsWays_16 : decode cX12_findsWays 16 = .ok (.aload_n 0, 1) := by decide +kernel
theorem dX12_findsWays_17 : decode cX12_findsWays 17 = .ok (.iconst 1, 1) := by decide +kernel
theorem dX12_findsWays_18 : decode cX12_findsWays 18 = .ok (.aload_n 0, 1) := by decide +kernel
theorem dX12_findsWays_19 : decode cX12_findsWays 19 = .ok (.getfield 13, 3) := by decide +kernel
theorem dX12_findsWays_22 : decode cX12_findsWays 22 = .ok (.iconst 1, 1) := by decide +kernel
theorem dX12_findsWays_23 : decode cX12_findsWays 23 = .ok (.iaload, 1) := by decide +kernel
theorem dX12_findsWays_24 : decode cX12_findsWays 24 = .ok (.ishl, 1) := by decide +kernel
theorem dX12_findsWays_25 : decode cX12_findsWays 25 = .ok (.iconst 1, 1) := by decide +kernel
theorem dX12_findsWays_26 : decode cX12_findsWays 26 = .ok (.isub, 1) := by decide +kernel
theorem dX12_findsWays_27 : decode cX12_findsWays 27 = .ok (.putfield 116, 3) := by decide +kernel
theorem dX12_findsWays_30 : decode cX12_findsWays 30 = .ok (.iconst 0, 1) := by decide +kernel
theorem dX12_findsWays_31 : decode cX12_findsWays 31 = .ok (.istore_n 2, 1) := by decide +kernel
theorem dX12_findsWays_32 : decode cX12_findsWays 32 = .ok (.iload_n 2, 1) := by decide +kernel
theorem dX12_findsWays_33 : decode cX12_findsWays 33 = .ok (.iconst 1, 1) := by decide +kernel
theorem dX12_findsWays_34 : decode cX12_findsWays 34 = .ok (.aload_n 0, 1) := by decide +kernel
theorem dX12_findsWays_35 : decode cX12_findsWays 35 = .ok (.getfield 13, 3) := by decide +kernel
theorem dX12_findsWays_38 : decode cX12_findsWays 38 = .ok (.iconst 1, 1) := by decide +kernel
theorem dX12_findsWays_39 : decode cX12_findsWays 39 = .ok (.iaload, 1) := by decide +kernel
theorem dX12_findsWays_40 : decode cX12_findsWays 40 = .ok (.ishl, 1) := by decide +kernel
theorem dX12_findsWays_41 : decode cX12_findsWays 41 = .ok (.if_icmp .ge 70, 3) := by decide +kernel
theorem dX12_findsWays_44 : decode cX12_findsWays 44 = .ok (.aload_n 0, 1) := by decide +kernel
theorem dX12_findsWays_45 : decode cX12_findsWays 45 = .ok (.iload_n 1, 1) := by decide +kernel
theorem dX12_findsWays_46 : decode cX12_findsWays 46 = .ok (.iload_n 2, 1) := by decide +kernel
theorem dX12_findsWays_47 : decode cX12_findsWays 47 = .ok (.invokevirtual 119, 3) := by decide +kernel
theorem dX12_findsWays_50 : decode cX12_findsWays 50 = .ok (.ifCond .ne 6, 3) := by decide +kernel
theorem dX12_findsWays_53 : decode cX12_findsWays 53 = .ok (.goto 52, 3) := by decide +kernel
theorem dX12_findsWays_56 : decode cX12_findsWays 56 = .ok (.aload_n 0, 1) := by decide +kernel
theorem dX12_findsWays_57 : decode cX12_findsWays 57 = .ok (.dup, 1) := by decide +kernel
theorem dX12_findsWays_58 : decode cX12_findsWays 58 = .ok (.getfield 107, 3) := by decide +kernel
theorem dX12_findsWays_61 : decode cX12_findsWays 61 = .ok (.iconst 1, 1) := by decide +kernel
theorem dX12_findsWays_62 : decode cX12_findsWays 62 = .ok (.iadd, 1) := by decide +kernel
theorem dX12_findsWays_63 : decode cX12_findsWays 63 = .ok (.putfield 107, 3) := by decide +kernel
theorem dX12_findsWays_66 : decode cX12_findsWays 66 = .ok (.aload_n 0, 1) := by decide +kernel
theorem dX12_findsWays_67 : decode cX12_findsWays 67 = .ok (.aload_n 0, 1) := by decide +kernel
theorem dX12_findsWays_68 : decode cX12_findsWays 68 = .ok (.getfield 110, 3) := by decide +kernel
theorem dX12_findsWays_71 : decode cX12_findsWays 71 = .ok (.ifCond .ge 7, 3) := by decide +kernel
theorem dX12_findsWays_74 : decode cX12_findsWays 74 = .ok (.iload_n 2, 1) := by decide +kernel
theorem dX12_findsWays_75 : decode cX12_findsWays 75 = .ok (.goto 7, 3) := by decide +kernel
theorem dX12_findsWays_78 : decode cX12_findsWays 78 = .ok (.aload_n 0, 1) := by decide +kernel
theorem dX12_findsWays_79 : decode cX12_findsWays 79 = .ok (.getfield 110, 3) := by decide +kernel
theorem dX12_findsWays_82 : decode cX12_findsWays 82 = .ok (.putfield 110, 3) := by decide +kernel
theorem dX12_findsWays_85 : decode cX12_findsWays 85 = .ok (.aload_n 0, 1) := by decide +kernel
theorem dX12_findsWays_86 : decode cX12_findsWays 86 = .ok (.dup, 1) := by decide +kernel
theorem dX12_findsWays_87 : decode cX12_findsWays 87 = .ok (.getfield 113, 3) := by decide +kernel
theorem dX12_findsWays_90 : decode cX12_findsWays 90 = .ok (.iload_n 2, 1) := by decide +kernel
theorem dX12_findsWays_91 : decode cX12_findsWays 91 = .ok (.ior, 1) := by decide +kernel
theorem dX12_findsWays_92 : decode cX12_findsWays 92 = .ok (.putfield 113, 3) := by decide +kernel
theorem dX12_findsWays_95 : decode cX12_findsWays 95 = .ok (.aload_n 0, 1) := by decide +kernel
theorem dX12_findsWays_96 : decode cX12_findsWays 96 = .ok (.dup, 1) := by decide +kernel
theorem dX12_findsWays_97 : decode cX12_findsWays 97 = .ok (.getfield 116, 3) := by decide +kernel
theorem dX12_findsWays_100 : decode cX12_findsWays 100 = .ok (.iload_n 2, 1) := by decide +kernel
theorem dX12_findsWays_101 : decode cX12_findsWays 101 = .ok (.iand, 1) := by decide +kernel
theorem dX12_findsWays_102 : decode cX12_findsWays 102 = .ok (.putfield 116, 3) := by decide +kernel
theorem dX12_findsWays_105 : decode cX12_findsWays 105 = .ok (.iinc 2 1, 3) := by decide +kernel
theorem dX12_findsWays_108 : decode cX12_findsWays 108 = .ok (.goto (-76), 3) := by decide +kernel
theorem dX12_findsWays_111 : decode cX12_findsWays 111 = .ok (.return_, 1) := by decide +kernel
theorem dX12_ways_0 : decode cX12_ways 0 = .ok (.aload_n 0, 1) := by decide +kernel
theorem dX12_ways_1 : decode cX12_ways 1 = .ok (.iload_n 1, 1) := by decide +kernel
theorem dX12_ways_2 : decode cX12_ways 2 = .ok (.invokevirtual 122, 3) := by decide +kernel
theorem dX12_ways_5 : decode cX12_ways 5 = .ok (.ifCond .ne 7, 3) := by decide +kernel
theorem dX12_ways_8 : decode cX12_ways 8 = .ok (.iconst (-1), 1) := by decide +kernel
theorem dX12_ways_9 : decode cX12_ways 9 = .ok (.goto 17, 3) := by decide +kernel
theorem dX12_ways_12 : decode cX12_ways 12 = .ok (.iload_n 2, 1) := by decide +kernel
theorem dX12_ways_13 : decode cX12_ways 13 = .ok (.iconst 2, 1) := by decide +kernel
theorem dX12_ways_14 : decode cX12_ways 14 = .ok (.invokestatic 31, 3) := by decide +kernel
theorem dX12_ways_17 : decode cX12_ways 17 = .ok (.ifCond .eq 7, 3) := by decide +kernel
theorem dX12_ways_20 : decode cX12_ways 20 = .ok (.iconst 0, 1) := by decide +kernel
theorem dX12_ways_21 : decode cX12_ways 21 = .ok (.goto 5, 3) := by decide +kernel
theorem dX12_ways_24 : decode cX12_ways 24 = .ok (.bipush (-2), 2) := by decide +kernel
theorem dX12_ways_26 : decode cX12_ways 26 = .ok (.istore_n 3, 1) := by decide +kernel
theorem dX12_ways_27 : decode cX12_ways 27 = .ok (.iload_n 3, 1) := by decide +kernel
theorem dX12_ways_28 : decode cX12_ways 28 = .ok (.ifCond .eq 9, 3) := by decide +kernel
theorem dX12_ways_31 : decode cX12_ways 31 = .ok (.aload_n 0, 1) := by decide +kernel
theorem dX12_ways_32 : decode cX12_ways 32 = .ok (.iload_n 3, 1) := by decide +kernel
theorem dX12_ways_33 : decode cX12_ways 33 = .ok (.invokevirtual 47, 3) := by decide +kernel
theorem dX12_ways_36 : decode cX12_ways 36 = .ok (.ireturn, 1) := by decide +kernel
theorem dX12_ways_37 : decode cX12_ways 37 = .ok (.aload_n 0, 1) := by decide +kernel
theorem dX12_ways_38 : decode cX12_ways 38 = .ok (.iload_n 1, 1) := by decide +kernel
theorem dX12_ways_39 : decode cX12_ways 39 = .ok (.invokevirtual 125, 3) := by decide +kernel
theorem dX12_ways_42 : decode cX12_ways 42 = .ok (.iload_n 2, 1) := by decide +kernel
theorem dX12_ways_43 : decode cX12_ways 43 = .ok (.ifCond .ne 10, 3) := by decide +kernel
theorem dX12_ways_46 : decode cX12_ways 46 = .ok (.aload_n 0, 1) := by decide +kernel
theorem dX12_ways_47 : decode cX12_ways 47 = .ok (.getfield 107, 3) := by decide +kernel
theorem dX12_ways_50 : decode cX12_ways 50 = .ok (.goto 7, 3) := by decide +kernel
theorem dX12_ways_53 : decode cX12_ways 53 = .ok (.aload_n 0, 1) := by decide +kernel
theorem dX12_ways_54 : decode cX12_ways 54 = .ok (.getfield 110, 3) := by decide +kernel
theorem dX12_ways_57 : decode cX12_ways 57 = .ok (.ireturn, 1) := by decide +kernel
theorem dX12_standingOf_0 : decode cX12_standingOf 0 = .ok (.aload_n 0, 1) := by decide +kernel
theorem dX12_standingOf_1 : decode cX12_standingOf 1 = .ok (.getfield 107, 3) := by decide +kernel
theorem dX12_standingOf_4 : decode cX12_standingOf 4 = .ok (.ifCond .ne 7, 3) := by decide +kernel
theorem dX12_standingOf_7 : decode cX12_standingOf 7 = .ok (.iconst 2, 1) := by decide +kernel
theorem dX12_standingOf_8 : decode cX12_standingOf 8 = .ok (.goto 35, 3) := by decide +kernel
theorem dX12_standingOf_11 : decode cX12_standingOf 11 = .ok (.aload_n 0, 1) := by decide +kernel
theorem dX12_standingOf_12 : decode cX12_standingOf 12 = .ok (.getfield 116, 3) := by decide +kernel
theorem dX12_standingOf_15 : decode cX12_standingOf 15 = .ok (.iload_n 1, 1) := by decide +kernel
theorem dX12_standingOf_16 : decode cX12_standingOf 16 = .ok (.ishr, 1) := by decide +kernel
theorem dX12_standingOf_17 : decode cX12_standingOf 17 = .ok (.iconst 1, 1) := by decide +kernel
theorem dX12_standingOf_18 : decode cX12_standingOf 18 = .ok (.iand, 1) := by decide +kernel
theorem dX12_standingOf_19 : decode cX12_standingOf 19 = .ok (.iconst 1, 1) := by decide +kernel
theorem dX12_standingOf_20 : decode cX12_standingOf 20 = .ok (.if_icmp .ne 7, 3) := by decide +kernel
theorem dX12_standingOf_23 : decode cX12_standingOf 23 = .ok (.iconst 1, 1) := by decide +kernel
theorem dX12_standingOf_24 : decode cX12_standingOf 24 = .ok (.goto 19, 3) := by decide +kernel
theorem dX12_standingOf_27 : decode cX12_standingOf 27 = .ok (.aload_n 0, 1) := by decide +kernel
theorem dX12_standingOf_28 : decode cX12_standingOf 28 = .ok (.getfield 113, 3) := by decide +kernel
theorem dX12_standingOf_31 : decode cX12_standingOf 31 = .ok (.iload_n 1, 1) := by decide +kernel
theorem dX12_standingOf_32 : decode cX12_standingOf 32 = .ok (.ishr, 1) := by decide +kernel
theorem dX12_standingOf_33 : decode cX12_standingOf 33 = .ok (.iconst 1, 1) := by decide +kernel
theorem dX12_standingOf_34 : decode cX12_standingOf 34 = .ok (.iand, 1) := by decide +kernel
theorem dX12_standingOf_35 : decode cX12_standingOf 35 = .ok (.ifCond .ne 7, 3) := by decide +kernel
theorem dX12_standingOf_38 : decode cX12_standingOf 38 = .ok (.iconst 0, 1) := by decide +kernel
theorem dX12_standingOf_39 : decode cX12_standingOf 39 = .ok (.goto 4, 3) := by decide +kernel
theorem dX12_standingOf_42 : decode cX12_standingOf 42 = .ok (.iconst 2, 1) := by decide +kernel
theorem dX12_standingOf_43 : decode cX12_standingOf 43 = .ok (.ireturn, 1) := by decide +kernel
theorem dX12_standing_0 : decode cX12_standing 0 = .ok (.aload_n 0, 1) := by decide +kernel
theorem dX12_standing_1 : decode cX12_standing 1 = .ok (.iload_n 1, 1) := by decide +kernel
theorem dX12_standing_2 : decode cX12_standing 2 = .ok (.invokevirtual 93, 3) := by decide +kernel
theorem dX12_standing_5 : decode cX12_standing 5 = .ok (.ifCond .eq 11, 3) := by decide +kernel
theorem dX12_standing_8 : decode cX12_standing 8 = .ok (.aload_n 0, 1) := by decide +kernel
theorem dX12_standing_9 : decode cX12_standing 9 = .ok (.iload_n 2, 1) := by decide +kernel
theorem dX12_standing_10 : decode cX12_standing 10 = .ok (.invokevirtual 122, 3) := by decide +kernel
theorem dX12_standing_13 : decode cX12_standing 13 = .ok (.ifCond .ne 9, 3) := by decide +kernel
theorem dX12_standing_16 : decode cX12_standing 16 = .ok (.aload_n 0, 1) := by decide +kernel
theorem dX12_standing_17 : decode cX12_standing 17 = .ok (.iconst (-1), 1) := by decide +kernel
theorem dX12_standing_18 : decode cX12_standing 18 = .ok (.invokevirtual 47, 3) := by decide +kernel
theorem dX12_standing_21 : decode cX12_standing 21 = .ok (.ireturn, 1) := by decide +kernel
theorem dX12_standing_22 : decode cX12_standing 22 = .ok (.aload_n 0, 1) := by decide +kernel
theorem dX12_standing_23 : decode cX12_standing 23 = .ok (.iload_n 2, 1) := by decide +kernel
theorem dX12_standing_24 : decode cX12_standing 24 = .ok (.invokevirtual 125, 3) := by decide +kernel
theorem dX12_standing_27 : decode cX12_standing 27 = .ok (.aload_n 0, 1) := by decide +kernel
theorem dX12_standing_28 : decode cX12_standing 28 = .ok (.iload_n 1, 1) := by decide +kernel
theorem dX12_standing_29 : decode cX12_standing 29 = .ok (.invokevirtual 129, 3) := by decide +kernel
theorem dX12_standing_32 : decode cX12_standing 32 = .ok (.ireturn, 1) := by decide +kernel
theorem dX12_purseOf_0 : decode cX12_purseOf 0 = .ok (.aload_n 0, 1) := by decide +kernel
theorem dX12_purseOf_1 : decode cX12_purseOf 1 = .ok (.iload_n 2, 1) := by decide +kernel
theorem dX12_purseOf_2 : decode cX12_purseOf 2 = .ok (.invokevirtual 125, 3) := by decide +kernel
theorem dX12_purseOf_5 : decode cX12_purseOf 5 = .ok (.iconst 0, 1) := by decide +kernel
theorem dX12_purseOf_6 : decode cX12_purseOf 6 = .ok (.istore_n 3, 1) := by decide +kernel
theorem dX12_purseOf_7 : decode cX12_purseOf 7 = .ok (.iconst 0, 1) := by decide +kernel
theorem dX12_purseOf_8 : decode cX12_purseOf 8 = .ok (.istore 4, 2) := by decide +kernel
theorem dX12_purseOf_10 : decode cX12_purseOf 10 = .ok (.iload 4, 2) := by decide +kernel
theorem dX12_purseOf_12 : decode cX12_purseOf 12 = .ok (.aload_n 0, 1) := by decide +kernel
theorem dX12_purseOf_13 : decode cX12_purseOf 13 = .ok (.getfield 13, 3) := by decide +kernel
theorem dX12_purseOf_16 : decode cX12_purseOf 16 = .ok (.iconst 1, 1) := by decide +kernel
theorem dX12_purseOf_17 : decode cX12_purseOf 17 = .ok (.iaload, 1) := by decide +kernel
theorem dX12_purseOf_18 : decode cX12_purseOf 18 = .ok (.if_icmp .ge 101, 3) := by decide +kernel
theorem dX12_purseOf_21 : decode cX12_purseOf 21 = .ok (.aload_n 0, 1) := by decide +kernel
theorem dX12_purseOf_22 : decode cX12_purseOf 22 = .ok (.iload 4, 2) := by decide +kernel
theorem dX12_purseOf_24 : decode cX12_purseOf 24 = .ok (.iconst 5, 1) := by decide +kernel
theorem dX12_purseOf_25 : decode cX12_purseOf 25 = .ok (.invokevirtual 96, 3) := by decide +kernel
theorem dX12_purseOf_28 : decode cX12_purseOf 28 = .ok (.iload_n 1, 1) := by decide +kernel
theorem dX12_purseOf_29 : decode cX12_purseOf 29 = .ok (.if_icmp .ne 7, 3) := by decide +kernel
theorem dX12_purseOf_32 : decode cX12_purseOf 32 = .ok (.iconst 1, 1) := by decide +kernel
theorem dX12_purseOf_33 : decode cX12_purseOf 33 = .ok (.goto 20, 3) := by decide +kernel
theorem dX12_purseOf_36 : decode cX12_purseOf 36 = .ok (.aload_n 0, 1) := by decide +kernel
theorem dX12_purseOf_37 : decode cX12_purseOf 37 = .ok (.iload 4, 2) := by decide +kernel
theorem dX12_purseOf_39 : decode cX12_purseOf 39 = .ok (.bipush 6, 2) := by decide +kernel
theorem dX12_purseOf_41 : decode cX12_purseOf 41 = .ok (.invokevirtual 96, 3) := by decide +kernel
theorem dX12_purseOf_44 : decode cX12_purseOf 44 = .ok (.iload_n 1, 1) := by decide +kernel
theorem dX12_purseOf_45 : decode cX12_purseOf 45 = .ok (.if_icmp .ne 7, 3) := by decide +kernel
theorem dX12_purseOf_48 : decode cX12_purseOf 48 = .ok (.iconst (-1), 1) := by decide +kernel
theorem dX12_purseOf_49 : decode cX12_purseOf 49 = .ok (.goto 4, 3) := by decide +kernel
theorem dX12_purseOf_52 : decode cX12_purseOf 52 = .ok (.iconst 0, 1) := by decide +kernel
theorem dX12_purseOf_53 : decode cX12_purseOf 53 = .ok (.istore 5, 2) := by decide +kernel
theorem dX12_purseOf_55 : decode cX12_purseOf 55 = .ok (.aload_n 0, 1) := by decide +kernel
theorem dX12_purseOf_56 : decode cX12_purseOf 56 = .ok (.iload 4, 2) := by decide +kernel
theorem dX12_purseOf_58 : decode cX12_purseOf 58 = .ok (.invokevirtual 129, 3) := by decide +kernel
theorem dX12_purseOf_61 : decode cX12_purseOf 61 = .ok (.istore 6, 2) := by decide +kernel
theorem dX12_purseOf_63 : decode cX12_purseOf 63 = .ok (.iload_n 3, 1) := by decide +kernel
theorem dX12_purseOf_64 : decode cX12_purseOf 64 = .ok (.iload 6, 2) := by decide +kernel
theorem dX12_purseOf_66 : decode cX12_purseOf 66 = .ok (.iconst 1, 1) := by decide +kernel
theorem dX12_purseOf_67 : decode cX12_purseOf 67 = .ok (.if_icmp .ne 24, 3) := by decide +kernel
theorem dX12_purseOf_70 : decode cX12_purseOf 70 = .ok (.iload 5, 2) := by decide +kernel
theorem dX12_purseOf_72 : decode cX12_purseOf 72 = .ok (.aload_n 0, 1) := by decide +kernel
theorem dX12_purseOf_73 : decode cX12_purseOf 73 = .ok (.iload 4, 2) := by decide +kernel
theorem dX12_purseOf_75 : decode cX12_purseOf 75 = .ok (.iconst 3, 1) := by decide +kernel
theorem dX12_purseOf_76 : decode cX12_purseOf 76 = .ok (.invokevirtual 96, 3) := by decide +kernel
theorem dX12_purseOf_79 : decode cX12_purseOf 79 = .ok (.imul, 1) := by decide +kernel
theorem dX12_purseOf_80 : decode cX12_purseOf 80 = .ok (.aload_n 0, 1) := by decide +kernel
theorem dX12_purseOf_81 : decode cX12_purseOf 81 = .ok (.iload 4, 2) := by decide +kernel
theorem dX12_purseOf_83 : decode cX12_purseOf 83 = .ok (.iconst 4, 1) := by decide +kernel
theorem dX12_purseOf_84 : decode cX12_purseOf 84 = .ok (.invokevirtual 96, 3) := by decide +kernel
theorem dX12_purseOf_87 : decode cX12_purseOf 87 = .ok (.imul, 1) := by decide +kernel
theorem dX12_purseOf_88 : decode cX12_purseOf 88 = .ok (.goto 23, 3) := by decide +kernel
theorem dX12_purseOf_91 : decode cX12_purseOf 91 = .ok (.iload 6, 2) := by decide +kernel
theorem dX12_purseOf_93 : decode cX12_purseOf 93 = .ok (.ifCond .ne 17, 3) := by decide +kernel
theorem dX12_purseOf_96 : decode cX12_purseOf 96 = .ok (.iload 5, 2) := by decide +kernel
theorem dX12_purseOf_98 : decode cX12_purseOf 98 = .ok (.ineg, 1) := by decide +kernel
theorem dX12_purseOf_99 : decode cX12_purseOf 99 = .ok (.aload_n 0, 1) := by decide +kernel
theorem dX12_purseOf_100 : decode cX12_purseOf 100 = .ok (.iload 4, 2) := by decide +kernel
theorem dX12_purseOf_102 : decode cX12_purseOf 102 = .ok (.iconst 3, 1) := by decide +kernel
theorem dX12_purseOf_103 : decode cX12_purseOf 103 = .ok (.invokevirtual 96, 3) := by decide +kernel
theorem dX12_purseOf_106 : decode cX12_purseOf 106 = .ok (.imul, 1) := by decide +kernel
theorem dX12_purseOf_107 : decode cX12_purseOf 107 = .ok (.goto 4, 3) := by decide +kernel
theorem dX12_purseOf_110 : decode cX12_purseOf 110 = .ok (.iconst 0, 1) := by decide +kernel
theorem dX12_purseOf_111 : decode cX12_purseOf 111 = .ok (.iadd, 1) := by decide +kernel
theorem dX12_purseOf_112 : decode cX12_purseOf 112 = .ok (.istore_n 3, 1) := by decide +kernel
theorem dX12_purseOf_113 : decode cX12_purseOf 113 = .ok (.iinc 4 1, 3) := by decide +kernel
theorem dX12_purseOf_116 : decode cX12_purseOf 116 = .ok (.goto (-106), 3) := by decide +kernel
theorem dX12_purseOf_119 : decode cX12_purseOf 119 = .ok (.iload_n 3, 1) := by decide +kernel
theorem dX12_purseOf_120 : decode cX12_purseOf 120 = .ok (.ireturn, 1) := by decide +kernel
theorem dX12_purse_0 : decode cX12_purse 0 = .ok (.iload_n 1, 1) := by decide +kernel
theorem dX12_purse_1 : decode cX12_purse 1 = .ok (.invokestatic 77, 3) := by decide +kernel
theorem dX12_purse_4 : decode cX12_purse 4 = .ok (.ifCond .eq 20, 3) := by decide +kernel
theorem dX12_purse_7 : decode cX12_purse 7 = .ok (.aload_n 0, 1) := by decide +kernel
theorem dX12_purse_8 : decode cX12_purse 8 = .ok (.iload_n 2, 1) := by decide +kernel
theorem dX12_purse_9 : decode cX12_purse 9 = .ok (.invokevirtual 122, 3) := by decide +kernel
theorem dX12_purse_12 : decode cX12_purse 12 = .ok (.ifCond .eq 12, 3) := by decide +kernel
theorem dX12_purse_15 : decode cX12_purse 15 = .ok (.aload_n 0, 1) := by decide +kernel
theorem dX12_purse_16 : decode cX12_purse 16 = .ok (.iload_n 1, 1) := by decide +kernel
theorem dX12_purse_17 : decode cX12_purse 17 = .ok (.iload_n 2, 1) := by decide +kernel
theorem dX12_purse_18 : decode cX12_purse 18 = .ok (.invokevirtual 132, 3) := by decide +kernel
theorem dX12_purse_21 : decode cX12_purse 21 = .ok (.goto 11, 3) := by decide +kernel
theorem dX12_purse_24 : decode cX12_purse 24 = .ok (.ldc 135, 2) := by decide +kernel
theorem dX12_purse_26 : decode cX12_purse 26 = .ok (.aload_n 0, 1) := by decide +kernel
theorem dX12_purse_27 : decode cX12_purse 27 = .ok (.iconst (-1), 1) := by decide +kernel
theorem dX12_purse_28 : decode cX12_purse 28 = .ok (.invokevirtual 47, 3) := by decide +kernel
theorem dX12_purse_31 : decode cX12_purse 31 = .ok (.isub, 1) := by decide +kernel
theorem dX12_purse_32 : decode cX12_purse 32 = .ok (.ireturn, 1) := by decide +kernel
theorem dX12_weightOf_0 : decode cX12_weightOf 0 = .ok (.lconst 1, 1) := by decide +kernel
theorem dX12_weightOf_1 : decode cX12_weightOf 1 = .ok (.lstore_n 2, 1) := by decide +kernel
theorem dX12_weightOf_2 : decode cX12_weightOf 2 = .ok (.iconst 0, 1) := by decide +kernel
theorem dX12_weightOf_3 : decode cX12_weightOf 3 = .ok (.istore 4, 2) := by decide +kernel
theorem dX12_weightOf_5 : decode cX12_weightOf 5 = .ok (.iload 4, 2) := by decide +kernel
theorem dX12_weightOf_7 : decode cX12_weightOf 7 = .ok (.aload_n 0, 1) := by decide +kernel
theorem dX12_weightOf_8 : decode cX12_weightOf 8 = .ok (.getfield 13, 3) := by decide +kernel
theorem dX12_weightOf_11 : decode cX12_weightOf 11 = .ok (.iconst 0, 1) := by decide +kernel
theorem dX12_weightOf_12 : decode cX12_weightOf 12 = .ok (.iaload, 1) := by decide +kernel
theorem dX12_weightOf_13 : decode cX12_weightOf 13 = .ok (.if_icmp .ge 48, 3) := by decide +kernel
theorem dX12_weightOf_16 : decode cX12_weightOf 16 = .ok (.lload_n 2, 1) := by decide +kernel
theorem dX12_weightOf_17 : decode cX12_weightOf 17 = .ok (.iload_n 1, 1) := by decide +kernel
theorem dX12_weightOf_18 : decode cX12_weightOf 18 = .ok (.iload 4, 2) := by decide +kernel
theorem dX12_weightOf_20 : decode cX12_weightOf 20 = .ok (.ishr, 1) := by decide +kernel
theorem dX12_weightOf_21 : decode cX12_weightOf 21 = .ok (.iconst 1, 1) := by decide +kernel
theorem dX12_weightOf_22 : decode cX12_weightOf 22 = .ok (.iand, 1) := by decide +kernel
theorem dX12_weightOf_23 : decode cX12_weightOf 23 = .ok (.iconst 1, 1) := by decide +kernel
theorem dX12_weightOf_24 : decode cX12_weightOf 24 = .ok (.if_icmp .ne 16, 3) := by decide +kernel
theorem dX12_weightOf_27 : decode cX12_weightOf 27 = .ok (.aload_n 0, 1) := by decide +kernel
theorem dX12_weightOf_28 : decode cX12_weightOf 28 = .ok (.getfield 13, 3) := by decide +kernel
theorem dX12_weightOf_31 : decode cX12_weightOf 31 = .ok (.iconst 2, 1) := by decide +kernel
theorem dX12_weightOf_32 : decode cX12_weightOf 32 = .ok (.iload 4, 2) := by decide +kernel
theorem dX12_weightOf_34 : decode cX12_weightOf 34 = .ok (.iadd, 1) := by decide +kernel
theorem dX12_weightOf_35 : decode cX12_weightOf 35 = .ok (.iaload, 1) := by decide +kernel
theorem dX12_weightOf_36 : decode cX12_weightOf 36 = .ok (.i2l, 1) := by decide +kernel
theorem dX12_weightOf_37 : decode cX12_weightOf 37 = .ok (.goto 16, 3) := by decide +kernel
theorem dX12_weightOf_40 : decode cX12_weightOf 40 = .ok (.bipush 100, 2) := by decide +kernel
theorem dX12_weightOf_42 : decode cX12_weightOf 42 = .ok (.aload_n 0, 1) := by decide +kernel
theorem dX12_weightOf_43 : decode cX12_weightOf 43 = .ok (.getfield 13, 3) := by decide +kernel
theorem dX12_weightOf_46 : decode cX12_weightOf 46 = .ok (.iconst 2, 1) := by decide +kernel
theorem dX12_weightOf_47 : decode cX12_weightOf 47 = .ok (.iload 4, 2) := by decide +kernel
theorem dX12_weightOf_49 : decode cX12_weightOf 49 = .ok (.iadd, 1) := by decide +kernel
theorem dX12_weightOf_50 : decode cX12_weightOf 50 = .ok (.iaload, 1) := by decide +kernel
theorem dX12_weightOf_51 : decode cX12_weightOf 51 = .ok (.isub, 1) := by decide +kernel
theorem dX12_weightOf_52 : decode cX12_weightOf 52 = .ok (.i2l, 1) := by decide +kernel
theorem dX12_weightOf_53 : decode cX12_weightOf 53 = .ok (.lmul, 1) := by decide +kernel
theorem dX12_weightOf_54 : decode cX12_weightOf 54 = .ok (.lstore_n 2, 1) := by decide +kernel
theorem dX12_weightOf_55 : decode cX12_weightOf 55 = .ok (.iinc 4 1, 3) := by decide +kernel
theorem dX12_weightOf_58 : decode cX12_weightOf 58 = .ok (.goto (-53), 3) := by decide +kernel
theorem dX12_weightOf_61 : decode cX12_weightOf 61 = .ok (.lload_n 2, 1) := by decide +kernel
theorem dX12_weightOf_62 : decode cX12_weightOf 62 = .ok (.lreturn, 1) := by decide +kernel
theorem dX12_wholeWeight_0 : decode cX12_wholeWeight 0 = .ok (.lconst 1, 1) := by decide +kernel
theorem dX12_wholeWeight_1 : decode cX12_wholeWeight 1 = .ok (.lstore_n 1, 1) := by decide +kernel
theorem dX12_wholeWeight_2 : decode cX12_wholeWeight 2 = .ok (.iconst 0, 1) := by decide +kernel
theorem dX12_wholeWeight_3 : decode cX12_wholeWeight 3 = .ok (.istore_n 3, 1) := by decide +kernel
theorem dX12_wholeWeight_4 : decode cX12_wholeWeight 4 = .ok (.iload_n 3, 1) := by decide +kernel
theorem dX12_wholeWeight_5 : decode cX12_wholeWeight 5 = .ok (.aload_n 0, 1) := by decide +kernel
theorem dX12_wholeWeight_6 : decode cX12_wholeWeight 6 = .ok (.getfield 13, 3) := by decide +kernel
theorem dX12_wholeWeight_9 : decode cX12_wholeWeight 9 = .ok (.iconst 0, 1) := by decide +kernel
theorem dX12_wholeWeight_10 : decode cX12_wholeWeight 10 = .ok (.iaload, 1) := by decide +kernel
theorem dX12_wholeWeight_11 : decode cX12_wholeWeight 11 = .ok (.if_icmp .ge 15, 3) := by decide +kernel
theorem dX12_wholeWeight_14 : decode cX12_wholeWeight 14 = .ok (.lload_n 1, 1) := by decide +kernel
theorem dX12_wholeWeight_15 : decode cX12_wholeWeight 15 = .ok (.ldc2_w 136, 3) := by decide +kernel
theorem dX12_wholeWeight_18 : decode cX12_wholeWeight 18 = .ok (.lmul, 1) := by decide +kernel
theorem dX12_wholeWeight_19 : decode cX12_wholeWeight 19 = .ok (.lstore_n 1, 1) := by decide +kernel
theorem dX12_wholeWeight_20 : decode cX12_wholeWeight 20 = .ok (.iinc 3 1, 3) := by decide +kernel
theorem dX12_wholeWeight_23 : decode cX12_wholeWeight 23 = .ok (.goto (-19), 3) := by decide +kernel
theorem dX12_wholeWeight_26 : decode cX12_wholeWeight 26 = .ok (.lload_n 1, 1) := by decide +kernel
theorem dX12_wholeWeight_27 : decode cX12_wholeWeight 27 = .ok (.lreturn, 1) := by decide +kernel
theorem dX12_meanOf_0 : decode cX12_meanOf 0 = .ok (.lconst 0, 1) := by decide +kernel
theorem dX12_meanOf_1 : decode cX12_meanOf 1 = .ok (.lstore_n 2, 1) := by decide +kernel
theorem dX12_meanOf_2 : decode cX12_meanOf 2 = .ok (.iconst 0, 1) := by decide +kernel
theorem dX12_meanOf_3 : decode cX12_meanOf 3 = .ok (.istore 4, 2) := by decide +kernel
theorem dX12_meanOf_5 : decode cX12_meanOf 5 = .ok (.iload 4, 2) := by decide +kernel
theorem dX12_meanOf_7 : decode cX12_meanOf 7 = .ok (.aload_n 0, 1) := by decide +kernel
theorem dX12_meanOf_8 : decode cX12_meanOf 8 = .ok (.invokevirtual 35, 3) := by decide +kernel
theorem dX12_meanOf_11 : decode cX12_meanOf 11 = .ok (.if_icmp .ge 27, 3) := by decide +kernel
theorem dX12_meanOf_14 : decode cX12_meanOf 14 = .ok (.lload_n 2, 1) := by decide +kernel
theorem dX12_meanOf_15 : decode cX12_meanOf 15 = .ok (.aload_n 0, 1) := by decide +kernel
theorem dX12_meanOf_16 : decode cX12_meanOf 16 = .ok (.iload 4, 2) := by decide +kernel
theorem dX12_meanOf_18 : decode cX12_meanOf 18 = .ok (.invokevirtual 138, 3) := by decide +kernel
theorem dX12_meanOf_21 : decode cX12_meanOf 21 = .ok (.aload_n 0, 1) := by decide +kernel
theorem dX12_meanOf_22 : decode cX12_meanOf 22 = .ok (.iload_n 1, 1) := by decide +kernel
theorem dX12_meanOf_23 : decode cX12_meanOf 23 = .ok (.iload 4, 2) := by decide +kernel
theorem dX12_meanOf_25 : decode cX12_meanOf 25 = .ok (.invokevirtual 132, 3) := by decide +kernel
theorem dX12_meanOf_28 : decode cX12_meanOf 28 = .ok (.i2l, 1) := by decide +kernel
theorem dX12_meanOf_29 : decode cX12_meanOf 29 = .ok (.lmul, 1) := by decide +kernel
theorem dX12_meanOf_30 : decode cX12_meanOf 30 = .ok (.ladd, 1) := by decide +kernel
theorem dX12_meanOf_31 : decode cX12_meanOf 31 = .ok (.lstore_n 2, 1) := by decide +kernel
theorem dX12_meanOf_32 : decode cX12_meanOf 32 = .ok (.iinc 4 1, 3) := by decide +kernel
theorem dX12_meanOf_35 : decode cX12_meanOf 35 = .ok (.goto (-30), 3) := by decide +kernel
theorem dX12_meanOf_38 : decode cX12_meanOf 38 = .ok (.ldc2_w 136, 3) := by decide +kernel
theorem dX12_meanOf_41 : decode cX12_meanOf 41 = .ok (.lload_n 2, 1) := by decide +kernel
theorem dX12_meanOf_42 : decode cX12_meanOf 42 = .ok (.lmul, 1) := by decide +kernel
theorem dX12_meanOf_43 : decode cX12_meanOf 43 = .ok (.aload_n 0, 1) := by decide +kernel
theorem dX12_meanOf_44 : decode cX12_meanOf 44 = .ok (.invokevirtual 142, 3) := by decide +kernel
theorem dX12_meanOf_47 : decode cX12_meanOf 47 = .ok (.ldiv, 1) := by decide +kernel
theorem dX12_meanOf_48 : decode cX12_meanOf 48 = .ok (.l2i, 1) := by decide +kernel
theorem dX12_meanOf_49 : decode cX12_meanOf 49 = .ok (.ireturn, 1) := by decide +kernel
theorem dX12_mean_0 : decode cX12_mean 0 = .ok (.iload_n 1, 1) := by decide +kernel
theorem dX12_mean_1 : decode cX12_mean 1 = .ok (.invokestatic 77, 3) := by decide +kernel
theorem dX12_mean_4 : decode cX12_mean 4 = .ok (.ifCond .eq 11, 3) := by decide +kernel
theorem dX12_mean_7 : decode cX12_mean 7 = .ok (.aload_n 0, 1) := by decide +kernel
theorem dX12_mean_8 : decode cX12_mean 8 = .ok (.iload_n 1, 1) := by decide +kernel
theorem dX12_mean_9 : decode cX12_mean 9 = .ok (.invokevirtual 146, 3) := by decide +kernel
theorem dX12_mean_12 : decode cX12_mean 12 = .ok (.goto 11, 3) := by decide +kernel
theorem dX12_mean_15 : decode cX12_mean 15 = .ok (.ldc 135, 2) := by decide +kernel
theorem dX12_mean_17 : decode cX12_mean 17 = .ok (.aload_n 0, 1) := by decide +kernel
theorem dX12_mean_18 : decode cX12_mean 18 = .ok (.iconst (-1), 1) := by decide +kernel
theorem dX12_mean_19 : decode cX12_mean 19 = .ok (.invokevirtual 47, 3) := by decide +kernel
theorem dX12_mean_22 : decode cX12_mean 22 = .ok (.isub, 1) := by decide +kernel
theorem dX12_mean_23 : decode cX12_mean 23 = .ok (.ireturn, 1) := by decide +kernel
theorem dX12_worstEnd_0 : decode cX12_worstEnd 0 = .ok (.iconst 0, 1) := by decide +kernel
theorem dX12_worstEnd_1 : decode cX12_worstEnd 1 = .ok (.istore_n 2, 1) := by decide +kernel
theorem dX12_worstEnd_2 : decode cX12_worstEnd 2 = .ok (.iconst 1, 1) := by decide +kernel
theorem dX12_worstEnd_3 : decode cX12_worstEnd 3 = .ok (.istore_n 3, 1) := by decide +kernel
theorem dX12_worstEnd_4 : decode cX12_worstEnd 4 = .ok (.iload_n 3, 1) := by decide +kernel
theorem dX12_worstEnd_5 : decode cX12_worstEnd 5 = .ok (.aload_n 0, 1) := by decide +kernel
theorem dX12_worstEnd_6 : decode cX12_worstEnd 6 = .ok (.invokevirtual 35, 3) := by decide +kernel
theorem dX12_worstEnd_9 : decode cX12_worstEnd 9 = .ok (.if_icmp .ge 26, 3) := by decide +kernel
theorem dX12_worstEnd_12 : decode cX12_worstEnd 12 = .ok (.aload_n 0, 1) := by decide +kernel
theorem dX12_worstEnd_13 : decode cX12_worstEnd 13 = .ok (.iload_n 1, 1) := by decide +kernel
theorem dX12_worstEnd_14 : decode cX12_worstEnd 14 = .ok (.iload_n 3, 1) := by decide +kernel
theorem dX12_worstEnd_15 : decode cX12_worstEnd 15 = .ok (.invokevirtual 132, 3) := by decide +kernel
theorem dX12_worstEnd_18 : decode cX12_worstEnd 18 = .ok (.aload_n 0, 1) := by decide +kernel
theorem dX12_worstEnd_19 : decode cX12_worstEnd 19 = .ok (.iload_n 1, 1) := by decide +kernel
theorem dX12_worstEnd_20 : decode cX12_worstEnd 20 = .ok (.iload_n 2, 1) := by decide +kernel
theorem dX12_worstEnd_21 : decode cX12_worstEnd 21 = .ok (.invokevirtual 132, 3) := by decide +kernel
theorem dX12_worstEnd_24 : decode cX12_worstEnd 24 = .ok (.if_icmp .ge 5, 3) := by decide +kernel
theorem dX12_worstEnd_27 : decode cX12_worstEnd 27 = .ok (.iload_n 3, 1) := by decide +kernel
theorem dX12_worstEnd_28 : decode cX12_worstEnd 28 = .ok (.istore_n 2, 1) := by decide +kernel
theorem dX12_worstEnd_29 : decode cX12_worstEnd 29 = .ok (.iinc 3 1, 3) := by decide +kernel
theorem dX12_worstEnd_32 : decode cX12_worstEnd 32 = .ok (.goto (-28), 3) := by decide +kernel
theorem dX12_worstEnd_35 : decode cX12_worstEnd 35 = .ok (.iload_n 2, 1) := by decide +kernel
theorem dX12_worstEnd_36 : decode cX12_worstEnd 36 = .ok (.ireturn, 1) := by decide +kernel
theorem dX12_bestEnd_0 : decode cX12_bestEnd 0 = .ok (.iconst 0, 1) := by decide +kernel
theorem dX12_bestEnd_1 : decode cX12_bestEnd 1 = .ok (.istore_n 2, 1) := by decide +kernel
theorem dX12_bestEnd_2 : decode cX12_bestEnd 2 = .ok (.iconst 1, 1) := by decide +kernel
theorem dX12_bestEnd_3 : decode cX12_bestEnd 3 = .ok (.istore_n 3, 1) := by decide +kernel
theorem dX12_bestEnd_4 : decode cX12_bestEnd 4 = .ok (.iload_n 3, 1) := by decide +kernel
theorem dX12_bestEnd_5 : decode cX12_bestEnd 5 = .ok (.aload_n 0, 1) := by decide +kernel
theorem dX12_bestEnd_6 : decode cX12_bestEnd 6 = .ok (.invokevirtual 35, 3) := by decide +kernel
theorem dX12_bestEnd_9 : decode cX12_bestEnd 9 = .ok (.if_icmp .ge 26, 3) := by decide +kernel
theorem dX12_bestEnd_12 : decode cX12_bestEnd 12 = .ok (.aload_n 0, 1) := by decide +kernel
theorem dX12_bestEnd_13 : decode cX12_bestEnd 13 = .ok (.iload_n 1, 1) := by decide +kernel
theorem dX12_bestEnd_14 : decode cX12_bestEnd 14 = .ok (.iload_n 3, 1) := by decide +kernel
theorem dX12_bestEnd_15 : decode cX12_bestEnd 15 = .ok (.invokevirtual 132, 3) := by decide +kernel
theorem dX12_bestEnd_18 : decode cX12_bestEnd 18 = .ok (.aload_n 0, 1) := by decide +kernel
theorem dX12_bestEnd_19 : decode cX12_bestEnd 19 = .ok (.iload_n 1, 1) := by decide +kernel
theorem dX12_bestEnd_20 : decode cX12_bestEnd 20 = .ok (.iload_n 2, 1) := by decide +kernel
theorem dX12_bestEnd_21 : decode cX12_bestEnd 21 = .ok (.invokevirtual 132, 3) := by decide +kernel
theorem dX12_bestEnd_24 : decode cX12_bestEnd 24 = .ok (.if_icmp .le 5, 3) := by decide +kernel
theorem dX12_bestEnd_27 : decode cX12_bestEnd 27 = .ok (.iload_n 3, 1) := by decide +kernel
theorem dX12_bestEnd_28 : decode cX12_bestEnd 28 = .ok (.istore_n 2, 1) := by decide +kernel
theorem dX12_bestEnd_29 : decode cX12_bestEnd 29 = .ok (.iinc 3 1, 3) := by decide +kernel
theorem dX12_bestEnd_32 : decode cX12_bestEnd 32 = .ok (.goto (-28), 3) := by decide +kernel
theorem dX12_bestEnd_35 : decode cX12_bestEnd 35 = .ok (.iload_n 2, 1) := by decide +kernel
theorem dX12_bestEnd_36 : decode cX12_bestEnd 36 = .ok (.ireturn, 1) := by decide +kernel
theorem dX12_wrong_0 : decode cX12_wrong 0 = .ok (.iload_n 1, 1) := by decide +kernel
theorem dX12_wrong_1 : decode cX12_wrong 1 = .ok (.invokestatic 77, 3) := by decide +kernel
theorem dX12_wrong_4 : decode cX12_wrong 4 = .ok (.ifCond .ne 7, 3) := by decide +kernel
theorem dX12_wrong_7 : decode cX12_wrong 7 = .ok (.iconst (-1), 1) := by decide +kernel
theorem dX12_wrong_8 : decode cX12_wrong 8 = .ok (.goto 17, 3) := by decide +kernel
theorem dX12_wrong_11 : decode cX12_wrong 11 = .ok (.iload_n 2, 1) := by decide +kernel
theorem dX12_wrong_12 : decode cX12_wrong 12 = .ok (.iconst 2, 1) := by decide +kernel
theorem dX12_wrong_13 : decode cX12_wrong 13 = .ok (.invokestatic 31, 3) := by decide +kernel
theorem dX12_wrong_16 : decode cX12_wrong 16 = .ok (.ifCond .eq 7, 3) := by decide +kernel
theorem dX12_wrong_19 : decode cX12_wrong 19 = .ok (.iconst 0, 1) := by decide +kernel
theorem dX12_wrong_20 : decode cX12_wrong 20 = .ok (.goto 5, 3) := by decide +kernel
theorem dX12_wrong_23 : decode cX12_wrong 23 = .ok (.bipush (-2), 2) := by decide +kernel
theorem dX12_wrong_25 : decode cX12_wrong 25 = .ok (.ireturn, 1) := by decide +kernel
theorem dX12_worst_0 : decode cX12_worst 0 = .ok (.aload_n 0, 1) := by decide +kernel
theorem dX12_worst_1 : decode cX12_worst 1 = .ok (.iload_n 1, 1) := by decide +kernel
theorem dX12_worst_2 : decode cX12_worst 2 = .ok (.iload_n 2, 1) := by decide +kernel
theorem dX12_worst_3 : decode cX12_worst 3 = .ok (.invokevirtual 149, 3) := by decide +kernel
theorem dX12_worst_6 : decode cX12_worst 6 = .ok (.istore_n 3, 1) := by decide +kernel
theorem dX12_worst_7 : decode cX12_worst 7 = .ok (.iload_n 3, 1) := by decide +kernel
theorem dX12_worst_8 : decode cX12_worst 8 = .ok (.ifCond .eq 12, 3) := by decide +kernel
theorem dX12_worst_11 : decode cX12_worst 11 = .ok (.ldc 135, 2) := by decide +kernel
theorem dX12_worst_13 : decode cX12_worst 13 = .ok (.aload_n 0, 1) := by decide +kernel
theorem dX12_worst_14 : decode cX12_worst 14 = .ok (.iload_n 3, 1) := by decide +kernel
theorem dX12_worst_15 : decode cX12_worst 15 = .ok (.invokevirtual 47, 3) := by decide +kernel
theorem dX12_worst_18 : decode cX12_worst 18 = .ok (.isub, 1) := by decide +kernel
theorem dX12_worst_19 : decode cX12_worst 19 = .ok (.ireturn, 1) := by decide +kernel
theorem dX12_worst_20 : decode cX12_worst 20 = .ok (.aload_n 0, 1) := by decide +kernel
theorem dX12_worst_21 : decode cX12_worst 21 = .ok (.iload_n 1, 1) := by decide +kernel
theorem dX12_worst_22 : decode cX12_worst 22 = .ok (.invokevirtual 152, 3) := by decide +kernel
theorem dX12_worst_25 : decode cX12_worst 25 = .ok (.istore 4, 2) := by decide +kernel
theorem dX12_worst_27 : decode cX12_worst 27 = .ok (.iload_n 2, 1) := by decide +kernel
theorem dX12_worst_28 : decode cX12_worst 28 = .ok (.ifCond .ne 13, 3) := by decide +kernel
theorem dX12_worst_31 : decode cX12_worst 31 = .ok (.aload_n 0, 1) := by decide +kernel
theorem dX12_worst_32 : decode cX12_worst 32 = .ok (.iload_n 1, 1) := by decide +kernel
theorem dX12_worst_33 : decode cX12_worst 33 = .ok (.iload 4, 2) := by decide +kernel
theorem dX12_worst_35 : decode cX12_worst 35 = .ok (.invokevirtual 132, 3) := by decide +kernel
theorem dX12_worst_38 : decode cX12_worst 38 = .ok (.goto 5, 3) := by decide +kernel
theorem dX12_worst_41 : decode cX12_worst 41 = .ok (.iload 4, 2) := by decide +kernel
theorem dX12_worst_43 : decode cX12_worst 43 = .ok (.ireturn, 1) := by decide +kernel
theorem dX12_best_0 : decode cX12_best 0 = .ok (.aload_n 0, 1) := by decide +kernel
theorem dX12_best_1 : decode cX12_best 1 = .ok (.iload_n 1, 1) := by decide +kernel
theorem dX12_best_2 : decode cX12_best 2 = .ok (.iload_n 2, 1) := by decide +kernel
theorem dX12_best_3 : decode cX12_best 3 = .ok (.invokevirtual 149, 3) := by decide +kernel
theorem dX12_best_6 : decode cX12_best 6 = .ok (.istore_n 3, 1) := by decide +kernel
theorem dX12_best_7 : decode cX12_best 7 = .ok (.iload_n 3, 1) := by decide +kernel
theorem dX12_best_8 : decode cX12_best 8 = .ok (.ifCond .eq 12, 3) := by decide +kernel
theorem dX12_best_11 : decode cX12_best 11 = .ok (.ldc 135, 2) := by decide +kernel
theorem dX12_best_13 : decode cX12_best 13 = .ok (.aload_n 0, 1) := by decide +kernel
theorem dX12_best_14 : decode cX12_best 14 = .ok (.iload_n 3, 1) := by decide +kernel
theorem dX12_best_15 : decode cX12_best 15 = .ok (.invokevirtual 47, 3) := by decide +kernel
theorem dX12_best_18 : decode cX12_best 18 = .ok (.isub, 1) := by decide +kernel
theorem dX12_best_19 : decode cX12_best 19 = .ok (.ireturn, 1) := by decide +kernel
theorem dX12_best_20 : decode cX12_best 20 = .ok (.aload_n 0, 1) := by decide +kernel
theorem dX12_best_21 : decode cX12_best 21 = .ok (.iload_n 1, 1) := by decide +kernel
theorem dX12_best_22 : decode cX12_best 22 = .ok (.invokevirtual 155, 3) := by decide +kernel
theorem dX12_best_25 : decode cX12_best 25 = .ok (.istore 4, 2) := by decide +kernel
theorem dX12_best_27 : decode cX12_best 27 = .ok (.iload_n 2, 1) := by decide +kernel
theorem dX12_best_28 : decode cX12_best 28 = .ok (.ifCond .ne 13, 3) := by decide +kernel
theorem dX12_best_31 : decode cX12_best 31 = .ok (.aload_n 0, 1) := by decide +kernel
theorem dX12_best_32 : decode cX12_best 32 = .ok (.iload_n 1, 1) := by decide +kernel
theorem dX12_best_33 : decode cX12_best 33 = .ok (.iload 4, 2) := by decide +kernel
theorem dX12_best_35 : decode cX12_best 35 = .ok (.invokevirtual 132, 3) := by decide +kernel
theorem dX12_best_38 : decode cX12_best 38 = .ok (.goto 5, 3) := by decide +kernel
theorem dX12_best_41 : decode cX12_best 41 = .ok (.iload 4, 2) := by decide +kernel
theorem dX12_best_43 : decode cX12_best 43 = .ok (.ireturn, 1) := by decide +kernel
theorem dX12_sure_0 : decode cX12_sure 0 = .ok (.iload_n 1, 1) := by decide +kernel
theorem dX12_sure_1 : decode cX12_sure 1 = .ok (.invokestatic 77, 3) := by decide +kernel
theorem dX12_sure_4 : decode cX12_sure 4 = .ok (.ifCond .ne 9, 3) := by decide +kernel
theorem dX12_sure_7 : decode cX12_sure 7 = .ok (.aload_n 0, 1) := by decide +kernel
theorem dX12_sure_8 : decode cX12_sure 8 = .ok (.iconst (-1), 1) := by decide +kernel
theorem dX12_sure_9 : decode cX12_sure 9 = .ok (.invokevirtual 47, 3) := by decide +kernel
theorem dX12_sure_12 : decode cX12_sure 12 = .ok (.ireturn, 1) := by decide +kernel
theorem dX12_sure_13 : decode cX12_sure 13 = .ok (.aload_n 0, 1) := by decide +kernel
theorem dX12_sure_14 : decode cX12_sure 14 = .ok (.iload_n 1, 1) := by decide +kernel
theorem dX12_sure_15 : decode cX12_sure 15 = .ok (.aload_n 0, 1) := by decide +kernel
theorem dX12_sure_16 : decode cX12_sure 16 = .ok (.iload_n 1, 1) := by decide +kernel
theorem dX12_sure_17 : decode cX12_sure 17 = .ok (.invokevirtual 152, 3) := by decide +kernel
theorem dX12_sure_20 : decode cX12_sure 20 = .ok (.invokevirtual 132, 3) := by decide +kernel
theorem dX12_sure_23 : decode cX12_sure 23 = .ok (.ifCond .lt 20, 3) := by decide +kernel
theorem dX12_sure_26 : decode cX12_sure 26 = .ok (.aload_n 0, 1) := by decide +kernel
theorem dX12_sure_27 : decode cX12_sure 27 = .ok (.iload_n 1, 1) := by decide +kernel
theorem dX12_sure_28 : decode cX12_sure 28 = .ok (.aload_n 0, 1) := by decide +kernel
theorem dX12_sure_29 : decode cX12_sure 29 = .ok (.iload_n 1, 1) := by decide +kernel
theorem dX12_sure_30 : decode cX12_sure 30 = .ok (.invokevirtual 155, 3) := by decide +kernel
theorem dX12_sure_33 : decode cX12_sure 33 = .ok (.invokevirtual 132, 3) := by decide +kernel
theorem dX12_sure_36 : decode cX12_sure 36 = .ok (.ifCond .le 7, 3) := by decide +kernel
theorem dX12_sure_39 : decode cX12_sure 39 = .ok (.iconst 1, 1) := by decide +kernel
theorem dX12_sure_40 : decode cX12_sure 40 = .ok (.goto 4, 3) := by decide +kernel
theorem dX12_sure_43 : decode cX12_sure 43 = .ok (.iconst 0, 1) := by decide +kernel
theorem dX12_sure_44 : decode cX12_sure 44 = .ok (.ireturn, 1) := by decide +kernel
theorem dX12_likely_0 : decode cX12_likely 0 = .ok (.iload_n 1, 1) := by decide +kernel
theorem dX12_likely_1 : decode cX12_likely 1 = .ok (.invokestatic 77, 3) := by decide +kernel
theorem dX12_likely_4 : decode cX12_likely 4 = .ok (.ifCond .ne 9, 3) := by decide +kernel
theorem dX12_likely_7 : decode cX12_likely 7 = .ok (.aload_n 0, 1) := by decide +kernel
theorem dX12_likely_8 : decode cX12_likely 8 = .ok (.iconst (-1), 1) := by decide +kernel
theorem dX12_likely_9 : decode cX12_likely 9 = .ok (.invokevirtual 47, 3) := by decide +kernel
theorem dX12_likely_12 : decode cX12_likely 12 = .ok (.ireturn, 1) := by decide +kernel
theorem dX12_likely_13 : decode cX12_likely 13 = .ok (.lconst 0, 1) := by decide +kernel
theorem dX12_likely_14 : decode cX12_likely 14 = .ok (.lstore_n 2, 1) := by decide +kernel
theorem dX12_likely_15 : decode cX12_likely 15 = .ok (.iconst 0, 1) := by decide +kernel
theorem dX12_likely_16 : decode cX12_likely 16 = .ok (.istore 4, 2) := by decide +kernel
theorem dX12_likely_18 : decode cX12_likely 18 = .ok (.iload 4, 2) := by decide +kernel
theorem dX12_likely_20 : decode cX12_likely 20 = .ok (.aload_n 0, 1) := by decide +kernel
theorem dX12_likely_21 : decode cX12_likely 21 = .ok (.invokevirtual 35, 3) := by decide +kernel
theorem dX12_likely_24 : decode cX12_likely 24 = .ok (.if_icmp .ge 32, 3) := by decide +kernel
theorem dX12_likely_27 : decode cX12_likely 27 = .ok (.lload_n 2, 1) := by decide +kernel
theorem dX12_likely_28 : decode cX12_likely 28 = .ok (.aload_n 0, 1) := by decide +kernel
theorem dX12_likely_29 : decode cX12_likely 29 = .ok (.iload_n 1, 1) := by decide +kernel
theorem dX12_likely_30 : decode cX12_likely 30 = .ok (.iload 4, 2) := by decide +kernel
theorem dX12_likely_32 : decode cX12_likely 32 = .ok (.invokevirtual 132, 3) := by decide +kernel
theorem dX12_likely_35 : decode cX12_likely 35 = .ok (.ifCond .le 12, 3) := by decide +kernel
theorem dX12_likely_38 : decode cX12_likely 38 = .ok (.aload_n 0, 1) := by decide +kernel
theorem dX12_likely_39 : decode cX12_likely 39 = .ok (.iload 4, 2) := by decide +kernel
theorem dX12_likely_41 : decode cX12_likely 41 = .ok (.invokevirtual 138, 3) := by decide +kernel
theorem dX12_likely_44 : decode cX12_likely 44 = .ok (.goto 4, 3) := by decide +kernel
theorem dX12_likely_47 : decode cX12_likely 47 = .ok (.lconst 0, 1) := by decide +kernel
theorem dX12_likely_48 : decode cX12_likely 48 = .ok (.ladd, 1) := by decide +kernel
theorem dX12_likely_49 : decode cX12_likely 49 = .ok (.lstore_n 2, 1) := by decide +kernel
theorem dX12_likely_50 : decode cX12_likely 50 = .ok (.iinc 4 1, 3) := by decide +kernel
theorem dX12_likely_53 : decode cX12_likely 53 = .ok (.goto (-35), 3) := by decide +kernel
theorem dX12_likely_56 : decode cX12_likely 56 = .ok (.ldc2_w 136, 3) := by decide +kernel
theorem dX12_likely_59 : decode cX12_likely 59 = .ok (.lload_n 2, 1) := by decide +kernel
theorem dX12_likely_60 : decode cX12_likely 60 = .ok (.lmul, 1) := by decide +kernel
theorem dX12_likely_61 : decode cX12_likely 61 = .ok (.aload_n 0, 1) := by decide +kernel
theorem dX12_likely_62 : decode cX12_likely 62 = .ok (.invokevirtual 142, 3) := by decide +kernel
theorem dX12_likely_65 : decode cX12_likely 65 = .ok (.ldiv, 1) := by decide +kernel
theorem dX12_likely_66 : decode cX12_likely 66 = .ok (.l2i, 1) := by decide +kernel
theorem dX12_likely_67 : decode cX12_likely 67 = .ok (.ireturn, 1) := by decide +kernel
theorem dX12_voids_0 : decode cX12_voids 0 = .ok (.iconst 0, 1) := by decide +kernel
theorem dX12_voids_1 : decode cX12_voids 1 = .ok (.istore_n 1, 1) := by decide +kernel
theorem dX12_voids_2 : decode cX12_voids 2 = .ok (.iconst 0, 1) := by decide +kernel
theorem dX12_voids_3 : decode cX12_voids 3 = .ok (.istore_n 2, 1) := by decide +kernel
theorem dX12_voids_4 : decode cX12_voids 4 = .ok (.iload_n 2, 1) := by decide +kernel
theorem dX12_voids_5 : decode cX12_voids 5 = .ok (.aload_n 0, 1) := by decide +kernel
theorem dX12_voids_6 : decode cX12_voids 6 = .ok (.invokevirtual 35, 3) := by decide +kernel
theorem dX12_voids_9 : decode cX12_voids 9 = .ok (.if_icmp .ge 47, 3) := by decide +kernel
theorem dX12_voids_12 : decode cX12_voids 12 = .ok (.aload_n 0, 1) := by decide +kernel
theorem dX12_voids_13 : decode cX12_voids 13 = .ok (.iload_n 2, 1) := by decide +kernel
theorem dX12_voids_14 : decode cX12_voids 14 = .ok (.invokevirtual 125, 3) := by decide +kernel
theorem dX12_voids_17 : decode cX12_voids 17 = .ok (.iconst 0, 1) := by decide +kernel
theorem dX12_voids_18 : decode cX12_voids 18 = .ok (.istore_n 3, 1) := by decide +kernel
theorem dX12_voids_19 : decode cX12_voids 19 = .ok (.iload_n 3, 1) := by decide +kernel
theorem dX12_voids_20 : decode cX12_voids 20 = .ok (.aload_n 0, 1) := by decide +kernel
theorem dX12_voids_21 : decode cX12_voids 21 = .ok (.getfield 13, 3) := by decide +kernel
theorem dX12_voids_24 : decode cX12_voids 24 = .ok (.iconst 1, 1) := by decide +kernel
theorem dX12_voids_25 : decode cX12_voids 25 = .ok (.iaload, 1) := by decide +kernel
theorem dX12_voids_26 : decode cX12_voids 26 = .ok (.if_icmp .ge 24, 3) := by decide +kernel
theorem dX12_voids_29 : decode cX12_voids 29 = .ok (.aload_n 0, 1) := by decide +kernel
theorem dX12_voids_30 : decode cX12_voids 30 = .ok (.iload_n 3, 1) := by decide +kernel
theorem dX12_voids_31 : decode cX12_voids 31 = .ok (.invokevirtual 129, 3) := by decide +kernel
theorem dX12_voids_34 : decode cX12_voids 34 = .ok (.iconst 2, 1) := by decide +kernel
theorem dX12_voids_35 : decode cX12_voids 35 = .ok (.if_icmp .ne 9, 3) := by decide +kernel
theorem dX12_voids_38 : decode cX12_voids 38 = .ok (.iload_n 1, 1) := by decide +kernel
theorem dX12_voids_39 : decode cX12_voids 39 = .ok (.iconst 1, 1) := by decide +kernel
theorem dX12_voids_40 : decode cX12_voids 40 = .ok (.iload_n 3, 1) := by decide +kernel
theorem dX12_voids_41 : decode cX12_voids 41 = .ok (.ishl, 1) := by decide +kernel
theorem dX12_voids_42 : decode cX12_voids 42 = .ok (.ior, 1) := by decide +kernel
theorem dX12_voids_43 : decode cX12_voids 43 = .ok (.istore_n 1, 1) := by decide +kernel
theorem dX12_voids_44 : decode cX12_voids 44 = .ok (.iinc 3 1, 3) := by decide +kernel
theorem dX12_voids_47 : decode cX12_voids 47 = .ok (.goto (-28), 3) := by decide +kernel
theorem dX12_voids_50 : decode cX12_voids 50 = .ok (.iinc 2 1, 3) := by decide +kernel
theorem dX12_voids_53 : decode cX12_voids 53 = .ok (.goto (-49), 3) := by decide +kernel
theorem dX12_voids_56 : decode cX12_voids 56 = .ok (.iload_n 1, 1) := by decide +kernel
theorem dX12_voids_57 : decode cX12_voids 57 = .ok (.ireturn, 1) := by decide +kernel
theorem dX12_sparing_0 : decode cX12_sparing 0 = .ok (.iload_n 1, 1) := by decide +kernel
theorem dX12_sparing_1 : decode cX12_sparing 1 = .ok (.invokestatic 77, 3) := by decide +kernel
theorem dX12_sparing_4 : decode cX12_sparing 4 = .ok (.ifCond .ne 9, 3) := by decide +kernel
theorem dX12_sparing_7 : decode cX12_sparing 7 = .ok (.aload_n 0, 1) := by decide +kernel
theorem dX12_sparing_8 : decode cX12_sparing 8 = .ok (.iconst (-1), 1) := by decide +kernel
theorem dX12_sparing_9 : decode cX12_sparing 9 = .ok (.invokevirtual 47, 3) := by decide +kernel
theorem dX12_sparing_12 : decode cX12_sparing 12 = .ok (.ireturn, 1) := by decide +kernel
theorem dX12_sparing_13 : decode cX12_sparing 13 = .ok (.aload_n 0, 1) := by decide +kernel
theorem dX12_sparing_14 : decode cX12_sparing 14 = .ok (.iload_n 1, 1) := by decide +kernel
theorem dX12_sparing_15 : decode cX12_sparing 15 = .ok (.aload_n 0, 1) := by decide +kernel
theorem dX12_sparing_16 : decode cX12_sparing 16 = .ok (.iload_n 1, 1) := by decide +kernel
theorem dX12_sparing_17 : decode cX12_sparing 17 = .ok (.invokevirtual 152, 3) := by decide +kernel
theorem dX12_sparing_20 : decode cX12_sparing 20 = .ok (.invokevirtual 132, 3) := by decide +kernel
theorem dX12_sparing_23 : decode cX12_sparing 23 = .ok (.istore_n 2, 1) := by decide +kernel
theorem dX12_sparing_24 : decode cX12_sparing 24 = .ok (.bipush (-9), 2) := by decide +kernel
theorem dX12_sparing_26 : decode cX12_sparing 26 = .ok (.istore_n 3, 1) := by decide +kernel
theorem dX12_sparing_27 : decode cX12_sparing 27 = .ok (.iconst 0, 1) := by decide +kernel
theorem dX12_sparing_28 : decode cX12_sparing 28 = .ok (.istore 4, 2) := by decide +kernel
theorem dX12_sparing_30 : decode cX12_sparing 30 = .ok (.iload 4, 2) := by decide +kernel
theorem dX12_sparing_32 : decode cX12_sparing 32 = .ok (.aload_n 0, 1) := by decide +kernel
theorem dX12_sparing_33 : decode cX12_sparing 33 = .ok (.getfield 13, 3) := by decide +kernel
theorem dX12_sparing_36 : decode cX12_sparing 36 = .ok (.iconst 1, 1) := by decide +kernel
theorem dX12_sparing_37 : decode cX12_sparing 37 = .ok (.iaload, 1) := by decide +kernel
theorem dX12_sparing_38 : decode cX12_sparing 38 = .ok (.if_icmp .ge 111, 3) := by decide +kernel
theorem dX12_sparing_41 : decode cX12_sparing 41 = .ok (.aload_n 0, 1) := by decide +kernel
theorem dX12_sparing_42 : decode cX12_sparing 42 = .ok (.iload 4, 2) := by decide +kernel
theorem dX12_sparing_44 : decode cX12_sparing 44 = .ok (.iconst 5, 1) := by decide +kernel
theorem dX12_sparing_45 : decode cX12_sparing 45 = .ok (.invokevirtual 96, 3) := by decide +kernel
theorem dX12_sparing_48 : decode cX12_sparing 48 = .ok (.iload_n 1, 1) := by decide +kernel
theorem dX12_sparing_49 : decode cX12_sparing 49 = .ok (.if_icmp .eq 6, 3) := by decide +kernel
theorem dX12_sparing_52 : decode cX12_sparing 52 = .ok (.goto 91, 3) := by decide +kernel
theorem dX12_sparing_55 : decode cX12_sparing 55 = .ok (.bipush 10, 2) := by decide +kernel
theorem dX12_sparing_57 : decode cX12_sparing 57 = .ok (.bipush 7, 2) := by decide +kernel
theorem dX12_sparing_59 : decode cX12_sparing 59 = .ok (.iload 4, 2) := by decide +kernel
theorem dX12_sparing_61 : decode cX12_sparing 61 = .ok (.imul, 1) := by decide +kernel
theorem dX12_sparing_62 : decode cX12_sparing 62 = .ok (.iadd, 1) := by decide +kernel
theorem dX12_sparing_63 : decode cX12_sparing 63 = .ok (.iconst 3, 1) := by decide +kernel
theorem dX12_sparing_64 : decode cX12_sparing 64 = .ok (.iadd, 1) := by decide +kernel
theorem dX12_sparing_65 : decode cX12_sparing 65 = .ok (.istore 5, 2) := by decide +kernel
theorem dX12_sparing_67 : decode cX12_sparing 67 = .ok (.aload_n 0, 1) := by decide +kernel
theorem dX12_sparing_68 : decode cX12_sparing 68 = .ok (.getfield 13, 3) := by decide +kernel
theorem dX12_sparing_71 : decode cX12_sparing 71 = .ok (.iload 5, 2) := by decide +kernel
theorem dX12_sparing_73 : decode cX12_sparing 73 = .ok (.iaload, 1) := by decide +kernel
theorem dX12_sparing_74 : decode cX12_sparing 74 = .ok (.istore 6, 2) := by decide +kernel
theorem dX12_sparing_76 : decode cX12_sparing 76 = .ok (.iconst 0, 1) := by decide +kernel
theorem dX12_sparing_77 : decode cX12_sparing 77 = .ok (.istore 7, 2) := by decide +kernel
theorem dX12_sparing_79 : decode cX12_sparing 79 = .ok (.iload 7, 2) := by decide +kernel
theorem dX12_sparing_81 : decode cX12_sparing 81 = .ok (.bipush 99, 2) := by decide +kernel
theorem dX12_sparing_83 : decode cX12_sparing 83 = .ok (.if_icmp .gt 51, 3) := by decide +kernel
theorem dX12_sparing_86 : decode cX12_sparing 86 = .ok (.aload_n 0, 1) := by decide +kernel
theorem dX12_sparing_87 : decode cX12_sparing 87 = .ok (.getfield 13, 3) := by decide +kernel
theorem dX12_sparing_90 : decode cX12_sparing 90 = .ok (.iload 5, 2) := by decide +kernel
theorem dX12_sparing_92 : decode cX12_sparing 92 = .ok (.iload 7, 2) := by decide +kernel
theorem dX12_sparing_94 : decode cX12_sparing 94 = .ok (.iastore, 1) := by decide +kernel
theorem dX12_sparing_95 : decode cX12_sparing 95 = .ok (.aload_n 0, 1) := by decide +kernel
theorem dX12_sparing_96 : decode cX12_sparing 96 = .ok (.iload_n 1, 1) := by decide +kernel
theorem dX12_sparing_97 : decode cX12_sparing 97 = .ok (.aload_n 0, 1) := by decide +kernel
theorem dX12_sparing_98 : decode cX12_sparing 98 = .ok (.iload_n 1, 1) := by decide +kernel
theorem dX12_sparing_99 : decode cX12_sparing 99 = .ok (.invokevirtual 152, 3) := by decide +kernel
theorem dX12_sparing_102 : decode cX12_sparing 102 = .ok (.invokevirtual 132, 3) := by decide +kernel
theorem dX12_sparing_105 : decode cX12_sparing 105 = .ok (.istore 8, 2) := by decide +kernel
theorem dX12_sparing_107 : decode cX12_sparing 107 = .ok (.iload 8, 2) := by decide +kernel
theorem dX12_sparing_109 : decode cX12_sparing 109 = .ok (.iload_n 2, 1) := by decide +kernel
theorem dX12_sparing_110 : decode cX12_sparing 110 = .ok (.if_icmp .gt 6, 3) := by decide +kernel
theorem dX12_sparing_113 : decode cX12_sparing 113 = .ok (.goto 15, 3) := by decide +kernel
theorem dX12_sparing_116 : decode cX12_sparing 116 = .ok (.iload 8, 2) := by decide +kernel
theorem dX12_sparing_118 : decode cX12_sparing 118 = .ok (.istore_n 2, 1) := by decide +kernel
theorem dX12_sparing_119 : decode cX12_sparing 119 = .ok (.bipush 100, 2) := by decide +kernel
theorem dX12_sparing_121 : decode cX12_sparing 121 = .ok (.iload 4, 2) := by decide +kernel
theorem dX12_sparing_123 : decode cX12_sparing 123 = .ok (.imul, 1) := by decide +kernel
theorem dX12_sparing_124 : decode cX12_sparing 124 = .ok (.iload 7, 2) := by decide +kernel
theorem dX12_sparing_126 : decode cX12_sparing 126 = .ok (.iadd, 1) := by decide +kernel
theorem dX12_sparing_127 : decode cX12_sparing 127 = .ok (.istore_n 3, 1) := by decide +kernel
theorem dX12_sparing_128 : decode cX12_sparing 128 = .ok (.iinc 7 1, 3) := by decide +kernel
theorem dX12_sparing_131 : decode cX12_sparing 131 = .ok (.goto (-52), 3) := by decide +kernel
theorem dX12_sparing_134 : decode cX12_sparing 134 = .ok (.aload_n 0, 1) := by decide +kernel
theorem dX12_sparing_135 : decode cX12_sparing 135 = .ok (.getfield 13, 3) := by decide +kernel
theorem dX12_sparing_138 : decode cX12_sparing 138 = .ok (.iload 5, 2) := by decide +kernel
theorem dX12_sparing_140 : decode cX12_sparing 140 = .ok (.iload 6, 2) := by decide +kernel
theorem dX12_sparing_142 : decode cX12_sparing 142 = .ok (.iastore, 1) := by decide +kernel
theorem dX12_sparing_143 : decode cX12_sparing 143 = .ok (.iinc 4 1, 3) := by decide +kernel
theorem dX12_sparing_146 : decode cX12_sparing 146 = .ok (.goto (-116), 3) := by decide +kernel
theorem dX12_sparing_149 : decode cX12_sparing 149 = .ok (.iload_n 3, 1) := by decide +kernel
theorem dX12_sparing_150 : decode cX12_sparing 150 = .ok (.ireturn, 1) := by decide +kernel
theorem dX12_safeOdds_0 : decode cX12_safeOdds 0 = .ok (.aload_n 0, 1) := by decide +kernel
theorem dX12_safeOdds_1 : decode cX12_safeOdds 1 = .ok (.iload_n 1, 1) := by decide +kernel
theorem dX12_safeOdds_2 : decode cX12_safeOdds 2 = .ok (.invokevirtual 93, 3) := by decide +kernel
theorem dX12_safeOdds_5 : decode cX12_safeOdds 5 = .ok (.ifCond .ne 9, 3) := by decide +kernel
theorem dX12_safeOdds_8 : decode cX12_safeOdds 8 = .ok (.aload_n 0, 1) := by decide +kernel
theorem dX12_safeOdds_9 : decode cX12_safeOdds 9 = .ok (.iconst (-1), 1) := by decide +kernel
theorem dX12_safeOdds_10 : decode cX12_safeOdds 10 = .ok (.invokevirtual 47, 3) := by decide +kernel
theorem dX12_safeOdds_13 : decode cX12_safeOdds 13 = .ok (.ireturn, 1) := by decide +kernel
theorem dX12_safeOdds_14 : decode cX12_safeOdds 14 = .ok (.bipush 10, 2) := by decide +kernel
theorem dX12_safeOdds_16 : decode cX12_safeOdds 16 = .ok (.bipush 7, 2) := by decide +kernel
theorem dX12_safeOdds_18 : decode cX12_safeOdds 18 = .ok (.iload_n 1, 1) := by decide +kernel
theorem dX12_safeOdds_19 : decode cX12_safeOdds 19 = .ok (.imul, 1) := by decide +kernel
theorem dX12_safeOdds_20 : decode cX12_safeOdds 20 = .ok (.iadd, 1) := by decide +kernel
theorem dX12_safeOdds_21 : decode cX12_safeOdds 21 = .ok (.iconst 4, 1) := by decide +kernel
theorem dX12_safeOdds_22 : decode cX12_safeOdds 22 = .ok (.iadd, 1) := by decide +kernel
theorem dX12_safeOdds_23 : decode cX12_safeOdds 23 = .ok (.istore_n 2, 1) := by decide +kernel
theorem dX12_safeOdds_24 : decode cX12_safeOdds 24 = .ok (.aload_n 0, 1) := by decide +kernel
theorem dX12_safeOdds_25 : decode cX12_safeOdds 25 = .ok (.getfield 13, 3) := by decide +kernel
theorem dX12_safeOdds_28 : decode cX12_safeOdds 28 = .ok (.iload_n 2, 1) := by decide +kernel
theorem dX12_safeOdds_29 : decode cX12_safeOdds 29 = .ok (.iaload, 1) := by decide +kernel
theorem dX12_safeOdds_30 : decode cX12_safeOdds 30 = .ok (.istore_n 3, 1) := by decide +kernel
theorem dX12_safeOdds_31 : decode cX12_safeOdds 31 = .ok (.bipush (-9), 2) := by decide +kernel
theorem dX12_safeOdds_33 : decode cX12_safeOdds 33 = .ok (.istore 4, 2) := by decide +kernel
theorem dX12_safeOdds_35 : decode cX12_safeOdds 35 = .ok (.bipush 9, 2) := by decide +kernel
theorem dX12_safeOdds_37 : decode cX12_safeOdds 37 = .ok (.istore 5, 2) := by decide +kernel
theorem dX12_safeOdds_39 : decode cX12_safeOdds 39 = .ok (.iload 5, 2) := by decide +kernel
theorem dX12_safeOdds_41 : decode cX12_safeOdds 41 = .ok (.ifCond .lt 45, 3) := by decide +kernel
theorem dX12_safeOdds_44 : decode cX12_safeOdds 44 = .ok (.iload 4, 2) := by decide +kernel
theorem dX12_safeOdds_46 : decode cX12_safeOdds 46 = .ok (.ifCond .ge 40, 3) := by decide +kernel
theorem dX12_safeOdds_49 : decode cX12_safeOdds 49 = .ok (.aload_n 0, 1) := by decide +kernel
theorem dX12_safeOdds_50 : decode cX12_safeOdds 50 = .ok (.getfield 13, 3) := by decide +kernel
theorem dX12_safeOdds_53 : decode cX12_safeOdds 53 = .ok (.iload_n 2, 1) := by decide +kernel
theorem dX12_safeOdds_54 : decode cX12_safeOdds 54 = .ok (.iload 5, 2) := by decide +kernel
theorem dX12_safeOdds_56 : decode cX12_safeOdds 56 = .ok (.iastore, 1) := by decide +kernel
theorem dX12_safeOdds_57 : decode cX12_safeOdds 57 = .ok (.aload_n 0, 1) := by decide +kernel
theorem dX12_safeOdds_58 : decode cX12_safeOdds 58 = .ok (.aload_n 0, 1) := by decide +kernel
theorem dX12_safeOdds_59 : decode cX12_safeOdds 59 = .ok (.iload_n 1, 1) := by decide +kernel
theorem dX12_safeOdds_60 : decode cX12_safeOdds 60 = .ok (.bipush 6, 2) := by decide +kernel
theorem dX12_safeOdds_62 : decode cX12_safeOdds 62 = .ok (.invokevirtual 96, 3) := by decide +kernel
theorem dX12_safeOdds_65 : decode cX12_safeOdds 65 = .ok (.invokevirtual 146, 3) := by decide +kernel
theorem dX12_safeOdds_68 : decode cX12_safeOdds 68 = .ok (.ifCond .lt 8, 3) := by decide +kernel
theorem dX12_safeOdds_71 : decode cX12_safeOdds 71 = .ok (.iload 5, 2) := by decide +kernel
theorem dX12_safeOdds_73 : decode cX12_safeOdds 73 = .ok (.goto 5, 3) := by decide +kernel
theorem dX12_safeOdds_76 : decode cX12_safeOdds 76 = .ok (.bipush (-9), 2) := by decide +kernel
theorem dX12_safeOdds_78 : decode cX12_safeOdds 78 = .ok (.istore 4, 2) := by decide +kernel
theorem dX12_safeOdds_80 : decode cX12_safeOdds 80 = .ok (.iinc 5 (-1), 3) := by decide +kernel
theorem dX12_safeOdds_83 : decode cX12_safeOdds 83 = .ok (.goto (-44), 3) := by decide +kernel
theorem dX12_safeOdds_86 : decode cX12_safeOdds 86 = .ok (.aload_n 0, 1) := by decide +kernel
theorem dX12_safeOdds_87 : decode cX12_safeOdds 87 = .ok (.getfield 13, 3) := by decide +kernel
theorem dX12_safeOdds_90 : decode cX12_safeOdds 90 = .ok (.iload_n 2, 1) := by decide +kernel
theorem dX12_safeOdds_91 : decode cX12_safeOdds 91 = .ok (.iload_n 3, 1) := by decide +kernel
theorem dX12_safeOdds_92 : decode cX12_safeOdds 92 = .ok (.iastore, 1) := by decide +kernel
theorem dX12_safeOdds_93 : decode cX12_safeOdds 93 = .ok (.iload 4, 2) := by decide +kernel
theorem dX12_safeOdds_95 : decode cX12_safeOdds 95 = .ok (.ireturn, 1) := by decide +kernel
theorem dX12_host_0 : decode cX12_host 0 = .ok (.iconst 0, 1) := by decide +kernel
theorem dX12_host_1 : decode cX12_host 1 = .ok (.istore_n 1, 1) := by decide +kernel
theorem dX12_host_2 : decode cX12_host 2 = .ok (.iconst 1, 1) := by decide +kernel
theorem dX12_host_3 : decode cX12_host 3 = .ok (.istore_n 2, 1) := by decide +kernel
theorem dX12_host_4 : decode cX12_host 4 = .ok (.iload_n 2, 1) := by decide +kernel
theorem dX12_host_5 : decode cX12_host 5 = .ok (.iconst 4, 1) := by decide +kernel
theorem dX12_host_6 : decode cX12_host 6 = .ok (.if_icmp .ge 24, 3) := by decide +kernel
theorem dX12_host_9 : decode cX12_host 9 = .ok (.aload_n 0, 1) := by decide +kernel
theorem dX12_host_10 : decode cX12_host 10 = .ok (.iload_n 2, 1) := by decide +kernel
theorem dX12_host_11 : decode cX12_host 11 = .ok (.invokevirtual 146, 3) := by decide +kernel
theorem dX12_host_14 : decode cX12_host 14 = .ok (.aload_n 0, 1) := by decide +kernel
theorem dX12_host_15 : decode cX12_host 15 = .ok (.iload_n 1, 1) := by decide +kernel
theorem dX12_host_16 : decode cX12_host 16 = .ok (.invokevirtual 146, 3) := by decide +kernel
theorem dX12_host_19 : decode cX12_host 19 = .ok (.if_icmp .le 5, 3) := by decide +kernel
theorem dX12_host_22 : decode cX12_host 22 = .ok (.iload_n 2, 1) := by decide +kernel
theorem dX12_host_23 : decode cX12_host 23 = .ok (.istore_n 1, 1) := by decide +kernel
theorem dX12_host_24 : decode cX12_host 24 = .ok (.iinc 2 1, 3) := by decide +kernel
theorem dX12_host_27 : decode cX12_host 27 = .ok (.goto (-23), 3) := by decide +kernel
theorem dX12_host_30 : decode cX12_host 30 = .ok (.iload_n 1, 1) := by decide +kernel
theorem dX12_host_31 : decode cX12_host 31 = .ok (.ireturn, 1) := by decide +kernel
theorem dX12_sumOf_0 : decode cX12_sumOf 0 = .ok (.iconst 0, 1) := by decide +kernel
theorem dX12_sumOf_1 : decode cX12_sumOf 1 = .ok (.istore_n 3, 1) := by decide +kernel
theorem dX12_sumOf_2 : decode cX12_sumOf 2 = .ok (.iconst 0, 1) := by decide +kernel
theorem dX12_sumOf_3 : decode cX12_sumOf 3 = .ok (.istore 4, 2) := by decide +kernel
theorem dX12_sumOf_5 : decode cX12_sumOf 5 = .ok (.iload 4, 2) := by decide +kernel
theorem dX12_sumOf_7 : decode cX12_sumOf 7 = .ok (.iconst 4, 1) := by decide +kernel
theorem dX12_sumOf_8 : decode cX12_sumOf 8 = .ok (.if_icmp .ge 33, 3) := by decide +kernel
theorem dX12_sumOf_11 : decode cX12_sumOf 11 = .ok (.iload_n 3, 1) := by decide +kernel
theorem dX12_sumOf_12 : decode cX12_sumOf 12 = .ok (.iload_n 1, 1) := by decide +kernel
theorem dX12_sumOf_13 : decode cX12_sumOf 13 = .ok (.iload 4, 2) := by decide +kernel
theorem dX12_sumOf_15 : decode cX12_sumOf 15 = .ok (.ishr, 1) := by decide +kernel
theorem dX12_sumOf_16 : decode cX12_sumOf 16 = .ok (.iconst 1, 1) := by decide +kernel
theorem dX12_sumOf_17 : decode cX12_sumOf 17 = .ok (.iand, 1) := by decide +kernel
theorem dX12_sumOf_18 : decode cX12_sumOf 18 = .ok (.iconst 1, 1) := by decide +kernel
theorem dX12_sumOf_19 : decode cX12_sumOf 19 = .ok (.if_icmp .ne 13, 3) := by decide +kernel
theorem dX12_sumOf_22 : decode cX12_sumOf 22 = .ok (.aload_n 0, 1) := by decide +kernel
theorem dX12_sumOf_23 : decode cX12_sumOf 23 = .ok (.iload 4, 2) := by decide +kernel
theorem dX12_sumOf_25 : decode cX12_sumOf 25 = .ok (.iload_n 2, 1) := by decide +kernel
theorem dX12_sumOf_26 : decode cX12_sumOf 26 = .ok (.invokevirtual 132, 3) := by decide +kernel
theorem dX12_sumOf_29 : decode cX12_sumOf 29 = .ok (.goto 4, 3) := by decide +kernel
theorem dX12_sumOf_32 : decode cX12_sumOf 32 = .ok (.iconst 0, 1) := by decide +kernel
theorem dX12_sumOf_33 : decode cX12_sumOf 33 = .ok (.iadd, 1) := by decide +kernel
theorem dX12_sumOf_34 : decode cX12_sumOf 34 = .ok (.istore_n 3, 1) := by decide +kernel
theorem dX12_sumOf_35 : decode cX12_sumOf 35 = .ok (.iinc 4 1, 3) := by decide +kernel
theorem dX12_sumOf_38 : decode cX12_sumOf 38 = .ok (.goto (-33), 3) := by decide +kernel
theorem dX12_sumOf_41 : decode cX12_sumOf 41 = .ok (.iload_n 3, 1) := by decide +kernel
theorem dX12_sumOf_42 : decode cX12_sumOf 42 = .ok (.ireturn, 1) := by decide +kernel
theorem dX12_groups_0 : decode cX12_groups 0 = .ok (.iload_n 1, 1) := by decide +kernel
theorem dX12_groups_1 : decode cX12_groups 1 = .ok (.ifCond .ne 5, 3) := by decide +kernel
theorem dX12_groups_4 : decode cX12_groups 4 = .ok (.iconst 0, 1) := by decide +kernel
theorem dX12_groups_5 : decode cX12_groups 5 = .ok (.ireturn, 1) := by decide +kernel
theorem dX12_groups_6 : decode cX12_groups 6 = .ok (.iload_n 1, 1) := by decide +kernel
theorem dX12_groups_7 : decode cX12_groups 7 = .ok (.iload_n 1, 1) := by decide +kernel
theorem dX12_groups_8 : decode cX12_groups 8 = .ok (.ineg, 1) := by decide +kernel
theorem dX12_groups_9 : decode cX12_groups 9 = .ok (.iand, 1) := by decide +kernel
theorem dX12_groups_10 : decode cX12_groups 10 = .ok (.istore_n 3, 1) := by decide +kernel
theorem dX12_groups_11 : decode cX12_groups 11 = .ok (.iconst 1, 1) := by decide +kernel
theorem dX12_groups_12 : decode cX12_groups 12 = .ok (.istore 4, 2) := by decide +kernel
theorem dX12_groups_14 : decode cX12_groups 14 = .ok (.iload_n 1, 1) := by decide +kernel
theorem dX12_groups_15 : decode cX12_groups 15 = .ok (.istore 5, 2) := by decide +kernel
theorem dX12_groups_17 : decode cX12_groups 17 = .ok (.iload 5, 2) := by decide +kernel
theorem dX12_groups_19 : decode cX12_groups 19 = .ok (.ifCond .le 71, 3) := by decide +kernel
theorem dX12_groups_22 : decode cX12_groups 22 = .ok (.iload 5, 2) := by decide +kernel
theorem dX12_groups_24 : decode cX12_groups 24 = .ok (.iload_n 3, 1) := by decide +kernel
theorem dX12_groups_25 : decode cX12_groups 25 = .ok (.iand, 1) := by decide +kernel
theorem dX12_groups_26 : decode cX12_groups 26 = .ok (.ifCond .eq 53, 3) := by decide +kernel
theorem dX12_groups_29 : decode cX12_groups 29 = .ok (.iload 5, 2) := by decide +kernel
theorem dX12_groups_31 : decode cX12_groups 31 = .ok (.iload_n 1, 1) := by decide +kernel
theorem dX12_groups_32 : decode cX12_groups 32 = .ok (.if_icmp .eq 47, 3) := by decide +kernel
theorem dX12_groups_35 : decode cX12_groups 35 = .ok (.aload_n 0, 1) := by decide +kernel
theorem dX12_groups_36 : decode cX12_groups 36 = .ok (.iload 5, 2) := by decide +kernel
theorem dX12_groups_38 : decode cX12_groups 38 = .ok (.iload_n 2, 1) := by decide +kernel
theorem dX12_groups_39 : decode cX12_groups 39 = .ok (.invokevirtual 158, 3) := by decide +kernel
theorem dX12_groups_42 : decode cX12_groups 42 = .ok (.ifCond .eq 6, 3) := by decide +kernel
theorem dX12_groups_45 : decode cX12_groups 45 = .ok (.goto 34, 3) := by decide +kernel
theorem dX12_groups_48 : decode cX12_groups 48 = .ok (.iconst 1, 1) := by decide +kernel
theorem dX12_groups_49 : decode cX12_groups 49 = .ok (.aload_n 0, 1) := by decide +kernel
theorem dX12_groups_50 : decode cX12_groups 50 = .ok (.iload_n 1, 1) := by decide +kernel
theorem dX12_groups_51 : decode cX12_groups 51 = .ok (.iload 5, 2) := by decide +kernel
theorem dX12_groups_53 : decode cX12_groups 53 = .ok (.iconst (-1), 1) := by decide +kernel
theorem dX12_groups_54 : decode cX12_groups 54 = .ok (.ixor, 1) := by decide +kernel
theorem dX12_groups_55 : decode cX12_groups 55 = .ok (.iand, 1) := by decide +kernel
theorem dX12_groups_56 : decode cX12_groups 56 = .ok (.iload_n 2, 1) := by decide +kernel
theorem dX12_groups_57 : decode cX12_groups 57 = .ok (.invokevirtual 161, 3) := by decide +kernel
theorem dX12_groups_60 : decode cX12_groups 60 = .ok (.iadd, 1) := by decide +kernel
theorem dX12_groups_61 : decode cX12_groups 61 = .ok (.istore 6, 2) := by decide +kernel
theorem dX12_groups_63 : decode cX12_groups 63 = .ok (.iload 6, 2) := by decide +kernel
theorem dX12_groups_65 : decode cX12_groups 65 = .ok (.iload 4, 2) := by decide +kernel
theorem dX12_groups_67 : decode cX12_groups 67 = .ok (.if_icmp .le 8, 3) := by decide +kernel
theorem dX12_groups_70 : decode cX12_groups 70 = .ok (.iload 6, 2) := by decide +kernel
theorem dX12_groups_72 : decode cX12_groups 72 = .ok (.goto 5, 3) := by decide +kernel
theorem dX12_groups_75 : decode cX12_groups 75 = .ok (.iload 4, 2) := by decide +kernel
theorem dX12_groups_77 : decode cX12_groups 77 = .ok (.istore 4, 2) := by decide +kernel
theorem dX12_groups_79 : decode cX12_groups 79 = .ok (.iload 5, 2) := by decide +kernel
theorem dX12_groups_81 : decode cX12_groups 81 = .ok (.iconst 1, 1) := by decide +kernel
theorem dX12_groups_82 : decode cX12_groups 82 = .ok (.isub, 1) := by decide +kernel
theorem dX12_groups_83 : decode cX12_groups 83 = .ok (.iload_n 1, 1) := by decide +kernel
theorem dX12_groups_84 : decode cX12_groups 84 = .ok (.iand, 1) := by decide +kernel
theorem dX12_groups_85 : decode cX12_groups 85 = .ok (.istore 5, 2) := by decide +kernel
theorem dX12_groups_87 : decode cX12_groups 87 = .ok (.goto (-70), 3) := by decide +kernel
theorem dX12_groups_90 : decode cX12_groups 90 = .ok (.iload 4, 2) := by decide +kernel
theorem dX12_groups_92 : decode cX12_groups 92 = .ok (.ireturn, 1) := by decide +kernel
theorem dX12_settling_0 : decode cX12_settling 0 = .ok (.aload_n 0, 1) := by decide +kernel
theorem dX12_settling_1 : decode cX12_settling 1 = .ok (.iload_n 1, 1) := by decide +kernel
theorem dX12_settling_2 : decode cX12_settling 2 = .ok (.invokevirtual 122, 3) := by decide +kernel
theorem dX12_settling_5 : decode cX12_settling 5 = .ok (.ifCond .ne 9, 3) := by decide +kernel
theorem dX12_settling_8 : decode cX12_settling 8 = .ok (.aload_n 0, 1) := by decide +kernel
theorem dX12_settling_9 : decode cX12_settling 9 = .ok (.iconst (-1), 1) := by decide +kernel
theorem dX12_settling_10 : decode cX12_settling 10 = .ok (.invokevirtual 47, 3) := by decide +kernel
theorem dX12_settling_13 : decode cX12_settling 13 = .ok (.ireturn, 1) := by decide +kernel
theorem dX12_settling_14 : decode cX12_settling 14 = .ok (.iconst 0, 1) := by decide +kernel
theorem dX12_settling_15 : decode cX12_settling 15 = .ok (.istore_n 2, 1) := by decide +kernel
theorem dX12_settling_16 : decode cX12_settling 16 = .ok (.iconst 0, 1) := by decide +kernel
theorem dX12_settling_17 : decode cX12_settling 17 = .ok (.istore_n 3, 1) := by decide +kernel
theorem dX12_settling_18 : decode cX12_settling 18 = .ok (.iload_n 3, 1) := by decide +kernel
theorem dX12_settling_19 : decode cX12_settling 19 = .ok (.iconst 4, 1) := by decide +kernel
theorem dX12_settling_20 : decode cX12_settling 20 = .ok (.if_icmp .ge 28, 3) := by decide +kernel
theorem dX12_settling_23 : decode cX12_settling 23 = .ok (.iload_n 2, 1) := by decide +kernel
theorem dX12_settling_24 : decode cX12_settling 24 = .ok (.aload_n 0, 1) := by decide +kernel
theorem dX12_settling_25 : decode cX12_settling 25 = .ok (.iload_n 3, 1) := by decide +kernel
theorem dX12_settling_26 : decode cX12_settling 26 = .ok (.iload_n 1, 1) := by decide +kernel
theorem dX12_settling_27 : decode cX12_settling 27 = .ok (.invokevirtual 132, 3) := by decide +kernel
theorem dX12_settling_30 : decode cX12_settling 30 = .ok (.ifCond .eq 9, 3) := by decide +kernel
theorem dX12_settling_33 : decode cX12_settling 33 = .ok (.iconst 1, 1) := by decide +kernel
theorem dX12_settling_34 : decode cX12_settling 34 = .ok (.iload_n 3, 1) := by decide +kernel
theorem dX12_settling_35 : decode cX12_settling 35 = .ok (.ishl, 1) := by decide +kernel
theorem dX12_settling_36 : decode cX12_settling 36 = .ok (.goto 4, 3) := by decide +kernel
theorem dX12_settling_39 : decode cX12_settling 39 = .ok (.iconst 0, 1) := by decide +kernel
theorem dX12_settling_40 : decode cX12_settling 40 = .ok (.ior, 1) := by decide +kernel
theorem dX12_settling_41 : decode cX12_settling 41 = .ok (.istore_n 2, 1) := by decide +kernel
theorem dX12_settling_42 : decode cX12_settling 42 = .ok (.iinc 3 1, 3) := by decide +kernel
theorem dX12_settling_45 : decode cX12_settling 45 = .ok (.goto (-27), 3) := by decide +kernel
theorem dX12_settling_48 : decode cX12_settling 48 = .ok (.iload_n 2, 1) := by decide +kernel
theorem dX12_settling_49 : decode cX12_settling 49 = .ok (.invokestatic 164, 3) := by decide +kernel
theorem dX12_settling_52 : decode cX12_settling 52 = .ok (.aload_n 0, 1) := by decide +kernel
theorem dX12_settling_53 : decode cX12_settling 53 = .ok (.iload_n 2, 1) := by decide +kernel
theorem dX12_settling_54 : decode cX12_settling 54 = .ok (.iload_n 1, 1) := by decide +kernel
theorem dX12_settling_55 : decode cX12_settling 55 = .ok (.invokevirtual 161, 3) := by decide +kernel
theorem dX12_settling_58 : decode cX12_settling 58 = .ok (.isub, 1) := by decide +kernel
theorem dX12_settling_59 : decode cX12_settling 59 = .ok (.ireturn, 1) := by decide +kernel
theorem dX12_cannotPay_0 : decode cX12_cannotPay 0 = .ok (.aload_n 0, 1) := by decide +kernel
theorem dX12_cannotPay_1 : decode cX12_cannotPay 1 = .ok (.iload_n 1, 1) := by decide +kernel
theorem dX12_cannotPay_2 : decode cX12_cannotPay 2 = .ok (.invokevirtual 122, 3) := by decide +kernel
theorem dX12_cannotPay_5 : decode cX12_cannotPay 5 = .ok (.ifCond .ne 9, 3) := by decide +kernel
theorem dX12_cannotPay_8 : decode cX12_cannotPay 8 = .ok (.aload_n 0, 1) := by decide +kernel
theorem dX12_cannotPay_9 : decode cX12_cannotPay 9 = .ok (.iconst (-1), 1) := by decide +kernel
theorem dX12_cannotPay_10 : decode cX12_cannotPay 10 = .ok (.invokevirtual 47, 3) := by decide +kernel
theorem dX12_cannotPay_13 : decode cX12_cannotPay 13 = .ok (.ireturn, 1) := by decide +kernel
theorem dX12_cannotPay_14 : decode cX12_cannotPay 14 = .ok (.iconst 0, 1) := by decide +kernel
theorem dX12_cannotPay_15 : decode cX12_cannotPay 15 = .ok (.istore_n 2, 1) := by decide +kernel
theorem dX12_cannotPay_16 : decode cX12_cannotPay 16 = .ok (.iconst 0, 1) := by decide +kernel
theorem dX12_cannotPay_17 : decode cX12_cannotPay 17 = .ok (.istore_n 3, 1) := by decide +kernel
theorem dX12_cannotPay_18 : decode cX12_cannotPay 18 = .ok (.iload_n 3, 1) := by decide +kernel
theorem dX12_cannotPay_19 : decode cX12_cannotPay 19 = .ok (.iconst 4, 1) := by decide +kernel
theorem dX12_cannotPay_20 : decode cX12_cannotPay 20 = .ok (.if_icmp .ge 38, 3) := by decide +kernel
theorem dX12_cannotPay_23 : decode cX12_cannotPay 23 = .ok (.iload_n 2, 1) := by decide +kernel
theorem dX12_cannotPay_24 : decode cX12_cannotPay 24 = .ok (.aload_n 0, 1) := by decide +kernel
theorem dX12_cannotPay_25 : decode cX12_cannotPay 25 = .ok (.iload_n 3, 1) := by decide +kernel
theorem dX12_cannotPay_26 : decode cX12_cannotPay 26 = .ok (.iload_n 1, 1) := by decide +kernel
theorem dX12_cannotPay_27 : decode cX12_cannotPay 27 = .ok (.invokevirtual 132, 3) := by decide +kernel
theorem dX12_cannotPay_30 : decode cX12_cannotPay 30 = .ok (.ineg, 1) := by decide +kernel
theorem dX12_cannotPay_31 : decode cX12_cannotPay 31 = .ok (.aload_n 0, 1) := by decide +kernel
theorem dX12_cannotPay_32 : decode cX12_cannotPay 32 = .ok (.getfield 13, 3) := by decide +kernel
theorem dX12_cannotPay_35 : decode cX12_cannotPay 35 = .ok (.bipush 6, 2) := by decide +kernel
theorem dX12_cannotPay_37 : decode cX12_cannotPay 37 = .ok (.iload_n 3, 1) := by decide +kernel
theorem dX12_cannotPay_38 : decode cX12_cannotPay 38 = .ok (.iadd, 1) := by decide +kernel
theorem dX12_cannotPay_39 : decode cX12_cannotPay 39 = .ok (.iaload, 1) := by decide +kernel
theorem dX12_cannotPay_40 : decode cX12_cannotPay 40 = .ok (.if_icmp .le 9, 3) := by decide +kernel
theorem dX12_cannotPay_43 : decode cX12_cannotPay 43 = .ok (.iconst 1, 1) := by decide +kernel
theorem dX12_cannotPay_44 : decode cX12_cannotPay 44 = .ok (.iload_n 3, 1) := by decide +kernel
theorem dX12_cannotPay_45 : decode cX12_cannotPay 45 = .ok (.ishl, 1) := by decide +kernel
theorem dX12_cannotPay_46 : decode cX12_cannotPay 46 = .ok (.goto 4, 3) := by decide +kernel
theorem dX12_cannotPay_49 : decode cX12_cannotPay 49 = .ok (.iconst 0, 1) := by decide +kernel
theorem dX12_cannotPay_50 : decode cX12_cannotPay 50 = .ok (.ior, 1) := by decide +kernel
theorem dX12_cannotPay_51 : decode cX12_cannotPay 51 = .ok (.istore_n 2, 1) := by decide +kernel
theorem dX12_cannotPay_52 : decode cX12_cannotPay 52 = .ok (.iinc 3 1, 3) := by decide +kernel
theorem dX12_cannotPay_55 : decode cX12_cannotPay 55 = .ok (.goto (-37), 3) := by decide +kernel
theorem dX12_cannotPay_58 : decode cX12_cannotPay 58 = .ok (.iload_n 2, 1) := by decide +kernel
theorem dX12_cannotPay_59 : decode cX12_cannotPay 59 = .ok (.ireturn, 1) := by decide +kernel
theorem dX12_marked_0 : decode cX12_marked 0 = .ok (.iconst 0, 1) := by decide +kernel
theorem dX12_marked_1 : decode cX12_marked 1 = .ok (.istore_n 2, 1) := by decide +kernel
theorem dX12_marked_2 : decode cX12_marked 2 = .ok (.iconst 1, 1) := by decide +kernel
theorem dX12_marked_3 : decode cX12_marked 3 = .ok (.istore_n 3, 1) := by decide +kernel
theorem dX12_marked_4 : decode cX12_marked 4 = .ok (.iload_n 3, 1) := by decide +kernel
theorem dX12_marked_5 : decode cX12_marked 5 = .ok (.aload_n 0, 1) := by decide +kernel
theorem dX12_marked_6 : decode cX12_marked 6 = .ok (.iload_n 1, 1) := by decide +kernel
theorem dX12_marked_7 : decode cX12_marked 7 = .ok (.iconst 0, 1) := by decide +kernel
theorem dX12_marked_8 : decode cX12_marked 8 = .ok (.invokevirtual 96, 3) := by decide +kernel
theorem dX12_marked_11 : decode cX12_marked 11 = .ok (.iconst 2, 1) := by decide +kernel
theorem dX12_marked_12 : decode cX12_marked 12 = .ok (.if_icmp .ge 7, 3) := by decide +kernel
theorem dX12_marked_15 : decode cX12_marked 15 = .ok (.iconst 1, 1) := by decide +kernel
theorem dX12_marked_16 : decode cX12_marked 16 = .ok (.goto 4, 3) := by decide +kernel
theorem dX12_marked_19 : decode cX12_marked 19 = .ok (.iconst 2, 1) := by decide +kernel
theorem dX12_marked_20 : decode cX12_marked 20 = .ok (.if_icmp .gt 50, 3) := by decide +kernel
theorem dX12_marked_23 : decode cX12_marked 23 = .ok (.aload_n 0, 1) := by decide +kernel
theorem dX12_marked_24 : decode cX12_marked 24 = .ok (.iload_n 1, 1) := by decide +kernel
theorem dX12_marked_25 : decode cX12_marked 25 = .ok (.iload_n 3, 1) := by decide +kernel
theorem dX12_marked_26 : decode cX12_marked 26 = .ok (.invokevirtual 96, 3) := by decide +kernel
theorem dX12_marked_29 : decode cX12_marked 29 = .ok (.bipush 10, 2) := by decide +kernel
theorem dX12_marked_31 : decode cX12_marked 31 = .ok (.if_icmp .lt 33, 3) := by decide +kernel
theorem dX12_marked_34 : decode cX12_marked 34 = .ok (.aload_n 0, 1) := by decide +kernel
theorem dX12_marked_35 : decode cX12_marked 35 = .ok (.aload_n 0, 1) := by decide +kernel
theorem dX12_marked_36 : decode cX12_marked 36 = .ok (.iload_n 1, 1) := by decide +kernel
theorem dX12_marked_37 : decode cX12_marked 37 = .ok (.iload_n 3, 1) := by decide +kernel
theorem dX12_marked_38 : decode cX12_marked 38 = .ok (.invokevirtual 96, 3) := by decide +kernel
theorem dX12_marked_41 : decode cX12_marked 41 = .ok (.bipush 10, 2) := by decide +kernel
theorem dX12_marked_43 : decode cX12_marked 43 = .ok (.isub, 1) := by decide +kernel
theorem dX12_marked_44 : decode cX12_marked 44 = .ok (.invokevirtual 93, 3) := by decide +kernel
theorem dX12_marked_47 : decode cX12_marked 47 = .ok (.ifCond .eq 17, 3) := by decide +kernel
theorem dX12_marked_50 : decode cX12_marked 50 = .ok (.iload_n 2, 1) := by decide +kernel
theorem dX12_marked_51 : decode cX12_marked 51 = .ok (.iconst 1, 1) := by decide +kernel
theorem dX12_marked_52 : decode cX12_marked 52 = .ok (.aload_n 0, 1) := by decide +kernel
theorem dX12_marked_53 : decode cX12_marked 53 = .ok (.iload_n 1, 1) := by decide +kernel
theorem dX12_marked_54 : decode cX12_marked 54 = .ok (.iload_n 3, 1) := by decide +kernel
theorem dX12_marked_55 : decode cX12_marked 55 = .ok (.invokevirtual 96, 3) := by decide +kernel
theorem dX12_marked_58 : decode cX12_marked 58 = .ok (.bipush 10, 2) := by decide +kernel
theorem dX12_marked_60 : decode cX12_marked 60 = .ok (.isub, 1) := by decide +kernel
theorem dX12_marked_61 : decode cX12_marked 61 = .ok (.ishl, 1) := by decide +kernel
theorem dX12_marked_62 : decode cX12_marked 62 = .ok (.ior, 1) := by decide +kernel
theorem dX12_marked_63 : decode cX12_marked 63 = .ok (.istore_n 2, 1) := by decide +kernel
theorem dX12_marked_64 : decode cX12_marked 64 = .ok (.iinc 3 1, 3) := by decide +kernel
theorem dX12_marked_67 : decode cX12_marked 67 = .ok (.goto (-63), 3) := by decide +kernel
theorem dX12_marked_70 : decode cX12_marked 70 = .ok (.iload_n 2, 1) := by decide +kernel
theorem dX12_marked_71 : decode cX12_marked 71 = .ok (.ireturn, 1) := by decide +kernel
theorem dX12_rings_0 : decode cX12_rings 0 = .ok (.iconst 0, 1) := by decide +kernel
theorem dX12_rings_1 : decode cX12_rings 1 = .ok (.istore_n 1, 1) := by decide +kernel
theorem dX12_rings_2 : decode cX12_rings 2 = .ok (.iconst 0, 1) := by decide +kernel
theorem dX12_rings_3 : decode cX12_rings 3 = .ok (.istore_n 2, 1) := by decide +kernel
theorem dX12_rings_4 : decode cX12_rings 4 = .ok (.iload_n 2, 1) := by decide +kernel
theorem dX12_rings_5 : decode cX12_rings 5 = .ok (.aload_n 0, 1) := by decide +kernel
theorem dX12_rings_6 : decode cX12_rings 6 = .ok (.getfield 13, 3) := by decide +kernel
theorem dX12_rings_9 : decode cX12_rings 9 = .ok (.iconst 1, 1) := by decide +kernel
theorem dX12_rings_10 : decode cX12_rings 10 = .ok (.iaload, 1) := by decide +kernel
theorem dX12_rings_11 : decode cX12_rings 11 = .ok (.if_icmp .ge 78, 3) := by decide +kernel
theorem dX12_rings_14 : decode cX12_rings 14 = .ok (.aload_n 0, 1) := by decide +kernel
theorem dX12_rings_15 : decode cX12_rings 15 = .ok (.iload_n 2, 1) := by decide +kernel
theorem dX12_rings_16 : decode cX12_rings 16 = .ok (.invokevirtual 167, 3) := by decide +kernel
theorem dX12_rings_19 : decode cX12_rings 19 = .ok (.istore_n 3, 1) := by decide +kernel
theorem dX12_rings_20 : decode cX12_rings 20 = .ok (.iconst 0, 1) := by decide +kernel
theorem dX12_rings_21 : decode cX12_rings 21 = .ok (.istore 4, 2) := by decide +kernel
theorem dX12_rings_23 : decode cX12_rings 23 = .ok (.iload 4, 2) := by decide +kernel
theorem dX12_rings_25 : decode cX12_rings 25 = .ok (.bipush 6, 2) := by decide +kernel
theorem dX12_rings_27 : decode cX12_rings 27 = .ok (.if_icmp .ge 48, 3) := by decide +kernel
theorem dX12_rings_30 : decode cX12_rings 30 = .ok (.iconst 0, 1) := by decide +kernel
theorem dX12_rings_31 : decode cX12_rings 31 = .ok (.istore 5, 2) := by decide +kernel
theorem dX12_rings_33 : decode cX12_rings 33 = .ok (.iload 5, 2) := by decide +kernel
theorem dX12_rings_35 : decode cX12_rings 35 = .ok (.aload_n 0, 1) := by decide +kernel
theorem dX12_rings_36 : decode cX12_rings 36 = .ok (.getfield 13, 3) := by decide +kernel
theorem dX12_rings_39 : decode cX12_rings 39 = .ok (.iconst 1, 1) := by decide +kernel
theorem dX12_rings_40 : decode cX12_rings 40 = .ok (.iaload, 1) := by decide +kernel
theorem dX12_rings_41 : decode cX12_rings 41 = .ok (.if_icmp .ge 28, 3) := by decide +kernel
theorem dX12_rings_44 : decode cX12_rings 44 = .ok (.iload_n 3, 1) := by decide +kernel
theorem dX12_rings_45 : decode cX12_rings 45 = .ok (.iload 5, 2) := by decide +kernel
theorem dX12_rings_47 : decode cX12_rings 47 = .ok (.ishr, 1) := by decide +kernel
theorem dX12_rings_48 : decode cX12_rings 48 = .ok (.iconst 1, 1) := by decide +kernel
theorem dX12_rings_49 : decode cX12_rings 49 = .ok (.iand, 1) := by decide +kernel
theorem dX12_rings_50 : decode cX12_rings 50 = .ok (.iconst 1, 1) := by decide +kernel
theorem dX12_rings_51 : decode cX12_rings 51 = .ok (.if_icmp .ne 12, 3) := by decide +kernel
theorem dX12_rings_54 : decode cX12_rings 54 = .ok (.iload_n 3, 1) := by decide +kernel
theorem dX12_rings_55 : decode cX12_rings 55 = .ok (.aload_n 0, 1) := by decide +kernel
theorem dX12_rings_56 : decode cX12_rings 56 = .ok (.iload 5, 2) := by decide +kernel
theorem dX12_rings_58 : decode cX12_rings 58 = .ok (.invokevirtual 167, 3) := by decide +kernel
theorem dX12_rings_61 : decode cX12_rings 61 = .ok (.ior, 1) := by decide +kernel
theorem dX12_rings_62 : decode cX12_rings 62 = .ok (.istore_n 3, 1) := by decide +kernel
theorem dX12_rings_63 : decode cX12_rings 63 = .ok (.iinc 5 1, 3) := by decide +kernel
theorem dX12_rings_66 : decode cX12_rings 66 = .ok (.goto (-33), 3) := by decide +kernel
theorem dX12_rings_69 : decode cX12_rings 69 = .ok (.iinc 4 1, 3) := by decide +kernel
theorem dX12_rings_72 : decode cX12_rings 72 = .ok (.goto (-49), 3) := by decide +kernel
theorem dX12_rings_75 : decode cX12_rings 75 = .ok (.iload_n 1, 1) := by decide +kernel
theorem dX12_rings_76 : decode cX12_rings 76 = .ok (.iload_n 3, 1) := by decide +kernel
theorem dX12_rings_77 : decode cX12_rings 77 = .ok (.iconst 1, 1) := by decide +kernel
theorem dX12_rings_78 : decode cX12_rings 78 = .ok (.iload_n 2, 1) := by decide +kernel
theorem dX12_rings_79 : decode cX12_rings 79 = .ok (.ishl, 1) := by decide +kernel
theorem dX12_rings_80 : decode cX12_rings 80 = .ok (.iand, 1) := by decide +kernel
theorem dX12_rings_81 : decode cX12_rings 81 = .ok (.ior, 1) := by decide +kernel
theorem dX12_rings_82 : decode cX12_rings 82 = .ok (.istore_n 1, 1) := by decide +kernel
theorem dX12_rings_83 : decode cX12_rings 83 = .ok (.iinc 2 1, 3) := by decide +kernel
theorem dX12_rings_86 : decode cX12_rings 86 = .ok (.goto (-82), 3) := by decide +kernel
theorem dX12_rings_89 : decode cX12_rings 89 = .ok (.iload_n 1, 1) := by decide +kernel
theorem dX12_rings_90 : decode cX12_rings 90 = .ok (.ireturn, 1) := by decide +kernel
theorem dX12_row_0 : decode cX12_row 0 = .ok (.iload_n 1, 1) := by decide +kernel
theorem dX12_row_1 : decode cX12_row 1 = .ok (.iconst 0, 1) := by decide +kernel
theorem dX12_row_2 : decode cX12_row 2 = .ok (.sipush 999, 3) := by decide +kernel
theorem dX12_row_5 : decode cX12_row 5 = .ok (.invokestatic 39, 3) := by decide +kernel
theorem dX12_row_8 : decode cX12_row 8 = .ok (.istore_n 2, 1) := by decide +kernel
theorem dX12_row_9 : decode cX12_row 9 = .ok (.iload_n 2, 1) := by decide +kernel
theorem dX12_row_10 : decode cX12_row 10 = .ok (.ifCond .ne 14, 3) := by decide +kernel
theorem dX12_row_13 : decode cX12_row 13 = .ok (.aload_n 0, 1) := by decide +kernel
theorem dX12_row_14 : decode cX12_row 14 = .ok (.getfield 170, 3) := by decide +kernel
theorem dX12_row_17 : decode cX12_row 17 = .ok (.iconst 4, 1) := by decide +kernel
theorem dX12_row_18 : decode cX12_row 18 = .ok (.if_icmp .ne 6, 3) := by decide +kernel
theorem dX12_row_21 : decode cX12_row 21 = .ok (.bipush (-6), 2) := by decide +kernel
theorem dX12_row_23 : decode cX12_row 23 = .ok (.istore_n 2, 1) := by decide +kernel
theorem dX12_row_24 : decode cX12_row 24 = .ok (.iload_n 2, 1) := by decide +kernel
theorem dX12_row_25 : decode cX12_row 25 = .ok (.ifCond .eq 9, 3) := by decide +kernel
theorem dX12_row_28 : decode cX12_row 28 = .ok (.aload_n 0, 1) := by decide +kernel
theorem dX12_row_29 : decode cX12_row 29 = .ok (.iload_n 2, 1) := by decide +kernel
theorem dX12_row_30 : decode cX12_row 30 = .ok (.invokevirtual 47, 3) := by decide +kernel
theorem dX12_row_33 : decode cX12_row 33 = .ok (.ireturn, 1) := by decide +kernel
theorem dX12_row_34 : decode cX12_row 34 = .ok (.aload_n 0, 1) := by decide +kernel
theorem dX12_row_35 : decode cX12_row 35 = .ok (.getfield 28, 3) := by decide +kernel
theorem dX12_row_38 : decode cX12_row 38 = .ok (.aload_n 0, 1) := by decide +kernel
theorem dX12_row_39 : decode cX12_row 39 = .ok (.getfield 170, 3) := by decide +kernel
theorem dX12_row_42 : decode cX12_row 42 = .ok (.iload_n 1, 1) := by decide +kernel
theorem dX12_row_43 : decode cX12_row 43 = .ok (.iastore, 1) := by decide +kernel
theorem dX12_row_44 : decode cX12_row 44 = .ok (.aload_n 0, 1) := by decide +kernel
theorem dX12_row_45 : decode cX12_row 45 = .ok (.dup, 1) := by decide +kernel
theorem dX12_row_46 : decode cX12_row 46 = .ok (.getfield 170, 3) := by decide +kernel
theorem dX12_row_49 : decode cX12_row 49 = .ok (.iconst 1, 1) := by decide +kernel
theorem dX12_row_50 : decode cX12_row 50 = .ok (.iadd, 1) := by decide +kernel
theorem dX12_row_51 : decode cX12_row 51 = .ok (.putfield 170, 3) := by decide +kernel
theorem dX12_row_54 : decode cX12_row 54 = .ok (.aload_n 0, 1) := by decide +kernel
theorem dX12_row_55 : decode cX12_row 55 = .ok (.getfield 170, 3) := by decide +kernel
theorem dX12_row_58 : decode cX12_row 58 = .ok (.ireturn, 1) := by decide +kernel
theorem dX12_wrongIn_0 : decode cX12_wrongIn 0 = .ok (.iconst 0, 1) := by decide +kernel
theorem dX12_wrongIn_1 : decode cX12_wrongIn 1 = .ok (.istore_n 2, 1) := by decide +kernel
theorem dX12_wrongIn_2 : decode cX12_wrongIn 2 = .ok (.iload_n 2, 1) := by decide +kernel
theorem dX12_wrongIn_3 : decode cX12_wrongIn 3 = .ok (.aload_n 0, 1) := by decide +kernel
theorem dX12_wrongIn_4 : decode cX12_wrongIn 4 = .ok (.getfield 170, 3) := by decide +kernel
theorem dX12_wrongIn_7 : decode cX12_wrongIn 7 = .ok (.if_icmp .ge 30, 3) := by decide +kernel
theorem dX12_wrongIn_10 : decode cX12_wrongIn 10 = .ok (.aload_n 0, 1) := by decide +kernel
theorem dX12_wrongIn_11 : decode cX12_wrongIn 11 = .ok (.getfield 28, 3) := by decide +kernel
theorem dX12_wrongIn_14 : decode cX12_wrongIn 14 = .ok (.iload_n 2, 1) := by decide +kernel
theorem dX12_wrongIn_15 : decode cX12_wrongIn 15 = .ok (.iaload, 1) := by decide +kernel
theorem dX12_wrongIn_16 : decode cX12_wrongIn 16 = .ok (.aload_n 0, 1) := by decide +kernel
theorem dX12_wrongIn_17 : decode cX12_wrongIn 17 = .ok (.iload_n 2, 1) := by decide +kernel
theorem dX12_wrongIn_18 : decode cX12_wrongIn 18 = .ok (.iload_n 1, 1) := by decide +kernel
theorem dX12_wrongIn_19 : decode cX12_wrongIn 19 = .ok (.invokevirtual 132, 3) := by decide +kernel
theorem dX12_wrongIn_22 : decode cX12_wrongIn 22 = .ok (.sipush 500, 3) := by decide +kernel
theorem dX12_wrongIn_25 : decode cX12_wrongIn 25 = .ok (.iadd, 1) := by decide +kernel
theorem dX12_wrongIn_26 : decode cX12_wrongIn 26 = .ok (.if_icmp .eq 5, 3) := by decide +kernel
theorem dX12_wrongIn_29 : decode cX12_wrongIn 29 = .ok (.iload_n 2, 1) := by decide +kernel
theorem dX12_wrongIn_30 : decode cX12_wrongIn 30 = .ok (.ireturn, 1) := by decide +kernel
theorem dX12_wrongIn_31 : decode cX12_wrongIn 31 = .ok (.iinc 2 1, 3) := by decide +kernel
theorem dX12_wrongIn_34 : decode cX12_wrongIn 34 = .ok (.goto (-32), 3) := by decide +kernel
theorem dX12_wrongIn_37 : decode cX12_wrongIn 37 = .ok (.bipush (-9), 2) := by decide +kernel
theorem dX12_wrongIn_39 : decode cX12_wrongIn 39 = .ok (.ireturn, 1) := by decide +kernel
theorem dX12_fitting_0 : decode cX12_fitting 0 = .ok (.iload_n 1, 1) := by decide +kernel
theorem dX12_fitting_1 : decode cX12_fitting 1 = .ok (.iconst 2, 1) := by decide +kernel
theorem dX12_fitting_2 : decode cX12_fitting 2 = .ok (.invokestatic 31, 3) := by decide +kernel
theorem dX12_fitting_5 : decode cX12_fitting 5 = .ok (.ifCond .ne 10, 3) := by decide +kernel
theorem dX12_fitting_8 : decode cX12_fitting 8 = .ok (.aload_n 0, 1) := by decide +kernel
theorem dX12_fitting_9 : decode cX12_fitting 9 = .ok (.bipush (-2), 2) := by decide +kernel
theorem dX12_fitting_11 : decode cX12_fitting 11 = .ok (.invokevirtual 47, 3) := by decide +kernel
theorem dX12_fitting_14 : decode cX12_fitting 14 = .ok (.ireturn, 1) := by decide +kernel
theorem dX12_fitting_15 : decode cX12_fitting 15 = .ok (.iconst 0, 1) := by decide +kernel
theorem dX12_fitting_16 : decode cX12_fitting 16 = .ok (.istore_n 2, 1) := by decide +kernel
theorem dX12_fitting_17 : decode cX12_fitting 17 = .ok (.iconst 0, 1) := by decide +kernel
theorem dX12_fitting_18 : decode cX12_fitting 18 = .ok (.istore_n 3, 1) := by decide +kernel
theorem dX12_fitting_19 : decode cX12_fitting 19 = .ok (.iload_n 3, 1) := by decide +kernel
theorem dX12_fitting_20 : decode cX12_fitting 20 = .ok (.aload_n 0, 1) := by decide +kernel
theorem dX12_fitting_21 : decode cX12_fitting 21 = .ok (.invokevirtual 35, 3) := by decide +kernel
theorem dX12_fitting_24 : decode cX12_fitting 24 = .ok (.if_icmp .ge 27, 3) := by decide +kernel
theorem dX12_fitting_27 : decode cX12_fitting 27 = .ok (.iload_n 2, 1) := by decide +kernel
theorem dX12_fitting_28 : decode cX12_fitting 28 = .ok (.aload_n 0, 1) := by decide +kernel
theorem dX12_fitting_29 : decode cX12_fitting 29 = .ok (.iload_n 3, 1) := by decide +kernel
theorem dX12_fitting_30 : decode cX12_fitting 30 = .ok (.invokevirtual 173, 3) := by decide +kernel
theorem dX12_fitting_33 : decode cX12_fitting 33 = .ok (.ifCond .ge 9, 3) := by decide +kernel
theorem dX12_fitting_36 : decode cX12_fitting 36 = .ok (.iconst 1, 1) := by decide +kernel
theorem dX12_fitting_37 : decode cX12_fitting 37 = .ok (.iload_n 3, 1) := by decide +kernel
theorem dX12_fitting_38 : decode cX12_fitting 38 = .ok (.ishl, 1) := by decide +kernel
theorem dX12_fitting_39 : decode cX12_fitting 39 = .ok (.goto 4, 3) := by decide +kernel
theorem dX12_fitting_42 : decode cX12_fitting 42 = .ok (.iconst 0, 1) := by decide +kernel
theorem dX12_fitting_43 : decode cX12_fitting 43 = .ok (.ior, 1) := by decide +kernel
theorem dX12_fitting_44 : decode cX12_fitting 44 = .ok (.istore_n 2, 1) := by decide +kernel
theorem dX12_fitting_45 : decode cX12_fitting 45 = .ok (.iinc 3 1, 3) := by decide +kernel
theorem dX12_fitting_48 : decode cX12_fitting 48 = .ok (.goto (-29), 3) := by decide +kernel
theorem dX12_fitting_51 : decode cX12_fitting 51 = .ok (.iload_n 1, 1) := by decide +kernel
theorem dX12_fitting_52 : decode cX12_fitting 52 = .ok (.ifCond .ne 7, 3) := by decide +kernel
theorem dX12_fitting_55 : decode cX12_fitting 55 = .ok (.iload_n 2, 1) := by decide +kernel
theorem dX12_fitting_56 : decode cX12_fitting 56 = .ok (.goto 7, 3) := by decide +kernel
theorem dX12_fitting_59 : decode cX12_fitting 59 = .ok (.iload_n 2, 1) := by decide +kernel
theorem dX12_fitting_60 : decode cX12_fitting 60 = .ok (.invokestatic 164, 3) := by decide +kernel
theorem dX12_fitting_63 : decode cX12_fitting 63 = .ok (.ireturn, 1) := by decide +kernel
theorem dX12_judge_0 : decode cX12_judge 0 = .ok (.aload_n 0, 1) := by decide +kernel
theorem dX12_judge_1 : decode cX12_judge 1 = .ok (.iload_n 1, 1) := by decide +kernel
theorem dX12_judge_2 : decode cX12_judge 2 = .ok (.invokevirtual 122, 3) := by decide +kernel
theorem dX12_judge_5 : decode cX12_judge 5 = .ok (.ifCond .ne 9, 3) := by decide +kernel
theorem dX12_judge_8 : decode cX12_judge 8 = .ok (.aload_n 0, 1) := by decide +kernel
theorem dX12_judge_9 : decode cX12_judge 9 = .ok (.iconst (-1), 1) := by decide +kernel
theorem dX12_judge_10 : decode cX12_judge 10 = .ok (.invokevirtual 47, 3) := by decide +kernel
theorem dX12_judge_13 : decode cX12_judge 13 = .ok (.ireturn, 1) := by decide +kernel
theorem dX12_judge_14 : decode cX12_judge 14 = .ok (.aload_n 0, 1) := by decide +kernel
theorem dX12_judge_15 : decode cX12_judge 15 = .ok (.iload_n 1, 1) := by decide +kernel
theorem dX12_judge_16 : decode cX12_judge 16 = .ok (.invokevirtual 173, 3) := by decide +kernel
theorem dX12_judge_19 : decode cX12_judge 19 = .ok (.istore_n 2, 1) := by decide +kernel
theorem dX12_judge_20 : decode cX12_judge 20 = .ok (.aload_n 0, 1) := by decide +kernel
theorem dX12_judge_21 : decode cX12_judge 21 = .ok (.iconst 0, 1) := by decide +kernel
theorem dX12_judge_22 : decode cX12_judge 22 = .ok (.putfield 170, 3) := by decide +kernel
theorem dX12_judge_25 : decode cX12_judge 25 = .ok (.iload_n 2, 1) := by decide +kernel
theorem dX12_judge_26 : decode cX12_judge 26 = .ok (.ireturn, 1) := by decide +kernel
theorem dX12_seeds_0 : decode cX12_seeds 0 = .ok (.iload_n 3, 1) := by decide +kernel
theorem dX12_seeds_1 : decode cX12_seeds 1 = .ok (.invokestatic 77, 3) := by decide +kernel
theorem dX12_seeds_4 : decode cX12_seeds 4 = .ok (.ifCond .ne 7, 3) := by decide +kernel
theorem dX12_seeds_7 : decode cX12_seeds 7 = .ok (.iconst (-1), 1) := by decide +kernel
theorem dX12_seeds_8 : decode cX12_seeds 8 = .ok (.goto 10, 3) := by decide +kernel
theorem dX12_seeds_11 : decode cX12_seeds 11 = .ok (.iload_n 1, 1) := by decide +kernel
theorem dX12_seeds_12 : decode cX12_seeds 12 = .ok (.iconst 1, 1) := by decide +kernel
theorem dX12_seeds_13 : decode cX12_seeds 13 = .ok (.bipush 30, 2) := by decide +kernel
theorem dX12_seeds_15 : decode cX12_seeds 15 = .ok (.invokestatic 39, 3) := by decide +kernel
theorem dX12_seeds_18 : decode cX12_seeds 18 = .ok (.istore 4, 2) := by decide +kernel
theorem dX12_seeds_20 : decode cX12_seeds 20 = .ok (.iload 4, 2) := by decide +kernel
theorem dX12_seeds_22 : decode cX12_seeds 22 = .ok (.ifCond .eq 13, 3) := by decide +kernel
theorem dX12_seeds_25 : decode cX12_seeds 25 = .ok (.ldc 135, 2) := by decide +kernel
theorem dX12_seeds_27 : decode cX12_seeds 27 = .ok (.aload_n 0, 1) := by decide +kernel
theorem dX12_seeds_28 : decode cX12_seeds 28 = .ok (.iload 4, 2) := by decide +kernel
theorem dX12_seeds_30 : decode cX12_seeds 30 = .ok (.invokevirtual 47, 3) := by decide +kernel
theorem dX12_seeds_33 : decode cX12_seeds 33 = .ok (.isub, 1) := by decide +kernel
theorem dX12_seeds_34 : decode cX12_seeds 34 = .ok (.ireturn, 1) := by decide +kernel
theorem dX12_seeds_35 : decode cX12_seeds 35 = .ok (.iload_n 2, 1) := by decide +kernel
theorem dX12_seeds_36 : decode cX12_seeds 36 = .ok (.istore 5, 2) := by decide +kernel
theorem dX12_seeds_38 : decode cX12_seeds 38 = .ok (.iconst 0, 1) := by decide +kernel
theorem dX12_seeds_39 : decode cX12_seeds 39 = .ok (.istore 6, 2) := by decide +kernel
theorem dX12_seeds_41 : decode cX12_seeds 41 = .ok (.iconst 0, 1) := by decide +kernel
theorem dX12_seeds_42 : decode cX12_seeds 42 = .ok (.istore 7, 2) := by decide +kernel
theorem dX12_seeds_44 : decode cX12_seeds 44 = .ok (.iload 7, 2) := by decide +kernel
theorem dX12_seeds_46 : decode cX12_seeds 46 = .ok (.iload_n 1, 1) := by decide +kernel
theorem dX12_seeds_47 : decode cX12_seeds 47 = .ok (.if_icmp .ge 91, 3) := by decide +kernel
theorem dX12_seeds_50 : decode cX12_seeds 50 = .ok (.iconst 0, 1) := by decide +kernel
theorem dX12_seeds_51 : decode cX12_seeds 51 = .ok (.istore 8, 2) := by decide +kernel
theorem dX12_seeds_53 : decode cX12_seeds 53 = .ok (.iconst 0, 1) := by decide +kernel
theorem dX12_seeds_54 : decode cX12_seeds 54 = .ok (.istore 9, 2) := by decide +kernel
theorem dX12_seeds_56 : decode cX12_seeds 56 = .ok (.iload 9, 2) := by decide +kernel
theorem dX12_seeds_58 : decode cX12_seeds 58 = .ok (.aload_n 0, 1) := by decide +kernel
theorem dX12_seeds_59 : decode cX12_seeds 59 = .ok (.getfield 13, 3) := by decide +kernel
theorem dX12_seeds_62 : decode cX12_seeds 62 = .ok (.iconst 0, 1) := by decide +kernel
theorem dX12_seeds_63 : decode cX12_seeds 63 = .ok (.iaload, 1) := by decide +kernel
theorem dX12_seeds_64 : decode cX12_seeds 64 = .ok (.if_icmp .ge 56, 3) := by decide +kernel
theorem dX12_seeds_67 : decode cX12_seeds 67 = .ok (.iload 5, 2) := by decide +kernel
theorem dX12_seeds_69 : decode cX12_seeds 69 = .ok (.ldc 176, 2) := by decide +kernel
theorem dX12_seeds_71 : decode cX12_seeds 71 = .ok (.imul, 1) := by decide +kernel
theorem dX12_seeds_72 : decode cX12_seeds 72 = .ok (.ldc 177, 2) := by decide +kernel
theorem dX12_seeds_74 : decode cX12_seeds 74 = .ok (.iadd, 1) := by decide +kernel
theorem dX12_seeds_75 : decode cX12_seeds 75 = .ok (.istore 5, 2) := by decide +kernel
theorem dX12_seeds_77 : decode cX12_seeds 77 = .ok (.iload 8, 2) := by decide +kernel
theorem dX12_seeds_79 : decode cX12_seeds 79 = .ok (.iload 5, 2) := by decide +kernel
theorem dX12_seeds_81 : decode cX12_seeds 81 = .ok (.ldc 178, 2) := by decide +kernel
theorem dX12_seeds_83 : decode cX12_seeds 83 = .ok (.iand, 1) := by decide +kernel
theorem dX12_seeds_84 : decode cX12_seeds 84 = .ok (.sipush 256, 3) := by decide +kernel
theorem dX12_seeds_87 : decode cX12_seeds 87 = .ok (.idiv, 1) := by decide +kernel
theorem dX12_seeds_88 : decode cX12_seeds 88 = .ok (.bipush 100, 2) := by decide +kernel
theorem dX12_seeds_90 : decode cX12_seeds 90 = .ok (.irem, 1) := by decide +kernel
theorem dX12_seeds_91 : decode cX12_seeds 91 = .ok (.aload_n 0, 1) := by decide +kernel
theorem dX12_seeds_92 : decode cX12_seeds 92 = .ok (.getfield 13, 3) := by decide +kernel
theorem dX12_seeds_95 : decode cX12_seeds 95 = .ok (.iconst 2, 1) := by decide +kernel
theorem dX12_seeds_96 : decode cX12_seeds 96 = .ok (.iload 9, 2) := by decide +kernel
theorem dX12_seeds_98 : decode cX12_seeds 98 = .ok (.iadd, 1) := by decide +kernel
theorem dX12_seeds_99 : decode cX12_seeds 99 = .ok (.iaload, 1) := by decide +kernel
theorem dX12_seeds_100 : decode cX12_seeds 100 = .ok (.if_icmp .ge 10, 3) := by decide +kernel
theorem dX12_seeds_103 : decode cX12_seeds 103 = .ok (.iconst 1, 1) := by decide +kernel
theorem dX12_seeds_104 : decode cX12_seeds 104 = .ok (.iload 9, 2) := by decide +kernel
theorem dX12_seeds_106 : decode cX12_seeds 106 = .ok (.ishl, 1) := by decide +kernel
theorem dX12_seeds_107 : decode cX12_seeds 107 = .ok (.goto 4, 3) := by decide +kernel
theorem dX12_seeds_110 : decode cX12_seeds 110 = .ok (.iconst 0, 1) := by decide +kernel
theorem dX12_seeds_111 : decode cX12_seeds 111 = .ok (.ior, 1) := by decide +kernel
theorem dX12_seeds_112 : decode cX12_seeds 112 = .ok (.istore 8, 2) := by decide +kernel
theorem dX12_seeds_114 : decode cX12_seeds 114 = .ok (.iinc 9 1, 3) := by decide +kernel
theorem dX12_seeds_117 : decode cX12_seeds 117 = .ok (.goto (-61), 3) := by decide +kernel
theorem dX12_seeds_120 : decode cX12_seeds 120 = .ok (.iload 6, 2) := by decide +kernel
theorem dX12_seeds_122 : decode cX12_seeds 122 = .ok (.aload_n 0, 1) := by decide +kernel
theorem dX12_seeds_123 : decode cX12_seeds 123 = .ok (.iload_n 3, 1) := by decide +kernel
theorem dX12_seeds_124 : decode cX12_seeds 124 = .ok (.iload 8, 2) := by decide +kernel
theorem dX12_seeds_126 : decode cX12_seeds 126 = .ok (.invokevirtual 132, 3) := by decide +kernel
theorem dX12_seeds_129 : decode cX12_seeds 129 = .ok (.iadd, 1) := by decide +kernel
theorem dX12_seeds_130 : decode cX12_seeds 130 = .ok (.istore 6, 2) := by decide +kernel
theorem dX12_seeds_132 : decode cX12_seeds 132 = .ok (.iinc 7 1, 3) := by decide +kernel
theorem dX12_seeds_135 : decode cX12_seeds 135 = .ok (.goto (-91), 3) := by decide +kernel
theorem dX12_seeds_138 : decode cX12_seeds 138 = .ok (.iload 6, 2) := by decide +kernel
theorem dX12_seeds_140 : decode cX12_seeds 140 = .ok (.ireturn, 1) := by decide +kernel
theorem dX12_image_0 : decode cX12_image 0 = .ok (.aload_n 0, 1) := by decide +kernel
theorem dX12_image_1 : decode cX12_image 1 = .ok (.getfield 13, 3) := by decide +kernel
theorem dX12_image_4 : decode cX12_image 4 = .ok (.aload_n 0, 1) := by decide +kernel
theorem dX12_image_5 : decode cX12_image 5 = .ok (.getfield 16, 3) := by decide +kernel
theorem dX12_image_8 : decode cX12_image 8 = .ok (.invokestatic 83, 3) := by decide +kernel
theorem dX12_image_11 : decode cX12_image 11 = .ok (.aload_n 0, 1) := by decide +kernel
theorem dX12_image_12 : decode cX12_image 12 = .ok (.iconst 1, 1) := by decide +kernel
theorem dX12_image_13 : decode cX12_image 13 = .ok (.putfield 179, 3) := by decide +kernel
theorem dX12_image_16 : decode cX12_image 16 = .ok (.aload_n 0, 1) := by decide +kernel
theorem dX12_image_17 : decode cX12_image 17 = .ok (.getfield 13, 3) := by decide +kernel
theorem dX12_image_20 : decode cX12_image 20 = .ok (.iconst 1, 1) := by decide +kernel
theorem dX12_image_21 : decode cX12_image 21 = .ok (.iaload, 1) := by decide +kernel
theorem dX12_image_22 : decode cX12_image 22 = .ok (.ireturn, 1) := by decide +kernel
theorem dX12_on_0 : decode cX12_on 0 = .ok (.aload_n 0, 1) := by decide +kernel
theorem dX12_on_1 : decode cX12_on 1 = .ok (.getfield 179, 3) := by decide +kernel
theorem dX12_on_4 : decode cX12_on 4 = .ok (.ifCond .ne 10, 3) := by decide +kernel
theorem dX12_on_7 : decode cX12_on 7 = .ok (.aload_n 0, 1) := by decide +kernel
theorem dX12_on_8 : decode cX12_on 8 = .ok (.bipush (-3), 2) := by decide +kernel
theorem dX12_on_10 : decode cX12_on 10 = .ok (.invokevirtual 47, 3) := by decide +kernel
theorem dX12_on_13 : decode cX12_on 13 = .ok (.ireturn, 1) := by decide +kernel
theorem dX12_on_14 : decode cX12_on 14 = .ok (.aload_n 0, 1) := by decide +kernel
theorem dX12_on_15 : decode cX12_on 15 = .ok (.getfield 16, 3) := by decide +kernel
theorem dX12_on_18 : decode cX12_on 18 = .ok (.aload_n 0, 1) := by decide +kernel
theorem dX12_on_19 : decode cX12_on 19 = .ok (.getfield 13, 3) := by decide +kernel
theorem dX12_on_22 : decode cX12_on 22 = .ok (.invokestatic 83, 3) := by decide +kernel
theorem dX12_on_25 : decode cX12_on 25 = .ok (.aload_n 0, 1) := by decide +kernel
theorem dX12_on_26 : decode cX12_on 26 = .ok (.getfield 13, 3) := by decide +kernel
theorem dX12_on_29 : decode cX12_on 29 = .ok (.iconst 1, 1) := by decide +kernel
theorem dX12_on_30 : decode cX12_on 30 = .ok (.iaload, 1) := by decide +kernel
theorem dX12_on_31 : decode cX12_on 31 = .ok (.ireturn, 1) := by decide +kernel
theorem dX12_count_0 : decode cX12_count 0 = .ok (.iload_n 1, 1) := by decide +kernel
theorem dX12_count_1 : decode cX12_count 1 = .ok (.bipush 10, 2) := by decide +kernel
theorem dX12_count_3 : decode cX12_count 3 = .ok (.if_icmp .le 19, 3) := by decide +kernel
theorem dX12_count_6 : decode cX12_count 6 = .ok (.iload_n 1, 1) := by decide +kernel
theorem dX12_count_7 : decode cX12_count 7 = .ok (.bipush 17, 2) := by decide +kernel
theorem dX12_count_9 : decode cX12_count 9 = .ok (.if_icmp .ge 13, 3) := by decide +kernel
theorem dX12_count_12 : decode cX12_count 12 = .ok (.aload_n 0, 1) := by decide +kernel
theorem dX12_count_13 : decode cX12_count 13 = .ok (.getfield 7, 3) := by decide +kernel
theorem dX12_count_16 : decode cX12_count 16 = .ok (.iload_n 1, 1) := by decide +kernel
theorem dX12_count_17 : decode cX12_count 17 = .ok (.bipush 10, 2) := by decide +kernel
theorem dX12_count_19 : decode cX12_count 19 = .ok (.isub, 1) := by decide +kernel
theorem dX12_count_20 : decode cX12_count 20 = .ok (.iaload, 1) := by decide +kernel
theorem dX12_count_21 : decode cX12_count 21 = .ok (.ireturn, 1) := by decide +kernel
theorem dX12_count_22 : decode cX12_count 22 = .ok (.iconst 0, 1) := by decide +kernel
theorem dX12_count_23 : decode cX12_count 23 = .ok (.istore_n 2, 1) := by decide +kernel
theorem dX12_count_24 : decode cX12_count 24 = .ok (.iload_n 1, 1) := by decide +kernel
theorem dX12_count_25 : decode cX12_count 25 = .ok (.tableswitch 90 0 5 #[39, 39, 46, 51, 80, 85], 39) := by decide +kernel
theorem dX12_count_64 : decode cX12_count 64 = .ok (.aload_n 0, 1) := by decide +kernel
theorem dX12_count_65 : decode cX12_count 65 = .ok (.getfield 13, 3) := by decide +kernel
theorem dX12_count_68 : decode cX12_count 68 = .ok (.iload_n 1, 1) := by decide +kernel
theorem dX12_count_69 : decode cX12_count 69 = .ok (.iaload, 1) := by decide +kernel
theorem dX12_count_70 : decode cX12_count 70 = .ok (.ireturn, 1) := by decide +kernel
theorem dX12_count_71 : decode cX12_count 71 = .ok (.aload_n 0, 1) := by decide +kernel
theorem dX12_count_72 : decode cX12_count 72 = .ok (.invokevirtual 35, 3) := by decide +kernel
theorem dX12_count_75 : decode cX12_count 75 = .ok (.ireturn, 1) := by decide +kernel
theorem dX12_count_76 : decode cX12_count 76 = .ok (.iconst 0, 1) := by decide +kernel
theorem dX12_count_77 : decode cX12_count 77 = .ok (.istore_n 3, 1) := by decide +kernel
theorem dX12_count_78 : decode cX12_count 78 = .ok (.iload_n 3, 1) := by decide +kernel
theorem dX12_count_79 : decode cX12_count 79 = .ok (.aload_n 0, 1) := by decide +kernel
theorem dX12_count_80 : decode cX12_count 80 = .ok (.getfield 13, 3) := by decide +kernel
theorem dX12_count_83 : decode cX12_count 83 = .ok (.iconst 1, 1) := by decide +kernel
theorem dX12_count_84 : decode cX12_count 84 = .ok (.iaload, 1) := by decide +kernel
theorem dX12_count_85 : decode cX12_count 85 = .ok (.if_icmp .ge 18, 3) := by decide +kernel
theorem dX12_count_88 : decode cX12_count 88 = .ok (.iload_n 2, 1) := by decide +kernel
theorem dX12_count_89 : decode cX12_count 89 = .ok (.aload_n 0, 1) := by decide +kernel
theorem dX12_count_90 : decode cX12_count 90 = .ok (.iload_n 3, 1) := by decide +kernel
theorem dX12_count_91 : decode cX12_count 91 = .ok (.iconst 3, 1) := by decide +kernel
theorem dX12_count_92 : decode cX12_count 92 = .ok (.invokevirtual 96, 3) := by decide +kernel
theorem dX12_count_95 : decode cX12_count 95 = .ok (.iadd, 1) := by decide +kernel
theorem dX12_count_96 : decode cX12_count 96 = .ok (.istore_n 2, 1) := by decide +kernel
theorem dX12_count_97 : decode cX12_count 97 = .ok (.iinc 3 1, 3) := by decide +kernel
theorem dX12_count_100 : decode cX12_count 100 = .ok (.goto (-22), 3) := by decide +kernel
theorem dX12_count_103 : decode cX12_count 103 = .ok (.iload_n 2, 1) := by decide +kernel
theorem dX12_count_104 : decode cX12_count 104 = .ok (.ireturn, 1) := by decide +kernel
theorem dX12_count_105 : decode cX12_count 105 = .ok (.aload_n 0, 1) := by decide +kernel
theorem dX12_count_106 : decode cX12_count 106 = .ok (.getfield 170, 3) := by decide +kernel
theorem dX12_count_109 : decode cX12_count 109 = .ok (.ireturn, 1) := by decide +kernel
theorem dX12_count_110 : decode cX12_count 110 = .ok (.aload_n 0, 1) := by decide +kernel
theorem dX12_count_111 : decode cX12_count 111 = .ok (.getfield 43, 3) := by decide +kernel
theorem dX12_count_114 : decode cX12_count 114 = .ok (.ireturn, 1) := by decide +kernel
theorem dX12_count_115 : decode cX12_count 115 = .ok (.bipush (-9), 2) := by decide +kernel
theorem dX12_count_117 : decode cX12_count 117 = .ok (.ireturn, 1) := by decide +kernel
