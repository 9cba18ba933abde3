theorem dX0_init_0 : decode cX0_init 0 = .ok (.aload_n 0, 1) := by decide +kernel
theorem dX0_init_1 : decode cX0_init 1 = .ok (.invokespecial 1, 3) := by decide +kernel
theorem dX0_init_4 : decode cX0_init 4 = .ok (.return_, 1) := by decide +kernel
theorem dX0_isWonBy_0 : decode cX0_isWonBy 0 = .ok (.iload_n 1, 1) := by decide +kernel
theorem dX0_isWonBy_1 : decode cX0_isWonBy 1 = .ok (.ifCond .ne 7, 3) := by decide +kernel
theorem dX0_isWonBy_4 : decode cX0_isWonBy 4 = .ok (.iconst 1, 1) := by decide +kernel
theorem dX0_isWonBy_5 : decode cX0_isWonBy 5 = .ok (.goto 4, 3) := by decide +kernel
theorem dX0_isWonBy_8 : decode cX0_isWonBy 8 = .ok (.iconst 0, 1) := by decide +kernel
theorem dX0_isWonBy_9 : decode cX0_isWonBy 9 = .ok (.ireturn, 1) := by decide +kernel
theorem dX1_init_0 : decode cX1_init 0 = .ok (.aload_n 0, 1) := by decide +kernel
theorem dX1_init_1 : decode cX1_init 1 = .ok (.invokespecial 1, 3) := by decide +kernel
theorem dX1_init_4 : decode cX1_init 4 = .ok (.return_, 1) := by decide +kernel
theorem dX1_looksAtBoth_0 : decode cX1_looksAtBoth 0 = .ok (.iconst 1, 1) := by decide +kernel
theorem dX1_looksAtBoth_1 : decode cX1_looksAtBoth 1 = .ok (.ireturn, 1) := by decide +kernel
theorem dX2_init_0 : decode cX2_init 0 = .ok (.aload_n 0, 1) := by decide +kernel
theorem dX2_init_1 : decode cX2_init 1 = .ok (.invokespecial 3, 3) := by decide +kernel
theorem dX2_init_4 : decode cX2_init 4 = .ok (.aload_n 0, 1) := by decide +kernel
theorem dX2_init_5 : decode cX2_init 5 = .ok (.iconst 4, 1) := by decide +kernel
theorem dX2_init_6 : decode cX2_init 6 = .ok (.newarray .int, 2) := by decide +kernel
theorem dX2_init_8 : decode cX2_init 8 = .ok (.putfield 9, 3) := by decide +kernel
theorem dX2_init_11 : decode cX2_init 11 = .ok (.aload_n 0, 1) := by decide +kernel
theorem dX2_init_12 : decode cX2_init 12 = .ok (.bipush 42, 2) := by decide +kernel
theorem dX2_init_14 : decode cX2_init 14 = .ok (.newarray .int, 2) := by decide +kernel
theorem dX2_init_16 : decode cX2_init 16 = .ok (.putfield 15, 3) := by decide +kernel
theorem dX2_init_19 : decode cX2_init 19 = .ok (.aload_n 0, 1) := by decide +kernel
theorem dX2_init_20 : decode cX2_init 20 = .ok (.iconst 4, 1) := by decide +kernel
theorem dX2_init_21 : decode cX2_init 21 = .ok (.newarray .int, 2) := by decide +kernel
theorem dX2_init_23 : decode cX2_init 23 = .ok (.putfield 18, 3) := by decide +kernel
theorem dX2_init_26 : decode cX2_init 26 = .ok (.aload_n 0, 1) := by decide +kernel
theorem dX2_init_27 : decode cX2_init 27 = .ok (.iconst 0, 1) := by decide +kernel
theorem dX2_init_28 : decode cX2_init 28 = .ok (.putfield 21, 3) := by decide +kernel
theorem dX2_init_31 : decode cX2_init 31 = .ok (.aload_n 0, 1) := by decide +kernel
theorem dX2_init_32 : decode cX2_init 32 = .ok (.iconst 0, 1) := by decide +kernel
theorem dX2_init_33 : decode cX2_init 33 = .ok (.putfield 25, 3) := by decide +kernel
theorem dX2_init_36 : decode cX2_init 36 = .ok (.iconst 0, 1) := by decide +kernel
theorem dX2_init_37 : decode cX2_init 37 = .ok (.istore_n 1, 1) := by decide +kernel
theorem dX2_init_38 : decode cX2_init 38 = .ok (.iload_n 1, 1) := by decide +kernel
theorem dX2_init_39 : decode cX2_init 39 = .ok (.iconst 4, 1) := by decide +kernel
theorem dX2_init_40 : decode cX2_init 40 = .ok (.if_icmp .ge 19, 3) := by decide +kernel
theorem dX2_init_43 : decode cX2_init 43 = .ok (.aload_n 0, 1) := by decide +kernel
theorem dX2_init_44 : decode cX2_init 44 = .ok (.getfield 18, 3) := by decide +kernel
theorem dX2_init_47 : decode cX2_init 47 = .ok (.iload_n 1, 1) := by decide +kernel
theorem dX2_init_48 : decode cX2_init 48 = .ok (.bipush 50, 2) := by decide +kernel
theorem dX2_init_50 : decode cX2_init 50 = .ok (.invokestatic 28, 3) := by decide +kernel
theorem dX2_init_53 : decode cX2_init 53 = .ok (.iinc 1 1, 3) := by decide +kernel
theorem dX2_init_56 : decode cX2_init 56 = .ok (.goto (-18), 3) := by decide +kernel
theorem dX2_init_59 : decode cX2_init 59 = .ok (.return_, 1) := by decide +kernel
theorem dX2_takeFrom_0 : decode cX2_takeFrom 0 = .ok (.aload_n 1, 1) := by decide +kernel
theorem dX2_takeFrom_1 : decode cX2_takeFrom 1 = .ok (.getfield 9, 3) := by decide +kernel
theorem dX2_takeFrom_4 : decode cX2_takeFrom 4 = .ok (.aload_n 0, 1) := by decide +kernel
theorem dX2_takeFrom_5 : decode cX2_takeFrom 5 = .ok (.getfield 9, 3) := by decide +kernel
theorem dX2_takeFrom_8 : decode cX2_takeFrom 8 = .ok (.invokestatic 32, 3) := by decide +kernel
theorem dX2_takeFrom_11 : decode cX2_takeFrom 11 = .ok (.aload_n 1, 1) := by decide +kernel
theorem dX2_takeFrom_12 : decode cX2_takeFrom 12 = .ok (.getfield 15, 3) := by decide +kernel
theorem dX2_takeFrom_15 : decode cX2_takeFrom 15 = .ok (.aload_n 0, 1) := by decide +kernel
theorem dX2_takeFrom_16 : decode cX2_takeFrom 16 = .ok (.getfield 15, 3) := by decide +kernel
theorem dX2_takeFrom_19 : decode cX2_takeFrom 19 = .ok (.invokestatic 32, 3) := by decide +kernel
theorem dX2_takeFrom_22 : decode cX2_takeFrom 22 = .ok (.aload_n 1, 1) := by decide +kernel
theorem dX2_takeFrom_23 : decode cX2_takeFrom 23 = .ok (.getfield 18, 3) := by decide +kernel
theorem dX2_takeFrom_26 : decode cX2_takeFrom 26 = .ok (.aload_n 0, 1) := by decide +kernel
theorem dX2_takeFrom_27 : decode cX2_takeFrom 27 = .ok (.getfield 18, 3) := by decide +kernel
theorem dX2_takeFrom_30 : decode cX2_takeFrom 30 = .ok (.invokestatic 32, 3) := by decide +kernel
theorem dX2_takeFrom_33 : decode cX2_takeFrom 33 = .ok (.aload_n 0, 1) := by decide +kernel
theorem dX2_takeFrom_34 : decode cX2_takeFrom 34 = .ok (.aload_n 1, 1) := by decide +kernel
theorem dX2_takeFrom_35 : decode cX2_takeFrom 35 = .ok (.getfield 21, 3) := by decide +kernel
theorem dX2_takeFrom_38 : decode cX2_takeFrom 38 = .ok (.putfield 21, 3) := by decide +kernel
theorem dX2_takeFrom_41 : decode cX2_takeFrom 41 = .ok (.aload_n 0, 1) := by decide +kernel
theorem dX2_takeFrom_42 : decode cX2_takeFrom 42 = .ok (.aload_n 1, 1) := by decide +kernel
theorem dX2_takeFrom_43 : decode cX2_takeFrom 43 = .ok (.getfield 25, 3) := by decide +kernel
theorem dX2_takeFrom_46 : decode cX2_takeFrom 46 = .ok (.putfield 25, 3) := by decide +kernel
theorem dX2_takeFrom_49 : decode cX2_takeFrom 49 = .ok (.return_, 1) := by decide +kernel
theorem dX2_comes_0 : decode cX2_comes 0 = .ok (.iload_n 1, 1) := by decide +kernel
theorem dX2_comes_1 : decode cX2_comes 1 = .ok (.ifCond .ne 13, 3) := by decide +kernel
theorem dX2_comes_4 : decode cX2_comes 4 = .ok (.aload_n 0, 1) := by decide +kernel
theorem dX2_comes_5 : decode cX2_comes 5 = .ok (.aload_n 2, 1) := by decide +kernel
theorem dX2_comes_6 : decode cX2_comes 6 = .ok (.iconst 0, 1) := by decide +kernel
theorem dX2_comes_7 : decode cX2_comes 7 = .ok (.invokestatic 36, 3) := by decide +kernel
theorem dX2_comes_10 : decode cX2_comes 10 = .ok (.invokevirtual 40, 3) := by decide +kernel
theorem dX2_comes_13 : decode cX2_comes 13 = .ok (.ireturn, 1) := by decide +kernel
theorem dX2_comes_14 : decode cX2_comes 14 = .ok (.iload_n 1, 1) := by decide +kernel
theorem dX2_comes_15 : decode cX2_comes 15 = .ok (.iconst 1, 1) := by decide +kernel
theorem dX2_comes_16 : decode cX2_comes 16 = .ok (.if_icmp .ne 11, 3) := by decide +kernel
theorem dX2_comes_19 : decode cX2_comes 19 = .ok (.aload_n 0, 1) := by decide +kernel
theorem dX2_comes_20 : decode cX2_comes 20 = .ok (.aload_n 2, 1) := by decide +kernel
theorem dX2_comes_21 : decode cX2_comes 21 = .ok (.invokevirtual 46, 3) := by decide +kernel
theorem dX2_comes_24 : decode cX2_comes 24 = .ok (.goto 17, 3) := by decide +kernel
theorem dX2_comes_27 : decode cX2_comes 27 = .ok (.aload_n 0, 1) := by decide +kernel
theorem dX2_comes_28 : decode cX2_comes 28 = .ok (.aload_n 2, 1) := by decide +kernel
theorem dX2_comes_29 : decode cX2_comes 29 = .ok (.iconst 0, 1) := by decide +kernel
theorem dX2_comes_30 : decode cX2_comes 30 = .ok (.invokestatic 36, 3) := by decide +kernel
theorem dX2_comes_33 : decode cX2_comes 33 = .ok (.aload_n 2, 1) := by decide +kernel
theorem dX2_comes_34 : decode cX2_comes 34 = .ok (.iconst 1, 1) := by decide +kernel
theorem dX2_comes_35 : decode cX2_comes 35 = .ok (.invokestatic 36, 3) := by decide +kernel
theorem dX2_comes_38 : decode cX2_comes 38 = .ok (.invokevirtual 50, 3) := by decide +kernel
theorem dX2_comes_41 : decode cX2_comes 41 = .ok (.ireturn, 1) := by decide +kernel
theorem dX2_comesHappening_0 : decode cX2_comesHappening 0 = .ok (.iload_n 1, 1) := by decide +kernel
theorem dX2_comesHappening_1 : decode cX2_comesHappening 1 = .ok (.iconst 1, 1) := by decide +kernel
theorem dX2_comesHappening_2 : decode cX2_comesHappening 2 = .ok (.if_icmp .lt 11, 3) := by decide +kernel
theorem dX2_comesHappening_5 : decode cX2_comesHappening 5 = .ok (.aload_n 0, 1) := by decide +kernel
theorem dX2_comesHappening_6 : decode cX2_comesHappening 6 = .ok (.getfield 21, 3) := by decide +kernel
theorem dX2_comesHappening_9 : decode cX2_comesHappening 9 = .ok (.iconst 4, 1) := by decide +kernel
theorem dX2_comesHappening_10 : decode cX2_comesHappening 10 = .ok (.if_icmp .lt 5, 3) := by decide +kernel
theorem dX2_comesHappening_13 : decode cX2_comesHappening 13 = .ok (.iconst 0, 1) := by decide +kernel
theorem dX2_comesHappening_14 : decode cX2_comesHappening 14 = .ok (.ireturn, 1) := by decide +kernel
theorem dX2_comesHappening_15 : decode cX2_comesHappening 15 = .ok (.aload_n 0, 1) := by decide +kernel
theorem dX2_comesHappening_16 : decode cX2_comesHappening 16 = .ok (.getfield 9, 3) := by decide +kernel
theorem dX2_comesHappening_19 : decode cX2_comesHappening 19 = .ok (.aload_n 0, 1) := by decide +kernel
theorem dX2_comesHappening_20 : decode cX2_comesHappening 20 = .ok (.getfield 21, 3) := by decide +kernel
theorem dX2_comesHappening_23 : decode cX2_comesHappening 23 = .ok (.iload_n 1, 1) := by decide +kernel
theorem dX2_comesHappening_24 : decode cX2_comesHappening 24 = .ok (.invokestatic 28, 3) := by decide +kernel
theorem dX2_comesHappening_27 : decode cX2_comesHappening 27 = .ok (.aload_n 0, 1) := by decide +kernel
theorem dX2_comesHappening_28 : decode cX2_comesHappening 28 = .ok (.dup, 1) := by decide +kernel
theorem dX2_comesHappening_29 : decode cX2_comesHappening 29 = .ok (.getfield 21, 3) := by decide +kernel
theorem dX2_comesHappening_32 : decode cX2_comesHappening 32 = .ok (.iconst 1, 1) := by decide +kernel
theorem dX2_comesHappening_33 : decode cX2_comesHappening 33 = .ok (.iadd, 1) := by decide +kernel
theorem dX2_comesHappening_34 : decode cX2_comesHappening 34 = .ok (.putfield 21, 3) := by decide +kernel
theorem dX2_comesHappening_37 : decode cX2_comesHappening 37 = .ok (.iconst 1, 1) := by decide +kernel
theorem dX2_comesHappening_38 : decode cX2_comesHappening 38 = .ok (.ireturn, 1) := by decide +kernel
theorem dX2_comesBet_0 : decode cX2_comesBet 0 = .ok (.aload_n 0, 1) := by decide +kernel
theorem dX2_comesBet_1 : decode cX2_comesBet 1 = .ok (.getfield 25, 3) := by decide +kernel
theorem dX2_comesBet_4 : decode cX2_comesBet 4 = .ok (.bipush 6, 2) := by decide +kernel
theorem dX2_comesBet_6 : decode cX2_comesBet 6 = .ok (.if_icmp .ge 11, 3) := by decide +kernel
theorem dX2_comesBet_9 : decode cX2_comesBet 9 = .ok (.aload_n 0, 1) := by decide +kernel
theorem dX2_comesBet_10 : decode cX2_comesBet 10 = .ok (.aload_n 1, 1) := by decide +kernel
theorem dX2_comesBet_11 : decode cX2_comesBet 11 = .ok (.invokevirtual 54, 3) := by decide +kernel
theorem dX2_comesBet_14 : decode cX2_comesBet 14 = .ok (.ifCond .ne 5, 3) := by decide +kernel
theorem dX2_comesBet_17 : decode cX2_comesBet 17 = .ok (.iconst 0, 1) := by decide +kernel
theorem dX2_comesBet_18 : decode cX2_comesBet 18 = .ok (.ireturn, 1) := by decide +kernel
theorem dX2_comesBet_19 : decode cX2_comesBet 19 = .ok (.aload_n 0, 1) := by decide +kernel
theorem dX2_comesBet_20 : decode cX2_comesBet 20 = .ok (.dup, 1) := by decide +kernel
theorem dX2_comesBet_21 : decode cX2_comesBet 21 = .ok (.getfield 25, 3) := by decide +kernel
theorem dX2_comesBet_24 : decode cX2_comesBet 24 = .ok (.iconst 1, 1) := by decide +kernel
theorem dX2_comesBet_25 : decode cX2_comesBet 25 = .ok (.iadd, 1) := by decide +kernel
theorem dX2_comesBet_26 : decode cX2_comesBet 26 = .ok (.putfield 25, 3) := by decide +kernel
theorem dX2_comesBet_29 : decode cX2_comesBet 29 = .ok (.iconst 0, 1) := by decide +kernel
theorem dX2_comesBet_30 : decode cX2_comesBet 30 = .ok (.istore_n 2, 1) := by decide +kernel
theorem dX2_comesBet_31 : decode cX2_comesBet 31 = .ok (.iload_n 2, 1) := by decide +kernel
theorem dX2_comesBet_32 : decode cX2_comesBet 32 = .ok (.bipush 7, 2) := by decide +kernel
theorem dX2_comesBet_34 : decode cX2_comesBet 34 = .ok (.if_icmp .ge 25, 3) := by decide +kernel
theorem dX2_comesBet_37 : decode cX2_comesBet 37 = .ok (.aload_n 0, 1) := by decide +kernel
theorem dX2_comesBet_38 : decode cX2_comesBet 38 = .ok (.aload_n 0, 1) := by decide +kernel
theorem dX2_comesBet_39 : decode cX2_comesBet 39 = .ok (.getfield 25, 3) := by decide +kernel
theorem dX2_comesBet_42 : decode cX2_comesBet 42 = .ok (.iconst 1, 1) := by decide +kernel
theorem dX2_comesBet_43 : decode cX2_comesBet 43 = .ok (.isub, 1) := by decide +kernel
theorem dX2_comesBet_44 : decode cX2_comesBet 44 = .ok (.iload_n 2, 1) := by decide +kernel
theorem dX2_comesBet_45 : decode cX2_comesBet 45 = .ok (.aload_n 1, 1) := by decide +kernel
theorem dX2_comesBet_46 : decode cX2_comesBet 46 = .ok (.iload_n 2, 1) := by decide +kernel
theorem dX2_comesBet_47 : decode cX2_comesBet 47 = .ok (.invokestatic 36, 3) := by decide +kernel
theorem dX2_comesBet_50 : decode cX2_comesBet 50 = .ok (.invokevirtual 57, 3) := by decide +kernel
theorem dX2_comesBet_53 : decode cX2_comesBet 53 = .ok (.iinc 2 1, 3) := by decide +kernel
theorem dX2_comesBet_56 : decode cX2_comesBet 56 = .ok (.goto (-25), 3) := by decide +kernel
theorem dX2_comesBet_59 : decode cX2_comesBet 59 = .ok (.iconst 1, 1) := by decide +kernel
theorem dX2_comesBet_60 : decode cX2_comesBet 60 = .ok (.ireturn, 1) := by decide +kernel
theorem dX2_comesFund_0 : decode cX2_comesFund 0 = .ok (.iload_n 1, 1) := by decide +kernel
theorem dX2_comesFund_1 : decode cX2_comesFund 1 = .ok (.invokestatic 61, 3) := by decide +kernel
theorem dX2_comesFund_4 : decode cX2_comesFund 4 = .ok (.ifCond .ne 5, 3) := by decide +kernel
theorem dX2_comesFund_7 : decode cX2_comesFund 7 = .ok (.iconst 0, 1) := by decide +kernel
theorem dX2_comesFund_8 : decode cX2_comesFund 8 = .ok (.ireturn, 1) := by decide +kernel
theorem dX2_comesFund_9 : decode cX2_comesFund 9 = .ok (.aload_n 0, 1) := by decide +kernel
theorem dX2_comesFund_10 : decode cX2_comesFund 10 = .ok (.iload_n 1, 1) := by decide +kernel
theorem dX2_comesFund_11 : decode cX2_comesFund 11 = .ok (.iload_n 2, 1) := by decide +kernel
theorem dX2_comesFund_12 : decode cX2_comesFund 12 = .ok (.invokevirtual 64, 3) := by decide +kernel
theorem dX2_comesFund_15 : decode cX2_comesFund 15 = .ok (.iconst 1, 1) := by decide +kernel
theorem dX2_comesFund_16 : decode cX2_comesFund 16 = .ok (.ireturn, 1) := by decide +kernel
theorem dX2_isRight_0 : decode cX2_isRight 0 = .ok (.aload_n 1, 1) := by decide +kernel
theorem dX2_isRight_1 : decode cX2_isRight 1 = .ok (.iconst 5, 1) := by decide +kernel
theorem dX2_isRight_2 : decode cX2_isRight 2 = .ok (.invokestatic 36, 3) := by decide +kernel
theorem dX2_isRight_5 : decode cX2_isRight 5 = .ok (.istore_n 2, 1) := by decide +kernel
theorem dX2_isRight_6 : decode cX2_isRight 6 = .ok (.aload_n 1, 1) := by decide +kernel
theorem dX2_isRight_7 : decode cX2_isRight 7 = .ok (.bipush 6, 2) := by decide +kernel
theorem dX2_isRight_9 : decode cX2_isRight 9 = .ok (.invokestatic 36, 3) := by decide +kernel
theorem dX2_isRight_12 : decode cX2_isRight 12 = .ok (.istore_n 3, 1) := by decide +kernel
theorem dX2_isRight_13 : decode cX2_isRight 13 = .ok (.aload_n 0, 1) := by decide +kernel
theorem dX2_isRight_14 : decode cX2_isRight 14 = .ok (.aload_n 1, 1) := by decide +kernel
theorem dX2_isRight_15 : decode cX2_isRight 15 = .ok (.iconst 1, 1) := by decide +kernel
theorem dX2_isRight_16 : decode cX2_isRight 16 = .ok (.invokestatic 36, 3) := by decide +kernel
theorem dX2_isRight_19 : decode cX2_isRight 19 = .ok (.invokevirtual 68, 3) := by decide +kernel
theorem dX2_isRight_22 : decode cX2_isRight 22 = .ok (.ifCond .eq 47, 3) := by decide +kernel
theorem dX2_isRight_25 : decode cX2_isRight 25 = .ok (.aload_n 0, 1) := by decide +kernel
theorem dX2_isRight_26 : decode cX2_isRight 26 = .ok (.aload_n 1, 1) := by decide +kernel
theorem dX2_isRight_27 : decode cX2_isRight 27 = .ok (.iconst 2, 1) := by decide +kernel
theorem dX2_isRight_28 : decode cX2_isRight 28 = .ok (.invokestatic 36, 3) := by decide +kernel
theorem dX2_isRight_31 : decode cX2_isRight 31 = .ok (.invokevirtual 68, 3) := by decide +kernel
theorem dX2_isRight_34 : decode cX2_isRight 34 = .ok (.ifCond .eq 35, 3) := by decide +kernel
theorem dX2_isRight_37 : decode cX2_isRight 37 = .ok (.aload_n 1, 1) := by decide +kernel
theorem dX2_isRight_38 : decode cX2_isRight 38 = .ok (.iconst 3, 1) := by decide +kernel
theorem dX2_isRight_39 : decode cX2_isRight 39 = .ok (.invokestatic 36, 3) := by decide +kernel
theorem dX2_isRight_42 : decode cX2_isRight 42 = .ok (.iconst 1, 1) := by decide +kernel
theorem dX2_isRight_43 : decode cX2_isRight 43 = .ok (.if_icmp .lt 26, 3) := by decide +kernel
theorem dX2_isRight_46 : decode cX2_isRight 46 = .ok (.iload_n 2, 1) := by decide +kernel
theorem dX2_isRight_47 : decode cX2_isRight 47 = .ok (.invokestatic 61, 3) := by decide +kernel
theorem dX2_isRight_50 : decode cX2_isRight 50 = .ok (.ifCond .eq 19, 3) := by decide +kernel
theorem dX2_isRight_53 : decode cX2_isRight 53 = .ok (.iload_n 3, 1) := by decide +kernel
theorem dX2_isRight_54 : decode cX2_isRight 54 = .ok (.invokestatic 61, 3) := by decide +kernel
theorem dX2_isRight_57 : decode cX2_isRight 57 = .ok (.ifCond .eq 12, 3) := by decide +kernel
theorem dX2_isRight_60 : decode cX2_isRight 60 = .ok (.iload_n 2, 1) := by decide +kernel
theorem dX2_isRight_61 : decode cX2_isRight 61 = .ok (.iload_n 3, 1) := by decide +kernel
theorem dX2_isRight_62 : decode cX2_isRight 62 = .ok (.if_icmp .eq 7, 3) := by decide +kernel
theorem dX2_isRight_65 : decode cX2_isRight 65 = .ok (.iconst 1, 1) := by decide +kernel
theorem dX2_isRight_66 : decode cX2_isRight 66 = .ok (.goto 4, 3) := by decide +kernel
theorem dX2_isRight_69 : decode cX2_isRight 69 = .ok (.iconst 0, 1) := by decide +kernel
theorem dX2_isRight_70 : decode cX2_isRight 70 = .ok (.ireturn, 1) := by decide +kernel
theorem dX2_isMark_0 : decode cX2_isMark 0 = .ok (.iload_n 1, 1) := by decide +kernel
theorem dX2_isMark_1 : decode cX2_isMark 1 = .ok (.bipush 10, 2) := by decide +kernel
theorem dX2_isMark_3 : decode cX2_isMark 3 = .ok (.if_icmp .lt 20, 3) := by decide +kernel
theorem dX2_isMark_6 : decode cX2_isMark 6 = .ok (.iload_n 1, 1) := by decide +kernel
theorem dX2_isMark_7 : decode cX2_isMark 7 = .ok (.bipush 10, 2) := by decide +kernel
theorem dX2_isMark_9 : decode cX2_isMark 9 = .ok (.isub, 1) := by decide +kernel
theorem dX2_isMark_10 : decode cX2_isMark 10 = .ok (.bipush 6, 2) := by decide +kernel
theorem dX2_isMark_12 : decode cX2_isMark 12 = .ok (.if_icmp .ge 7, 3) := by decide +kernel
theorem dX2_isMark_15 : decode cX2_isMark 15 = .ok (.iconst 1, 1) := by decide +kernel
theorem dX2_isMark_16 : decode cX2_isMark 16 = .ok (.goto 20, 3) := by decide +kernel
theorem dX2_isMark_19 : decode cX2_isMark 19 = .ok (.iconst 0, 1) := by decide +kernel
theorem dX2_isMark_20 : decode cX2_isMark 20 = .ok (.goto 16, 3) := by decide +kernel
theorem dX2_isMark_23 : decode cX2_isMark 23 = .ok (.iload_n 1, 1) := by decide +kernel
theorem dX2_isMark_24 : decode cX2_isMark 24 = .ok (.aload_n 0, 1) := by decide +kernel
theorem dX2_isMark_25 : decode cX2_isMark 25 = .ok (.getfield 21, 3) := by decide +kernel
theorem dX2_isMark_28 : decode cX2_isMark 28 = .ok (.if_icmp .ge 7, 3) := by decide +kernel
theorem dX2_isMark_31 : decode cX2_isMark 31 = .ok (.iconst 1, 1) := by decide +kernel
theorem dX2_isMark_32 : decode cX2_isMark 32 = .ok (.goto 4, 3) := by decide +kernel
theorem dX2_isMark_35 : decode cX2_isMark 35 = .ok (.iconst 0, 1) := by decide +kernel
theorem dX2_isMark_36 : decode cX2_isMark 36 = .ok (.ireturn, 1) := by decide +kernel
theorem dX2_hasBet_0 : decode cX2_hasBet 0 = .ok (.iload_n 1, 1) := by decide +kernel
theorem dX2_hasBet_1 : decode cX2_hasBet 1 = .ok (.ifCond .lt 15, 3) := by decide +kernel
theorem dX2_hasBet_4 : decode cX2_hasBet 4 = .ok (.iload_n 1, 1) := by decide +kernel
theorem dX2_hasBet_5 : decode cX2_hasBet 5 = .ok (.aload_n 0, 1) := by decide +kernel
theorem dX2_hasBet_6 : decode cX2_hasBet 6 = .ok (.getfield 25, 3) := by decide +kernel
theorem dX2_hasBet_9 : decode cX2_hasBet 9 = .ok (.if_icmp .ge 7, 3) := by decide +kernel
theorem dX2_hasBet_12 : decode cX2_hasBet 12 = .ok (.iconst 1, 1) := by decide +kernel
theorem dX2_hasBet_13 : decode cX2_hasBet 13 = .ok (.goto 4, 3) := by decide +kernel
theorem dX2_hasBet_16 : decode cX2_hasBet 16 = .ok (.iconst 0, 1) := by decide +kernel
theorem dX2_hasBet_17 : decode cX2_hasBet 17 = .ok (.ireturn, 1) := by decide +kernel
theorem dX2_hasEnd_0 : decode cX2_hasEnd 0 = .ok (.iload_n 1, 1) := by decide +kernel
theorem dX2_hasEnd_1 : decode cX2_hasEnd 1 = .ok (.ifCond .lt 15, 3) := by decide +kernel
theorem dX2_hasEnd_4 : decode cX2_hasEnd 4 = .ok (.iload_n 1, 1) := by decide +kernel
theorem dX2_hasEnd_5 : decode cX2_hasEnd 5 = .ok (.aload_n 0, 1) := by decide +kernel
theorem dX2_hasEnd_6 : decode cX2_hasEnd 6 = .ok (.invokevirtual 71, 3) := by decide +kernel
theorem dX2_hasEnd_9 : decode cX2_hasEnd 9 = .ok (.if_icmp .ge 7, 3) := by decide +kernel
theorem dX2_hasEnd_12 : decode cX2_hasEnd 12 = .ok (.iconst 1, 1) := by decide +kernel
theorem dX2_hasEnd_13 : decode cX2_hasEnd 13 = .ok (.goto 4, 3) := by decide +kernel
theorem dX2_hasEnd_16 : decode cX2_hasEnd 16 = .ok (.iconst 0, 1) := by decide +kernel
theorem dX2_hasEnd_17 : decode cX2_hasEnd 17 = .ok (.ireturn, 1) := by decide +kernel
theorem dX2_ends_0 : decode cX2_ends 0 = .ok (.iconst 1, 1) := by decide +kernel
theorem dX2_ends_1 : decode cX2_ends 1 = .ok (.aload_n 0, 1) := by decide +kernel
theorem dX2_ends_2 : decode cX2_ends 2 = .ok (.getfield 21, 3) := by decide +kernel
theorem dX2_ends_5 : decode cX2_ends 5 = .ok (.ishl, 1) := by decide +kernel
theorem dX2_ends_6 : decode cX2_ends 6 = .ok (.ireturn, 1) := by decide +kernel
theorem dX2_chanceOf_0 : decode cX2_chanceOf 0 = .ok (.aload_n 0, 1) := by decide +kernel
theorem dX2_chanceOf_1 : decode cX2_chanceOf 1 = .ok (.getfield 9, 3) := by decide +kernel
theorem dX2_chanceOf_4 : decode cX2_chanceOf 4 = .ok (.iload_n 1, 1) := by decide +kernel
theorem dX2_chanceOf_5 : decode cX2_chanceOf 5 = .ok (.invokestatic 36, 3) := by decide +kernel
theorem dX2_chanceOf_8 : decode cX2_chanceOf 8 = .ok (.ireturn, 1) := by decide +kernel
theorem dX2_numberOf_0 : decode cX2_numberOf 0 = .ok (.aload_n 0, 1) := by decide +kernel
theorem dX2_numberOf_1 : decode cX2_numberOf 1 = .ok (.getfield 15, 3) := by decide +kernel
theorem dX2_numberOf_4 : decode cX2_numberOf 4 = .ok (.iload_n 1, 1) := by decide +kernel
theorem dX2_numberOf_5 : decode cX2_numberOf 5 = .ok (.bipush 7, 2) := by decide +kernel
theorem dX2_numberOf_7 : decode cX2_numberOf 7 = .ok (.imul, 1) := by decide +kernel
theorem dX2_numberOf_8 : decode cX2_numberOf 8 = .ok (.iload_n 2, 1) := by decide +kernel
theorem dX2_numberOf_9 : decode cX2_numberOf 9 = .ok (.iadd, 1) := by decide +kernel
theorem dX2_numberOf_10 : decode cX2_numberOf 10 = .ok (.invokestatic 36, 3) := by decide +kernel
theorem dX2_numberOf_13 : decode cX2_numberOf 13 = .ok (.ireturn, 1) := by decide +kernel
theorem dX2_change_0 : decode cX2_change 0 = .ok (.aload_n 0, 1) := by decide +kernel
theorem dX2_change_1 : decode cX2_change 1 = .ok (.getfield 15, 3) := by decide +kernel
theorem dX2_change_4 : decode cX2_change 4 = .ok (.iload_n 1, 1) := by decide +kernel
theorem dX2_change_5 : decode cX2_change 5 = .ok (.bipush 7, 2) := by decide +kernel
theorem dX2_change_7 : decode cX2_change 7 = .ok (.imul, 1) := by decide +kernel
theorem dX2_change_8 : decode cX2_change 8 = .ok (.iload_n 2, 1) := by decide +kernel
theorem dX2_change_9 : decode cX2_change 9 = .ok (.iadd, 1) := by decide +kernel
theorem dX2_change_10 : decode cX2_change 10 = .ok (.iload_n 3, 1) := by decide +kernel
theorem dX2_change_11 : decode cX2_change 11 = .ok (.invokestatic 28, 3) := by decide +kernel
theorem dX2_change_14 : decode cX2_change 14 = .ok (.return_, 1) := by decide +kernel
theorem dX2_fundOf_0 : decode cX2_fundOf 0 = .ok (.aload_n 0, 1) := by decide +kernel
theorem dX2_fundOf_1 : decode cX2_fundOf 1 = .ok (.getfield 18, 3) := by decide +kernel
theorem dX2_fundOf_4 : decode cX2_fundOf 4 = .ok (.iload_n 1, 1) := by decide +kernel
theorem dX2_fundOf_5 : decode cX2_fundOf 5 = .ok (.invokestatic 36, 3) := by decide +kernel
theorem dX2_fundOf_8 : decode cX2_fundOf 8 = .ok (.ireturn, 1) := by decide +kernel
theorem dX2_changeFund_0 : decode cX2_changeFund 0 = .ok (.aload_n 0, 1) := by decide +kernel
theorem dX2_changeFund_1 : decode cX2_changeFund 1 = .ok (.getfield 18, 3) := by decide +kernel
theorem dX2_changeFund_4 : decode cX2_changeFund 4 = .ok (.iload_n 1, 1) := by decide +kernel
theorem dX2_changeFund_5 : decode cX2_changeFund 5 = .ok (.iload_n 2, 1) := by decide +kernel
theorem dX2_changeFund_6 : decode cX2_changeFund 6 = .ok (.invokestatic 28, 3) := by decide +kernel
theorem dX2_changeFund_9 : decode cX2_changeFund 9 = .ok (.return_, 1) := by decide +kernel
theorem dX2_allStakes_0 : decode cX2_allStakes 0 = .ok (.iconst 0, 1) := by decide +kernel
theorem dX2_allStakes_1 : decode cX2_allStakes 1 = .ok (.istore_n 1, 1) := by decide +kernel
theorem dX2_allStakes_2 : decode cX2_allStakes 2 = .ok (.iconst 0, 1) := by decide +kernel
theorem dX2_allStakes_3 : decode cX2_allStakes 3 = .ok (.istore_n 2, 1) := by decide +kernel
theorem dX2_allStakes_4 : decode cX2_allStakes 4 = .ok (.iload_n 2, 1) := by decide +kernel
theorem dX2_allStakes_5 : decode cX2_allStakes 5 = .ok (.aload_n 0, 1) := by decide +kernel
theorem dX2_allStakes_6 : decode cX2_allStakes 6 = .ok (.getfield 25, 3) := by decide +kernel
theorem dX2_allStakes_9 : decode cX2_allStakes 9 = .ok (.if_icmp .ge 18, 3) := by decide +kernel
theorem dX2_allStakes_12 : decode cX2_allStakes 12 = .ok (.iload_n 1, 1) := by decide +kernel
theorem dX2_allStakes_13 : decode cX2_allStakes 13 = .ok (.aload_n 0, 1) := by decide +kernel
theorem dX2_allStakes_14 : decode cX2_allStakes 14 = .ok (.iload_n 2, 1) := by decide +kernel
theorem dX2_allStakes_15 : decode cX2_allStakes 15 = .ok (.iconst 3, 1) := by decide +kernel
theorem dX2_allStakes_16 : decode cX2_allStakes 16 = .ok (.invokevirtual 75, 3) := by decide +kernel
theorem dX2_allStakes_19 : decode cX2_allStakes 19 = .ok (.iadd, 1) := by decide +kernel
theorem dX2_allStakes_20 : decode cX2_allStakes 20 = .ok (.istore_n 1, 1) := by decide +kernel
theorem dX2_allStakes_21 : decode cX2_allStakes 21 = .ok (.iinc 2 1, 3) := by decide +kernel
theorem dX2_allStakes_24 : decode cX2_allStakes 24 = .ok (.goto (-20), 3) := by decide +kernel
theorem dX2_allStakes_27 : decode cX2_allStakes 27 = .ok (.iload_n 1, 1) := by decide +kernel
theorem dX2_allStakes_28 : decode cX2_allStakes 28 = .ok (.ireturn, 1) := by decide +kernel
theorem dX2_weightOf_0 : decode cX2_weightOf 0 = .ok (.lconst 1, 1) := by decide +kernel
theorem dX2_weightOf_1 : decode cX2_weightOf 1 = .ok (.lstore_n 2, 1) := by decide +kernel
theorem dX2_weightOf_2 : decode cX2_weightOf 2 = .ok (.iconst 0, 1) := by decide +kernel
theorem dX2_weightOf_3 : decode cX2_weightOf 3 = .ok (.istore 4, 2) := by decide +kernel
theorem dX2_weightOf_5 : decode cX2_weightOf 5 = .ok (.iload 4, 2) := by decide +kernel
theorem dX2_weightOf_7 : decode cX2_weightOf 7 = .ok (.aload_n 0, 1) := by decide +kernel
theorem dX2_weightOf_8 : decode cX2_weightOf 8 = .ok (.getfield 21, 3) := by decide +kernel
theorem dX2_weightOf_11 : decode cX2_weightOf 11 = .ok (.if_icmp .ge 41, 3) := by decide +kernel
theorem dX2_weightOf_14 : decode cX2_weightOf 14 = .ok (.aload_n 0, 1) := by decide +kernel
theorem dX2_weightOf_15 : decode cX2_weightOf 15 = .ok (.iload 4, 2) := by decide +kernel
theorem dX2_weightOf_17 : decode cX2_weightOf 17 = .ok (.invokevirtual 79, 3) := by decide +kernel
theorem dX2_weightOf_20 : decode cX2_weightOf 20 = .ok (.istore 5, 2) := by decide +kernel
theorem dX2_weightOf_22 : decode cX2_weightOf 22 = .ok (.lload_n 2, 1) := by decide +kernel
theorem dX2_weightOf_23 : decode cX2_weightOf 23 = .ok (.iload_n 1, 1) := by decide +kernel
theorem dX2_weightOf_24 : decode cX2_weightOf 24 = .ok (.iload 4, 2) := by decide +kernel
theorem dX2_weightOf_26 : decode cX2_weightOf 26 = .ok (.invokestatic 83, 3) := by decide +kernel
theorem dX2_weightOf_29 : decode cX2_weightOf 29 = .ok (.ifCond .eq 9, 3) := by decide +kernel
theorem dX2_weightOf_32 : decode cX2_weightOf 32 = .ok (.iload 5, 2) := by decide +kernel
theorem dX2_weightOf_34 : decode cX2_weightOf 34 = .ok (.i2l, 1) := by decide +kernel
theorem dX2_weightOf_35 : decode cX2_weightOf 35 = .ok (.goto 9, 3) := by decide +kernel
theorem dX2_weightOf_38 : decode cX2_weightOf 38 = .ok (.bipush 100, 2) := by decide +kernel
theorem dX2_weightOf_40 : decode cX2_weightOf 40 = .ok (.iload 5, 2) := by decide +kernel
theorem dX2_weightOf_42 : decode cX2_weightOf 42 = .ok (.isub, 1) := by decide +kernel
theorem dX2_weightOf_43 : decode cX2_weightOf 43 = .ok (.i2l, 1) := by decide +kernel
theorem dX2_weightOf_44 : decode cX2_weightOf 44 = .ok (.lmul, 1) := by decide +kernel
theorem dX2_weightOf_45 : decode cX2_weightOf 45 = .ok (.lstore_n 2, 1) := by decide +kernel
theorem dX2_weightOf_46 : decode cX2_weightOf 46 = .ok (.iinc 4 1, 3) := by decide +kernel
theorem dX2_weightOf_49 : decode cX2_weightOf 49 = .ok (.goto (-44), 3) := by decide +kernel
theorem dX2_weightOf_52 : decode cX2_weightOf 52 = .ok (.lload_n 2, 1) := by decide +kernel
theorem dX2_weightOf_53 : decode cX2_weightOf 53 = .ok (.lreturn, 1) := by decide +kernel
theorem dX2_wholeWeight_0 : decode cX2_wholeWeight 0 = .ok (.lconst 1, 1) := by decide +kernel
theorem dX2_wholeWeight_1 : decode cX2_wholeWeight 1 = .ok (.lstore_n 1, 1) := by decide +kernel
theorem dX2_wholeWeight_2 : decode cX2_wholeWeight 2 = .ok (.iconst 0, 1) := by decide +kernel
theorem dX2_wholeWeight_3 : decode cX2_wholeWeight 3 = .ok (.istore_n 3, 1) := by decide +kernel
theorem dX2_wholeWeight_4 : decode cX2_wholeWeight 4 = .ok (.iload_n 3, 1) := by decide +kernel
theorem dX2_wholeWeight_5 : decode cX2_wholeWeight 5 = .ok (.aload_n 0, 1) := by decide +kernel
theorem dX2_wholeWeight_6 : decode cX2_wholeWeight 6 = .ok (.getfield 21, 3) := by decide +kernel
theorem dX2_wholeWeight_9 : decode cX2_wholeWeight 9 = .ok (.if_icmp .ge 15, 3) := by decide +kernel
theorem dX2_wholeWeight_12 : decode cX2_wholeWeight 12 = .ok (.lload_n 1, 1) := by decide +kernel
theorem dX2_wholeWeight_13 : decode cX2_wholeWeight 13 = .ok (.ldc2_w 86, 3) := by decide +kernel
theorem dX2_wholeWeight_16 : decode cX2_wholeWeight 16 = .ok (.lmul, 1) := by decide +kernel
theorem dX2_wholeWeight_17 : decode cX2_wholeWeight 17 = .ok (.lstore_n 1, 1) := by decide +kernel
theorem dX2_wholeWeight_18 : decode cX2_wholeWeight 18 = .ok (.iinc 3 1, 3) := by decide +kernel
theorem dX2_wholeWeight_21 : decode cX2_wholeWeight 21 = .ok (.goto (-17), 3) := by decide +kernel
theorem dX2_wholeWeight_24 : decode cX2_wholeWeight 24 = .ok (.lload_n 1, 1) := by decide +kernel
theorem dX2_wholeWeight_25 : decode cX2_wholeWeight 25 = .ok (.lreturn, 1) := by decide +kernel
theorem dX3_init_0 : decode cX3_init 0 = .ok (.aload_n 0, 1) := by decide +kernel
theorem dX3_init_1 : decode cX3_init 1 = .ok (.invokespecial 1, 3) := by decide +kernel
theorem dX3_init_4 : decode cX3_init 4 = .ok (.return_, 1) := by decide +kernel
theorem dX3_isWonBy_0 : decode cX3_isWonBy 0 = .ok (.iload_n 1, 1) := by decide +kernel
theorem dX3_isWonBy_1 : decode cX3_isWonBy 1 = .ok (.ifCond .eq 11, 3) := by decide +kernel
theorem dX3_isWonBy_4 : decode cX3_isWonBy 4 = .ok (.iload_n 2, 1) := by decide +kernel
theorem dX3_isWonBy_5 : decode cX3_isWonBy 5 = .ok (.ifCond .eq 7, 3) := by decide +kernel
theorem dX3_isWonBy_8 : decode cX3_isWonBy 8 = .ok (.iconst 1, 1) := by decide +kernel
theorem dX3_isWonBy_9 : decode cX3_isWonBy 9 = .ok (.goto 4, 3) := by decide +kernel
theorem dX3_isWonBy_12 : decode cX3_isWonBy 12 = .ok (.iconst 0, 1) := by decide +kernel
theorem dX3_isWonBy_13 : decode cX3_isWonBy 13 = .ok (.ireturn, 1) := by decide +kernel
theorem dX3_looksAtBoth_0 : decode cX3_looksAtBoth 0 = .ok (.iconst 1, 1) := by decide +kernel
theorem dX3_looksAtBoth_1 : decode cX3_looksAtBoth 1 = .ok (.ireturn, 1) := by decide +kernel
theorem dX4_init_0 : decode cX4_init 0 = .ok (.aload_n 0, 1) := by decide +kernel
theorem dX4_init_1 : decode cX4_init 1 = .ok (.invokespecial 1, 3) := by decide +kernel
theorem dX4_init_4 : decode cX4_init 4 = .ok (.return_, 1) := by decide +kernel
theorem dX4_isWonBy_0 : decode cX4_isWonBy 0 = .ok (.iload_n 1, 1) := by decide +kernel
theorem dX4_isWonBy_1 : decode cX4_isWonBy 1 = .ok (.ifCond .ne 7, 3) := by decide +kernel
theorem dX4_isWonBy_4 : decode cX4_isWonBy 4 = .ok (.iload_n 2, 1) := by decide +kernel
theorem dX4_isWonBy_5 : decode cX4_isWonBy 5 = .ok (.ifCond .eq 7, 3) := by decide +kernel
theorem dX4_isWonBy_8 : decode cX4_isWonBy 8 = .ok (.iconst 1, 1) := by decide +kernel
theorem dX4_isWonBy_9 : decode cX4_isWonBy 9 = .ok (.goto 4, 3) := by decide +kernel
theorem dX4_isWonBy_12 : decode cX4_isWonBy 12 = .ok (.iconst 0, 1) := by decide +kernel
theorem dX4_isWonBy_13 : decode cX4_isWonBy 13 = .ok (.ireturn, 1) := by decide +kernel
theorem dX5_init_0 : decode cX5_init 0 = .ok (.aload_n 0, 1) := by decide +kernel
theorem dX5_init_1 : decode cX5_init 1 = .ok (.invokespecial 1, 3) := by decide +kernel
theorem dX5_init_4 : decode cX5_init 4 = .ok (.return_, 1) := by decide +kernel
theorem dX5_isWonBy_0 : decode cX5_isWonBy 0 = .ok (.iload_n 1, 1) := by decide +kernel
theorem dX5_isWonBy_1 : decode cX5_isWonBy 1 = .ok (.ifCond .ne 11, 3) := by decide +kernel
theorem dX5_isWonBy_4 : decode cX5_isWonBy 4 = .ok (.iload_n 2, 1) := by decide +kernel
theorem dX5_isWonBy_5 : decode cX5_isWonBy 5 = .ok (.ifCond .ne 7, 3) := by decide +kernel
theorem dX5_isWonBy_8 : decode cX5_isWonBy 8 = .ok (.iconst 1, 1) := by decide +kernel
theorem dX5_isWonBy_9 : decode cX5_isWonBy 9 = .ok (.goto 4, 3) := by decide +kernel
theorem dX5_isWonBy_12 : decode cX5_isWonBy 12 = .ok (.iconst 0, 1) := by decide +kernel
theorem dX5_isWonBy_13 : decode cX5_isWonBy 13 = .ok (.ireturn, 1) := by decide +kernel
theorem dX6_init_0 : decode cX6_init 0 = .ok (.aload_n 0, 1) := by decide +kernel
theorem dX6_init_1 : decode cX6_init 1 = .ok (.invokespecial 1, 3) := by decide +kernel
theorem dX6_init_4 : decode cX6_init 4 = .ok (.return_, 1) := by decide +kernel
theorem dX6_isWonBy_0 : decode cX6_isWonBy 0 = .ok (.iload_n 1, 1) := by decide +kernel
theorem dX6_isWonBy_1 : decode cX6_isWonBy 1 = .ok (.iload_n 2, 1) := by decide +kernel
theorem dX6_isWonBy_2 : decode cX6_isWonBy 2 = .ok (.if_icmp .eq 7, 3) := by decide +kernel
theorem dX6_isWonBy_5 : decode cX6_isWonBy 5 = .ok (.iconst 1, 1) := by decide +kernel
theorem dX6_isWonBy_6 : decode cX6_isWonBy 6 = .ok (.goto 4, 3) := by decide +kernel
theorem dX6_isWonBy_9 : decode cX6_isWonBy 9 = .ok (.iconst 0, 1) := by decide +kernel
theorem dX6_isWonBy_10 : decode cX6_isWonBy 10 = .ok (.ireturn, 1) := by decide +kernel
theorem dX7_init_0 : decode cX7_init 0 = .ok (.aload_n 0, 1) := by decide +kernel
theorem dX7_init_1 : decode cX7_init 1 = .ok (.invokespecial 1, 3) := by decide +kernel
theorem dX7_init_4 : decode cX7_init 4 = .ok (.return_, 1) := by decide +kernel
theorem dX7_isWonBy_0 : decode cX7_isWonBy 0 = .ok (.iload_n 1, 1) := by decide +kernel
theorem dX7_isWonBy_1 : decode cX7_isWonBy 1 = .ok (.ireturn, 1) := by decide +kernel
theorem dX7_looksAtBoth_0 : decode cX7_looksAtBoth 0 = .ok (.iconst 0, 1) := by decide +kernel
theorem dX7_looksAtBoth_1 : decode cX7_looksAtBoth 1 = .ok (.ireturn, 1) := by decide +kernel
theorem dX8_init_0 : decode cX8_init 0 = .ok (.aload_n 0, 1) := by decide +kernel
theorem dX8_init_1 : decode cX8_init 1 = .ok (.invokespecial 3, 3) := by decide +kernel
theorem dX8_init_4 : decode cX8_init 4 = .ok (.aload_n 0, 1) := by decide +kernel
theorem dX8_init_5 : decode cX8_init 5 = .ok (.new 9, 3) := by decide +kernel
theorem dX8_init_8 : decode cX8_init 8 = .ok (.dup, 1) := by decide +kernel
theorem dX8_init_9 : decode cX8_init 9 = .ok (.bipush 80, 2) := by decide +kernel
theorem dX8_init_11 : decode cX8_init 11 = .ok (.invokespecial 11, 3) := by decide +kernel
theorem dX8_init_14 : decode cX8_init 14 = .ok (.putfield 14, 3) := by decide +kernel
theorem dX8_init_17 : decode cX8_init 17 = .ok (.aload_n 0, 1) := by decide +kernel
theorem dX8_init_18 : decode cX8_init 18 = .ok (.bipush 7, 2) := by decide +kernel
theorem dX8_init_20 : decode cX8_init 20 = .ok (.newarray .int, 2) := by decide +kernel
theorem dX8_init_22 : decode cX8_init 22 = .ok (.putfield 20, 3) := by decide +kernel
theorem dX8_init_25 : decode cX8_init 25 = .ok (.aload_n 0, 1) := by decide +kernel
theorem dX8_init_26 : decode cX8_init 26 = .ok (.iconst 0, 1) := by decide +kernel
theorem dX8_init_27 : decode cX8_init 27 = .ok (.putfield 24, 3) := by decide +kernel
theorem dX8_init_30 : decode cX8_init 30 = .ok (.aload_n 0, 1) := by decide +kernel
theorem dX8_init_31 : decode cX8_init 31 = .ok (.iconst 0, 1) := by decide +kernel
theorem dX8_init_32 : decode cX8_init 32 = .ok (.putfield 28, 3) := by decide +kernel
theorem dX8_init_35 : decode cX8_init 35 = .ok (.return_, 1) := by decide +kernel
theorem dX8_begin_0 : decode cX8_begin 0 = .ok (.aload_n 0, 1) := by decide +kernel
theorem dX8_begin_1 : decode cX8_begin 1 = .ok (.iconst 0, 1) := by decide +kernel
theorem dX8_begin_2 : decode cX8_begin 2 = .ok (.putfield 24, 3) := by decide +kernel
theorem dX8_begin_5 : decode cX8_begin 5 = .ok (.aload_n 0, 1) := by decide +kernel
theorem dX8_begin_6 : decode cX8_begin 6 = .ok (.iconst 0, 1) := by decide +kernel
theorem dX8_begin_7 : decode cX8_begin 7 = .ok (.putfield 28, 3) := by decide +kernel
theorem dX8_begin_10 : decode cX8_begin 10 = .ok (.return_, 1) := by decide +kernel
theorem dX8_goesOn_0 : decode cX8_goesOn 0 = .ok (.aload_n 0, 1) := by decide +kernel
theorem dX8_goesOn_1 : decode cX8_goesOn 1 = .ok (.getfield 28, 3) := by decide +kernel
theorem dX8_goesOn_4 : decode cX8_goesOn 4 = .ok (.ifCond .ne 21, 3) := by decide +kernel
theorem dX8_goesOn_7 : decode cX8_goesOn 7 = .ok (.aload_n 0, 1) := by decide +kernel
theorem dX8_goesOn_8 : decode cX8_goesOn 8 = .ok (.getfield 24, 3) := by decide +kernel
theorem dX8_goesOn_11 : decode cX8_goesOn 11 = .ok (.aload_n 0, 1) := by decide +kernel
theorem dX8_goesOn_12 : decode cX8_goesOn 12 = .ok (.getfield 14, 3) := by decide +kernel
theorem dX8_goesOn_15 : decode cX8_goesOn 15 = .ok (.getfield 32, 3) := by decide +kernel
theorem dX8_goesOn_18 : decode cX8_goesOn 18 = .ok (.if_icmp .ge 7, 3) := by decide +kernel
theorem dX8_goesOn_21 : decode cX8_goesOn 21 = .ok (.iconst 1, 1) := by decide +kernel
theorem dX8_goesOn_22 : decode cX8_goesOn 22 = .ok (.goto 4, 3) := by decide +kernel
theorem dX8_goesOn_25 : decode cX8_goesOn 25 = .ok (.iconst 0, 1) := by decide +kernel
theorem dX8_goesOn_26 : decode cX8_goesOn 26 = .ok (.ireturn, 1) := by decide +kernel
theorem dX8_faultPlace_0 : decode cX8_faultPlace 0 = .ok (.aload_n 0, 1) := by decide +kernel
theorem dX8_faultPlace_1 : decode cX8_faultPlace 1 = .ok (.invokevirtual 35, 3) := by decide +kernel
theorem dX8_faultPlace_4 : decode cX8_faultPlace 4 = .ok (.aload_n 0, 1) := by decide +kernel
theorem dX8_faultPlace_5 : decode cX8_faultPlace 5 = .ok (.invokevirtual 38, 3) := by decide +kernel
theorem dX8_faultPlace_8 : decode cX8_faultPlace 8 = .ok (.pop, 1) := by decide +kernel
theorem dX8_faultPlace_9 : decode cX8_faultPlace 9 = .ok (.iconst 1, 1) := by decide +kernel
theorem dX8_faultPlace_10 : decode cX8_faultPlace 10 = .ok (.istore_n 1, 1) := by decide +kernel
theorem dX8_faultPlace_11 : decode cX8_faultPlace 11 = .ok (.iload_n 1, 1) := by decide +kernel
theorem dX8_faultPlace_12 : decode cX8_faultPlace 12 = .ok (.bipush 80, 2) := by decide +kernel
theorem dX8_faultPlace_14 : decode cX8_faultPlace 14 = .ok (.if_icmp .ge 21, 3) := by decide +kernel
theorem dX8_faultPlace_17 : decode cX8_faultPlace 17 = .ok (.aload_n 0, 1) := by decide +kernel
theorem dX8_faultPlace_18 : decode cX8_faultPlace 18 = .ok (.invokevirtual 42, 3) := by decide +kernel
theorem dX8_faultPlace_21 : decode cX8_faultPlace 21 = .ok (.ifCond .eq 14, 3) := by decide +kernel
theorem dX8_faultPlace_24 : decode cX8_faultPlace 24 = .ok (.aload_n 0, 1) := by decide +kernel
theorem dX8_faultPlace_25 : decode cX8_faultPlace 25 = .ok (.invokevirtual 38, 3) := by decide +kernel
theorem dX8_faultPlace_28 : decode cX8_faultPlace 28 = .ok (.pop, 1) := by decide +kernel
theorem dX8_faultPlace_29 : decode cX8_faultPlace 29 = .ok (.iinc 1 1, 3) := by decide +kernel
theorem dX8_faultPlace_32 : decode cX8_faultPlace 32 = .ok (.goto (-21), 3) := by decide +kernel
theorem dX8_faultPlace_35 : decode cX8_faultPlace 35 = .ok (.aload_n 0, 1) := by decide +kernel
theorem dX8_faultPlace_36 : decode cX8_faultPlace 36 = .ok (.getfield 28, 3) := by decide +kernel
theorem dX8_faultPlace_39 : decode cX8_faultPlace 39 = .ok (.ifCond .eq 10, 3) := by decide +kernel
theorem dX8_faultPlace_42 : decode cX8_faultPlace 42 = .ok (.aload_n 0, 1) := by decide +kernel
theorem dX8_faultPlace_43 : decode cX8_faultPlace 43 = .ok (.getfield 24, 3) := by decide +kernel
theorem dX8_faultPlace_46 : decode cX8_faultPlace 46 = .ok (.goto 5, 3) := by decide +kernel
theorem dX8_faultPlace_49 : decode cX8_faultPlace 49 = .ok (.bipush (-9), 2) := by decide +kernel
theorem dX8_faultPlace_51 : decode cX8_faultPlace 51 = .ok (.ireturn, 1) := by decide +kernel
theorem dX8_readStatement_0 : decode cX8_readStatement 0 = .ok (.aload_n 0, 1) := by decide +kernel
theorem dX8_readStatement_1 : decode cX8_readStatement 1 = .ok (.ldc 46, 2) := by decide +kernel
theorem dX8_readStatement_3 : decode cX8_readStatement 3 = .ok (.invokevirtual 48, 3) := by decide +kernel
theorem dX8_readStatement_6 : decode cX8_readStatement 6 = .ok (.istore_n 1, 1) := by decide +kernel
theorem dX8_readStatement_7 : decode cX8_readStatement 7 = .ok (.iload_n 1, 1) := by decide +kernel
theorem dX8_readStatement_8 : decode cX8_readStatement 8 = .ok (.ifCond .ne 18, 3) := by decide +kernel
theorem dX8_readStatement_11 : decode cX8_readStatement 11 = .ok (.aload_n 0, 1) := by decide +kernel
theorem dX8_readStatement_12 : decode cX8_readStatement 12 = .ok (.getfield 20, 3) := by decide +kernel
theorem dX8_readStatement_15 : decode cX8_readStatement 15 = .ok (.iconst 0, 1) := by decide +kernel
theorem dX8_readStatement_16 : decode cX8_readStatement 16 = .ok (.aload_n 0, 1) := by decide +kernel
theorem dX8_readStatement_17 : decode cX8_readStatement 17 = .ok (.invokevirtual 52, 3) := by decide +kernel
theorem dX8_readStatement_20 : decode cX8_readStatement 20 = .ok (.invokestatic 55, 3) := by decide +kernel
theorem dX8_readStatement_23 : decode cX8_readStatement 23 = .ok (.goto 48, 3) := by decide +kernel
theorem dX8_readStatement_26 : decode cX8_readStatement 26 = .ok (.iload_n 1, 1) := by decide +kernel
theorem dX8_readStatement_27 : decode cX8_readStatement 27 = .ok (.iconst 1, 1) := by decide +kernel
theorem dX8_readStatement_28 : decode cX8_readStatement 28 = .ok (.if_icmp .ne 10, 3) := by decide +kernel
theorem dX8_readStatement_31 : decode cX8_readStatement 31 = .ok (.aload_n 0, 1) := by decide +kernel
theorem dX8_readStatement_32 : decode cX8_readStatement 32 = .ok (.invokevirtual 59, 3) := by decide +kernel
theorem dX8_readStatement_35 : decode cX8_readStatement 35 = .ok (.goto 36, 3) := by decide +kernel
theorem dX8_readStatement_38 : decode cX8_readStatement 38 = .ok (.aload_n 0, 1) := by decide +kernel
theorem dX8_readStatement_39 : decode cX8_readStatement 39 = .ok (.getfield 20, 3) := by decide +kernel
theorem dX8_readStatement_42 : decode cX8_readStatement 42 = .ok (.iconst 0, 1) := by decide +kernel
theorem dX8_readStatement_43 : decode cX8_readStatement 43 = .ok (.aload_n 0, 1) := by decide +kernel
theorem dX8_readStatement_44 : decode cX8_readStatement 44 = .ok (.ldc 62, 2) := by decide +kernel
theorem dX8_readStatement_46 : decode cX8_readStatement 46 = .ok (.invokevirtual 48, 3) := by decide +kernel
theorem dX8_readStatement_49 : decode cX8_readStatement 49 = .ok (.invokestatic 55, 3) := by decide +kernel
theorem dX8_readStatement_52 : decode cX8_readStatement 52 = .ok (.aload_n 0, 1) := by decide +kernel
theorem dX8_readStatement_53 : decode cX8_readStatement 53 = .ok (.ldc 64, 2) := by decide +kernel
theorem dX8_readStatement_55 : decode cX8_readStatement 55 = .ok (.invokevirtual 48, 3) := by decide +kernel
theorem dX8_readStatement_58 : decode cX8_readStatement 58 = .ok (.pop, 1) := by decide +kernel
theorem dX8_readStatement_59 : decode cX8_readStatement 59 = .ok (.aload_n 0, 1) := by decide +kernel
theorem dX8_readStatement_60 : decode cX8_readStatement 60 = .ok (.getfield 20, 3) := by decide +kernel
theorem dX8_readStatement_63 : decode cX8_readStatement 63 = .ok (.iconst 1, 1) := by decide +kernel
theorem dX8_readStatement_64 : decode cX8_readStatement 64 = .ok (.aload_n 0, 1) := by decide +kernel
theorem dX8_readStatement_65 : decode cX8_readStatement 65 = .ok (.invokevirtual 52, 3) := by decide +kernel
theorem dX8_readStatement_68 : decode cX8_readStatement 68 = .ok (.invokestatic 55, 3) := by decide +kernel
theorem dX8_readStatement_71 : decode cX8_readStatement 71 = .ok (.aload_n 0, 1) := by decide +kernel
theorem dX8_readStatement_72 : decode cX8_readStatement 72 = .ok (.ldc 66, 2) := by decide +kernel
theorem dX8_readStatement_74 : decode cX8_readStatement 74 = .ok (.invokevirtual 48, 3) := by decide +kernel
theorem dX8_readStatement_77 : decode cX8_readStatement 77 = .ok (.pop, 1) := by decide +kernel
theorem dX8_readStatement_78 : decode cX8_readStatement 78 = .ok (.iload_n 1, 1) := by decide +kernel
theorem dX8_readStatement_79 : decode cX8_readStatement 79 = .ok (.ireturn, 1) := by decide +kernel
theorem dX8_readBet_0 : decode cX8_readBet 0 = .ok (.aload_n 0, 1) := by decide +kernel
theorem dX8_readBet_1 : decode cX8_readBet 1 = .ok (.getfield 20, 3) := by decide +kernel
theorem dX8_readBet_4 : decode cX8_readBet 4 = .ok (.iconst 0, 1) := by decide +kernel
theorem dX8_readBet_5 : decode cX8_readBet 5 = .ok (.aload_n 0, 1) := by decide +kernel
theorem dX8_readBet_6 : decode cX8_readBet 6 = .ok (.ldc 68, 2) := by decide +kernel
theorem dX8_readBet_8 : decode cX8_readBet 8 = .ok (.invokevirtual 48, 3) := by decide +kernel
theorem dX8_readBet_11 : decode cX8_readBet 11 = .ok (.invokestatic 55, 3) := by decide +kernel
theorem dX8_readBet_14 : decode cX8_readBet 14 = .ok (.aload_n 0, 1) := by decide +kernel
theorem dX8_readBet_15 : decode cX8_readBet 15 = .ok (.getfield 20, 3) := by decide +kernel
theorem dX8_readBet_18 : decode cX8_readBet 18 = .ok (.iconst 1, 1) := by decide +kernel
theorem dX8_readBet_19 : decode cX8_readBet 19 = .ok (.aload_n 0, 1) := by decide +kernel
theorem dX8_readBet_20 : decode cX8_readBet 20 = .ok (.invokevirtual 70, 3) := by decide +kernel
theorem dX8_readBet_23 : decode cX8_readBet 23 = .ok (.invokestatic 55, 3) := by decide +kernel
theorem dX8_readBet_26 : decode cX8_readBet 26 = .ok (.aload_n 0, 1) := by decide +kernel
theorem dX8_readBet_27 : decode cX8_readBet 27 = .ok (.getfield 20, 3) := by decide +kernel
theorem dX8_readBet_30 : decode cX8_readBet 30 = .ok (.iconst 2, 1) := by decide +kernel
theorem dX8_readBet_31 : decode cX8_readBet 31 = .ok (.aload_n 0, 1) := by decide +kernel
theorem dX8_readBet_32 : decode cX8_readBet 32 = .ok (.invokevirtual 70, 3) := by decide +kernel
theorem dX8_readBet_35 : decode cX8_readBet 35 = .ok (.invokestatic 55, 3) := by decide +kernel
theorem dX8_readBet_38 : decode cX8_readBet 38 = .ok (.aload_n 0, 1) := by decide +kernel
theorem dX8_readBet_39 : decode cX8_readBet 39 = .ok (.getfield 20, 3) := by decide +kernel
theorem dX8_readBet_42 : decode cX8_readBet 42 = .ok (.iconst 3, 1) := by decide +kernel
theorem dX8_readBet_43 : decode cX8_readBet 43 = .ok (.aload_n 0, 1) := by decide +kernel
theorem dX8_readBet_44 : decode cX8_readBet 44 = .ok (.invokevirtual 52, 3) := by decide +kernel
theorem dX8_readBet_47 : decode cX8_readBet 47 = .ok (.invokestatic 55, 3) := by decide +kernel
theorem dX8_readBet_50 : decode cX8_readBet 50 = .ok (.aload_n 0, 1) := by decide +kernel
theorem dX8_readBet_51 : decode cX8_readBet 51 = .ok (.ldc 64, 2) := by decide +kernel
theorem dX8_readBet_53 : decode cX8_readBet 53 = .ok (.invokevirtual 48, 3) := by decide +kernel
theorem dX8_readBet_56 : decode cX8_readBet 56 = .ok (.pop, 1) := by decide +kernel
theorem dX8_readBet_57 : decode cX8_readBet 57 = .ok (.aload_n 0, 1) := by decide +kernel
theorem dX8_readBet_58 : decode cX8_readBet 58 = .ok (.getfield 20, 3) := by decide +kernel
theorem dX8_readBet_61 : decode cX8_readBet 61 = .ok (.iconst 4, 1) := by decide +kernel
theorem dX8_readBet_62 : decode cX8_readBet 62 = .ok (.aload_n 0, 1) := by decide +kernel
theorem dX8_readBet_63 : decode cX8_readBet 63 = .ok (.ldc 62, 2) := by decide +kernel
theorem dX8_readBet_65 : decode cX8_readBet 65 = .ok (.invokevirtual 48, 3) := by decide +kernel
theorem dX8_readBet_68 : decode cX8_readBet 68 = .ok (.invokestatic 55, 3) := by decide +kernel
theorem dX8_readBet_71 : decode cX8_readBet 71 = .ok (.aload_n 0, 1) := by decide +kernel
theorem dX8_readBet_72 : decode cX8_readBet 72 = .ok (.getfield 20, 3) := by decide +kernel
theorem dX8_readBet_75 : decode cX8_readBet 75 = .ok (.iconst 5, 1) := by decide +kernel
theorem dX8_readBet_76 : decode cX8_readBet 76 = .ok (.aload_n 0, 1) := by decide +kernel
theorem dX8_readBet_77 : decode cX8_readBet 77 = .ok (.ldc 62, 2) := by decide +kernel
theorem dX8_readBet_79 : decode cX8_readBet 79 = .ok (.invokevirtual 48, 3) := by decide +kernel
theorem dX8_readBet_82 : decode cX8_readBet 82 = .ok (.invokestatic 55, 3) := by decide +kernel
theorem dX8_readBet_85 : decode cX8_readBet 85 = .ok (.aload_n 0, 1) := by decide +kernel
theorem dX8_readBet_86 : decode cX8_readBet 86 = .ok (.getfield 20, 3) := by decide +kernel
theorem dX8_readBet_89 : decode cX8_readBet 89 = .ok (.bipush 6, 2) := by decide +kernel
theorem dX8_readBet_91 : decode cX8_readBet 91 = .ok (.aload_n 0, 1) := by decide +kernel
theorem dX8_readBet_92 : decode cX8_readBet 92 = .ok (.ldc 62, 2) := by decide +kernel
theorem dX8_readBet_94 : decode cX8_readBet 94 = .ok (.invokevirtual 48, 3) := by decide +kernel
theorem dX8_readBet_97 : decode cX8_readBet 97 = .ok (.invokestatic 55, 3) := by decide +kernel
theorem dX8_readBet_100 : decode cX8_readBet 100 = .ok (.return_, 1) := by decide +kernel
theorem dX8_readMark_0 : decode cX8_readMark 0 = .ok (.aload_n 0, 1) := by decide +kernel
theorem dX8_readMark_1 : decode cX8_readMark 1 = .ok (.ldc 73, 2) := by decide +kernel
theorem dX8_readMark_3 : decode cX8_readMark 3 = .ok (.invokevirtual 48, 3) := by decide +kernel
theorem dX8_readMark_6 : decode cX8_readMark 6 = .ok (.bipush 10, 2) := by decide +kernel
theorem dX8_readMark_8 : decode cX8_readMark 8 = .ok (.imul, 1) := by decide +kernel
theorem dX8_readMark_9 : decode cX8_readMark 9 = .ok (.istore_n 1, 1) := by decide +kernel
theorem dX8_readMark_10 : decode cX8_readMark 10 = .ok (.iload_n 1, 1) := by decide +kernel
theorem dX8_readMark_11 : decode cX8_readMark 11 = .ok (.aload_n 0, 1) := by decide +kernel
theorem dX8_readMark_12 : decode cX8_readMark 12 = .ok (.ldc 62, 2) := by decide +kernel
theorem dX8_readMark_14 : decode cX8_readMark 14 = .ok (.invokevirtual 48, 3) := by decide +kernel
theorem dX8_readMark_17 : decode cX8_readMark 17 = .ok (.iadd, 1) := by decide +kernel
theorem dX8_readMark_18 : decode cX8_readMark 18 = .ok (.ireturn, 1) := by decide +kernel
theorem dX8_oneOrTwoDigits_0 : decode cX8_oneOrTwoDigits 0 = .ok (.aload_n 0, 1) := by decide +kernel
theorem dX8_oneOrTwoDigits_1 : decode cX8_oneOrTwoDigits 1 = .ok (.ldc 62, 2) := by decide +kernel
theorem dX8_oneOrTwoDigits_3 : decode cX8_oneOrTwoDigits 3 = .ok (.invokevirtual 48, 3) := by decide +kernel
theorem dX8_oneOrTwoDigits_6 : decode cX8_oneOrTwoDigits 6 = .ok (.istore_n 1, 1) := by decide +kernel
theorem dX8_oneOrTwoDigits_7 : decode cX8_oneOrTwoDigits 7 = .ok (.aload_n 0, 1) := by decide +kernel
theorem dX8_oneOrTwoDigits_8 : decode cX8_oneOrTwoDigits 8 = .ok (.ldc 62, 2) := by decide +kernel
theorem dX8_oneOrTwoDigits_10 : decode cX8_oneOrTwoDigits 10 = .ok (.invokevirtual 75, 3) := by decide +kernel
theorem dX8_oneOrTwoDigits_13 : decode cX8_oneOrTwoDigits 13 = .ok (.ifCond .lt 17, 3) := by decide +kernel
theorem dX8_oneOrTwoDigits_16 : decode cX8_oneOrTwoDigits 16 = .ok (.iload_n 1, 1) := by decide +kernel
theorem dX8_oneOrTwoDigits_17 : decode cX8_oneOrTwoDigits 17 = .ok (.bipush 10, 2) := by decide +kernel
theorem dX8_oneOrTwoDigits_19 : decode cX8_oneOrTwoDigits 19 = .ok (.imul, 1) := by decide +kernel
theorem dX8_oneOrTwoDigits_20 : decode cX8_oneOrTwoDigits 20 = .ok (.aload_n 0, 1) := by decide +kernel
theorem dX8_oneOrTwoDigits_21 : decode cX8_oneOrTwoDigits 21 = .ok (.ldc 62, 2) := by decide +kernel
theorem dX8_oneOrTwoDigits_23 : decode cX8_oneOrTwoDigits 23 = .ok (.invokevirtual 48, 3) := by decide +kernel
theorem dX8_oneOrTwoDigits_26 : decode cX8_oneOrTwoDigits 26 = .ok (.iadd, 1) := by decide +kernel
theorem dX8_oneOrTwoDigits_27 : decode cX8_oneOrTwoDigits 27 = .ok (.goto 4, 3) := by decide +kernel
theorem dX8_oneOrTwoDigits_30 : decode cX8_oneOrTwoDigits 30 = .ok (.iload_n 1, 1) := by decide +kernel
theorem dX8_oneOrTwoDigits_31 : decode cX8_oneOrTwoDigits 31 = .ok (.ireturn, 1) := by decide +kernel
theorem dX8_oneOf_0 : decode cX8_oneOf 0 = .ok (.aload_n 0, 1) := by decide +kernel
theorem dX8_oneOf_1 : decode cX8_oneOf 1 = .ok (.aload_n 1, 1) := by decide +kernel
theorem dX8_oneOf_2 : decode cX8_oneOf 2 = .ok (.invokevirtual 75, 3) := by decide +kernel
theorem dX8_oneOf_5 : decode cX8_oneOf 5 = .ok (.istore_n 2, 1) := by decide +kernel
theorem dX8_oneOf_6 : decode cX8_oneOf 6 = .ok (.iload_n 2, 1) := by decide +kernel
theorem dX8_oneOf_7 : decode cX8_oneOf 7 = .ok (.ifCond .ge 10, 3) := by decide +kernel
theorem dX8_oneOf_10 : decode cX8_oneOf 10 = .ok (.aload_n 0, 1) := by decide +kernel
theorem dX8_oneOf_11 : decode cX8_oneOf 11 = .ok (.iconst 1, 1) := by decide +kernel
theorem dX8_oneOf_12 : decode cX8_oneOf 12 = .ok (.putfield 28, 3) := by decide +kernel
theorem dX8_oneOf_15 : decode cX8_oneOf 15 = .ok (.iconst 0, 1) := by decide +kernel
theorem dX8_oneOf_16 : decode cX8_oneOf 16 = .ok (.ireturn, 1) := by decide +kernel
theorem dX8_oneOf_17 : decode cX8_oneOf 17 = .ok (.aload_n 0, 1) := by decide +kernel
theorem dX8_oneOf_18 : decode cX8_oneOf 18 = .ok (.dup, 1) := by decide +kernel
theorem dX8_oneOf_19 : decode cX8_oneOf 19 = .ok (.getfield 24, 3) := by decide +kernel
theorem dX8_oneOf_22 : decode cX8_oneOf 22 = .ok (.iconst 1, 1) := by decide +kernel
theorem dX8_oneOf_23 : decode cX8_oneOf 23 = .ok (.iadd, 1) := by decide +kernel
theorem dX8_oneOf_24 : decode cX8_oneOf 24 = .ok (.putfield 24, 3) := by decide +kernel
theorem dX8_oneOf_27 : decode cX8_oneOf 27 = .ok (.iload_n 2, 1) := by decide +kernel
theorem dX8_oneOf_28 : decode cX8_oneOf 28 = .ok (.ireturn, 1) := by decide +kernel
theorem dX8_nextIn_0 : decode cX8_nextIn 0 = .ok (.aload_n 0, 1) := by decide +kernel
theorem dX8_nextIn_1 : decode cX8_nextIn 1 = .ok (.invokevirtual 42, 3) := by decide +kernel
theorem dX8_nextIn_4 : decode cX8_nextIn 4 = .ok (.ifCond .eq 22, 3) := by decide +kernel
theorem dX8_nextIn_7 : decode cX8_nextIn 7 = .ok (.aload_n 1, 1) := by decide +kernel
theorem dX8_nextIn_8 : decode cX8_nextIn 8 = .ok (.aload_n 0, 1) := by decide +kernel
theorem dX8_nextIn_9 : decode cX8_nextIn 9 = .ok (.getfield 14, 3) := by decide +kernel
theorem dX8_nextIn_12 : decode cX8_nextIn 12 = .ok (.aload_n 0, 1) := by decide +kernel
theorem dX8_nextIn_13 : decode cX8_nextIn 13 = .ok (.getfield 24, 3) := by decide +kernel
theorem dX8_nextIn_16 : decode cX8_nextIn 16 = .ok (.invokevirtual 78, 3) := by decide +kernel
theorem dX8_nextIn_19 : decode cX8_nextIn 19 = .ok (.i2c, 1) := by decide +kernel
theorem dX8_nextIn_20 : decode cX8_nextIn 20 = .ok (.invokevirtual 82, 3) := by decide +kernel
theorem dX8_nextIn_23 : decode cX8_nextIn 23 = .ok (.goto 4, 3) := by decide +kernel
theorem dX8_nextIn_26 : decode cX8_nextIn 26 = .ok (.iconst (-1), 1) := by decide +kernel
theorem dX8_nextIn_27 : decode cX8_nextIn 27 = .ok (.ireturn, 1) := by decide +kernel
theorem dX9_init_0 : decode cX9_init 0 = .ok (.aload_n 0, 1) := by decide +kernel
theorem dX9_init_1 : decode cX9_init 1 = .ok (.invokespecial 1, 3) := by decide +kernel
theorem dX9_init_4 : decode cX9_init 4 = .ok (.aload_n 0, 1) := by decide +kernel
theorem dX9_init_5 : decode cX9_init 5 = .ok (.iconst 0, 1) := by decide +kernel
theorem dX9_init_6 : decode cX9_init 6 = .ok (.putfield 7, 3) := by decide +kernel
theorem dX9_init_9 : decode cX9_init 9 = .ok (.aload_n 0, 1) := by decide +kernel
theorem dX9_init_10 : decode cX9_init 10 = .ok (.iload_n 1, 1) := by decide +kernel
theorem dX9_init_11 : decode cX9_init 11 = .ok (.iconst 0, 1) := by decide +kernel
theorem dX9_init_12 : decode cX9_init 12 = .ok (.invokestatic 13, 3) := by decide +kernel
theorem dX9_init_15 : decode cX9_init 15 = .ok (.newarray .int, 2) := by decide +kernel
theorem dX9_init_17 : decode cX9_init 17 = .ok (.putfield 19, 3) := by decide +kernel
theorem dX9_init_20 : decode cX9_init 20 = .ok (.return_, 1) := by decide +kernel
theorem dX9_isFull_0 : decode cX9_isFull 0 = .ok (.aload_n 0, 1) := by decide +kernel
theorem dX9_isFull_1 : decode cX9_isFull 1 = .ok (.getfield 7, 3) := by decide +kernel
theorem dX9_isFull_4 : decode cX9_isFull 4 = .ok (.aload_n 0, 1) := by decide +kernel
theorem dX9_isFull_5 : decode cX9_isFull 5 = .ok (.getfield 19, 3) := by decide +kernel
theorem dX9_isFull_8 : decode cX9_isFull 8 = .ok (.arraylength, 1) := by decide +kernel
theorem dX9_isFull_9 : decode cX9_isFull 9 = .ok (.if_icmp .lt 7, 3) := by decide +kernel
theorem dX9_isFull_12 : decode cX9_isFull 12 = .ok (.iconst 1, 1) := by decide +kernel
theorem dX9_isFull_13 : decode cX9_isFull 13 = .ok (.goto 4, 3) := by decide +kernel
theorem dX9_isFull_16 : decode cX9_isFull 16 = .ok (.iconst 0, 1) := by decide +kernel
theorem dX9_isFull_17 : decode cX9_isFull 17 = .ok (.ireturn, 1) := by decide +kernel
theorem dX9_add_0 : decode cX9_add 0 = .ok (.aload_n 0, 1) := by decide +kernel
theorem dX9_add_1 : decode cX9_add 1 = .ok (.invokevirtual 23, 3) := by decide +kernel
theorem dX9_add_4 : decode cX9_add 4 = .ok (.ifCond .ne 25, 3) := by decide +kernel
theorem dX9_add_7 : decode cX9_add 7 = .ok (.aload_n 0, 1) := by decide +kernel
theorem dX9_add_8 : decode cX9_add 8 = .ok (.getfield 19, 3) := by decide +kernel
theorem dX9_add_11 : decode cX9_add 11 = .ok (.aload_n 0, 1) := by decide +kernel
theorem dX9_add_12 : decode cX9_add 12 = .ok (.getfield 7, 3) := by decide +kernel
theorem dX9_add_15 : decode cX9_add 15 = .ok (.iload_n 1, 1) := by decide +kernel
theorem dX9_add_16 : decode cX9_add 16 = .ok (.invokestatic 27, 3) := by decide +kernel
theorem dX9_add_19 : decode cX9_add 19 = .ok (.aload_n 0, 1) := by decide +kernel
theorem dX9_add_20 : decode cX9_add 20 = .ok (.dup, 1) := by decide +kernel
theorem dX9_add_21 : decode cX9_add 21 = .ok (.getfield 7, 3) := by decide +kernel
theorem dX9_add_24 : decode cX9_add 24 = .ok (.iconst 1, 1) := by decide +kernel
theorem dX9_add_25 : decode cX9_add 25 = .ok (.iadd, 1) := by decide +kernel
theorem dX9_add_26 : decode cX9_add 26 = .ok (.putfield 7, 3) := by decide +kernel
theorem dX9_add_29 : decode cX9_add 29 = .ok (.return_, 1) := by decide +kernel
theorem dX9_get_0 : decode cX9_get 0 = .ok (.iload_n 1, 1) := by decide +kernel
theorem dX9_get_1 : decode cX9_get 1 = .ok (.ifCond .lt 21, 3) := by decide +kernel
theorem dX9_get_4 : decode cX9_get 4 = .ok (.iload_n 1, 1) := by decide +kernel
theorem dX9_get_5 : decode cX9_get 5 = .ok (.aload_n 0, 1) := by decide +kernel
theorem dX9_get_6 : decode cX9_get 6 = .ok (.getfield 19, 3) := by decide +kernel
theorem dX9_get_9 : decode cX9_get 9 = .ok (.arraylength, 1) := by decide +kernel
theorem dX9_get_10 : decode cX9_get 10 = .ok (.if_icmp .ge 12, 3) := by decide +kernel
theorem dX9_get_13 : decode cX9_get 13 = .ok (.aload_n 0, 1) := by decide +kernel
theorem dX9_get_14 : decode cX9_get 14 = .ok (.getfield 19, 3) := by decide +kernel
theorem dX9_get_17 : decode cX9_get 17 = .ok (.iload_n 1, 1) := by decide +kernel
theorem dX9_get_18 : decode cX9_get 18 = .ok (.iaload, 1) := by decide +kernel
theorem dX9_get_19 : decode cX9_get 19 = .ok (.goto 4, 3) := by decide +kernel
theorem dX9_get_22 : decode cX9_get 22 = .ok (.iconst 0, 1) := by decide +kernel
theorem dX9_get_23 : decode cX9_get 23 = .ok (.ireturn, 1) := by decide +kernel
theorem dX9_clear_0 : decode cX9_clear 0 = .ok (.aload_n 0, 1) := by decide +kernel
theorem dX9_clear_1 : decode cX9_clear 1 = .ok (.iconst 0, 1) := by decide +kernel
theorem dX9_clear_2 : decode cX9_clear 2 = .ok (.putfield 7, 3) := by decide +kernel
theorem dX9_clear_5 : decode cX9_clear 5 = .ok (.return_, 1) := by decide +kernel
theorem dX10_init_0 : decode cX10_init 0 = .ok (.aload_n 0, 1) := by decide +kernel
theorem dX10_init_1 : decode cX10_init 1 = .ok (.invokespecial 3, 3) := by decide +kernel
theorem dX10_init_4 : decode cX10_init 4 = .ok (.aload_n 0, 1) := by decide +kernel
theorem dX10_init_5 : decode cX10_init 5 = .ok (.bipush 6, 2) := by decide +kernel
theorem dX10_init_7 : decode cX10_init 7 = .ok (.anewarray 9, 3) := by decide +kernel
theorem dX10_init_10 : decode cX10_init 10 = .ok (.dup, 1) := by decide +kernel
theorem dX10_init_11 : decode cX10_init 11 = .ok (.iconst 0, 1) := by decide +kernel
theorem dX10_init_12 : decode cX10_init 12 = .ok (.new 11, 3) := by decide +kernel
theorem dX10_init_15 : decode cX10_init 15 = .ok (.dup, 1) := by decide +kernel
theorem dX10_init_16 : decode cX10_init 16 = .ok (.invokespecial 13, 3) := by decide +kernel
theorem dX10_init_19 : decode cX10_init 19 = .ok (.aastore, 1) := by decide +kernel
theorem dX10_init_20 : decode cX10_init 20 = .ok (.dup, 1) := by decide +kernel
theorem dX10_init_21 : decode cX10_init 21 = .ok (.iconst 1, 1) := by decide +kernel
theorem dX10_init_22 : decode cX10_init 22 = .ok (.new 14, 3) := by decide +kernel
theorem dX10_init_25 : decode cX10_init 25 = .ok (.dup, 1) := by decide +kernel
theorem dX10_init_26 : decode cX10_init 26 = .ok (.invokespecial 16, 3) := by decide +kernel
theorem dX10_init_29 : decode cX10_init 29 = .ok (.aastore, 1) := by decide +kernel
theorem dX10_init_30 : decode cX10_init 30 = .ok (.dup, 1) := by decide +kernel
theorem dX10_init_31 : decode cX10_init 31 = .ok (.iconst 2, 1) := by decide +kernel
theorem dX10_init_32 : decode cX10_init 32 = .ok (.new 17, 3) := by decide +kernel
theorem dX10_init_35 : decode cX10_init 35 = .ok (.dup, 1) := by decide +kernel
theorem dX10_init_36 : decode cX10_init 36 = .ok (.invokespecial 19, 3) := by decide +kernel
theorem dX10_init_39 : decode cX10_init 39 = .ok (.aastore, 1) := by decide +kernel
theorem dX10_init_40 : decode cX10_init 40 = .ok (.dup, 1) := by decide +kernel
theorem dX10_init_41 : decode cX10_init 41 = .ok (.iconst 3, 1) := by decide +kernel
theorem dX10_init_42 : decode cX10_init 42 = .ok (.new 20, 3) := by decide +kernel
theorem dX10_init_45 : decode cX10_init 45 = .ok (.dup, 1) := by decide +kernel
theorem dX10_init_46 : decode cX10_init 46 = .ok (.invokespecial 22, 3) := by decide +kernel
theorem dX10_init_49 : decode cX10_init 49 = .ok (.aastore, 1) := by decide +kernel
theorem dX10_init_50 : decode cX10_init 50 = .ok (.dup, 1) := by decide +kernel
theorem dX10_init_51 : decode cX10_init 51 = .ok (.iconst 4, 1) := by decide +kernel
theorem dX10_init_52 : decode cX10_init 52 = .ok (.new 23, 3) := by decide +kernel
theorem dX10_init_55 : decode cX10_init 55 = .ok (.dup, 1) := by decide +kernel
theorem dX10_init_56 : decode cX10_init 56 = .ok (.invokespecial 25, 3) := by decide +kernel
theorem dX10_init_59 : decode cX10_init 59 = .ok (.aastore, 1) := by decide +kernel
theorem dX10_init_60 : decode cX10_init 60 = .ok (.dup, 1) := by decide +kernel
theorem dX10_init_61 : decode cX10_init 61 = .ok (.iconst 5, 1) := by decide +kernel
theorem dX10_init_62 : decode cX10_init 62 = .ok (.new 26, 3) := by decide +kernel
theorem dX10_init_65 : decode cX10_init 65 = .ok (.dup, 1) := by decide +kernel
theorem dX10_init_66 : decode cX10_init 66 = .ok (.invokespecial 28, 3) := by decide +kernel
theorem dX10_init_69 : decode cX10_init 69 = .ok (.aastore, 1) := by decide +kernel
theorem dX10_init_70 : decode cX10_init 70 = .ok (.putfield 29, 3) := by decide +kernel
theorem dX10_init_73 : decode cX10_init 73 = .ok (.aload_n 0, 1) := by decide +kernel
theorem dX10_init_74 : decode cX10_init 74 = .ok (.bipush 16, 2) := by decide +kernel
theorem dX10_init_76 : decode cX10_init 76 = .ok (.newarray .int, 2) := by decide +kernel
theorem dX10_init_78 : decode cX10_init 78 = .ok (.putfield 35, 3) := by decide +kernel
theorem dX10_init_81 : decode cX10_init 81 = .ok (.aload_n 0, 1) := by decide +kernel
theorem dX10_init_82 : decode cX10_init 82 = .ok (.bipush 16, 2) := by decide +kernel
theorem dX10_init_84 : decode cX10_init 84 = .ok (.newarray .int, 2) := by decide +kernel
theorem dX10_init_86 : decode cX10_init 86 = .ok (.putfield 39, 3) := by decide +kernel
theorem dX10_init_89 : decode cX10_init 89 = .ok (.aload_n 0, 1) := by decide +kernel
theorem dX10_init_90 : decode cX10_init 90 = .ok (.bipush 16, 2) := by decide +kernel
theorem dX10_init_92 : decode cX10_init 92 = .ok (.newarray .int, 2) := by decide +kernel
theorem dX10_init_94 : decode cX10_init 94 = .ok (.putfield 42, 3) := by decide +kernel
theorem dX10_init_97 : decode cX10_init 97 = .ok (.aload_n 0, 1) := by decide +kernel
theorem dX10_init_98 : decode cX10_init 98 = .ok (.bipush 16, 2) := by decide +kernel
theorem dX10_init_100 : decode cX10_init 100 = .ok (.newarray .int, 2) := by decide +kernel
theorem dX10_init_102 : decode cX10_init 102 = .ok (.putfield 45, 3) := by decide +kernel
theorem dX10_init_105 : decode cX10_init 105 = .ok (.aload_n 0, 1) := by decide +kernel
theorem dX10_init_106 : decode cX10_init 106 = .ok (.getfield 35, 3) := by decide +kernel
theorem dX10_init_109 : decode cX10_init 109 = .ok (.iconst 0, 1) := by decide +kernel
theorem dX10_init_110 : decode cX10_init 110 = .ok (.iconst 1, 1) := by decide +kernel
theorem dX10_init_111 : decode cX10_init 111 = .ok (.invokestatic 48, 3) := by decide +kernel
theorem dX10_init_114 : decode cX10_init 114 = .ok (.return_, 1) := by decide +kernel
theorem dX10_find_0 : decode cX10_find 0 = .ok (.aload_n 1, 1) := by decide +kernel
theorem dX10_find_1 : decode cX10_find 1 = .ok (.invokevirtual 52, 3) := by decide +kernel
theorem dX10_find_4 : decode cX10_find 4 = .ok (.istore_n 2, 1) := by decide +kernel
theorem dX10_find_5 : decode cX10_find 5 = .ok (.iconst 0, 1) := by decide +kernel
theorem dX10_find_6 : decode cX10_find 6 = .ok (.istore_n 3, 1) := by decide +kernel
theorem dX10_find_7 : decode cX10_find 7 = .ok (.iload_n 3, 1) := by decide +kernel
theorem dX10_find_8 : decode cX10_find 8 = .ok (.iload_n 2, 1) := by decide +kernel
theorem dX10_find_9 : decode cX10_find 9 = .ok (.if_icmp .ge 15, 3) := by decide +kernel
theorem dX10_find_12 : decode cX10_find 12 = .ok (.aload_n 0, 1) := by decide +kernel
theorem dX10_find_13 : decode cX10_find 13 = .ok (.aload_n 1, 1) := by decide +kernel
theorem dX10_find_14 : decode cX10_find 14 = .ok (.iload_n 3, 1) := by decide +kernel
theorem dX10_find_15 : decode cX10_find 15 = .ok (.invokevirtual 58, 3) := by decide +kernel
theorem dX10_find_18 : decode cX10_find 18 = .ok (.iinc 3 1, 3) := by decide +kernel
theorem dX10_find_21 : decode cX10_find 21 = .ok (.goto (-14), 3) := by decide +kernel
theorem dX10_find_24 : decode cX10_find 24 = .ok (.return_, 1) := by decide +kernel
theorem dX10_findOf_0 : decode cX10_findOf 0 = .ok (.iconst 1, 1) := by decide +kernel
theorem dX10_findOf_1 : decode cX10_findOf 1 = .ok (.aload_n 1, 1) := by decide +kernel
theorem dX10_findOf_2 : decode cX10_findOf 2 = .ok (.getfield 62, 3) := by decide +kernel
theorem dX10_findOf_5 : decode cX10_findOf 5 = .ok (.ishl, 1) := by decide +kernel
theorem dX10_findOf_6 : decode cX10_findOf 6 = .ok (.iconst 1, 1) := by decide +kernel
theorem dX10_findOf_7 : decode cX10_findOf 7 = .ok (.isub, 1) := by decide +kernel
theorem dX10_findOf_8 : decode cX10_findOf 8 = .ok (.istore_n 3, 1) := by decide +kernel
theorem dX10_findOf_9 : decode cX10_findOf 9 = .ok (.iconst 0, 1) := by decide +kernel
theorem dX10_findOf_10 : decode cX10_findOf 10 = .ok (.istore 4, 2) := by decide +kernel
theorem dX10_findOf_12 : decode cX10_findOf 12 = .ok (.bipush (-9), 2) := by decide +kernel
theorem dX10_findOf_14 : decode cX10_findOf 14 = .ok (.istore 5, 2) := by decide +kernel
theorem dX10_findOf_16 : decode cX10_findOf 16 = .ok (.iload_n 3, 1) := by decide +kernel
theorem dX10_findOf_17 : decode cX10_findOf 17 = .ok (.istore 6, 2) := by decide +kernel
theorem dX10_findOf_19 : decode cX10_findOf 19 = .ok (.iconst 0, 1) := by decide +kernel
theorem dX10_findOf_20 : decode cX10_findOf 20 = .ok (.istore 7, 2) := by decide +kernel
theorem dX10_findOf_22 : decode cX10_findOf 22 = .ok (.iconst 0, 1) := by decide +kernel
theorem dX10_findOf_23 : decode cX10_findOf 23 = .ok (.istore 8, 2) := by decide +kernel
theorem dX10_findOf_25 : decode cX10_findOf 25 = .ok (.iload 8, 2) := by decide +kernel
theorem dX10_findOf_27 : decode cX10_findOf 27 = .ok (.iload_n 3, 1) := by decide +kernel
theorem dX10_findOf_28 : decode cX10_findOf 28 = .ok (.if_icmp .gt 51, 3) := by decide +kernel
theorem dX10_findOf_31 : decode cX10_findOf 31 = .ok (.aload_n 0, 1) := by decide +kernel
theorem dX10_findOf_32 : decode cX10_findOf 32 = .ok (.aload_n 1, 1) := by decide +kernel
theorem dX10_findOf_33 : decode cX10_findOf 33 = .ok (.iload_n 2, 1) := by decide +kernel
theorem dX10_findOf_34 : decode cX10_findOf 34 = .ok (.iload 8, 2) := by decide +kernel
theorem dX10_findOf_36 : decode cX10_findOf 36 = .ok (.invokevirtual 66, 3) := by decide +kernel
theorem dX10_findOf_39 : decode cX10_findOf 39 = .ok (.ifCond .eq 34, 3) := by decide +kernel
theorem dX10_findOf_42 : decode cX10_findOf 42 = .ok (.iload 4, 2) := by decide +kernel
theorem dX10_findOf_44 : decode cX10_findOf 44 = .ok (.ifCond .ne 8, 3) := by decide +kernel
theorem dX10_findOf_47 : decode cX10_findOf 47 = .ok (.iload 8, 2) := by decide +kernel
theorem dX10_findOf_49 : decode cX10_findOf 49 = .ok (.goto 5, 3) := by decide +kernel
theorem dX10_findOf_52 : decode cX10_findOf 52 = .ok (.iload 5, 2) := by decide +kernel
theorem dX10_findOf_54 : decode cX10_findOf 54 = .ok (.istore 5, 2) := by decide +kernel
theorem dX10_findOf_56 : decode cX10_findOf 56 = .ok (.iinc 4 1, 3) := by decide +kernel
theorem dX10_findOf_59 : decode cX10_findOf 59 = .ok (.iload 6, 2) := by decide +kernel
theorem dX10_findOf_61 : decode cX10_findOf 61 = .ok (.iload 8, 2) := by decide +kernel
theorem dX10_findOf_63 : decode cX10_findOf 63 = .ok (.iand, 1) := by decide +kernel
theorem dX10_findOf_64 : decode cX10_findOf 64 = .ok (.istore 6, 2) := by decide +kernel
theorem dX10_findOf_66 : decode cX10_findOf 66 = .ok (.iload 7, 2) := by decide +kernel
theorem dX10_findOf_68 : decode cX10_findOf 68 = .ok (.iload 8, 2) := by decide +kernel
theorem dX10_findOf_70 : decode cX10_findOf 70 = .ok (.ior, 1) := by decide +kernel
theorem dX10_findOf_71 : decode cX10_findOf 71 = .ok (.istore 7, 2) := by decide +kernel
theorem dX10_findOf_73 : decode cX10_findOf 73 = .ok (.iinc 8 1, 3) := by decide +kernel
theorem dX10_findOf_76 : decode cX10_findOf 76 = .ok (.goto (-51), 3) := by decide +kernel
theorem dX10_findOf_79 : decode cX10_findOf 79 = .ok (.aload_n 0, 1) := by decide +kernel
theorem dX10_findOf_80 : decode cX10_findOf 80 = .ok (.getfield 35, 3) := by decide +kernel
theorem dX10_findOf_83 : decode cX10_findOf 83 = .ok (.iload_n 2, 1) := by decide +kernel
theorem dX10_findOf_84 : decode cX10_findOf 84 = .ok (.iload 4, 2) := by decide +kernel
theorem dX10_findOf_86 : decode cX10_findOf 86 = .ok (.invokestatic 48, 3) := by decide +kernel
theorem dX10_findOf_89 : decode cX10_findOf 89 = .ok (.aload_n 0, 1) := by decide +kernel
theorem dX10_findOf_90 : decode cX10_findOf 90 = .ok (.getfield 39, 3) := by decide +kernel
theorem dX10_findOf_93 : decode cX10_findOf 93 = .ok (.iload_n 2, 1) := by decide +kernel
theorem dX10_findOf_94 : decode cX10_findOf 94 = .ok (.iload 5, 2) := by decide +kernel
theorem dX10_findOf_96 : decode cX10_findOf 96 = .ok (.invokestatic 48, 3) := by decide +kernel
theorem dX10_findOf_99 : decode cX10_findOf 99 = .ok (.aload_n 0, 1) := by decide +kernel
theorem dX10_findOf_100 : decode cX10_findOf 100 = .ok (.getfield 42, 3) := by decide +kernel
theorem dX10_findOf_103 : decode cX10_findOf 103 = .ok (.iload_n 2, 1) := by decide +kernel
theorem dX10_findOf_104 : decode cX10_findOf 104 = .ok (.iload 4, 2) := by decide +kernel
theorem dX10_findOf_106 : decode cX10_findOf 106 = .ok (.ifCond .le 8, 3) := by decide +kernel
theorem dX10_findOf_109 : decode cX10_findOf 109 = .ok (.iload 6, 2) := by decide +kernel
theorem dX10_findOf_111 : decode cX10_findOf 111 = .ok (.goto 4, 3) := by decide +kernel
theorem dX10_findOf_114 : decode cX10_findOf 114 = .ok (.iconst 0, 1) := by decide +kernel
theorem dX10_findOf_115 : decode cX10_findOf 115 = .ok (.invokestatic 48, 3) := by decide +kernel
theorem dX10_findOf_118 : decode cX10_findOf 118 = .ok (.aload_n 0, 1) := by decide +kernel
theorem dX10_findOf_119 : decode cX10_findOf 119 = .ok (.getfield 45, 3) := by decide +kernel
theorem dX10_findOf_122 : decode cX10_findOf 122 = .ok (.iload_n 2, 1) := by decide +kernel
theorem dX10_findOf_123 : decode cX10_findOf 123 = .ok (.iload 4, 2) := by decide +kernel
theorem dX10_findOf_125 : decode cX10_findOf 125 = .ok (.ifCond .le 11, 3) := by decide +kernel
theorem dX10_findOf_128 : decode cX10_findOf 128 = .ok (.iload 7, 2) := by decide +kernel
theorem dX10_findOf_130 : decode cX10_findOf 130 = .ok (.iload 6, 2) := by decide +kernel
theorem dX10_findOf_132 : decode cX10_findOf 132 = .ok (.isub, 1) := by decide +kernel
theorem dX10_findOf_133 : decode cX10_findOf 133 = .ok (.goto 4, 3) := by decide +kernel
theorem dX10_findOf_136 : decode cX10_findOf 136 = .ok (.iload_n 3, 1) := by decide +kernel
theorem dX10_findOf_137 : decode cX10_findOf 137 = .ok (.invokestatic 48, 3) := by decide +kernel
theorem dX10_findOf_140 : decode cX10_findOf 140 = .ok (.return_, 1) := by decide +kernel
theorem dX10_isWay_0 : decode cX10_isWay 0 = .ok (.iconst 0, 1) := by decide +kernel
theorem dX10_isWay_1 : decode cX10_isWay 1 = .ok (.istore 4, 2) := by decide +kernel
theorem dX10_isWay_3 : decode cX10_isWay 3 = .ok (.iload 4, 2) := by decide +kernel
theorem dX10_isWay_5 : decode cX10_isWay 5 = .ok (.aload_n 1, 1) := by decide +kernel
theorem dX10_isWay_6 : decode cX10_isWay 6 = .ok (.getfield 62, 3) := by decide +kernel
theorem dX10_isWay_9 : decode cX10_isWay 9 = .ok (.if_icmp .ge 75, 3) := by decide +kernel
theorem dX10_isWay_12 : decode cX10_isWay 12 = .ok (.aload_n 0, 1) := by decide +kernel
theorem dX10_isWay_13 : decode cX10_isWay 13 = .ok (.aload_n 1, 1) := by decide +kernel
theorem dX10_isWay_14 : decode cX10_isWay 14 = .ok (.iload 4, 2) := by decide +kernel
theorem dX10_isWay_16 : decode cX10_isWay 16 = .ok (.iconst 0, 1) := by decide +kernel
theorem dX10_isWay_17 : decode cX10_isWay 17 = .ok (.invokevirtual 70, 3) := by decide +kernel
theorem dX10_isWay_20 : decode cX10_isWay 20 = .ok (.invokevirtual 74, 3) := by decide +kernel
theorem dX10_isWay_23 : decode cX10_isWay 23 = .ok (.astore 5, 2) := by decide +kernel
theorem dX10_isWay_25 : decode cX10_isWay 25 = .ok (.aload_n 1, 1) := by decide +kernel
theorem dX10_isWay_26 : decode cX10_isWay 26 = .ok (.iload 4, 2) := by decide +kernel
theorem dX10_isWay_28 : decode cX10_isWay 28 = .ok (.iconst 1, 1) := by decide +kernel
theorem dX10_isWay_29 : decode cX10_isWay 29 = .ok (.invokevirtual 70, 3) := by decide +kernel
theorem dX10_isWay_32 : decode cX10_isWay 32 = .ok (.iload_n 2, 1) := by decide +kernel
theorem dX10_isWay_33 : decode cX10_isWay 33 = .ok (.iload_n 3, 1) := by decide +kernel
theorem dX10_isWay_34 : decode cX10_isWay 34 = .ok (.invokestatic 78, 3) := by decide +kernel
theorem dX10_isWay_37 : decode cX10_isWay 37 = .ok (.istore 6, 2) := by decide +kernel
theorem dX10_isWay_39 : decode cX10_isWay 39 = .ok (.aload_n 1, 1) := by decide +kernel
theorem dX10_isWay_40 : decode cX10_isWay 40 = .ok (.iload 4, 2) := by decide +kernel
theorem dX10_isWay_42 : decode cX10_isWay 42 = .ok (.iconst 2, 1) := by decide +kernel
theorem dX10_isWay_43 : decode cX10_isWay 43 = .ok (.invokevirtual 70, 3) := by decide +kernel
theorem dX10_isWay_46 : decode cX10_isWay 46 = .ok (.iload_n 2, 1) := by decide +kernel
theorem dX10_isWay_47 : decode cX10_isWay 47 = .ok (.iload_n 3, 1) := by decide +kernel
theorem dX10_isWay_48 : decode cX10_isWay 48 = .ok (.invokestatic 78, 3) := by decide +kernel
theorem dX10_isWay_51 : decode cX10_isWay 51 = .ok (.istore 7, 2) := by decide +kernel
theorem dX10_isWay_53 : decode cX10_isWay 53 = .ok (.aload 5, 2) := by decide +kernel
theorem dX10_isWay_55 : decode cX10_isWay 55 = .ok (.ifnull 21, 3) := by decide +kernel
theorem dX10_isWay_58 : decode cX10_isWay 58 = .ok (.aload 5, 2) := by decide +kernel
theorem dX10_isWay_60 : decode cX10_isWay 60 = .ok (.iload 6, 2) := by decide +kernel
theorem dX10_isWay_62 : decode cX10_isWay 62 = .ok (.iload 7, 2) := by decide +kernel
theorem dX10_isWay_64 : decode cX10_isWay 64 = .ok (.invokevirtual 82, 3) := by decide +kernel
theorem dX10_isWay_67 : decode cX10_isWay 67 = .ok (.iload_n 3, 1) := by decide +kernel
theorem dX10_isWay_68 : decode cX10_isWay 68 = .ok (.iload 4, 2) := by decide +kernel
theorem dX10_isWay_70 : decode cX10_isWay 70 = .ok (.invokestatic 86, 3) := by decide +kernel
theorem dX10_isWay_73 : decode cX10_isWay 73 = .ok (.if_icmp .eq 5, 3) := by decide +kernel
theorem dX10_isWay_76 : decode cX10_isWay 76 = .ok (.iconst 0, 1) := by decide +kernel
theorem dX10_isWay_77 : decode cX10_isWay 77 = .ok (.ireturn, 1) := by decide +kernel
theorem dX10_isWay_78 : decode cX10_isWay 78 = .ok (.iinc 4 1, 3) := by decide +kernel
theorem dX10_isWay_81 : decode cX10_isWay 81 = .ok (.goto (-78), 3) := by decide +kernel
theorem dX10_isWay_84 : decode cX10_isWay 84 = .ok (.iconst 1, 1) := by decide +kernel
theorem dX10_isWay_85 : decode cX10_isWay 85 = .ok (.ireturn, 1) := by decide +kernel
theorem dX10_isSo_0 : decode cX10_isSo 0 = .ok (.iload_n 0, 1) := by decide +kernel
theorem dX10_isSo_1 : decode cX10_isSo 1 = .ok (.bipush 10, 2) := by decide +kernel
theorem dX10_isSo_3 : decode cX10_isSo 3 = .ok (.if_icmp .lt 14, 3) := by decide +kernel
theorem dX10_isSo_6 : decode cX10_isSo 6 = .ok (.iload_n 2, 1) := by decide +kernel
theorem dX10_isSo_7 : decode cX10_isSo 7 = .ok (.iload_n 0, 1) := by decide +kernel
theorem dX10_isSo_8 : decode cX10_isSo 8 = .ok (.bipush 10, 2) := by decide +kernel
theorem dX10_isSo_10 : decode cX10_isSo 10 = .ok (.isub, 1) := by decide +kernel
theorem dX10_isSo_11 : decode cX10_isSo 11 = .ok (.invokestatic 86, 3) := by decide +kernel
theorem dX10_isSo_14 : decode cX10_isSo 14 = .ok (.goto 8, 3) := by decide +kernel
theorem dX10_isSo_17 : decode cX10_isSo 17 = .ok (.iload_n 1, 1) := by decide +kernel
theorem dX10_isSo_18 : decode cX10_isSo 18 = .ok (.iload_n 0, 1) := by decide +kernel
theorem dX10_isSo_19 : decode cX10_isSo 19 = .ok (.invokestatic 86, 3) := by decide +kernel
theorem dX10_isSo_22 : decode cX10_isSo 22 = .ok (.ireturn, 1) := by decide +kernel
theorem dX10_kindOf_0 : decode cX10_kindOf 0 = .ok (.iload_n 1, 1) := by decide +kernel
theorem dX10_kindOf_1 : decode cX10_kindOf 1 = .ok (.ifCond .lt 21, 3) := by decide +kernel
theorem dX10_kindOf_4 : decode cX10_kindOf 4 = .ok (.iload_n 1, 1) := by decide +kernel
theorem dX10_kindOf_5 : decode cX10_kindOf 5 = .ok (.aload_n 0, 1) := by decide +kernel
theorem dX10_kindOf_6 : decode cX10_kindOf 6 = .ok (.getfield 29, 3) := by decide +kernel
theorem dX10_kindOf_9 : decode cX10_kindOf 9 = .ok (.arraylength, 1) := by decide +kernel
theorem dX10_kindOf_10 : decode cX10_kindOf 10 = .ok (.if_icmp .ge 12, 3) := by decide +kernel
theorem dX10_kindOf_13 : decode cX10_kindOf 13 = .ok (.aload_n 0, 1) := by decide +kernel
theorem dX10_kindOf_14 : decode cX10_kindOf 14 = .ok (.getfield 29, 3) := by decide +kernel
theorem dX10_kindOf_17 : decode cX10_kindOf 17 = .ok (.iload_n 1, 1) := by decide +kernel
theorem dX10_kindOf_18 : decode cX10_kindOf 18 = .ok (.aaload, 1) := by decide +kernel
theorem dX10_kindOf_19 : decode cX10_kindOf 19 = .ok (.goto 4, 3) := by decide +kernel
theorem dX10_kindOf_22 : decode cX10_kindOf 22 = .ok (.aconst_null, 1) := by decide +kernel
theorem dX10_kindOf_23 : decode cX10_kindOf 23 = .ok (.areturn, 1) := by decide +kernel
theorem dX10_howMany_0 : decode cX10_howMany 0 = .ok (.aload_n 0, 1) := by decide +kernel
theorem dX10_howMany_1 : decode cX10_howMany 1 = .ok (.getfield 35, 3) := by decide +kernel
theorem dX10_howMany_4 : decode cX10_howMany 4 = .ok (.iload_n 1, 1) := by decide +kernel
theorem dX10_howMany_5 : decode cX10_howMany 5 = .ok (.invokestatic 90, 3) := by decide +kernel
theorem dX10_howMany_8 : decode cX10_howMany 8 = .ok (.ireturn, 1) := by decide +kernel
theorem dX10_firstOf_0 : decode cX10_firstOf 0 = .ok (.aload_n 0, 1) := by decide +kernel
theorem dX10_firstOf_1 : decode cX10_firstOf 1 = .ok (.getfield 39, 3) := by decide +kernel
theorem dX10_firstOf_4 : decode cX10_firstOf 4 = .ok (.iload_n 1, 1) := by decide +kernel
theorem dX10_firstOf_5 : decode cX10_firstOf 5 = .ok (.invokestatic 90, 3) := by decide +kernel
theorem dX10_firstOf_8 : decode cX10_firstOf 8 = .ok (.ireturn, 1) := by decide +kernel
theorem dX10_voidIn_0 : decode cX10_voidIn 0 = .ok (.aload_n 0, 1) := by decide +kernel
theorem dX10_voidIn_1 : decode cX10_voidIn 1 = .ok (.getfield 45, 3) := by decide +kernel
theorem dX10_voidIn_4 : decode cX10_voidIn 4 = .ok (.iload_n 1, 1) := by decide +kernel
theorem dX10_voidIn_5 : decode cX10_voidIn 5 = .ok (.invokestatic 90, 3) := by decide +kernel
theorem dX10_voidIn_8 : decode cX10_voidIn 8 = .ok (.ireturn, 1) := by decide +kernel
theorem dX10_standingOf_0 : decode cX10_standingOf 0 = .ok (.aload_n 0, 1) := by decide +kernel
theorem dX10_standingOf_1 : decode cX10_standingOf 1 = .ok (.getfield 42, 3) := by decide +kernel
theorem dX10_standingOf_4 : decode cX10_standingOf 4 = .ok (.iload_n 2, 1) := by decide +kernel
theorem dX10_standingOf_5 : decode cX10_standingOf 5 = .ok (.invokestatic 90, 3) := by decide +kernel
theorem dX10_standingOf_8 : decode cX10_standingOf 8 = .ok (.iload_n 1, 1) := by decide +kernel
theorem dX10_standingOf_9 : decode cX10_standingOf 9 = .ok (.invokestatic 86, 3) := by decide +kernel
theorem dX10_standingOf_12 : decode cX10_standingOf 12 = .ok (.ifCond .eq 5, 3) := by decide +kernel
theorem dX10_standingOf_15 : decode cX10_standingOf 15 = .ok (.iconst 1, 1) := by decide +kernel
theorem dX10_standingOf_16 : decode cX10_standingOf 16 = .ok (.ireturn, 1) := by decide +kernel
theorem dX10_standingOf_17 : decode cX10_standingOf 17 = .ok (.aload_n 0, 1) := by decide +kernel
theorem dX10_standingOf_18 : decode cX10_standingOf 18 = .ok (.getfield 45, 3) := by decide +kernel
theorem dX10_standingOf_21 : decode cX10_standingOf 21 = .ok (.iload_n 2, 1) := by decide +kernel
theorem dX10_standingOf_22 : decode cX10_standingOf 22 = .ok (.invokestatic 90, 3) := by decide +kernel
theorem dX10_standingOf_25 : decode cX10_standingOf 25 = .ok (.iload_n 1, 1) := by decide +kernel
theorem dX10_standingOf_26 : decode cX10_standingOf 26 = .ok (.invokestatic 86, 3) := by decide +kernel
theorem dX10_standingOf_29 : decode cX10_standingOf 29 = .ok (.ifCond .eq 7, 3) := by decide +kernel
theorem dX10_standingOf_32 : decode cX10_standingOf 32 = .ok (.iconst 2, 1) := by decide +kernel
theorem dX10_standingOf_33 : decode cX10_standingOf 33 = .ok (.goto 4, 3) := by decide +kernel
theorem dX10_standingOf_36 : decode cX10_standingOf 36 = .ok (.iconst 0, 1) := by decide +kernel
theorem dX10_standingOf_37 : decode cX10_standingOf 37 = .ok (.ireturn, 1) := by decide +kernel
theorem dX10_lookedAt_0 : decode cX10_lookedAt 0 = .ok (.aload_n 0, 1) := by decide +kernel
theorem dX10_lookedAt_1 : decode cX10_lookedAt 1 = .ok (.aload_n 1, 1) := by decide +kernel
theorem dX10_lookedAt_2 : decode cX10_lookedAt 2 = .ok (.iload_n 2, 1) := by decide +kernel
theorem dX10_lookedAt_3 : decode cX10_lookedAt 3 = .ok (.iconst 0, 1) := by decide +kernel
theorem dX10_lookedAt_4 : decode cX10_lookedAt 4 = .ok (.invokevirtual 70, 3) := by decide +kernel
theorem dX10_lookedAt_7 : decode cX10_lookedAt 7 = .ok (.invokevirtual 74, 3) := by decide +kernel
theorem dX10_lookedAt_10 : decode cX10_lookedAt 10 = .ok (.astore_n 3, 1) := by decide +kernel
theorem dX10_lookedAt_11 : decode cX10_lookedAt 11 = .ok (.aload_n 1, 1) := by decide +kernel
theorem dX10_lookedAt_12 : decode cX10_lookedAt 12 = .ok (.aload_n 1, 1) := by decide +kernel
theorem dX10_lookedAt_13 : decode cX10_lookedAt 13 = .ok (.iload_n 2, 1) := by decide +kernel
theorem dX10_lookedAt_14 : decode cX10_lookedAt 14 = .ok (.iconst 1, 1) := by decide +kernel
theorem dX10_lookedAt_15 : decode cX10_lookedAt 15 = .ok (.invokevirtual 70, 3) := by decide +kernel
theorem dX10_lookedAt_18 : decode cX10_lookedAt 18 = .ok (.invokestatic 94, 3) := by decide +kernel
theorem dX10_lookedAt_21 : decode cX10_lookedAt 21 = .ok (.istore 4, 2) := by decide +kernel
theorem dX10_lookedAt_23 : decode cX10_lookedAt 23 = .ok (.aload_n 3, 1) := by decide +kernel
theorem dX10_lookedAt_24 : decode cX10_lookedAt 24 = .ok (.ifnull 25, 3) := by decide +kernel
theorem dX10_lookedAt_27 : decode cX10_lookedAt 27 = .ok (.aload_n 3, 1) := by decide +kernel
theorem dX10_lookedAt_28 : decode cX10_lookedAt 28 = .ok (.invokevirtual 98, 3) := by decide +kernel
theorem dX10_lookedAt_31 : decode cX10_lookedAt 31 = .ok (.ifCond .eq 18, 3) := by decide +kernel
theorem dX10_lookedAt_34 : decode cX10_lookedAt 34 = .ok (.iload 4, 2) := by decide +kernel
theorem dX10_lookedAt_36 : decode cX10_lookedAt 36 = .ok (.aload_n 1, 1) := by decide +kernel
theorem dX10_lookedAt_37 : decode cX10_lookedAt 37 = .ok (.aload_n 1, 1) := by decide +kernel
theorem dX10_lookedAt_38 : decode cX10_lookedAt 38 = .ok (.iload_n 2, 1) := by decide +kernel
theorem dX10_lookedAt_39 : decode cX10_lookedAt 39 = .ok (.iconst 2, 1) := by decide +kernel
theorem dX10_lookedAt_40 : decode cX10_lookedAt 40 = .ok (.invokevirtual 70, 3) := by decide +kernel
theorem dX10_lookedAt_43 : decode cX10_lookedAt 43 = .ok (.invokestatic 94, 3) := by decide +kernel
theorem dX10_lookedAt_46 : decode cX10_lookedAt 46 = .ok (.ior, 1) := by decide +kernel
theorem dX10_lookedAt_47 : decode cX10_lookedAt 47 = .ok (.istore 4, 2) := by decide +kernel
theorem dX10_lookedAt_49 : decode cX10_lookedAt 49 = .ok (.iload 4, 2) := by decide +kernel
theorem dX10_lookedAt_51 : decode cX10_lookedAt 51 = .ok (.ireturn, 1) := by decide +kernel
theorem dX10_betBit_0 : decode cX10_betBit 0 = .ok (.aload_n 0, 1) := by decide +kernel
theorem dX10_betBit_1 : decode cX10_betBit 1 = .ok (.iload_n 1, 1) := by decide +kernel
theorem dX10_betBit_2 : decode cX10_betBit 2 = .ok (.bipush 10, 2) := by decide +kernel
theorem dX10_betBit_4 : decode cX10_betBit 4 = .ok (.isub, 1) := by decide +kernel
theorem dX10_betBit_5 : decode cX10_betBit 5 = .ok (.invokevirtual 102, 3) := by decide +kernel
theorem dX10_betBit_8 : decode cX10_betBit 8 = .ok (.ifCond .eq 12, 3) := by decide +kernel
theorem dX10_betBit_11 : decode cX10_betBit 11 = .ok (.iconst 1, 1) := by decide +kernel
theorem dX10_betBit_12 : decode cX10_betBit 12 = .ok (.iload_n 1, 1) := by decide +kernel
theorem dX10_betBit_13 : decode cX10_betBit 13 = .ok (.bipush 10, 2) := by decide +kernel
theorem dX10_betBit_15 : decode cX10_betBit 15 = .ok (.isub, 1) := by decide +kernel
theorem dX10_betBit_16 : decode cX10_betBit 16 = .ok (.ishl, 1) := by decide +kernel
theorem dX10_betBit_17 : decode cX10_betBit 17 = .ok (.goto 4, 3) := by decide +kernel
theorem dX10_betBit_20 : decode cX10_betBit 20 = .ok (.iconst 0, 1) := by decide +kernel
theorem dX10_betBit_21 : decode cX10_betBit 21 = .ok (.ireturn, 1) := by decide +kernel
theorem dJ11_isValidCodePoint_9a6ad_0 : decode cJ11_isValidCodePoint_9a6ad 0 = .ok (.iload_n 0, 1) := by decide +kernel
theorem dJ11_isValidCodePoint_9a6ad_1 : decode cJ11_isValidCodePoint_9a6ad 1 = .ok (.bipush 16, 2) := by decide +kernel
theorem dJ11_isValidCodePoint_9a6ad_3 : decode cJ11_isValidCodePoint_9a6ad 3 = .ok (.iushr, 1) := by decide +kernel
theorem dJ11_isValidCodePoint_9a6ad_4 : decode cJ11_isValidCodePoint_9a6ad 4 = .ok (.istore_n 1, 1) := by decide +kernel
theorem dJ11_isValidCodePoint_9a6ad_5 : decode cJ11_isValidCodePoint_9a6ad 5 = .ok (.iload_n 1, 1) := by decide +kernel
theorem dJ11_isValidCodePoint_9a6ad_6 : decode cJ11_isValidCodePoint_9a6ad 6 = .ok (.bipush 17, 2) := by decide +kernel
theorem dJ11_isValidCodePoint_9a6ad_8 : decode cJ11_isValidCodePoint_9a6ad 8 = .ok (.if_icmp .ge 7, 3) := by decide +kernel
theorem dJ11_isValidCodePoint_9a6ad_11 : decode cJ11_isValidCodePoint_9a6ad 11 = .ok (.iconst 1, 1) := by decide +kernel
theorem dJ11_isValidCodePoint_9a6ad_12 : decode cJ11_isValidCodePoint_9a6ad 12 = .ok (.goto 4, 3) := by decide +kernel
theorem dJ11_isValidCodePoint_9a6ad_15 : decode cJ11_isValidCodePoint_9a6ad 15 = .ok (.iconst 0, 1) := by decide +kernel
theorem dJ11_isValidCodePoint_9a6ad_16 : decode cJ11_isValidCodePoint_9a6ad 16 = .ok (.ireturn, 1) := by decide +kernel
theorem dJ11_highSurrogate_5068e_0 : decode cJ11_highSurrogate_5068e 0 = .ok (.iload_n 0, 1) := by decide +kernel
theorem dJ11_highSurrogate_5068e_1 : decode cJ11_highSurrogate_5068e 1 = .ok (.bipush 10, 2) := by decide +kernel
theorem dJ11_highSurrogate_5068e_3 : decode cJ11_highSurrogate_5068e 3 = .ok (.iushr, 1) := by decide +kernel
theorem dJ11_highSurrogate_5068e_4 : decode cJ11_highSurrogate_5068e 4 = .ok (.ldc 110, 2) := by decide +kernel
theorem dJ11_highSurrogate_5068e_6 : decode cJ11_highSurrogate_5068e 6 = .ok (.iadd, 1) := by decide +kernel
theorem dJ11_highSurrogate_5068e_7 : decode cJ11_highSurrogate_5068e 7 = .ok (.i2c, 1) := by decide +kernel
theorem dJ11_highSurrogate_5068e_8 : decode cJ11_highSurrogate_5068e 8 = .ok (.ireturn, 1) := by decide +kernel
theorem dJ11_lowSurrogate_5068e_0 : decode cJ11_lowSurrogate_5068e 0 = .ok (.iload_n 0, 1) := by decide +kernel
theorem dJ11_lowSurrogate_5068e_1 : decode cJ11_lowSurrogate_5068e 1 = .ok (.sipush 1023, 3) := by decide +kernel
theorem dJ11_lowSurrogate_5068e_4 : decode cJ11_lowSurrogate_5068e 4 = .ok (.iand, 1) := by decide +kernel
theorem dJ11_lowSurrogate_5068e_5 : decode cJ11_lowSurrogate_5068e 5 = .ok (.ldc 76, 2) := by decide +kernel
theorem dJ11_lowSurrogate_5068e_7 : decode cJ11_lowSurrogate_5068e 7 = .ok (.iadd, 1) := by decide +kernel
theorem dJ11_lowSurrogate_5068e_8 : decode cJ11_lowSurrogate_5068e 8 = .ok (.i2c, 1) := by decide +kernel
theorem dJ11_lowSurrogate_5068e_9 : decode cJ11_lowSurrogate_5068e 9 = .ok (.ireturn, 1) := by decide +kernel
theorem dJ6_bitCount_0f7a4_0 : decode cJ6_bitCount_0f7a4 0 = .ok (.iload_n 0, 1) := by decide +kernel
theorem dJ6_bitCount_0f7a4_1 : decode cJ6_bitCount_0f7a4 1 = .ok (.iload_n 0, 1) := by decide +kernel
theorem dJ6_bitCount_0f7a4_2 : decode cJ6_bitCount_0f7a4 2 = .ok (.iconst 1, 1) := by decide +kernel
theorem dJ6_bitCount_0f7a4_3 : decode cJ6_bitCount_0f7a4 3 = .ok (.iushr, 1) := by decide +kernel
theorem dJ6_bitCount_0f7a4_4 : decode cJ6_bitCount_0f7a4 4 = .ok (.ldc_w 265, 3) := by decide +kernel
theorem dJ6_bitCount_0f7a4_7 : decode cJ6_bitCount_0f7a4 7 = .ok (.iand, 1) := by decide +kernel
theorem dJ6_bitCount_0f7a4_8 : decode cJ6_bitCount_0f7a4 8 = .ok (.isub, 1) := by decide +kernel
theorem dJ6_bitCount_0f7a4_9 : decode cJ6_bitCount_0f7a4 9 = .ok (.istore_n 0, 1) := by decide +kernel
theorem dJ6_bitCount_0f7a4_10 : decode cJ6_bitCount_0f7a4 10 = .ok (.iload_n 0, 1) := by decide +kernel
theorem dJ6_bitCount_0f7a4_11 : decode cJ6_bitCount_0f7a4 11 = .ok (.ldc_w 266, 3) := by decide +kernel
theorem dJ6_bitCount_0f7a4_14 : decode cJ6_bitCount_0f7a4 14 = .ok (.iand, 1) := by decide +kernel
theorem dJ6_bitCount_0f7a4_15 : decode cJ6_bitCount_0f7a4 15 = .ok (.iload_n 0, 1) := by decide +kernel
theorem dJ6_bitCount_0f7a4_16 : decode cJ6_bitCount_0f7a4 16 = .ok (.iconst 2, 1) := by decide +kernel
theorem dJ6_bitCount_0f7a4_17 : decode cJ6_bitCount_0f7a4 17 = .ok (.iushr, 1) := by decide +kernel
theorem dJ6_bitCount_0f7a4_18 : decode cJ6_bitCount_0f7a4 18 = .ok (.ldc_w 266, 3) := by decide +kernel
theorem dJ6_bitCount_0f7a4_21 : decode cJ6_bitCount_0f7a4 21 = .ok (.iand, 1) := by decide +kernel
theorem dJ6_bitCount_0f7a4_22 : decode cJ6_bitCount_0f7a4 22 = .ok (.iadd, 1) := by decide +kernel
theorem dJ6_bitCount_0f7a4_23 : decode cJ6_bitCount_0f7a4 23 = .ok (.istore_n 0, 1) := by decide +kernel
theorem dJ6_bitCount_0f7a4_24 : decode cJ6_bitCount_0f7a4 24 = .ok (.iload_n 0, 1) := by decide +kernel
theorem dJ6_bitCount_0f7a4_25 : decode cJ6_bitCount_0f7a4 25 = .ok (.iload_n 0, 1) := by decide +kernel
theorem dJ6_bitCount_0f7a4_26 : decode cJ6_bitCount_0f7a4 26 = .ok (.iconst 4, 1) := by decide +kernel
theorem dJ6_bitCount_0f7a4_27 : decode cJ6_bitCount_0f7a4 27 = .ok (.iushr, 1) := by decide +kernel
theorem dJ6_bitCount_0f7a4_28 : decode cJ6_bitCount_0f7a4 28 = .ok (.iadd, 1) := by decide +kernel
theorem dJ6_bitCount_0f7a4_29 : decode cJ6_bitCount_0f7a4 29 = .ok (.ldc_w 267, 3) := by decide +kernel
theorem dJ6_bitCount_0f7a4_32 : decode cJ6_bitCount_0f7a4 32 = .ok (.iand, 1) := by decide +kernel
theorem dJ6_bitCount_0f7a4_33 : decode cJ6_bitCount_0f7a4 33 = .ok (.istore_n 0, 1) := by decide +kernel
theorem dJ6_bitCount_0f7a4_34 : decode cJ6_bitCount_0f7a4 34 = .ok (.iload_n 0, 1) := by decide +kernel
theorem dJ6_bitCount_0f7a4_35 : decode cJ6_bitCount_0f7a4 35 = .ok (.iload_n 0, 1) := by decide +kernel
theorem dJ6_bitCount_0f7a4_36 : decode cJ6_bitCount_0f7a4 36 = .ok (.bipush 8, 2) := by decide +kernel
theorem dJ6_bitCount_0f7a4_38 : decode cJ6_bitCount_0f7a4 38 = .ok (.iushr, 1) := by decide +kernel
theorem dJ6_bitCount_0f7a4_39 : decode cJ6_bitCount_0f7a4 39 = .ok (.iadd, 1) := by decide +kernel
theorem dJ6_bitCount_0f7a4_40 : decode cJ6_bitCount_0f7a4 40 = .ok (.istore_n 0, 1) := by decide +kernel
theorem dJ6_bitCount_0f7a4_41 : decode cJ6_bitCount_0f7a4 41 = .ok (.iload_n 0, 1) := by decide +kernel
theorem dJ6_bitCount_0f7a4_42 : decode cJ6_bitCount_0f7a4 42 = .ok (.iload_n 0, 1) := by decide +kernel
theorem dJ6_bitCount_0f7a4_43 : decode cJ6_bitCount_0f7a4 43 = .ok (.bipush 16, 2) := by decide +kernel
theorem dJ6_bitCount_0f7a4_45 : decode cJ6_bitCount_0f7a4 45 = .ok (.iushr, 1) := by decide +kernel
theorem dJ6_bitCount_0f7a4_46 : decode cJ6_bitCount_0f7a4 46 = .ok (.iadd, 1) := by decide +kernel
theorem dJ6_bitCount_0f7a4_47 : decode cJ6_bitCount_0f7a4 47 = .ok (.istore_n 0, 1) := by decide +kernel
theorem dJ6_bitCount_0f7a4_48 : decode cJ6_bitCount_0f7a4 48 = .ok (.iload_n 0, 1) := by decide +kernel
theorem dJ6_bitCount_0f7a4_49 : decode cJ6_bitCount_0f7a4 49 = .ok (.bipush 63, 2) := by decide +kernel
theorem dJ6_bitCount_0f7a4_51 : decode cJ6_bitCount_0f7a4 51 = .ok (.iand, 1) := by decide +kernel
theorem dJ6_bitCount_0f7a4_52 : decode cJ6_bitCount_0f7a4 52 = .ok (.ireturn, 1) := by decide +kernel
theorem dJ9_max_7cf53_0 : decode cJ9_max_7cf53 0 = .ok (.iload_n 0, 1) := by decide +kernel
theorem dJ9_max_7cf53_1 : decode cJ9_max_7cf53 1 = .ok (.iload_n 1, 1) := by decide +kernel
theorem dJ9_max_7cf53_2 : decode cJ9_max_7cf53 2 = .ok (.if_icmp .lt 7, 3) := by decide +kernel
theorem dJ9_max_7cf53_5 : decode cJ9_max_7cf53 5 = .ok (.iload_n 0, 1) := by decide +kernel
theorem dJ9_max_7cf53_6 : decode cJ9_max_7cf53 6 = .ok (.goto 4, 3) := by decide +kernel
theorem dJ9_max_7cf53_9 : decode cJ9_max_7cf53 9 = .ok (.iload_n 1, 1) := by decide +kernel
theorem dJ9_max_7cf53_10 : decode cJ9_max_7cf53 10 = .ok (.ireturn, 1) := by decide +kernel
theorem dJ9_min_7cf53_0 : decode cJ9_min_7cf53 0 = .ok (.iload_n 0, 1) := by decide +kernel
theorem dJ9_min_7cf53_1 : decode cJ9_min_7cf53 1 = .ok (.iload_n 1, 1) := by decide +kernel
theorem dJ9_min_7cf53_2 : decode cJ9_min_7cf53 2 = .ok (.if_icmp .gt 7, 3) := by decide +kernel
theorem dJ9_min_7cf53_5 : decode cJ9_min_7cf53 5 = .ok (.iload_n 0, 1) := by decide +kernel
theorem dJ9_min_7cf53_6 : decode cJ9_min_7cf53 6 = .ok (.goto 4, 3) := by decide +kernel
theorem dJ9_min_7cf53_9 : decode cJ9_min_7cf53 9 = .ok (.iload_n 1, 1) := by decide +kernel
theorem dJ9_min_7cf53_10 : decode cJ9_min_7cf53 10 = .ok (.ireturn, 1) := by decide +kernel
theorem dJ0_length_8abf5_0 : decode cJ0_length_8abf5 0 = .ok (.aload_n 0, 1) := by decide +kernel
theorem dJ0_length_8abf5_1 : decode cJ0_length_8abf5 1 = .ok (.getfield 9, 3) := by decide +kernel
theorem dJ0_length_8abf5_4 : decode cJ0_length_8abf5 4 = .ok (.arraylength, 1) := by decide +kernel
theorem dJ0_length_8abf5_5 : decode cJ0_length_8abf5 5 = .ok (.aload_n 0, 1) := by decide +kernel
theorem dJ0_length_8abf5_6 : decode cJ0_length_8abf5 6 = .ok (.invokevirtual 335, 3) := by decide +kernel
theorem dJ0_length_8abf5_9 : decode cJ0_length_8abf5 9 = .ok (.ishr, 1) := by decide +kernel
theorem dJ0_length_8abf5_10 : decode cJ0_length_8abf5 10 = .ok (.ireturn, 1) := by decide +kernel
theorem dJ0_indexOf_0f7a4_0 : decode cJ0_indexOf_0f7a4 0 = .ok (.aload_n 0, 1) := by decide +kernel
theorem dJ0_indexOf_0f7a4_1 : decode cJ0_indexOf_0f7a4 1 = .ok (.iload_n 1, 1) := by decide +kernel
theorem dJ0_indexOf_0f7a4_2 : decode cJ0_indexOf_0f7a4 2 = .ok (.iconst 0, 1) := by decide +kernel
theorem dJ0_indexOf_0f7a4_3 : decode cJ0_indexOf_0f7a4 3 = .ok (.invokevirtual 633, 3) := by decide +kernel
theorem dJ0_indexOf_0f7a4_6 : decode cJ0_indexOf_0f7a4 6 = .ok (.ireturn, 1) := by decide +kernel
theorem dJ0_indexOf_7cf53_0 : decode cJ0_indexOf_7cf53 0 = .ok (.aload_n 0, 1) := by decide +kernel
theorem dJ0_indexOf_7cf53_1 : decode cJ0_indexOf_7cf53 1 = .ok (.invokevirtual 492, 3) := by decide +kernel
theorem dJ0_indexOf_7cf53_4 : decode cJ0_indexOf_7cf53 4 = .ok (.ifCond .eq 19, 3) := by decide +kernel
theorem dJ0_indexOf_7cf53_7 : decode cJ0_indexOf_7cf53 7 = .ok (.aload_n 0, 1) := by decide +kernel
theorem dJ0_indexOf_7cf53_8 : decode cJ0_indexOf_7cf53 8 = .ok (.getfield 9, 3) := by decide +kernel
theorem dJ0_indexOf_7cf53_11 : decode cJ0_indexOf_7cf53 11 = .ok (.iload_n 1, 1) := by decide +kernel
theorem dJ0_indexOf_7cf53_12 : decode cJ0_indexOf_7cf53 12 = .ok (.iload_n 2, 1) := by decide +kernel
theorem dJ0_indexOf_7cf53_13 : decode cJ0_indexOf_7cf53 13 = .ok (.aload_n 0, 1) := by decide +kernel
theorem dJ0_indexOf_7cf53_14 : decode cJ0_indexOf_7cf53 14 = .ok (.invokevirtual 505, 3) := by decide +kernel
theorem dJ0_indexOf_7cf53_17 : decode cJ0_indexOf_7cf53 17 = .ok (.invokestatic 637, 3) := by decide +kernel
theorem dJ0_indexOf_7cf53_20 : decode cJ0_indexOf_7cf53 20 = .ok (.goto 16, 3) := by decide +kernel
theorem dJ0_indexOf_7cf53_23 : decode cJ0_indexOf_7cf53 23 = .ok (.aload_n 0, 1) := by decide +kernel
theorem dJ0_indexOf_7cf53_24 : decode cJ0_indexOf_7cf53 24 = .ok (.getfield 9, 3) := by decide +kernel
theorem dJ0_indexOf_7cf53_27 : decode cJ0_indexOf_7cf53 27 = .ok (.iload_n 1, 1) := by decide +kernel
theorem dJ0_indexOf_7cf53_28 : decode cJ0_indexOf_7cf53 28 = .ok (.iload_n 2, 1) := by decide +kernel
theorem dJ0_indexOf_7cf53_29 : decode cJ0_indexOf_7cf53 29 = .ok (.aload_n 0, 1) := by decide +kernel
theorem dJ0_indexOf_7cf53_30 : decode cJ0_indexOf_7cf53 30 = .ok (.invokevirtual 505, 3) := by decide +kernel
theorem dJ0_indexOf_7cf53_33 : decode cJ0_indexOf_7cf53 33 = .ok (.invokestatic 640, 3) := by decide +kernel
theorem dJ0_indexOf_7cf53_36 : decode cJ0_indexOf_7cf53 36 = .ok (.ireturn, 1) := by decide +kernel
theorem dJ0_coder_7d493_0 : decode cJ0_coder_7d493 0 = .ok (.getstatic 38, 3) := by decide +kernel
theorem dJ0_coder_7d493_3 : decode cJ0_coder_7d493 3 = .ok (.ifCond .eq 10, 3) := by decide +kernel
theorem dJ0_coder_7d493_6 : decode cJ0_coder_7d493 6 = .ok (.aload_n 0, 1) := by decide +kernel
theorem dJ0_coder_7d493_7 : decode cJ0_coder_7d493 7 = .ok (.getfield 15, 3) := by decide +kernel
theorem dJ0_coder_7d493_10 : decode cJ0_coder_7d493 10 = .ok (.goto 4, 3) := by decide +kernel
theorem dJ0_coder_7d493_13 : decode cJ0_coder_7d493 13 = .ok (.iconst 1, 1) := by decide +kernel
theorem dJ0_coder_7d493_14 : decode cJ0_coder_7d493 14 = .ok (.ireturn, 1) := by decide +kernel
theorem dJ0_isLatin1_aae02_0 : decode cJ0_isLatin1_aae02 0 = .ok (.getstatic 38, 3) := by decide +kernel
theorem dJ0_isLatin1_aae02_3 : decode cJ0_isLatin1_aae02 3 = .ok (.ifCond .eq 14, 3) := by decide +kernel
theorem dJ0_isLatin1_aae02_6 : decode cJ0_isLatin1_aae02 6 = .ok (.aload_n 0, 1) := by decide +kernel
theorem dJ0_isLatin1_aae02_7 : decode cJ0_isLatin1_aae02 7 = .ok (.getfield 15, 3) := by decide +kernel
theorem dJ0_isLatin1_aae02_10 : decode cJ0_isLatin1_aae02 10 = .ok (.ifCond .ne 7, 3) := by decide +kernel
theorem dJ0_isLatin1_aae02_13 : decode cJ0_isLatin1_aae02 13 = .ok (.iconst 1, 1) := by decide +kernel
theorem dJ0_isLatin1_aae02_14 : decode cJ0_isLatin1_aae02 14 = .ok (.goto 4, 3) := by decide +kernel
theorem dJ0_isLatin1_aae02_17 : decode cJ0_isLatin1_aae02 17 = .ok (.iconst 0, 1) := by decide +kernel
theorem dJ0_isLatin1_aae02_18 : decode cJ0_isLatin1_aae02 18 = .ok (.ireturn, 1) := by decide +kernel
theorem dJ0_checkBoundsBeginEnd_23922_0 : decode cJ0_checkBoundsBeginEnd_23922 0 = .ok (.iload_n 0, 1) := by decide +kernel
theorem dJ0_checkBoundsBeginEnd_23922_1 : decode cJ0_checkBoundsBeginEnd_23922 1 = .ok (.iload_n 1, 1) := by decide +kernel
theorem dJ0_checkBoundsBeginEnd_23922_2 : decode cJ0_checkBoundsBeginEnd_23922 2 = .ok (.iload_n 2, 1) := by decide +kernel
theorem dJ0_checkBoundsBeginEnd_23922_3 : decode cJ0_checkBoundsBeginEnd_23922 3 = .ok (.getstatic 1053, 3) := by decide +kernel
theorem dJ0_checkBoundsBeginEnd_23922_6 : decode cJ0_checkBoundsBeginEnd_23922 6 = .ok (.invokestatic 1062, 3) := by decide +kernel
theorem dJ0_checkBoundsBeginEnd_23922_9 : decode cJ0_checkBoundsBeginEnd_23922 9 = .ok (.pop, 1) := by decide +kernel
theorem dJ0_checkBoundsBeginEnd_23922_10 : decode cJ0_checkBoundsBeginEnd_23922 10 = .ok (.return_, 1) := by decide +kernel
theorem dJ1_canEncode_9a6ad_0 : decode cJ1_canEncode_9a6ad 0 = .ok (.iload_n 0, 1) := by decide +kernel
theorem dJ1_canEncode_9a6ad_1 : decode cJ1_canEncode_9a6ad 1 = .ok (.ifCond .lt 14, 3) := by decide +kernel
theorem dJ1_canEncode_9a6ad_4 : decode cJ1_canEncode_9a6ad 4 = .ok (.iload_n 0, 1) := by decide +kernel
theorem dJ1_canEncode_9a6ad_5 : decode cJ1_canEncode_9a6ad 5 = .ok (.sipush 255, 3) := by decide +kernel
theorem dJ1_canEncode_9a6ad_8 : decode cJ1_canEncode_9a6ad 8 = .ok (.if_icmp .gt 7, 3) := by decide +kernel
theorem dJ1_canEncode_9a6ad_11 : decode cJ1_canEncode_9a6ad 11 = .ok (.iconst 1, 1) := by decide +kernel
theorem dJ1_canEncode_9a6ad_12 : decode cJ1_canEncode_9a6ad 12 = .ok (.goto 4, 3) := by decide +kernel
theorem dJ1_canEncode_9a6ad_15 : decode cJ1_canEncode_9a6ad 15 = .ok (.iconst 0, 1) := by decide +kernel
theorem dJ1_canEncode_9a6ad_16 : decode cJ1_canEncode_9a6ad 16 = .ok (.ireturn, 1) := by decide +kernel
theorem dJ1_indexOf_4cfef_0 : decode cJ1_indexOf_4cfef 0 = .ok (.iload_n 1, 1) := by decide +kernel
theorem dJ1_indexOf_4cfef_1 : decode cJ1_indexOf_4cfef 1 = .ok (.invokestatic 88, 3) := by decide +kernel
theorem dJ1_indexOf_4cfef_4 : decode cJ1_indexOf_4cfef 4 = .ok (.ifCond .ne 5, 3) := by decide +kernel
theorem dJ1_indexOf_4cfef_7 : decode cJ1_indexOf_4cfef 7 = .ok (.iconst (-1), 1) := by decide +kernel
theorem dJ1_indexOf_4cfef_8 : decode cJ1_indexOf_4cfef 8 = .ok (.ireturn, 1) := by decide +kernel
theorem dJ1_indexOf_4cfef_9 : decode cJ1_indexOf_4cfef 9 = .ok (.iload_n 2, 1) := by decide +kernel
theorem dJ1_indexOf_4cfef_10 : decode cJ1_indexOf_4cfef 10 = .ok (.iconst 0, 1) := by decide +kernel
theorem dJ1_indexOf_4cfef_11 : decode cJ1_indexOf_4cfef 11 = .ok (.invokestatic 92, 3) := by decide +kernel
theorem dJ1_indexOf_4cfef_14 : decode cJ1_indexOf_4cfef 14 = .ok (.istore_n 2, 1) := by decide +kernel
theorem dJ1_indexOf_4cfef_15 : decode cJ1_indexOf_4cfef 15 = .ok (.iload_n 3, 1) := by decide +kernel
theorem dJ1_indexOf_4cfef_16 : decode cJ1_indexOf_4cfef 16 = .ok (.aload_n 0, 1) := by decide +kernel
theorem dJ1_indexOf_4cfef_17 : decode cJ1_indexOf_4cfef 17 = .ok (.arraylength, 1) := by decide +kernel
theorem dJ1_indexOf_4cfef_18 : decode cJ1_indexOf_4cfef 18 = .ok (.invokestatic 38, 3) := by decide +kernel
theorem dJ1_indexOf_4cfef_21 : decode cJ1_indexOf_4cfef 21 = .ok (.istore_n 3, 1) := by decide +kernel
theorem dJ1_indexOf_4cfef_22 : decode cJ1_indexOf_4cfef 22 = .ok (.iload_n 2, 1) := by decide +kernel
theorem dJ1_indexOf_4cfef_23 : decode cJ1_indexOf_4cfef 23 = .ok (.iload_n 3, 1) := by decide +kernel
theorem dJ1_indexOf_4cfef_24 : decode cJ1_indexOf_4cfef 24 = .ok (.if_icmp .lt 5, 3) := by decide +kernel
theorem dJ1_indexOf_4cfef_27 : decode cJ1_indexOf_4cfef 27 = .ok (.iconst (-1), 1) := by decide +kernel
theorem dJ1_indexOf_4cfef_28 : decode cJ1_indexOf_4cfef 28 = .ok (.ireturn, 1) := by decide +kernel
theorem dJ1_indexOf_4cfef_29 : decode cJ1_indexOf_4cfef 29 = .ok (.aload_n 0, 1) := by decide +kernel
theorem dJ1_indexOf_4cfef_30 : decode cJ1_indexOf_4cfef 30 = .ok (.iload_n 1, 1) := by decide +kernel
theorem dJ1_indexOf_4cfef_31 : decode cJ1_indexOf_4cfef 31 = .ok (.iload_n 2, 1) := by decide +kernel
theorem dJ1_indexOf_4cfef_32 : decode cJ1_indexOf_4cfef 32 = .ok (.iload_n 3, 1) := by decide +kernel
theorem dJ1_indexOf_4cfef_33 : decode cJ1_indexOf_4cfef 33 = .ok (.invokestatic 95, 3) := by decide +kernel
theorem dJ1_indexOf_4cfef_36 : decode cJ1_indexOf_4cfef 36 = .ok (.ireturn, 1) := by decide +kernel
theorem dJ1_indexOfChar_4cfef_0 : decode cJ1_indexOfChar_4cfef 0 = .ok (.iload_n 1, 1) := by decide +kernel
theorem dJ1_indexOfChar_4cfef_1 : decode cJ1_indexOfChar_4cfef 1 = .ok (.i2b, 1) := by decide +kernel
theorem dJ1_indexOfChar_4cfef_2 : decode cJ1_indexOfChar_4cfef 2 = .ok (.istore 4, 2) := by decide +kernel
theorem dJ1_indexOfChar_4cfef_4 : decode cJ1_indexOfChar_4cfef 4 = .ok (.iload_n 2, 1) := by decide +kernel
theorem dJ1_indexOfChar_4cfef_5 : decode cJ1_indexOfChar_4cfef 5 = .ok (.istore 5, 2) := by decide +kernel
theorem dJ1_indexOfChar_4cfef_7 : decode cJ1_indexOfChar_4cfef 7 = .ok (.iload 5, 2) := by decide +kernel
theorem dJ1_indexOfChar_4cfef_9 : decode cJ1_indexOfChar_4cfef 9 = .ok (.iload_n 3, 1) := by decide +kernel
theorem dJ1_indexOfChar_4cfef_10 : decode cJ1_indexOfChar_4cfef 10 = .ok (.if_icmp .ge 21, 3) := by decide +kernel
theorem dJ1_indexOfChar_4cfef_13 : decode cJ1_indexOfChar_4cfef 13 = .ok (.aload_n 0, 1) := by decide +kernel
theorem dJ1_indexOfChar_4cfef_14 : decode cJ1_indexOfChar_4cfef 14 = .ok (.iload 5, 2) := by decide +kernel
theorem dJ1_indexOfChar_4cfef_16 : decode cJ1_indexOfChar_4cfef 16 = .ok (.baload, 1) := by decide +kernel
theorem dJ1_indexOfChar_4cfef_17 : decode cJ1_indexOfChar_4cfef 17 = .ok (.iload 4, 2) := by decide +kernel
theorem dJ1_indexOfChar_4cfef_19 : decode cJ1_indexOfChar_4cfef 19 = .ok (.if_icmp .ne 6, 3) := by decide +kernel
theorem dJ1_indexOfChar_4cfef_22 : decode cJ1_indexOfChar_4cfef 22 = .ok (.iload 5, 2) := by decide +kernel
theorem dJ1_indexOfChar_4cfef_24 : decode cJ1_indexOfChar_4cfef 24 = .ok (.ireturn, 1) := by decide +kernel
theorem dJ1_indexOfChar_4cfef_25 : decode cJ1_indexOfChar_4cfef 25 = .ok (.iinc 5 1, 3) := by decide +kernel
theorem dJ1_indexOfChar_4cfef_28 : decode cJ1_indexOfChar_4cfef 28 = .ok (.goto (-21), 3) := by decide +kernel
theorem dJ1_indexOfChar_4cfef_31 : decode cJ1_indexOfChar_4cfef 31 = .ok (.iconst (-1), 1) := by decide +kernel
theorem dJ1_indexOfChar_4cfef_32 : decode cJ1_indexOfChar_4cfef 32 = .ok (.ireturn, 1) := by decide +kernel
theorem dJ2_getChar_3b067_0 : decode cJ2_getChar_3b067 0 = .ok (.getstatic 44, 3) := by decide +kernel
theorem dJ2_getChar_3b067_3 : decode cJ2_getChar_3b067 3 = .ok (.ifCond .ne 25, 3) := by decide +kernel
theorem dJ2_getChar_3b067_6 : decode cJ2_getChar_3b067 6 = .ok (.iload_n 1, 1) := by decide +kernel
theorem dJ2_getChar_3b067_7 : decode cJ2_getChar_3b067 7 = .ok (.ifCond .lt 11, 3) := by decide +kernel
theorem dJ2_getChar_3b067_10 : decode cJ2_getChar_3b067 10 = .ok (.iload_n 1, 1) := by decide +kernel
theorem dJ2_getChar_3b067_11 : decode cJ2_getChar_3b067 11 = .ok (.aload_n 0, 1) := by decide +kernel
theorem dJ2_getChar_3b067_12 : decode cJ2_getChar_3b067 12 = .ok (.invokestatic 48, 3) := by decide +kernel
theorem dJ2_getChar_3b067_15 : decode cJ2_getChar_3b067 15 = .ok (.if_icmp .lt 13, 3) := by decide +kernel
theorem dJ2_getChar_3b067_18 : decode cJ2_getChar_3b067 18 = .ok (.new 52, 3) := by decide +kernel
theorem dJ2_getChar_3b067_21 : decode cJ2_getChar_3b067 21 = .ok (.dup, 1) := by decide +kernel
theorem dJ2_getChar_3b067_22 : decode cJ2_getChar_3b067 22 = .ok (.ldc 54, 2) := by decide +kernel
theorem dJ2_getChar_3b067_24 : decode cJ2_getChar_3b067 24 = .ok (.invokespecial 56, 3) := by decide +kernel
theorem dJ2_getChar_3b067_27 : decode cJ2_getChar_3b067 27 = .ok (.athrow, 1) := by decide +kernel
theorem dJ2_getChar_3b067_28 : decode cJ2_getChar_3b067 28 = .ok (.iload_n 1, 1) := by decide +kernel
theorem dJ2_getChar_3b067_29 : decode cJ2_getChar_3b067 29 = .ok (.iconst 1, 1) := by decide +kernel
theorem dJ2_getChar_3b067_30 : decode cJ2_getChar_3b067 30 = .ok (.ishl, 1) := by decide +kernel
theorem dJ2_getChar_3b067_31 : decode cJ2_getChar_3b067 31 = .ok (.istore_n 1, 1) := by decide +kernel
theorem dJ2_getChar_3b067_32 : decode cJ2_getChar_3b067 32 = .ok (.aload_n 0, 1) := by decide +kernel
theorem dJ2_getChar_3b067_33 : decode cJ2_getChar_3b067 33 = .ok (.iload_n 1, 1) := by decide +kernel
theorem dJ2_getChar_3b067_34 : decode cJ2_getChar_3b067 34 = .ok (.iinc 1 1, 3) := by decide +kernel
theorem dJ2_getChar_3b067_37 : decode cJ2_getChar_3b067 37 = .ok (.baload, 1) := by decide +kernel
theorem dJ2_getChar_3b067_38 : decode cJ2_getChar_3b067 38 = .ok (.sipush 255, 3) := by decide +kernel
theorem dJ2_getChar_3b067_41 : decode cJ2_getChar_3b067 41 = .ok (.iand, 1) := by decide +kernel
theorem dJ2_getChar_3b067_42 : decode cJ2_getChar_3b067 42 = .ok (.getstatic 59, 3) := by decide +kernel
theorem dJ2_getChar_3b067_45 : decode cJ2_getChar_3b067 45 = .ok (.ishl, 1) := by decide +kernel
theorem dJ2_getChar_3b067_46 : decode cJ2_getChar_3b067 46 = .ok (.aload_n 0, 1) := by decide +kernel
theorem dJ2_getChar_3b067_47 : decode cJ2_getChar_3b067 47 = .ok (.iload_n 1, 1) := by decide +kernel
theorem dJ2_getChar_3b067_48 : decode cJ2_getChar_3b067 48 = .ok (.baload, 1) := by decide +kernel
theorem dJ2_getChar_3b067_49 : decode cJ2_getChar_3b067 49 = .ok (.sipush 255, 3) := by decide +kernel
theorem dJ2_getChar_3b067_52 : decode cJ2_getChar_3b067 52 = .ok (.iand, 1) := by decide +kernel
theorem dJ2_getChar_3b067_53 : decode cJ2_getChar_3b067 53 = .ok (.getstatic 63, 3) := by decide +kernel
theorem dJ2_getChar_3b067_56 : decode cJ2_getChar_3b067 56 = .ok (.ishl, 1) := by decide +kernel
theorem dJ2_getChar_3b067_57 : decode cJ2_getChar_3b067 57 = .ok (.ior, 1) := by decide +kernel
theorem dJ2_getChar_3b067_58 : decode cJ2_getChar_3b067 58 = .ok (.i2c, 1) := by decide +kernel
theorem dJ2_getChar_3b067_59 : decode cJ2_getChar_3b067 59 = .ok (.ireturn, 1) := by decide +kernel
theorem dJ2_length_9d52b_0 : decode cJ2_length_9d52b 0 = .ok (.aload_n 0, 1) := by decide +kernel
theorem dJ2_length_9d52b_1 : decode cJ2_length_9d52b 1 = .ok (.arraylength, 1) := by decide +kernel
theorem dJ2_length_9d52b_2 : decode cJ2_length_9d52b 2 = .ok (.iconst 1, 1) := by decide +kernel
theorem dJ2_length_9d52b_3 : decode cJ2_length_9d52b 3 = .ok (.ishr, 1) := by decide +kernel
theorem dJ2_length_9d52b_4 : decode cJ2_length_9d52b 4 = .ok (.ireturn, 1) := by decide +kernel
theorem dJ2_indexOf_4cfef_0 : decode cJ2_indexOf_4cfef 0 = .ok (.iload_n 2, 1) := by decide +kernel
theorem dJ2_indexOf_4cfef_1 : decode cJ2_indexOf_4cfef 1 = .ok (.iconst 0, 1) := by decide +kernel
theorem dJ2_indexOf_4cfef_2 : decode cJ2_indexOf_4cfef 2 = .ok (.invokestatic 224, 3) := by decide +kernel
theorem dJ2_indexOf_4cfef_5 : decode cJ2_indexOf_4cfef 5 = .ok (.istore_n 2, 1) := by decide +kernel
theorem dJ2_indexOf_4cfef_6 : decode cJ2_indexOf_4cfef 6 = .ok (.iload_n 3, 1) := by decide +kernel
theorem dJ2_indexOf_4cfef_7 : decode cJ2_indexOf_4cfef 7 = .ok (.aload_n 0, 1) := by decide +kernel
theorem dJ2_indexOf_4cfef_8 : decode cJ2_indexOf_4cfef 8 = .ok (.arraylength, 1) := by decide +kernel
theorem dJ2_indexOf_4cfef_9 : decode cJ2_indexOf_4cfef 9 = .ok (.iconst 1, 1) := by decide +kernel
theorem dJ2_indexOf_4cfef_10 : decode cJ2_indexOf_4cfef 10 = .ok (.ishr, 1) := by decide +kernel
theorem dJ2_indexOf_4cfef_11 : decode cJ2_indexOf_4cfef 11 = .ok (.invokestatic 183, 3) := by decide +kernel
theorem dJ2_indexOf_4cfef_14 : decode cJ2_indexOf_4cfef 14 = .ok (.istore_n 3, 1) := by decide +kernel
theorem dJ2_indexOf_4cfef_15 : decode cJ2_indexOf_4cfef 15 = .ok (.iload_n 2, 1) := by decide +kernel
theorem dJ2_indexOf_4cfef_16 : decode cJ2_indexOf_4cfef 16 = .ok (.iload_n 3, 1) := by decide +kernel
theorem dJ2_indexOf_4cfef_17 : decode cJ2_indexOf_4cfef 17 = .ok (.if_icmp .lt 5, 3) := by decide +kernel
theorem dJ2_indexOf_4cfef_20 : decode cJ2_indexOf_4cfef 20 = .ok (.iconst (-1), 1) := by decide +kernel
theorem dJ2_indexOf_4cfef_21 : decode cJ2_indexOf_4cfef 21 = .ok (.ireturn, 1) := by decide +kernel
theorem dJ2_indexOf_4cfef_22 : decode cJ2_indexOf_4cfef 22 = .ok (.iload_n 1, 1) := by decide +kernel
theorem dJ2_indexOf_4cfef_23 : decode cJ2_indexOf_4cfef 23 = .ok (.ldc 227, 2) := by decide +kernel
theorem dJ2_indexOf_4cfef_25 : decode cJ2_indexOf_4cfef 25 = .ok (.if_icmp .ge 11, 3) := by decide +kernel
theorem dJ2_indexOf_4cfef_28 : decode cJ2_indexOf_4cfef 28 = .ok (.aload_n 0, 1) := by decide +kernel
theorem dJ2_indexOf_4cfef_29 : decode cJ2_indexOf_4cfef 29 = .ok (.iload_n 1, 1) := by decide +kernel
theorem dJ2_indexOf_4cfef_30 : decode cJ2_indexOf_4cfef 30 = .ok (.iload_n 2, 1) := by decide +kernel
theorem dJ2_indexOf_4cfef_31 : decode cJ2_indexOf_4cfef 31 = .ok (.iload_n 3, 1) := by decide +kernel
theorem dJ2_indexOf_4cfef_32 : decode cJ2_indexOf_4cfef 32 = .ok (.invokestatic 228, 3) := by decide +kernel
theorem dJ2_indexOf_4cfef_35 : decode cJ2_indexOf_4cfef 35 = .ok (.ireturn, 1) := by decide +kernel
theorem dJ2_indexOf_4cfef_36 : decode cJ2_indexOf_4cfef 36 = .ok (.aload_n 0, 1) := by decide +kernel
theorem dJ2_indexOf_4cfef_37 : decode cJ2_indexOf_4cfef 37 = .ok (.iload_n 1, 1) := by decide +kernel
theorem dJ2_indexOf_4cfef_38 : decode cJ2_indexOf_4cfef 38 = .ok (.iload_n 2, 1) := by decide +kernel
theorem dJ2_indexOf_4cfef_39 : decode cJ2_indexOf_4cfef 39 = .ok (.iload_n 3, 1) := by decide +kernel
theorem dJ2_indexOf_4cfef_40 : decode cJ2_indexOf_4cfef 40 = .ok (.invokestatic 232, 3) := by decide +kernel
theorem dJ2_indexOf_4cfef_43 : decode cJ2_indexOf_4cfef 43 = .ok (.ireturn, 1) := by decide +kernel
theorem dJ2_indexOfChar_4cfef_0 : decode cJ2_indexOfChar_4cfef 0 = .ok (.iload_n 2, 1) := by decide +kernel
theorem dJ2_indexOfChar_4cfef_1 : decode cJ2_indexOfChar_4cfef 1 = .ok (.iload_n 3, 1) := by decide +kernel
theorem dJ2_indexOfChar_4cfef_2 : decode cJ2_indexOfChar_4cfef 2 = .ok (.aload_n 0, 1) := by decide +kernel
theorem dJ2_indexOfChar_4cfef_3 : decode cJ2_indexOfChar_4cfef 3 = .ok (.invokestatic 96, 3) := by decide +kernel
theorem dJ2_indexOfChar_4cfef_6 : decode cJ2_indexOfChar_4cfef 6 = .ok (.aload_n 0, 1) := by decide +kernel
theorem dJ2_indexOfChar_4cfef_7 : decode cJ2_indexOfChar_4cfef 7 = .ok (.iload_n 1, 1) := by decide +kernel
theorem dJ2_indexOfChar_4cfef_8 : decode cJ2_indexOfChar_4cfef 8 = .ok (.iload_n 2, 1) := by decide +kernel
theorem dJ2_indexOfChar_4cfef_9 : decode cJ2_indexOfChar_4cfef 9 = .ok (.iload_n 3, 1) := by decide +kernel
theorem dJ2_indexOfChar_4cfef_10 : decode cJ2_indexOfChar_4cfef 10 = .ok (.invokestatic 244, 3) := by decide +kernel
theorem dJ2_indexOfChar_4cfef_13 : decode cJ2_indexOfChar_4cfef 13 = .ok (.ireturn, 1) := by decide +kernel
theorem dJ2_indexOfCharUnsafe_4cfef_0 : decode cJ2_indexOfCharUnsafe_4cfef 0 = .ok (.iload_n 2, 1) := by decide +kernel
theorem dJ2_indexOfCharUnsafe_4cfef_1 : decode cJ2_indexOfCharUnsafe_4cfef 1 = .ok (.istore 4, 2) := by decide +kernel
theorem dJ2_indexOfCharUnsafe_4cfef_3 : decode cJ2_indexOfCharUnsafe_4cfef 3 = .ok (.iload 4, 2) := by decide +kernel
theorem dJ2_indexOfCharUnsafe_4cfef_5 : decode cJ2_indexOfCharUnsafe_4cfef 5 = .ok (.iload_n 3, 1) := by decide +kernel
theorem dJ2_indexOfCharUnsafe_4cfef_6 : decode cJ2_indexOfCharUnsafe_4cfef 6 = .ok (.if_icmp .ge 22, 3) := by decide +kernel
theorem dJ2_indexOfCharUnsafe_4cfef_9 : decode cJ2_indexOfCharUnsafe_4cfef 9 = .ok (.aload_n 0, 1) := by decide +kernel
theorem dJ2_indexOfCharUnsafe_4cfef_10 : decode cJ2_indexOfCharUnsafe_4cfef 10 = .ok (.iload 4, 2) := by decide +kernel
theorem dJ2_indexOfCharUnsafe_4cfef_12 : decode cJ2_indexOfCharUnsafe_4cfef 12 = .ok (.invokestatic 71, 3) := by decide +kernel
theorem dJ2_indexOfCharUnsafe_4cfef_15 : decode cJ2_indexOfCharUnsafe_4cfef 15 = .ok (.iload_n 1, 1) := by decide +kernel
theorem dJ2_indexOfCharUnsafe_4cfef_16 : decode cJ2_indexOfCharUnsafe_4cfef 16 = .ok (.if_icmp .ne 6, 3) := by decide +kernel
theorem dJ2_indexOfCharUnsafe_4cfef_19 : decode cJ2_indexOfCharUnsafe_4cfef 19 = .ok (.iload 4, 2) := by decide +kernel
theorem dJ2_indexOfCharUnsafe_4cfef_21 : decode cJ2_indexOfCharUnsafe_4cfef 21 = .ok (.ireturn, 1) := by decide +kernel
theorem dJ2_indexOfCharUnsafe_4cfef_22 : decode cJ2_indexOfCharUnsafe_4cfef 22 = .ok (.iinc 4 1, 3) := by decide +kernel
theorem dJ2_indexOfCharUnsafe_4cfef_25 : decode cJ2_indexOfCharUnsafe_4cfef 25 = .ok (.goto (-22), 3) := by decide +kernel
theorem dJ2_indexOfCharUnsafe_4cfef_28 : decode cJ2_indexOfCharUnsafe_4cfef 28 = .ok (.iconst (-1), 1) := by decide +kernel
theorem dJ2_indexOfCharUnsafe_4cfef_29 : decode cJ2_indexOfCharUnsafe_4cfef 29 = .ok (.ireturn, 1) := by decide +kernel
theorem dJ2_indexOfSupplementary_4cfef_0 : decode cJ2_indexOfSupplementary_4cfef 0 = .ok (.iload_n 1, 1) := by decide +kernel
theorem dJ2_indexOfSupplementary_4cfef_1 : decode cJ2_indexOfSupplementary_4cfef 1 = .ok (.invokestatic 164, 3) := by decide +kernel
theorem dJ2_indexOfSupplementary_4cfef_4 : decode cJ2_indexOfSupplementary_4cfef 4 = .ok (.ifCond .eq 65, 3) := by decide +kernel
theorem dJ2_indexOfSupplementary_4cfef_7 : decode cJ2_indexOfSupplementary_4cfef 7 = .ok (.iload_n 1, 1) := by decide +kernel
theorem dJ2_indexOfSupplementary_4cfef_8 : decode cJ2_indexOfSupplementary_4cfef 8 = .ok (.invokestatic 157, 3) := by decide +kernel
theorem dJ2_indexOfSupplementary_4cfef_11 : decode cJ2_indexOfSupplementary_4cfef 11 = .ok (.istore 4, 2) := by decide +kernel
theorem dJ2_indexOfSupplementary_4cfef_13 : decode cJ2_indexOfSupplementary_4cfef 13 = .ok (.iload_n 1, 1) := by decide +kernel
theorem dJ2_indexOfSupplementary_4cfef_14 : decode cJ2_indexOfSupplementary_4cfef 14 = .ok (.invokestatic 161, 3) := by decide +kernel
theorem dJ2_indexOfSupplementary_4cfef_17 : decode cJ2_indexOfSupplementary_4cfef 17 = .ok (.istore 5, 2) := by decide +kernel
theorem dJ2_indexOfSupplementary_4cfef_19 : decode cJ2_indexOfSupplementary_4cfef 19 = .ok (.iload_n 2, 1) := by decide +kernel
theorem dJ2_indexOfSupplementary_4cfef_20 : decode cJ2_indexOfSupplementary_4cfef 20 = .ok (.iload_n 3, 1) := by decide +kernel
theorem dJ2_indexOfSupplementary_4cfef_21 : decode cJ2_indexOfSupplementary_4cfef 21 = .ok (.aload_n 0, 1) := by decide +kernel
theorem dJ2_indexOfSupplementary_4cfef_22 : decode cJ2_indexOfSupplementary_4cfef 22 = .ok (.invokestatic 96, 3) := by decide +kernel
theorem dJ2_indexOfSupplementary_4cfef_25 : decode cJ2_indexOfSupplementary_4cfef 25 = .ok (.iload_n 2, 1) := by decide +kernel
theorem dJ2_indexOfSupplementary_4cfef_26 : decode cJ2_indexOfSupplementary_4cfef 26 = .ok (.istore 6, 2) := by decide +kernel
theorem dJ2_indexOfSupplementary_4cfef_28 : decode cJ2_indexOfSupplementary_4cfef 28 = .ok (.iload 6, 2) := by decide +kernel
theorem dJ2_indexOfSupplementary_4cfef_30 : decode cJ2_indexOfSupplementary_4cfef 30 = .ok (.iload_n 3, 1) := by decide +kernel
theorem dJ2_indexOfSupplementary_4cfef_31 : decode cJ2_indexOfSupplementary_4cfef 31 = .ok (.iconst 1, 1) := by decide +kernel
theorem dJ2_indexOfSupplementary_4cfef_32 : decode cJ2_indexOfSupplementary_4cfef 32 = .ok (.isub, 1) := by decide +kernel
theorem dJ2_indexOfSupplementary_4cfef_33 : decode cJ2_indexOfSupplementary_4cfef 33 = .ok (.if_icmp .ge 36, 3) := by decide +kernel
theorem dJ2_indexOfSupplementary_4cfef_36 : decode cJ2_indexOfSupplementary_4cfef 36 = .ok (.aload_n 0, 1) := by decide +kernel
theorem dJ2_indexOfSupplementary_4cfef_37 : decode cJ2_indexOfSupplementary_4cfef 37 = .ok (.iload 6, 2) := by decide +kernel
theorem dJ2_indexOfSupplementary_4cfef_39 : decode cJ2_indexOfSupplementary_4cfef 39 = .ok (.invokestatic 71, 3) := by decide +kernel
theorem dJ2_indexOfSupplementary_4cfef_42 : decode cJ2_indexOfSupplementary_4cfef 42 = .ok (.iload 4, 2) := by decide +kernel
theorem dJ2_indexOfSupplementary_4cfef_44 : decode cJ2_indexOfSupplementary_4cfef 44 = .ok (.if_icmp .ne 19, 3) := by decide +kernel
theorem dJ2_indexOfSupplementary_4cfef_47 : decode cJ2_indexOfSupplementary_4cfef 47 = .ok (.aload_n 0, 1) := by decide +kernel
theorem dJ2_indexOfSupplementary_4cfef_48 : decode cJ2_indexOfSupplementary_4cfef 48 = .ok (.iload 6, 2) := by decide +kernel
theorem dJ2_indexOfSupplementary_4cfef_50 : decode cJ2_indexOfSupplementary_4cfef 50 = .ok (.iconst 1, 1) := by decide +kernel
theorem dJ2_indexOfSupplementary_4cfef_51 : decode cJ2_indexOfSupplementary_4cfef 51 = .ok (.iadd, 1) := by decide +kernel
theorem dJ2_indexOfSupplementary_4cfef_52 : decode cJ2_indexOfSupplementary_4cfef 52 = .ok (.invokestatic 71, 3) := by decide +kernel
theorem dJ2_indexOfSupplementary_4cfef_55 : decode cJ2_indexOfSupplementary_4cfef 55 = .ok (.iload 5, 2) := by decide +kernel
theorem dJ2_indexOfSupplementary_4cfef_57 : decode cJ2_indexOfSupplementary_4cfef 57 = .ok (.if_icmp .ne 6, 3) := by decide +kernel
theorem dJ2_indexOfSupplementary_4cfef_60 : decode cJ2_indexOfSupplementary_4cfef 60 = .ok (.iload 6, 2) := by decide +kernel
theorem dJ2_indexOfSupplementary_4cfef_62 : decode cJ2_indexOfSupplementary_4cfef 62 = .ok (.ireturn, 1) := by decide +kernel
theorem dJ2_indexOfSupplementary_4cfef_63 : decode cJ2_indexOfSupplementary_4cfef 63 = .ok (.iinc 6 1, 3) := by decide +kernel
theorem dJ2_indexOfSupplementary_4cfef_66 : decode cJ2_indexOfSupplementary_4cfef 66 = .ok (.goto (-38), 3) := by decide +kernel
theorem dJ2_indexOfSupplementary_4cfef_69 : decode cJ2_indexOfSupplementary_4cfef 69 = .ok (.iconst (-1), 1) := by decide +kernel
theorem dJ2_indexOfSupplementary_4cfef_70 : decode cJ2_indexOfSupplementary_4cfef 70 = .ok (.ireturn, 1) := by decide +kernel
theorem dJ2_checkBoundsBeginEnd_d044e_0 : decode cJ2_checkBoundsBeginEnd_d044e 0 = .ok (.iload_n 0, 1) := by decide +kernel
theorem dJ2_checkBoundsBeginEnd_d044e_1 : decode cJ2_checkBoundsBeginEnd_d044e 1 = .ok (.iload_n 1, 1) := by decide +kernel
theorem dJ2_checkBoundsBeginEnd_d044e_2 : decode cJ2_checkBoundsBeginEnd_d044e 2 = .ok (.aload_n 2, 1) := by decide +kernel
theorem dJ2_checkBoundsBeginEnd_d044e_3 : decode cJ2_checkBoundsBeginEnd_d044e 3 = .ok (.invokestatic 48, 3) := by decide +kernel
theorem dJ2_checkBoundsBeginEnd_d044e_6 : decode cJ2_checkBoundsBeginEnd_d044e 6 = .ok (.invokestatic 241, 3) := by decide +kernel
theorem dJ2_checkBoundsBeginEnd_d044e_9 : decode cJ2_checkBoundsBeginEnd_d044e 9 = .ok (.return_, 1) := by decide +kernel
theorem dJ3_checkFromToIndex_8c36e_0 : decode cJ3_checkFromToIndex_8c36e 0 = .ok (.iload_n 0, 1) := by decide +kernel
theorem dJ3_checkFromToIndex_8c36e_1 : decode cJ3_checkFromToIndex_8c36e 1 = .ok (.ifCond .lt 13, 3) := by decide +kernel
theorem dJ3_checkFromToIndex_8c36e_4 : decode cJ3_checkFromToIndex_8c36e 4 = .ok (.iload_n 0, 1) := by decide +kernel
theorem dJ3_checkFromToIndex_8c36e_5 : decode cJ3_checkFromToIndex_8c36e 5 = .ok (.iload_n 1, 1) := by decide +kernel
theorem dJ3_checkFromToIndex_8c36e_6 : decode cJ3_checkFromToIndex_8c36e 6 = .ok (.if_icmp .gt 8, 3) := by decide +kernel
theorem dJ3_checkFromToIndex_8c36e_9 : decode cJ3_checkFromToIndex_8c36e 9 = .ok (.iload_n 1, 1) := by decide +kernel
theorem dJ3_checkFromToIndex_8c36e_10 : decode cJ3_checkFromToIndex_8c36e 10 = .ok (.iload_n 2, 1) := by decide +kernel
theorem dJ3_checkFromToIndex_8c36e_11 : decode cJ3_checkFromToIndex_8c36e 11 = .ok (.if_icmp .le 11, 3) := by decide +kernel
theorem dJ3_checkFromToIndex_8c36e_14 : decode cJ3_checkFromToIndex_8c36e 14 = .ok (.aload_n 3, 1) := by decide +kernel
theorem dJ3_checkFromToIndex_8c36e_15 : decode cJ3_checkFromToIndex_8c36e 15 = .ok (.iload_n 0, 1) := by decide +kernel
theorem dJ3_checkFromToIndex_8c36e_16 : decode cJ3_checkFromToIndex_8c36e 16 = .ok (.iload_n 1, 1) := by decide +kernel
theorem dJ3_checkFromToIndex_8c36e_17 : decode cJ3_checkFromToIndex_8c36e 17 = .ok (.iload_n 2, 1) := by decide +kernel
theorem dJ3_checkFromToIndex_8c36e_18 : decode cJ3_checkFromToIndex_8c36e 18 = .ok (.invokestatic 99, 3) := by decide +kernel
theorem dJ3_checkFromToIndex_8c36e_21 : decode cJ3_checkFromToIndex_8c36e 21 = .ok (.athrow, 1) := by decide +kernel
theorem dJ3_checkFromToIndex_8c36e_22 : decode cJ3_checkFromToIndex_8c36e 22 = .ok (.iload_n 0, 1) := by decide +kernel
theorem dJ3_checkFromToIndex_8c36e_23 : decode cJ3_checkFromToIndex_8c36e 23 = .ok (.ireturn, 1) := by decide +kernel
