theorem dX3_trialTogetherIn_15 : decode cX3_trialTogetherIn 15 = .ok (.iload_n 1, 1) := by decide +kernel
theorem dX3_trialTogetherIn_16 : decode cX3_trialTogetherIn 16 = .ok (.sipush 2000, 3) := by decide +kernel
theorem dX3_trialTogetherIn_19 : decode cX3_trialTogetherIn 19 = .ok (.if_icmp .ge 29, 3) := by decide +kernel
theorem dX3_trialTogetherIn_22 : decode cX3_trialTogetherIn 22 = .ok (.aload_n 0, 1) := by decide +kernel
theorem dX3_trialTogetherIn_23 : decode cX3_trialTogetherIn 23 = .ok (.getfield 16, 3) := by decide +kernel
theorem dX3_trialTogetherIn_26 : decode cX3_trialTogetherIn 26 = .ok (.invokevirtual 163, 3) := by decide +kernel
theorem dX3_trialTogetherIn_29 : decode cX3_trialTogetherIn 29 = .ok (.ifCond .eq 5, 3) := by decide +kernel
theorem dX3_trialTogetherIn_32 : decode cX3_trialTogetherIn 32 = .ok (.iload_n 1, 1) := by decide +kernel
theorem dX3_trialTogetherIn_33 : decode cX3_trialTogetherIn 33 = .ok (.ireturn, 1) := by decide +kernel
theorem dX3_trialTogetherIn_34 : decode cX3_trialTogetherIn 34 = .ok (.aload_n 0, 1) := by decide +kernel
theorem dX3_trialTogetherIn_35 : decode cX3_trialTogetherIn 35 = .ok (.getfield 16, 3) := by decide +kernel
theorem dX3_trialTogetherIn_38 : decode cX3_trialTogetherIn 38 = .ok (.invokevirtual 157, 3) := by decide +kernel
theorem dX3_trialTogetherIn_41 : decode cX3_trialTogetherIn 41 = .ok (.pop, 1) := by decide +kernel
theorem dX3_trialTogetherIn_42 : decode cX3_trialTogetherIn 42 = .ok (.iinc 1 1, 3) := by decide +kernel
theorem dX3_trialTogetherIn_45 : decode cX3_trialTogetherIn 45 = .ok (.goto (-30), 3) := by decide +kernel
theorem dX3_trialTogetherIn_48 : decode cX3_trialTogetherIn 48 = .ok (.aload_n 0, 1) := by decide +kernel
theorem dX3_trialTogetherIn_49 : decode cX3_trialTogetherIn 49 = .ok (.getfield 16, 3) := by decide +kernel
theorem dX3_trialTogetherIn_52 : decode cX3_trialTogetherIn 52 = .ok (.invokevirtual 163, 3) := by decide +kernel
theorem dX3_trialTogetherIn_55 : decode cX3_trialTogetherIn 55 = .ok (.ifCond .eq 9, 3) := by decide +kernel
theorem dX3_trialTogetherIn_58 : decode cX3_trialTogetherIn 58 = .ok (.sipush 2000, 3) := by decide +kernel
theorem dX3_trialTogetherIn_61 : decode cX3_trialTogetherIn 61 = .ok (.goto 5, 3) := by decide +kernel
theorem dX3_trialTogetherIn_64 : decode cX3_trialTogetherIn 64 = .ok (.bipush (-5), 2) := by decide +kernel
theorem dX3_trialTogetherIn_66 : decode cX3_trialTogetherIn 66 = .ok (.ireturn, 1) := by decide +kernel
theorem dX3_spreadWith_0 : decode cX3_spreadWith 0 = .ok (.aload_n 0, 1) := by decide +kernel
theorem dX3_spreadWith_1 : decode cX3_spreadWith 1 = .ok (.getfield 16, 3) := by decide +kernel
theorem dX3_spreadWith_4 : decode cX3_spreadWith 4 = .ok (.aload_n 0, 1) := by decide +kernel
theorem dX3_spreadWith_5 : decode cX3_spreadWith 5 = .ok (.getfield 10, 3) := by decide +kernel
theorem dX3_spreadWith_8 : decode cX3_spreadWith 8 = .ok (.invokevirtual 148, 3) := by decide +kernel
theorem dX3_spreadWith_11 : decode cX3_spreadWith 11 = .ok (.aload_n 0, 1) := by decide +kernel
theorem dX3_spreadWith_12 : decode cX3_spreadWith 12 = .ok (.getfield 16, 3) := by decide +kernel
theorem dX3_spreadWith_15 : decode cX3_spreadWith 15 = .ok (.iload_n 1, 1) := by decide +kernel
theorem dX3_spreadWith_16 : decode cX3_spreadWith 16 = .ok (.iload_n 2, 1) := by decide +kernel
theorem dX3_spreadWith_17 : decode cX3_spreadWith 17 = .ok (.iconst 1, 1) := by decide +kernel
theorem dX3_spreadWith_18 : decode cX3_spreadWith 18 = .ok (.invokevirtual 80, 3) := by decide +kernel
theorem dX3_spreadWith_21 : decode cX3_spreadWith 21 = .ok (.aload_n 0, 1) := by decide +kernel
theorem dX3_spreadWith_22 : decode cX3_spreadWith 22 = .ok (.getfield 16, 3) := by decide +kernel
theorem dX3_spreadWith_25 : decode cX3_spreadWith 25 = .ok (.bipush 100, 2) := by decide +kernel
theorem dX3_spreadWith_27 : decode cX3_spreadWith 27 = .ok (.invokevirtual 112, 3) := by decide +kernel
theorem dX3_spreadWith_30 : decode cX3_spreadWith 30 = .ok (.aload_n 0, 1) := by decide +kernel
theorem dX3_spreadWith_31 : decode cX3_spreadWith 31 = .ok (.getfield 16, 3) := by decide +kernel
theorem dX3_spreadWith_34 : decode cX3_spreadWith 34 = .ok (.invokevirtual 172, 3) := by decide +kernel
theorem dX3_spreadWith_37 : decode cX3_spreadWith 37 = .ok (.ireturn, 1) := by decide +kernel
theorem dX4_init_0 : decode cX4_init 0 = .ok (.aload_n 0, 1) := by decide +kernel
theorem dX4_init_1 : decode cX4_init 1 = .ok (.invokespecial 1, 3) := by decide +kernel
theorem dX4_init_4 : decode cX4_init 4 = .ok (.aload_n 0, 1) := by decide +kernel
theorem dX4_init_5 : decode cX4_init 5 = .ok (.sipush 152, 3) := by decide +kernel
theorem dX4_init_8 : decode cX4_init 8 = .ok (.newarray .int, 2) := by decide +kernel
theorem dX4_init_10 : decode cX4_init 10 = .ok (.putfield 7, 3) := by decide +kernel
theorem dX4_init_13 : decode cX4_init 13 = .ok (.aload_n 0, 1) := by decide +kernel
theorem dX4_init_14 : decode cX4_init 14 = .ok (.sipush 608, 3) := by decide +kernel
theorem dX4_init_17 : decode cX4_init 17 = .ok (.newarray .int, 2) := by decide +kernel
theorem dX4_init_19 : decode cX4_init 19 = .ok (.putfield 13, 3) := by decide +kernel
theorem dX4_init_22 : decode cX4_init 22 = .ok (.aload_n 0, 1) := by decide +kernel
theorem dX4_init_23 : decode cX4_init 23 = .ok (.sipush 152, 3) := by decide +kernel
theorem dX4_init_26 : decode cX4_init 26 = .ok (.newarray .int, 2) := by decide +kernel
theorem dX4_init_28 : decode cX4_init 28 = .ok (.putfield 16, 3) := by decide +kernel
theorem dX4_init_31 : decode cX4_init 31 = .ok (.aload_n 0, 1) := by decide +kernel
theorem dX4_init_32 : decode cX4_init 32 = .ok (.sipush 152, 3) := by decide +kernel
theorem dX4_init_35 : decode cX4_init 35 = .ok (.newarray .int, 2) := by decide +kernel
theorem dX4_init_37 : decode cX4_init 37 = .ok (.putfield 19, 3) := by decide +kernel
theorem dX4_init_40 : decode cX4_init 40 = .ok (.aload_n 0, 1) := by decide +kernel
theorem dX4_init_41 : decode cX4_init 41 = .ok (.bipush 60, 2) := by decide +kernel
theorem dX4_init_43 : decode cX4_init 43 = .ok (.newarray .char, 2) := by decide +kernel
theorem dX4_init_45 : decode cX4_init 45 = .ok (.putfield 22, 3) := by decide +kernel
theorem dX4_init_48 : decode cX4_init 48 = .ok (.aload_n 0, 1) := by decide +kernel
theorem dX4_init_49 : decode cX4_init 49 = .ok (.bipush 16, 2) := by decide +kernel
theorem dX4_init_51 : decode cX4_init 51 = .ok (.newarray .int, 2) := by decide +kernel
theorem dX4_init_53 : decode cX4_init 53 = .ok (.putfield 26, 3) := by decide +kernel
theorem dX4_init_56 : decode cX4_init 56 = .ok (.aload_n 0, 1) := by decide +kernel
theorem dX4_init_57 : decode cX4_init 57 = .ok (.bipush 16, 2) := by decide +kernel
theorem dX4_init_59 : decode cX4_init 59 = .ok (.newarray .int, 2) := by decide +kernel
theorem dX4_init_61 : decode cX4_init 61 = .ok (.putfield 29, 3) := by decide +kernel
theorem dX4_init_64 : decode cX4_init 64 = .ok (.aload_n 0, 1) := by decide +kernel
theorem dX4_init_65 : decode cX4_init 65 = .ok (.bipush 16, 2) := by decide +kernel
theorem dX4_init_67 : decode cX4_init 67 = .ok (.newarray .int, 2) := by decide +kernel
theorem dX4_init_69 : decode cX4_init 69 = .ok (.putfield 32, 3) := by decide +kernel
theorem dX4_init_72 : decode cX4_init 72 = .ok (.aload_n 0, 1) := by decide +kernel
theorem dX4_init_73 : decode cX4_init 73 = .ok (.getfield 7, 3) := by decide +kernel
theorem dX4_init_76 : decode cX4_init 76 = .ok (.iconst 5, 1) := by decide +kernel
theorem dX4_init_77 : decode cX4_init 77 = .ok (.bipush 100, 2) := by decide +kernel
theorem dX4_init_79 : decode cX4_init 79 = .ok (.iastore, 1) := by decide +kernel
theorem dX4_init_80 : decode cX4_init 80 = .ok (.aload_n 0, 1) := by decide +kernel
theorem dX4_init_81 : decode cX4_init 81 = .ok (.getfield 7, 3) := by decide +kernel
theorem dX4_init_84 : decode cX4_init 84 = .ok (.bipush 6, 2) := by decide +kernel
theorem dX4_init_86 : decode cX4_init 86 = .ok (.bipush 10, 2) := by decide +kernel
theorem dX4_init_88 : decode cX4_init 88 = .ok (.iastore, 1) := by decide +kernel
theorem dX4_init_89 : decode cX4_init 89 = .ok (.aload_n 0, 1) := by decide +kernel
theorem dX4_init_90 : decode cX4_init 90 = .ok (.getfield 7, 3) := by decide +kernel
theorem dX4_init_93 : decode cX4_init 93 = .ok (.bipush 7, 2) := by decide +kernel
theorem dX4_init_95 : decode cX4_init 95 = .ok (.iconst 2, 1) := by decide +kernel
theorem dX4_init_96 : decode cX4_init 96 = .ok (.iastore, 1) := by decide +kernel
theorem dX4_init_97 : decode cX4_init 97 = .ok (.return_, 1) := by decide +kernel
theorem dX4_in_0 : decode cX4_in 0 = .ok (.iload_n 0, 1) := by decide +kernel
theorem dX4_in_1 : decode cX4_in 1 = .ok (.iload_n 1, 1) := by decide +kernel
theorem dX4_in_2 : decode cX4_in 2 = .ok (.if_icmp .lt 12, 3) := by decide +kernel
theorem dX4_in_5 : decode cX4_in 5 = .ok (.iload_n 0, 1) := by decide +kernel
theorem dX4_in_6 : decode cX4_in 6 = .ok (.iload_n 2, 1) := by decide +kernel
theorem dX4_in_7 : decode cX4_in 7 = .ok (.if_icmp .gt 7, 3) := by decide +kernel
theorem dX4_in_10 : decode cX4_in 10 = .ok (.iconst 1, 1) := by decide +kernel
theorem dX4_in_11 : decode cX4_in 11 = .ok (.goto 4, 3) := by decide +kernel
theorem dX4_in_14 : decode cX4_in 14 = .ok (.iconst 0, 1) := by decide +kernel
theorem dX4_in_15 : decode cX4_in 15 = .ok (.ireturn, 1) := by decide +kernel
theorem dX4_has_0 : decode cX4_has 0 = .ok (.iload_n 0, 1) := by decide +kernel
theorem dX4_has_1 : decode cX4_has 1 = .ok (.iload_n 1, 1) := by decide +kernel
theorem dX4_has_2 : decode cX4_has 2 = .ok (.ishr, 1) := by decide +kernel
theorem dX4_has_3 : decode cX4_has 3 = .ok (.iconst 1, 1) := by decide +kernel
theorem dX4_has_4 : decode cX4_has 4 = .ok (.iand, 1) := by decide +kernel
theorem dX4_has_5 : decode cX4_has 5 = .ok (.iconst 1, 1) := by decide +kernel
theorem dX4_has_6 : decode cX4_has 6 = .ok (.if_icmp .ne 7, 3) := by decide +kernel
theorem dX4_has_9 : decode cX4_has 9 = .ok (.iconst 1, 1) := by decide +kernel
theorem dX4_has_10 : decode cX4_has 10 = .ok (.goto 4, 3) := by decide +kernel
theorem dX4_has_13 : decode cX4_has 13 = .ok (.iconst 0, 1) := by decide +kernel
theorem dX4_has_14 : decode cX4_has 14 = .ok (.ireturn, 1) := by decide +kernel
theorem dX4_bits_0 : decode cX4_bits 0 = .ok (.iconst 0, 1) := by decide +kernel
theorem dX4_bits_1 : decode cX4_bits 1 = .ok (.istore_n 1, 1) := by decide +kernel
theorem dX4_bits_2 : decode cX4_bits 2 = .ok (.iload_n 0, 1) := by decide +kernel
theorem dX4_bits_3 : decode cX4_bits 3 = .ok (.istore_n 2, 1) := by decide +kernel
theorem dX4_bits_4 : decode cX4_bits 4 = .ok (.iload_n 2, 1) := by decide +kernel
theorem dX4_bits_5 : decode cX4_bits 5 = .ok (.ifCond .eq 15, 3) := by decide +kernel
theorem dX4_bits_8 : decode cX4_bits 8 = .ok (.iinc 1 1, 3) := by decide +kernel
theorem dX4_bits_11 : decode cX4_bits 11 = .ok (.iload_n 2, 1) := by decide +kernel
theorem dX4_bits_12 : decode cX4_bits 12 = .ok (.iload_n 2, 1) := by decide +kernel
theorem dX4_bits_13 : decode cX4_bits 13 = .ok (.iconst 1, 1) := by decide +kernel
theorem dX4_bits_14 : decode cX4_bits 14 = .ok (.isub, 1) := by decide +kernel
theorem dX4_bits_15 : decode cX4_bits 15 = .ok (.iand, 1) := by decide +kernel
theorem dX4_bits_16 : decode cX4_bits 16 = .ok (.istore_n 2, 1) := by decide +kernel
theorem dX4_bits_17 : decode cX4_bits 17 = .ok (.goto (-13), 3) := by decide +kernel
theorem dX4_bits_20 : decode cX4_bits 20 = .ok (.iload_n 1, 1) := by decide +kernel
theorem dX4_bits_21 : decode cX4_bits 21 = .ok (.ireturn, 1) := by decide +kernel
theorem dX4_of_0 : decode cX4_of 0 = .ok (.aload_n 0, 1) := by decide +kernel
theorem dX4_of_1 : decode cX4_of 1 = .ok (.getfield 7, 3) := by decide +kernel
theorem dX4_of_4 : decode cX4_of 4 = .ok (.bipush 8, 2) := by decide +kernel
theorem dX4_of_6 : decode cX4_of 6 = .ok (.bipush 9, 2) := by decide +kernel
theorem dX4_of_8 : decode cX4_of 8 = .ok (.iload_n 1, 1) := by decide +kernel
theorem dX4_of_9 : decode cX4_of 9 = .ok (.imul, 1) := by decide +kernel
theorem dX4_of_10 : decode cX4_of 10 = .ok (.iadd, 1) := by decide +kernel
theorem dX4_of_11 : decode cX4_of 11 = .ok (.iload_n 2, 1) := by decide +kernel
theorem dX4_of_12 : decode cX4_of 12 = .ok (.iadd, 1) := by decide +kernel
theorem dX4_of_13 : decode cX4_of 13 = .ok (.iaload, 1) := by decide +kernel
theorem dX4_of_14 : decode cX4_of 14 = .ok (.ireturn, 1) := by decide +kernel
theorem dX4_put_0 : decode cX4_put 0 = .ok (.aload_n 0, 1) := by decide +kernel
theorem dX4_put_1 : decode cX4_put 1 = .ok (.getfield 7, 3) := by decide +kernel
theorem dX4_put_4 : decode cX4_put 4 = .ok (.bipush 8, 2) := by decide +kernel
theorem dX4_put_6 : decode cX4_put 6 = .ok (.bipush 9, 2) := by decide +kernel
theorem dX4_put_8 : decode cX4_put 8 = .ok (.iload_n 1, 1) := by decide +kernel
theorem dX4_put_9 : decode cX4_put 9 = .ok (.imul, 1) := by decide +kernel
theorem dX4_put_10 : decode cX4_put 10 = .ok (.iadd, 1) := by decide +kernel
theorem dX4_put_11 : decode cX4_put 11 = .ok (.iload_n 2, 1) := by decide +kernel
theorem dX4_put_12 : decode cX4_put 12 = .ok (.iadd, 1) := by decide +kernel
theorem dX4_put_13 : decode cX4_put 13 = .ok (.iload_n 3, 1) := by decide +kernel
theorem dX4_put_14 : decode cX4_put 14 = .ok (.iastore, 1) := by decide +kernel
theorem dX4_put_15 : decode cX4_put 15 = .ok (.return_, 1) := by decide +kernel
theorem dX4_isLamp_0 : decode cX4_isLamp 0 = .ok (.iload_n 1, 1) := by decide +kernel
theorem dX4_isLamp_1 : decode cX4_isLamp 1 = .ok (.iconst 0, 1) := by decide +kernel
theorem dX4_isLamp_2 : decode cX4_isLamp 2 = .ok (.bipush 15, 2) := by decide +kernel
theorem dX4_isLamp_4 : decode cX4_isLamp 4 = .ok (.invokestatic 35, 3) := by decide +kernel
theorem dX4_isLamp_7 : decode cX4_isLamp 7 = .ok (.ifCond .eq 17, 3) := by decide +kernel
theorem dX4_isLamp_10 : decode cX4_isLamp 10 = .ok (.aload_n 0, 1) := by decide +kernel
theorem dX4_isLamp_11 : decode cX4_isLamp 11 = .ok (.iload_n 1, 1) := by decide +kernel
theorem dX4_isLamp_12 : decode cX4_isLamp 12 = .ok (.iconst 0, 1) := by decide +kernel
theorem dX4_isLamp_13 : decode cX4_isLamp 13 = .ok (.invokevirtual 39, 3) := by decide +kernel
theorem dX4_isLamp_16 : decode cX4_isLamp 16 = .ok (.iconst 1, 1) := by decide +kernel
theorem dX4_isLamp_17 : decode cX4_isLamp 17 = .ok (.if_icmp .ne 7, 3) := by decide +kernel
theorem dX4_isLamp_20 : decode cX4_isLamp 20 = .ok (.iconst 1, 1) := by decide +kernel
theorem dX4_isLamp_21 : decode cX4_isLamp 21 = .ok (.goto 4, 3) := by decide +kernel
theorem dX4_isLamp_24 : decode cX4_isLamp 24 = .ok (.iconst 0, 1) := by decide +kernel
theorem dX4_isLamp_25 : decode cX4_isLamp 25 = .ok (.ireturn, 1) := by decide +kernel
theorem dX4_isOn_0 : decode cX4_isOn 0 = .ok (.aload_n 0, 1) := by decide +kernel
theorem dX4_isOn_1 : decode cX4_isOn 1 = .ok (.iload_n 1, 1) := by decide +kernel
theorem dX4_isOn_2 : decode cX4_isOn 2 = .ok (.iconst 0, 1) := by decide +kernel
theorem dX4_isOn_3 : decode cX4_isOn 3 = .ok (.invokevirtual 39, 3) := by decide +kernel
theorem dX4_isOn_6 : decode cX4_isOn 6 = .ok (.iconst 1, 1) := by decide +kernel
theorem dX4_isOn_7 : decode cX4_isOn 7 = .ok (.if_icmp .ne 17, 3) := by decide +kernel
theorem dX4_isOn_10 : decode cX4_isOn 10 = .ok (.aload_n 0, 1) := by decide +kernel
theorem dX4_isOn_11 : decode cX4_isOn 11 = .ok (.iload_n 1, 1) := by decide +kernel
theorem dX4_isOn_12 : decode cX4_isOn 12 = .ok (.iconst 3, 1) := by decide +kernel
theorem dX4_isOn_13 : decode cX4_isOn 13 = .ok (.invokevirtual 39, 3) := by decide +kernel
theorem dX4_isOn_16 : decode cX4_isOn 16 = .ok (.iconst 1, 1) := by decide +kernel
theorem dX4_isOn_17 : decode cX4_isOn 17 = .ok (.if_icmp .ne 7, 3) := by decide +kernel
theorem dX4_isOn_20 : decode cX4_isOn 20 = .ok (.iconst 1, 1) := by decide +kernel
theorem dX4_isOn_21 : decode cX4_isOn 21 = .ok (.goto 4, 3) := by decide +kernel
theorem dX4_isOn_24 : decode cX4_isOn 24 = .ok (.iconst 0, 1) := by decide +kernel
theorem dX4_isOn_25 : decode cX4_isOn 25 = .ok (.ireturn, 1) := by decide +kernel
theorem dX4_round_0 : decode cX4_round 0 = .ok (.bipush 100, 2) := by decide +kernel
theorem dX4_round_2 : decode cX4_round 2 = .ok (.aload_n 0, 1) := by decide +kernel
theorem dX4_round_3 : decode cX4_round 3 = .ok (.getfield 7, 3) := by decide +kernel
theorem dX4_round_6 : decode cX4_round 6 = .ok (.iconst 5, 1) := by decide +kernel
theorem dX4_round_7 : decode cX4_round 7 = .ok (.iaload, 1) := by decide +kernel
theorem dX4_round_8 : decode cX4_round 8 = .ok (.imul, 1) := by decide +kernel
theorem dX4_round_9 : decode cX4_round 9 = .ok (.ireturn, 1) := by decide +kernel
theorem dX4_copy_0 : decode cX4_copy 0 = .ok (.iconst 0, 1) := by decide +kernel
theorem dX4_copy_1 : decode cX4_copy 1 = .ok (.istore 4, 2) := by decide +kernel
theorem dX4_copy_3 : decode cX4_copy 3 = .ok (.iload 4, 2) := by decide +kernel
theorem dX4_copy_5 : decode cX4_copy 5 = .ok (.sipush 152, 3) := by decide +kernel
theorem dX4_copy_8 : decode cX4_copy 8 = .ok (.if_icmp .ge 21, 3) := by decide +kernel
theorem dX4_copy_11 : decode cX4_copy 11 = .ok (.aload_n 2, 1) := by decide +kernel
theorem dX4_copy_12 : decode cX4_copy 12 = .ok (.iload_n 3, 1) := by decide +kernel
theorem dX4_copy_13 : decode cX4_copy 13 = .ok (.iload 4, 2) := by decide +kernel
theorem dX4_copy_15 : decode cX4_copy 15 = .ok (.iadd, 1) := by decide +kernel
theorem dX4_copy_16 : decode cX4_copy 16 = .ok (.aload_n 0, 1) := by decide +kernel
theorem dX4_copy_17 : decode cX4_copy 17 = .ok (.iload_n 1, 1) := by decide +kernel
theorem dX4_copy_18 : decode cX4_copy 18 = .ok (.iload 4, 2) := by decide +kernel
theorem dX4_copy_20 : decode cX4_copy 20 = .ok (.iadd, 1) := by decide +kernel
theorem dX4_copy_21 : decode cX4_copy 21 = .ok (.iaload, 1) := by decide +kernel
theorem dX4_copy_22 : decode cX4_copy 22 = .ok (.iastore, 1) := by decide +kernel
theorem dX4_copy_23 : decode cX4_copy 23 = .ok (.iinc 4 1, 3) := by decide +kernel
theorem dX4_copy_26 : decode cX4_copy 26 = .ok (.goto (-23), 3) := by decide +kernel
theorem dX4_copy_29 : decode cX4_copy 29 = .ok (.return_, 1) := by decide +kernel
theorem dX4_record_0 : decode cX4_record 0 = .ok (.aload_n 0, 1) := by decide +kernel
theorem dX4_record_1 : decode cX4_record 1 = .ok (.getfield 43, 3) := by decide +kernel
theorem dX4_record_4 : decode cX4_record 4 = .ok (.iconst 4, 1) := by decide +kernel
theorem dX4_record_5 : decode cX4_record 5 = .ok (.if_icmp .ne 44, 3) := by decide +kernel
theorem dX4_record_8 : decode cX4_record 8 = .ok (.iconst 0, 1) := by decide +kernel
theorem dX4_record_9 : decode cX4_record 9 = .ok (.istore_n 1, 1) := by decide +kernel
theorem dX4_record_10 : decode cX4_record 10 = .ok (.iload_n 1, 1) := by decide +kernel
theorem dX4_record_11 : decode cX4_record 11 = .ok (.sipush 456, 3) := by decide +kernel
theorem dX4_record_14 : decode cX4_record 14 = .ok (.if_icmp .ge 25, 3) := by decide +kernel
theorem dX4_record_17 : decode cX4_record 17 = .ok (.aload_n 0, 1) := by decide +kernel
theorem dX4_record_18 : decode cX4_record 18 = .ok (.getfield 13, 3) := by decide +kernel
theorem dX4_record_21 : decode cX4_record 21 = .ok (.iload_n 1, 1) := by decide +kernel
theorem dX4_record_22 : decode cX4_record 22 = .ok (.aload_n 0, 1) := by decide +kernel
theorem dX4_record_23 : decode cX4_record 23 = .ok (.getfield 13, 3) := by decide +kernel
theorem dX4_record_26 : decode cX4_record 26 = .ok (.sipush 152, 3) := by decide +kernel
theorem dX4_record_29 : decode cX4_record 29 = .ok (.iload_n 1, 1) := by decide +kernel
theorem dX4_record_30 : decode cX4_record 30 = .ok (.iadd, 1) := by decide +kernel
theorem dX4_record_31 : decode cX4_record 31 = .ok (.iaload, 1) := by decide +kernel
theorem dX4_record_32 : decode cX4_record 32 = .ok (.iastore, 1) := by decide +kernel
theorem dX4_record_33 : decode cX4_record 33 = .ok (.iinc 1 1, 3) := by decide +kernel
theorem dX4_record_36 : decode cX4_record 36 = .ok (.goto (-26), 3) := by decide +kernel
theorem dX4_record_39 : decode cX4_record 39 = .ok (.aload_n 0, 1) := by decide +kernel
theorem dX4_record_40 : decode cX4_record 40 = .ok (.dup, 1) := by decide +kernel
theorem dX4_record_41 : decode cX4_record 41 = .ok (.getfield 43, 3) := by decide +kernel
theorem dX4_record_44 : decode cX4_record 44 = .ok (.iconst 1, 1) := by decide +kernel
theorem dX4_record_45 : decode cX4_record 45 = .ok (.isub, 1) := by decide +kernel
theorem dX4_record_46 : decode cX4_record 46 = .ok (.putfield 43, 3) := by decide +kernel
theorem dX4_record_49 : decode cX4_record 49 = .ok (.aload_n 0, 1) := by decide +kernel
theorem dX4_record_50 : decode cX4_record 50 = .ok (.getfield 7, 3) := by decide +kernel
theorem dX4_record_53 : decode cX4_record 53 = .ok (.iconst 0, 1) := by decide +kernel
theorem dX4_record_54 : decode cX4_record 54 = .ok (.aload_n 0, 1) := by decide +kernel
theorem dX4_record_55 : decode cX4_record 55 = .ok (.getfield 13, 3) := by decide +kernel
theorem dX4_record_58 : decode cX4_record 58 = .ok (.sipush 152, 3) := by decide +kernel
theorem dX4_record_61 : decode cX4_record 61 = .ok (.aload_n 0, 1) := by decide +kernel
theorem dX4_record_62 : decode cX4_record 62 = .ok (.getfield 43, 3) := by decide +kernel
theorem dX4_record_65 : decode cX4_record 65 = .ok (.imul, 1) := by decide +kernel
theorem dX4_record_66 : decode cX4_record 66 = .ok (.invokestatic 47, 3) := by decide +kernel
theorem dX4_record_69 : decode cX4_record 69 = .ok (.aload_n 0, 1) := by decide +kernel
theorem dX4_record_70 : decode cX4_record 70 = .ok (.dup, 1) := by decide +kernel
theorem dX4_record_71 : decode cX4_record 71 = .ok (.getfield 43, 3) := by decide +kernel
theorem dX4_record_74 : decode cX4_record 74 = .ok (.iconst 1, 1) := by decide +kernel
theorem dX4_record_75 : decode cX4_record 75 = .ok (.iadd, 1) := by decide +kernel
theorem dX4_record_76 : decode cX4_record 76 = .ok (.putfield 43, 3) := by decide +kernel
theorem dX4_record_79 : decode cX4_record 79 = .ok (.return_, 1) := by decide +kernel
theorem dX4_setOf_0 : decode cX4_setOf 0 = .ok (.iconst 0, 1) := by decide +kernel
theorem dX4_setOf_1 : decode cX4_setOf 1 = .ok (.istore_n 2, 1) := by decide +kernel
theorem dX4_setOf_2 : decode cX4_setOf 2 = .ok (.iconst 0, 1) := by decide +kernel
theorem dX4_setOf_3 : decode cX4_setOf 3 = .ok (.istore_n 3, 1) := by decide +kernel
theorem dX4_setOf_4 : decode cX4_setOf 4 = .ok (.iload_n 3, 1) := by decide +kernel
theorem dX4_setOf_5 : decode cX4_setOf 5 = .ok (.bipush 16, 2) := by decide +kernel
theorem dX4_setOf_7 : decode cX4_setOf 7 = .ok (.if_icmp .ge 39, 3) := by decide +kernel
theorem dX4_setOf_10 : decode cX4_setOf 10 = .ok (.iload_n 2, 1) := by decide +kernel
theorem dX4_setOf_11 : decode cX4_setOf 11 = .ok (.aload_n 0, 1) := by decide +kernel
theorem dX4_setOf_12 : decode cX4_setOf 12 = .ok (.iload_n 3, 1) := by decide +kernel
theorem dX4_setOf_13 : decode cX4_setOf 13 = .ok (.iconst 0, 1) := by decide +kernel
theorem dX4_setOf_14 : decode cX4_setOf 14 = .ok (.invokevirtual 39, 3) := by decide +kernel
theorem dX4_setOf_17 : decode cX4_setOf 17 = .ok (.iconst 1, 1) := by decide +kernel
theorem dX4_setOf_18 : decode cX4_setOf 18 = .ok (.if_icmp .ne 19, 3) := by decide +kernel
theorem dX4_setOf_21 : decode cX4_setOf 21 = .ok (.aload_n 0, 1) := by decide +kernel
theorem dX4_setOf_22 : decode cX4_setOf 22 = .ok (.iload_n 3, 1) := by decide +kernel
theorem dX4_setOf_23 : decode cX4_setOf 23 = .ok (.iload_n 1, 1) := by decide +kernel
theorem dX4_setOf_24 : decode cX4_setOf 24 = .ok (.invokevirtual 39, 3) := by decide +kernel
theorem dX4_setOf_27 : decode cX4_setOf 27 = .ok (.iconst 1, 1) := by decide +kernel
theorem dX4_setOf_28 : decode cX4_setOf 28 = .ok (.if_icmp .ne 9, 3) := by decide +kernel
theorem dX4_setOf_31 : decode cX4_setOf 31 = .ok (.iconst 1, 1) := by decide +kernel
theorem dX4_setOf_32 : decode cX4_setOf 32 = .ok (.iload_n 3, 1) := by decide +kernel
theorem dX4_setOf_33 : decode cX4_setOf 33 = .ok (.ishl, 1) := by decide +kernel
theorem dX4_setOf_34 : decode cX4_setOf 34 = .ok (.goto 4, 3) := by decide +kernel
theorem dX4_setOf_37 : decode cX4_setOf 37 = .ok (.iconst 0, 1) := by decide +kernel
theorem dX4_setOf_38 : decode cX4_setOf 38 = .ok (.ior, 1) := by decide +kernel
theorem dX4_setOf_39 : decode cX4_setOf 39 = .ok (.istore_n 2, 1) := by decide +kernel
theorem dX4_setOf_40 : decode cX4_setOf 40 = .ok (.iinc 3 1, 3) := by decide +kernel
theorem dX4_setOf_43 : decode cX4_setOf 43 = .ok (.goto (-39), 3) := by decide +kernel
theorem dX4_setOf_46 : decode cX4_setOf 46 = .ok (.iload_n 2, 1) := by decide +kernel
theorem dX4_setOf_47 : decode cX4_setOf 47 = .ok (.ireturn, 1) := by decide +kernel
theorem dX4_lampsOn_0 : decode cX4_lampsOn 0 = .ok (.aload_n 0, 1) := by decide +kernel
theorem dX4_lampsOn_1 : decode cX4_lampsOn 1 = .ok (.iconst 3, 1) := by decide +kernel
theorem dX4_lampsOn_2 : decode cX4_lampsOn 2 = .ok (.invokevirtual 51, 3) := by decide +kernel
theorem dX4_lampsOn_5 : decode cX4_lampsOn 5 = .ok (.ireturn, 1) := by decide +kernel
theorem dX4_links_0 : decode cX4_links 0 = .ok (.iconst 0, 1) := by decide +kernel
theorem dX4_links_1 : decode cX4_links 1 = .ok (.istore_n 1, 1) := by decide +kernel
theorem dX4_links_2 : decode cX4_links 2 = .ok (.iconst 0, 1) := by decide +kernel
theorem dX4_links_3 : decode cX4_links 3 = .ok (.istore_n 2, 1) := by decide +kernel
theorem dX4_links_4 : decode cX4_links 4 = .ok (.iload_n 2, 1) := by decide +kernel
theorem dX4_links_5 : decode cX4_links 5 = .ok (.bipush 16, 2) := by decide +kernel
theorem dX4_links_7 : decode cX4_links 7 = .ok (.if_icmp .ge 22, 3) := by decide +kernel
theorem dX4_links_10 : decode cX4_links 10 = .ok (.iload_n 1, 1) := by decide +kernel
theorem dX4_links_11 : decode cX4_links 11 = .ok (.aload_n 0, 1) := by decide +kernel
theorem dX4_links_12 : decode cX4_links 12 = .ok (.iload_n 2, 1) := by decide +kernel
theorem dX4_links_13 : decode cX4_links 13 = .ok (.bipush 8, 2) := by decide +kernel
theorem dX4_links_15 : decode cX4_links 15 = .ok (.invokevirtual 39, 3) := by decide +kernel
theorem dX4_links_18 : decode cX4_links 18 = .ok (.invokestatic 55, 3) := by decide +kernel
theorem dX4_links_21 : decode cX4_links 21 = .ok (.iadd, 1) := by decide +kernel
theorem dX4_links_22 : decode cX4_links 22 = .ok (.istore_n 1, 1) := by decide +kernel
theorem dX4_links_23 : decode cX4_links 23 = .ok (.iinc 2 1, 3) := by decide +kernel
theorem dX4_links_26 : decode cX4_links 26 = .ok (.goto (-22), 3) := by decide +kernel
theorem dX4_links_29 : decode cX4_links 29 = .ok (.iload_n 1, 1) := by decide +kernel
theorem dX4_links_30 : decode cX4_links 30 = .ok (.iconst 2, 1) := by decide +kernel
theorem dX4_links_31 : decode cX4_links 31 = .ok (.idiv, 1) := by decide +kernel
theorem dX4_links_32 : decode cX4_links 32 = .ok (.ireturn, 1) := by decide +kernel
theorem dX4_grow_0 : decode cX4_grow 0 = .ok (.iconst 0, 1) := by decide +kernel
theorem dX4_grow_1 : decode cX4_grow 1 = .ok (.istore_n 1, 1) := by decide +kernel
theorem dX4_grow_2 : decode cX4_grow 2 = .ok (.iload_n 1, 1) := by decide +kernel
theorem dX4_grow_3 : decode cX4_grow 3 = .ok (.bipush 16, 2) := by decide +kernel
theorem dX4_grow_5 : decode cX4_grow 5 = .ok (.if_icmp .ge 63, 3) := by decide +kernel
theorem dX4_grow_8 : decode cX4_grow 8 = .ok (.aload_n 0, 1) := by decide +kernel
theorem dX4_grow_9 : decode cX4_grow 9 = .ok (.iload_n 1, 1) := by decide +kernel
theorem dX4_grow_10 : decode cX4_grow 10 = .ok (.invokevirtual 58, 3) := by decide +kernel
theorem dX4_grow_13 : decode cX4_grow 13 = .ok (.ifCond .eq 49, 3) := by decide +kernel
theorem dX4_grow_16 : decode cX4_grow 16 = .ok (.aload_n 0, 1) := by decide +kernel
theorem dX4_grow_17 : decode cX4_grow 17 = .ok (.iload_n 1, 1) := by decide +kernel
theorem dX4_grow_18 : decode cX4_grow 18 = .ok (.iconst 1, 1) := by decide +kernel
theorem dX4_grow_19 : decode cX4_grow 19 = .ok (.aload_n 0, 1) := by decide +kernel
theorem dX4_grow_20 : decode cX4_grow 20 = .ok (.iload_n 1, 1) := by decide +kernel
theorem dX4_grow_21 : decode cX4_grow 21 = .ok (.iconst 1, 1) := by decide +kernel
theorem dX4_grow_22 : decode cX4_grow 22 = .ok (.invokevirtual 39, 3) := by decide +kernel
theorem dX4_grow_25 : decode cX4_grow 25 = .ok (.aload_n 0, 1) := by decide +kernel
theorem dX4_grow_26 : decode cX4_grow 26 = .ok (.iload_n 1, 1) := by decide +kernel
theorem dX4_grow_27 : decode cX4_grow 27 = .ok (.iconst 2, 1) := by decide +kernel
theorem dX4_grow_28 : decode cX4_grow 28 = .ok (.invokevirtual 39, 3) := by decide +kernel
theorem dX4_grow_31 : decode cX4_grow 31 = .ok (.iadd, 1) := by decide +kernel
theorem dX4_grow_32 : decode cX4_grow 32 = .ok (.invokevirtual 62, 3) := by decide +kernel
theorem dX4_grow_35 : decode cX4_grow 35 = .ok (.aload_n 0, 1) := by decide +kernel
theorem dX4_grow_36 : decode cX4_grow 36 = .ok (.iload_n 1, 1) := by decide +kernel
theorem dX4_grow_37 : decode cX4_grow 37 = .ok (.iconst 4, 1) := by decide +kernel
theorem dX4_grow_38 : decode cX4_grow 38 = .ok (.aload_n 0, 1) := by decide +kernel
theorem dX4_grow_39 : decode cX4_grow 39 = .ok (.iload_n 1, 1) := by decide +kernel
theorem dX4_grow_40 : decode cX4_grow 40 = .ok (.iconst 4, 1) := by decide +kernel
theorem dX4_grow_41 : decode cX4_grow 41 = .ok (.invokevirtual 39, 3) := by decide +kernel
theorem dX4_grow_44 : decode cX4_grow 44 = .ok (.ifCond .le 14, 3) := by decide +kernel
theorem dX4_grow_47 : decode cX4_grow 47 = .ok (.aload_n 0, 1) := by decide +kernel
theorem dX4_grow_48 : decode cX4_grow 48 = .ok (.iload_n 1, 1) := by decide +kernel
theorem dX4_grow_49 : decode cX4_grow 49 = .ok (.iconst 4, 1) := by decide +kernel
theorem dX4_grow_50 : decode cX4_grow 50 = .ok (.invokevirtual 39, 3) := by decide +kernel
theorem dX4_grow_53 : decode cX4_grow 53 = .ok (.iconst 1, 1) := by decide +kernel
theorem dX4_grow_54 : decode cX4_grow 54 = .ok (.isub, 1) := by decide +kernel
theorem dX4_grow_55 : decode cX4_grow 55 = .ok (.goto 4, 3) := by decide +kernel
theorem dX4_grow_58 : decode cX4_grow 58 = .ok (.iconst 0, 1) := by decide +kernel
theorem dX4_grow_59 : decode cX4_grow 59 = .ok (.invokevirtual 62, 3) := by decide +kernel
theorem dX4_grow_62 : decode cX4_grow 62 = .ok (.iinc 1 1, 3) := by decide +kernel
theorem dX4_grow_65 : decode cX4_grow 65 = .ok (.goto (-63), 3) := by decide +kernel
theorem dX4_grow_68 : decode cX4_grow 68 = .ok (.return_, 1) := by decide +kernel
theorem dX4_blink_0 : decode cX4_blink 0 = .ok (.iconst 0, 1) := by decide +kernel
theorem dX4_blink_1 : decode cX4_blink 1 = .ok (.istore_n 2, 1) := by decide +kernel
theorem dX4_blink_2 : decode cX4_blink 2 = .ok (.iconst 0, 1) := by decide +kernel
theorem dX4_blink_3 : decode cX4_blink 3 = .ok (.istore_n 3, 1) := by decide +kernel
theorem dX4_blink_4 : decode cX4_blink 4 = .ok (.iload_n 3, 1) := by decide +kernel
theorem dX4_blink_5 : decode cX4_blink 5 = .ok (.bipush 16, 2) := by decide +kernel
theorem dX4_blink_7 : decode cX4_blink 7 = .ok (.if_icmp .ge 93, 3) := by decide +kernel
theorem dX4_blink_10 : decode cX4_blink 10 = .ok (.iload_n 1, 1) := by decide +kernel
theorem dX4_blink_11 : decode cX4_blink 11 = .ok (.iload_n 3, 1) := by decide +kernel
theorem dX4_blink_12 : decode cX4_blink 12 = .ok (.invokestatic 66, 3) := by decide +kernel
theorem dX4_blink_15 : decode cX4_blink 15 = .ok (.ifCond .eq 79, 3) := by decide +kernel
theorem dX4_blink_18 : decode cX4_blink 18 = .ok (.aload_n 0, 1) := by decide +kernel
theorem dX4_blink_19 : decode cX4_blink 19 = .ok (.iload_n 3, 1) := by decide +kernel
theorem dX4_blink_20 : decode cX4_blink 20 = .ok (.invokevirtual 58, 3) := by decide +kernel
theorem dX4_blink_23 : decode cX4_blink 23 = .ok (.ifCond .eq 71, 3) := by decide +kernel
theorem dX4_blink_26 : decode cX4_blink 26 = .ok (.aload_n 0, 1) := by decide +kernel
theorem dX4_blink_27 : decode cX4_blink 27 = .ok (.iload_n 3, 1) := by decide +kernel
theorem dX4_blink_28 : decode cX4_blink 28 = .ok (.iconst 1, 1) := by decide +kernel
theorem dX4_blink_29 : decode cX4_blink 29 = .ok (.invokevirtual 39, 3) := by decide +kernel
theorem dX4_blink_32 : decode cX4_blink 32 = .ok (.aload_n 0, 1) := by decide +kernel
theorem dX4_blink_33 : decode cX4_blink 33 = .ok (.invokevirtual 70, 3) := by decide +kernel
theorem dX4_blink_36 : decode cX4_blink 36 = .ok (.if_icmp .lt 58, 3) := by decide +kernel
theorem dX4_blink_39 : decode cX4_blink 39 = .ok (.iload_n 2, 1) := by decide +kernel
theorem dX4_blink_40 : decode cX4_blink 40 = .ok (.iconst 1, 1) := by decide +kernel
theorem dX4_blink_41 : decode cX4_blink 41 = .ok (.iload_n 3, 1) := by decide +kernel
theorem dX4_blink_42 : decode cX4_blink 42 = .ok (.ishl, 1) := by decide +kernel
theorem dX4_blink_43 : decode cX4_blink 43 = .ok (.ior, 1) := by decide +kernel
theorem dX4_blink_44 : decode cX4_blink 44 = .ok (.istore_n 2, 1) := by decide +kernel
theorem dX4_blink_45 : decode cX4_blink 45 = .ok (.aload_n 0, 1) := by decide +kernel
theorem dX4_blink_46 : decode cX4_blink 46 = .ok (.iload_n 3, 1) := by decide +kernel
theorem dX4_blink_47 : decode cX4_blink 47 = .ok (.iconst 1, 1) := by decide +kernel
theorem dX4_blink_48 : decode cX4_blink 48 = .ok (.iconst 0, 1) := by decide +kernel
theorem dX4_blink_49 : decode cX4_blink 49 = .ok (.invokevirtual 62, 3) := by decide +kernel
theorem dX4_blink_52 : decode cX4_blink 52 = .ok (.aload_n 0, 1) := by decide +kernel
theorem dX4_blink_53 : decode cX4_blink 53 = .ok (.iload_n 3, 1) := by decide +kernel
theorem dX4_blink_54 : decode cX4_blink 54 = .ok (.iconst 4, 1) := by decide +kernel
theorem dX4_blink_55 : decode cX4_blink 55 = .ok (.aload_n 0, 1) := by decide +kernel
theorem dX4_blink_56 : decode cX4_blink 56 = .ok (.getfield 7, 3) := by decide +kernel
theorem dX4_blink_59 : decode cX4_blink 59 = .ok (.bipush 7, 2) := by decide +kernel
theorem dX4_blink_61 : decode cX4_blink 61 = .ok (.iaload, 1) := by decide +kernel
theorem dX4_blink_62 : decode cX4_blink 62 = .ok (.invokevirtual 62, 3) := by decide +kernel
theorem dX4_blink_65 : decode cX4_blink 65 = .ok (.aload_n 0, 1) := by decide +kernel
theorem dX4_blink_66 : decode cX4_blink 66 = .ok (.iload_n 3, 1) := by decide +kernel
theorem dX4_blink_67 : decode cX4_blink 67 = .ok (.iconst 5, 1) := by decide +kernel
theorem dX4_blink_68 : decode cX4_blink 68 = .ok (.aload_n 0, 1) := by decide +kernel
theorem dX4_blink_69 : decode cX4_blink 69 = .ok (.iload_n 3, 1) := by decide +kernel
theorem dX4_blink_70 : decode cX4_blink 70 = .ok (.iconst 5, 1) := by decide +kernel
theorem dX4_blink_71 : decode cX4_blink 71 = .ok (.invokevirtual 39, 3) := by decide +kernel
theorem dX4_blink_74 : decode cX4_blink 74 = .ok (.iconst 1, 1) := by decide +kernel
theorem dX4_blink_75 : decode cX4_blink 75 = .ok (.iadd, 1) := by decide +kernel
theorem dX4_blink_76 : decode cX4_blink 76 = .ok (.invokevirtual 62, 3) := by decide +kernel
theorem dX4_blink_79 : decode cX4_blink 79 = .ok (.aload_n 0, 1) := by decide +kernel
theorem dX4_blink_80 : decode cX4_blink 80 = .ok (.iload_n 3, 1) := by decide +kernel
theorem dX4_blink_81 : decode cX4_blink 81 = .ok (.bipush 6, 2) := by decide +kernel
theorem dX4_blink_83 : decode cX4_blink 83 = .ok (.aload_n 0, 1) := by decide +kernel
theorem dX4_blink_84 : decode cX4_blink 84 = .ok (.getfield 7, 3) := by decide +kernel
theorem dX4_blink_87 : decode cX4_blink 87 = .ok (.iconst 0, 1) := by decide +kernel
theorem dX4_blink_88 : decode cX4_blink 88 = .ok (.iaload, 1) := by decide +kernel
theorem dX4_blink_89 : decode cX4_blink 89 = .ok (.iconst 1, 1) := by decide +kernel
theorem dX4_blink_90 : decode cX4_blink 90 = .ok (.iadd, 1) := by decide +kernel
theorem dX4_blink_91 : decode cX4_blink 91 = .ok (.invokevirtual 62, 3) := by decide +kernel
theorem dX4_blink_94 : decode cX4_blink 94 = .ok (.iinc 3 1, 3) := by decide +kernel
theorem dX4_blink_97 : decode cX4_blink 97 = .ok (.goto (-93), 3) := by decide +kernel
theorem dX4_blink_100 : decode cX4_blink 100 = .ok (.iload_n 2, 1) := by decide +kernel
theorem dX4_blink_101 : decode cX4_blink 101 = .ok (.ireturn, 1) := by decide +kernel
theorem dX4_push_0 : decode cX4_push 0 = .ok (.iconst 0, 1) := by decide +kernel
theorem dX4_push_1 : decode cX4_push 1 = .ok (.istore_n 3, 1) := by decide +kernel
theorem dX4_push_2 : decode cX4_push 2 = .ok (.iconst 0, 1) := by decide +kernel
theorem dX4_push_3 : decode cX4_push 3 = .ok (.istore 4, 2) := by decide +kernel
theorem dX4_push_5 : decode cX4_push 5 = .ok (.iload 4, 2) := by decide +kernel
theorem dX4_push_7 : decode cX4_push 7 = .ok (.bipush 16, 2) := by decide +kernel
theorem dX4_push_9 : decode cX4_push 9 = .ok (.if_icmp .ge 159, 3) := by decide +kernel
theorem dX4_push_12 : decode cX4_push 12 = .ok (.iload_n 2, 1) := by decide +kernel
theorem dX4_push_13 : decode cX4_push 13 = .ok (.iload 4, 2) := by decide +kernel
theorem dX4_push_15 : decode cX4_push 15 = .ok (.invokestatic 66, 3) := by decide +kernel
theorem dX4_push_18 : decode cX4_push 18 = .ok (.ifCond .ne 22, 3) := by decide +kernel
theorem dX4_push_21 : decode cX4_push 21 = .ok (.aload_n 0, 1) := by decide +kernel
theorem dX4_push_22 : decode cX4_push 22 = .ok (.iload 4, 2) := by decide +kernel
theorem dX4_push_24 : decode cX4_push 24 = .ok (.invokevirtual 58, 3) := by decide +kernel
theorem dX4_push_27 : decode cX4_push 27 = .ok (.ifCond .eq 13, 3) := by decide +kernel
theorem dX4_push_30 : decode cX4_push 30 = .ok (.aload_n 0, 1) := by decide +kernel
theorem dX4_push_31 : decode cX4_push 31 = .ok (.iload 4, 2) := by decide +kernel
theorem dX4_push_33 : decode cX4_push 33 = .ok (.iconst 4, 1) := by decide +kernel
theorem dX4_push_34 : decode cX4_push 34 = .ok (.invokevirtual 39, 3) := by decide +kernel
theorem dX4_push_37 : decode cX4_push 37 = .ok (.ifCond .le 7, 3) := by decide +kernel
theorem dX4_push_40 : decode cX4_push 40 = .ok (.iconst 0, 1) := by decide +kernel
theorem dX4_push_41 : decode cX4_push 41 = .ok (.goto 13, 3) := by decide +kernel
theorem dX4_push_44 : decode cX4_push 44 = .ok (.aload_n 0, 1) := by decide +kernel
theorem dX4_push_45 : decode cX4_push 45 = .ok (.iload 4, 2) := by decide +kernel
theorem dX4_push_47 : decode cX4_push 47 = .ok (.bipush 8, 2) := by decide +kernel
theorem dX4_push_49 : decode cX4_push 49 = .ok (.invokevirtual 39, 3) := by decide +kernel
theorem dX4_push_52 : decode cX4_push 52 = .ok (.iload_n 1, 1) := by decide +kernel
theorem dX4_push_53 : decode cX4_push 53 = .ok (.iand, 1) := by decide +kernel
theorem dX4_push_54 : decode cX4_push 54 = .ok (.istore 5, 2) := by decide +kernel
theorem dX4_push_56 : decode cX4_push 56 = .ok (.iload 5, 2) := by decide +kernel
theorem dX4_push_58 : decode cX4_push 58 = .ok (.invokestatic 55, 3) := by decide +kernel
theorem dX4_push_61 : decode cX4_push 61 = .ok (.istore 6, 2) := by decide +kernel
theorem dX4_push_63 : decode cX4_push 63 = .ok (.iload 6, 2) := by decide +kernel
theorem dX4_push_65 : decode cX4_push 65 = .ok (.ifCond .le 97, 3) := by decide +kernel
theorem dX4_push_68 : decode cX4_push 68 = .ok (.aload_n 0, 1) := by decide +kernel
theorem dX4_push_69 : decode cX4_push 69 = .ok (.iload 4, 2) := by decide +kernel
theorem dX4_push_71 : decode cX4_push 71 = .ok (.iconst 1, 1) := by decide +kernel
theorem dX4_push_72 : decode cX4_push 72 = .ok (.invokevirtual 39, 3) := by decide +kernel
theorem dX4_push_75 : decode cX4_push 75 = .ok (.aload_n 0, 1) := by decide +kernel
theorem dX4_push_76 : decode cX4_push 76 = .ok (.iload 4, 2) := by decide +kernel
theorem dX4_push_78 : decode cX4_push 78 = .ok (.iconst 1, 1) := by decide +kernel
theorem dX4_push_79 : decode cX4_push 79 = .ok (.invokevirtual 39, 3) := by decide +kernel
theorem dX4_push_82 : decode cX4_push 82 = .ok (.aload_n 0, 1) := by decide +kernel
theorem dX4_push_83 : decode cX4_push 83 = .ok (.getfield 7, 3) := by decide +kernel
theorem dX4_push_86 : decode cX4_push 86 = .ok (.bipush 6, 2) := by decide +kernel
theorem dX4_push_88 : decode cX4_push 88 = .ok (.iaload, 1) := by decide +kernel
theorem dX4_push_89 : decode cX4_push 89 = .ok (.imul, 1) := by decide +kernel
theorem dX4_push_90 : decode cX4_push 90 = .ok (.bipush 100, 2) := by decide +kernel
theorem dX4_push_92 : decode cX4_push 92 = .ok (.idiv, 1) := by decide +kernel
theorem dX4_push_93 : decode cX4_push 93 = .ok (.iadd, 1) := by decide +kernel
theorem dX4_push_94 : decode cX4_push 94 = .ok (.istore 7, 2) := by decide +kernel
theorem dX4_push_96 : decode cX4_push 96 = .ok (.aload_n 0, 1) := by decide +kernel
theorem dX4_push_97 : decode cX4_push 97 = .ok (.iload 4, 2) := by decide +kernel
theorem dX4_push_99 : decode cX4_push 99 = .ok (.iconst 1, 1) := by decide +kernel
theorem dX4_push_100 : decode cX4_push 100 = .ok (.iload 7, 2) := by decide +kernel
theorem dX4_push_102 : decode cX4_push 102 = .ok (.aload_n 0, 1) := by decide +kernel
theorem dX4_push_103 : decode cX4_push 103 = .ok (.invokevirtual 70, 3) := by decide +kernel
theorem dX4_push_106 : decode cX4_push 106 = .ok (.if_icmp .le 10, 3) := by decide +kernel
theorem dX4_push_109 : decode cX4_push 109 = .ok (.aload_n 0, 1) := by decide +kernel
theorem dX4_push_110 : decode cX4_push 110 = .ok (.invokevirtual 70, 3) := by decide +kernel
theorem dX4_push_113 : decode cX4_push 113 = .ok (.goto 5, 3) := by decide +kernel
theorem dX4_push_116 : decode cX4_push 116 = .ok (.iload 7, 2) := by decide +kernel
theorem dX4_push_118 : decode cX4_push 118 = .ok (.invokevirtual 62, 3) := by decide +kernel
theorem dX4_push_121 : decode cX4_push 121 = .ok (.aload_n 0, 1) := by decide +kernel
theorem dX4_push_122 : decode cX4_push 122 = .ok (.iload 4, 2) := by decide +kernel
theorem dX4_push_124 : decode cX4_push 124 = .ok (.bipush 7, 2) := by decide +kernel
theorem dX4_push_126 : decode cX4_push 126 = .ok (.aload_n 0, 1) := by decide +kernel
theorem dX4_push_127 : decode cX4_push 127 = .ok (.iload 4, 2) := by decide +kernel
theorem dX4_push_129 : decode cX4_push 129 = .ok (.bipush 7, 2) := by decide +kernel
theorem dX4_push_131 : decode cX4_push 131 = .ok (.invokevirtual 39, 3) := by decide +kernel
theorem dX4_push_134 : decode cX4_push 134 = .ok (.iconst 1, 1) := by decide +kernel
theorem dX4_push_135 : decode cX4_push 135 = .ok (.iadd, 1) := by decide +kernel
theorem dX4_push_136 : decode cX4_push 136 = .ok (.invokevirtual 62, 3) := by decide +kernel
theorem dX4_push_139 : decode cX4_push 139 = .ok (.aload_n 0, 1) := by decide +kernel
theorem dX4_push_140 : decode cX4_push 140 = .ok (.getfield 7, 3) := by decide +kernel
theorem dX4_push_143 : decode cX4_push 143 = .ok (.iconst 2, 1) := by decide +kernel
theorem dX4_push_144 : decode cX4_push 144 = .ok (.dup2, 1) := by decide +kernel
theorem dX4_push_145 : decode cX4_push 145 = .ok (.iaload, 1) := by decide +kernel
theorem dX4_push_146 : decode cX4_push 146 = .ok (.iconst 1, 1) := by decide +kernel
theorem dX4_push_147 : decode cX4_push 147 = .ok (.iadd, 1) := by decide +kernel
theorem dX4_push_148 : decode cX4_push 148 = .ok (.iastore, 1) := by decide +kernel
theorem dX4_push_149 : decode cX4_push 149 = .ok (.iload_n 3, 1) := by decide +kernel
theorem dX4_push_150 : decode cX4_push 150 = .ok (.iconst 1, 1) := by decide +kernel
theorem dX4_push_151 : decode cX4_push 151 = .ok (.iload 4, 2) := by decide +kernel
theorem dX4_push_153 : decode cX4_push 153 = .ok (.ishl, 1) := by decide +kernel
theorem dX4_push_154 : decode cX4_push 154 = .ok (.ior, 1) := by decide +kernel
theorem dX4_push_155 : decode cX4_push 155 = .ok (.istore_n 3, 1) := by decide +kernel
theorem dX4_push_156 : decode cX4_push 156 = .ok (.iinc 6 (-1), 3) := by decide +kernel
theorem dX4_push_159 : decode cX4_push 159 = .ok (.goto (-96), 3) := by decide +kernel
theorem dX4_push_162 : decode cX4_push 162 = .ok (.iinc 4 1, 3) := by decide +kernel
theorem dX4_push_165 : decode cX4_push 165 = .ok (.goto (-160), 3) := by decide +kernel
theorem dX4_push_168 : decode cX4_push 168 = .ok (.iload_n 3, 1) := by decide +kernel
theorem dX4_push_169 : decode cX4_push 169 = .ok (.ireturn, 1) := by decide +kernel
theorem dX4_tick_0 : decode cX4_tick 0 = .ok (.aload_n 0, 1) := by decide +kernel
theorem dX4_tick_1 : decode cX4_tick 1 = .ok (.invokevirtual 74, 3) := by decide +kernel
theorem dX4_tick_4 : decode cX4_tick 4 = .ok (.aload_n 0, 1) := by decide +kernel
theorem dX4_tick_5 : decode cX4_tick 5 = .ok (.iconst (-1), 1) := by decide +kernel
theorem dX4_tick_6 : decode cX4_tick 6 = .ok (.invokevirtual 77, 3) := by decide +kernel
theorem dX4_tick_9 : decode cX4_tick 9 = .ok (.istore_n 1, 1) := by decide +kernel
theorem dX4_tick_10 : decode cX4_tick 10 = .ok (.iload_n 1, 1) := by decide +kernel
theorem dX4_tick_11 : decode cX4_tick 11 = .ok (.istore_n 2, 1) := by decide +kernel
theorem dX4_tick_12 : decode cX4_tick 12 = .ok (.iload_n 1, 1) := by decide +kernel
theorem dX4_tick_13 : decode cX4_tick 13 = .ok (.ifCond .eq 21, 3) := by decide +kernel
theorem dX4_tick_16 : decode cX4_tick 16 = .ok (.aload_n 0, 1) := by decide +kernel
theorem dX4_tick_17 : decode cX4_tick 17 = .ok (.aload_n 0, 1) := by decide +kernel
theorem dX4_tick_18 : decode cX4_tick 18 = .ok (.iload_n 1, 1) := by decide +kernel
theorem dX4_tick_19 : decode cX4_tick 19 = .ok (.iload_n 2, 1) := by decide +kernel
theorem dX4_tick_20 : decode cX4_tick 20 = .ok (.invokevirtual 80, 3) := by decide +kernel
theorem dX4_tick_23 : decode cX4_tick 23 = .ok (.invokevirtual 77, 3) := by decide +kernel
theorem dX4_tick_26 : decode cX4_tick 26 = .ok (.istore_n 1, 1) := by decide +kernel
theorem dX4_tick_27 : decode cX4_tick 27 = .ok (.iload_n 2, 1) := by decide +kernel
theorem dX4_tick_28 : decode cX4_tick 28 = .ok (.iload_n 1, 1) := by decide +kernel
theorem dX4_tick_29 : decode cX4_tick 29 = .ok (.ior, 1) := by decide +kernel
theorem dX4_tick_30 : decode cX4_tick 30 = .ok (.istore_n 2, 1) := by decide +kernel
theorem dX4_tick_31 : decode cX4_tick 31 = .ok (.goto (-19), 3) := by decide +kernel
theorem dX4_tick_34 : decode cX4_tick 34 = .ok (.iload_n 2, 1) := by decide +kernel
theorem dX4_tick_35 : decode cX4_tick 35 = .ok (.invokestatic 55, 3) := by decide +kernel
theorem dX4_tick_38 : decode cX4_tick 38 = .ok (.istore_n 3, 1) := by decide +kernel
theorem dX4_tick_39 : decode cX4_tick 39 = .ok (.aload_n 0, 1) := by decide +kernel
theorem dX4_tick_40 : decode cX4_tick 40 = .ok (.getfield 7, 3) := by decide +kernel
theorem dX4_tick_43 : decode cX4_tick 43 = .ok (.iconst 0, 1) := by decide +kernel
theorem dX4_tick_44 : decode cX4_tick 44 = .ok (.dup2, 1) := by decide +kernel
theorem dX4_tick_45 : decode cX4_tick 45 = .ok (.iaload, 1) := by decide +kernel
theorem dX4_tick_46 : decode cX4_tick 46 = .ok (.iconst 1, 1) := by decide +kernel
theorem dX4_tick_47 : decode cX4_tick 47 = .ok (.iadd, 1) := by decide +kernel
theorem dX4_tick_48 : decode cX4_tick 48 = .ok (.iastore, 1) := by decide +kernel
theorem dX4_tick_49 : decode cX4_tick 49 = .ok (.aload_n 0, 1) := by decide +kernel
theorem dX4_tick_50 : decode cX4_tick 50 = .ok (.getfield 7, 3) := by decide +kernel
theorem dX4_tick_53 : decode cX4_tick 53 = .ok (.iconst 1, 1) := by decide +kernel
theorem dX4_tick_54 : decode cX4_tick 54 = .ok (.dup2, 1) := by decide +kernel
theorem dX4_tick_55 : decode cX4_tick 55 = .ok (.iaload, 1) := by decide +kernel
theorem dX4_tick_56 : decode cX4_tick 56 = .ok (.iload_n 3, 1) := by decide +kernel
theorem dX4_tick_57 : decode cX4_tick 57 = .ok (.iadd, 1) := by decide +kernel
theorem dX4_tick_58 : decode cX4_tick 58 = .ok (.iastore, 1) := by decide +kernel
theorem dX4_tick_59 : decode cX4_tick 59 = .ok (.aload_n 0, 1) := by decide +kernel
theorem dX4_tick_60 : decode cX4_tick 60 = .ok (.getfield 7, 3) := by decide +kernel
theorem dX4_tick_63 : decode cX4_tick 63 = .ok (.iconst 3, 1) := by decide +kernel
theorem dX4_tick_64 : decode cX4_tick 64 = .ok (.dup2, 1) := by decide +kernel
theorem dX4_tick_65 : decode cX4_tick 65 = .ok (.iaload, 1) := by decide +kernel
theorem dX4_tick_66 : decode cX4_tick 66 = .ok (.iload_n 3, 1) := by decide +kernel
theorem dX4_tick_67 : decode cX4_tick 67 = .ok (.iconst 1, 1) := by decide +kernel
theorem dX4_tick_68 : decode cX4_tick 68 = .ok (.if_icmp .le 7, 3) := by decide +kernel
theorem dX4_tick_71 : decode cX4_tick 71 = .ok (.iconst 1, 1) := by decide +kernel
theorem dX4_tick_72 : decode cX4_tick 72 = .ok (.goto 4, 3) := by decide +kernel
theorem dX4_tick_75 : decode cX4_tick 75 = .ok (.iconst 0, 1) := by decide +kernel
theorem dX4_tick_76 : decode cX4_tick 76 = .ok (.iadd, 1) := by decide +kernel
theorem dX4_tick_77 : decode cX4_tick 77 = .ok (.iastore, 1) := by decide +kernel
theorem dX4_tick_78 : decode cX4_tick 78 = .ok (.aload_n 0, 1) := by decide +kernel
theorem dX4_tick_79 : decode cX4_tick 79 = .ok (.getfield 7, 3) := by decide +kernel
theorem dX4_tick_82 : decode cX4_tick 82 = .ok (.iconst 4, 1) := by decide +kernel
theorem dX4_tick_83 : decode cX4_tick 83 = .ok (.iload_n 3, 1) := by decide +kernel
theorem dX4_tick_84 : decode cX4_tick 84 = .ok (.iconst 1, 1) := by decide +kernel
theorem dX4_tick_85 : decode cX4_tick 85 = .ok (.if_icmp .le 17, 3) := by decide +kernel
theorem dX4_tick_88 : decode cX4_tick 88 = .ok (.iload_n 3, 1) := by decide +kernel
theorem dX4_tick_89 : decode cX4_tick 89 = .ok (.aload_n 0, 1) := by decide +kernel
theorem dX4_tick_90 : decode cX4_tick 90 = .ok (.getfield 7, 3) := by decide +kernel
theorem dX4_tick_93 : decode cX4_tick 93 = .ok (.iconst 4, 1) := by decide +kernel
theorem dX4_tick_94 : decode cX4_tick 94 = .ok (.iaload, 1) := by decide +kernel
theorem dX4_tick_95 : decode cX4_tick 95 = .ok (.if_icmp .le 7, 3) := by decide +kernel
theorem dX4_tick_98 : decode cX4_tick 98 = .ok (.iload_n 3, 1) := by decide +kernel
theorem dX4_tick_99 : decode cX4_tick 99 = .ok (.goto 9, 3) := by decide +kernel
theorem dX4_tick_102 : decode cX4_tick 102 = .ok (.aload_n 0, 1) := by decide +kernel
theorem dX4_tick_103 : decode cX4_tick 103 = .ok (.getfield 7, 3) := by decide +kernel
theorem dX4_tick_106 : decode cX4_tick 106 = .ok (.iconst 4, 1) := by decide +kernel
theorem dX4_tick_107 : decode cX4_tick 107 = .ok (.iaload, 1) := by decide +kernel
theorem dX4_tick_108 : decode cX4_tick 108 = .ok (.iastore, 1) := by decide +kernel
theorem dX4_tick_109 : decode cX4_tick 109 = .ok (.iload_n 2, 1) := by decide +kernel
theorem dX4_tick_110 : decode cX4_tick 110 = .ok (.ireturn, 1) := by decide +kernel
theorem dX4_goOn_0 : decode cX4_goOn 0 = .ok (.iconst 0, 1) := by decide +kernel
theorem dX4_goOn_1 : decode cX4_goOn 1 = .ok (.istore_n 2, 1) := by decide +kernel
theorem dX4_goOn_2 : decode cX4_goOn 2 = .ok (.iload_n 2, 1) := by decide +kernel
theorem dX4_goOn_3 : decode cX4_goOn 3 = .ok (.iload_n 1, 1) := by decide +kernel
theorem dX4_goOn_4 : decode cX4_goOn 4 = .ok (.if_icmp .ge 14, 3) := by decide +kernel
theorem dX4_goOn_7 : decode cX4_goOn 7 = .ok (.aload_n 0, 1) := by decide +kernel
theorem dX4_goOn_8 : decode cX4_goOn 8 = .ok (.invokevirtual 83, 3) := by decide +kernel
theorem dX4_goOn_11 : decode cX4_goOn 11 = .ok (.pop, 1) := by decide +kernel
theorem dX4_goOn_12 : decode cX4_goOn 12 = .ok (.iinc 2 1, 3) := by decide +kernel
theorem dX4_goOn_15 : decode cX4_goOn 15 = .ok (.goto (-13), 3) := by decide +kernel
theorem dX4_goOn_18 : decode cX4_goOn 18 = .ok (.return_, 1) := by decide +kernel
theorem dX4_pieceOf_0 : decode cX4_pieceOf 0 = .ok (.aload_n 0, 1) := by decide +kernel
theorem dX4_pieceOf_1 : decode cX4_pieceOf 1 = .ok (.invokevirtual 86, 3) := by decide +kernel
theorem dX4_pieceOf_4 : decode cX4_pieceOf 4 = .ok (.istore_n 2, 1) := by decide +kernel
theorem dX4_pieceOf_5 : decode cX4_pieceOf 5 = .ok (.iconst 1, 1) := by decide +kernel
theorem dX4_pieceOf_6 : decode cX4_pieceOf 6 = .ok (.iload_n 1, 1) := by decide +kernel
theorem dX4_pieceOf_7 : decode cX4_pieceOf 7 = .ok (.ishl, 1) := by decide +kernel
theorem dX4_pieceOf_8 : decode cX4_pieceOf 8 = .ok (.iload_n 2, 1) := by decide +kernel
theorem dX4_pieceOf_9 : decode cX4_pieceOf 9 = .ok (.iand, 1) := by decide +kernel
theorem dX4_pieceOf_10 : decode cX4_pieceOf 10 = .ok (.istore_n 3, 1) := by decide +kernel
theorem dX4_pieceOf_11 : decode cX4_pieceOf 11 = .ok (.iconst 0, 1) := by decide +kernel
theorem dX4_pieceOf_12 : decode cX4_pieceOf 12 = .ok (.istore 4, 2) := by decide +kernel
theorem dX4_pieceOf_14 : decode cX4_pieceOf 14 = .ok (.iload_n 3, 1) := by decide +kernel
theorem dX4_pieceOf_15 : decode cX4_pieceOf 15 = .ok (.iload 4, 2) := by decide +kernel
theorem dX4_pieceOf_17 : decode cX4_pieceOf 17 = .ok (.if_icmp .eq 52, 3) := by decide +kernel
theorem dX4_pieceOf_20 : decode cX4_pieceOf 20 = .ok (.iload_n 3, 1) := by decide +kernel
theorem dX4_pieceOf_21 : decode cX4_pieceOf 21 = .ok (.istore 4, 2) := by decide +kernel
theorem dX4_pieceOf_23 : decode cX4_pieceOf 23 = .ok (.iconst 0, 1) := by decide +kernel
theorem dX4_pieceOf_24 : decode cX4_pieceOf 24 = .ok (.istore 5, 2) := by decide +kernel
theorem dX4_pieceOf_26 : decode cX4_pieceOf 26 = .ok (.iload 5, 2) := by decide +kernel
theorem dX4_pieceOf_28 : decode cX4_pieceOf 28 = .ok (.bipush 16, 2) := by decide +kernel
theorem dX4_pieceOf_30 : decode cX4_pieceOf 30 = .ok (.if_icmp .ge 36, 3) := by decide +kernel
theorem dX4_pieceOf_33 : decode cX4_pieceOf 33 = .ok (.iload_n 3, 1) := by decide +kernel
theorem dX4_pieceOf_34 : decode cX4_pieceOf 34 = .ok (.iload 4, 2) := by decide +kernel
theorem dX4_pieceOf_36 : decode cX4_pieceOf 36 = .ok (.iload 5, 2) := by decide +kernel
theorem dX4_pieceOf_38 : decode cX4_pieceOf 38 = .ok (.invokestatic 66, 3) := by decide +kernel
theorem dX4_pieceOf_41 : decode cX4_pieceOf 41 = .ok (.ifCond .eq 16, 3) := by decide +kernel
theorem dX4_pieceOf_44 : decode cX4_pieceOf 44 = .ok (.aload_n 0, 1) := by decide +kernel
theorem dX4_pieceOf_45 : decode cX4_pieceOf 45 = .ok (.iload 5, 2) := by decide +kernel
theorem dX4_pieceOf_47 : decode cX4_pieceOf 47 = .ok (.bipush 8, 2) := by decide +kernel
theorem dX4_pieceOf_49 : decode cX4_pieceOf 49 = .ok (.invokevirtual 39, 3) := by decide +kernel
theorem dX4_pieceOf_52 : decode cX4_pieceOf 52 = .ok (.iload_n 2, 1) := by decide +kernel
theorem dX4_pieceOf_53 : decode cX4_pieceOf 53 = .ok (.iand, 1) := by decide +kernel
theorem dX4_pieceOf_54 : decode cX4_pieceOf 54 = .ok (.goto 4, 3) := by decide +kernel
theorem dX4_pieceOf_57 : decode cX4_pieceOf 57 = .ok (.iconst 0, 1) := by decide +kernel
theorem dX4_pieceOf_58 : decode cX4_pieceOf 58 = .ok (.ior, 1) := by decide +kernel
theorem dX4_pieceOf_59 : decode cX4_pieceOf 59 = .ok (.istore_n 3, 1) := by decide +kernel
theorem dX4_pieceOf_60 : decode cX4_pieceOf 60 = .ok (.iinc 5 1, 3) := by decide +kernel
theorem dX4_pieceOf_63 : decode cX4_pieceOf 63 = .ok (.goto (-37), 3) := by decide +kernel
theorem dX4_pieceOf_66 : decode cX4_pieceOf 66 = .ok (.goto (-52), 3) := by decide +kernel
theorem dX4_pieceOf_69 : decode cX4_pieceOf 69 = .ok (.iload_n 3, 1) := by decide +kernel
theorem dX4_pieceOf_70 : decode cX4_pieceOf 70 = .ok (.ireturn, 1) := by decide +kernel
theorem dX4_pieces_0 : decode cX4_pieces 0 = .ok (.iconst 0, 1) := by decide +kernel
theorem dX4_pieces_1 : decode cX4_pieces 1 = .ok (.istore_n 1, 1) := by decide +kernel
theorem dX4_pieces_2 : decode cX4_pieces 2 = .ok (.iconst 0, 1) := by decide +kernel
theorem dX4_pieces_3 : decode cX4_pieces 3 = .ok (.istore_n 2, 1) := by decide +kernel
theorem dX4_pieces_4 : decode cX4_pieces 4 = .ok (.iconst 0, 1) := by decide +kernel
theorem dX4_pieces_5 : decode cX4_pieces 5 = .ok (.istore_n 3, 1) := by decide +kernel
theorem dX4_pieces_6 : decode cX4_pieces 6 = .ok (.iload_n 3, 1) := by decide +kernel
theorem dX4_pieces_7 : decode cX4_pieces 7 = .ok (.bipush 16, 2) := by decide +kernel
theorem dX4_pieces_9 : decode cX4_pieces 9 = .ok (.if_icmp .ge 36, 3) := by decide +kernel
theorem dX4_pieces_12 : decode cX4_pieces 12 = .ok (.aload_n 0, 1) := by decide +kernel
theorem dX4_pieces_13 : decode cX4_pieces 13 = .ok (.iload_n 3, 1) := by decide +kernel
theorem dX4_pieces_14 : decode cX4_pieces 14 = .ok (.invokevirtual 58, 3) := by decide +kernel
theorem dX4_pieces_17 : decode cX4_pieces 17 = .ok (.ifCond .eq 22, 3) := by decide +kernel
theorem dX4_pieces_20 : decode cX4_pieces 20 = .ok (.iload_n 2, 1) := by decide +kernel
theorem dX4_pieces_21 : decode cX4_pieces 21 = .ok (.iload_n 3, 1) := by decide +kernel
theorem dX4_pieces_22 : decode cX4_pieces 22 = .ok (.invokestatic 66, 3) := by decide +kernel
theorem dX4_pieces_25 : decode cX4_pieces 25 = .ok (.ifCond .ne 14, 3) := by decide +kernel
theorem dX4_pieces_28 : decode cX4_pieces 28 = .ok (.iload_n 2, 1) := by decide +kernel
theorem dX4_pieces_29 : decode cX4_pieces 29 = .ok (.aload_n 0, 1) := by decide +kernel
theorem dX4_pieces_30 : decode cX4_pieces 30 = .ok (.iload_n 3, 1) := by decide +kernel
theorem dX4_pieces_31 : decode cX4_pieces 31 = .ok (.invokevirtual 89, 3) := by decide +kernel
theorem dX4_pieces_34 : decode cX4_pieces 34 = .ok (.ior, 1) := by decide +kernel
theorem dX4_pieces_35 : decode cX4_pieces 35 = .ok (.istore_n 2, 1) := by decide +kernel
theorem dX4_pieces_36 : decode cX4_pieces 36 = .ok (.iinc 1 1, 3) := by decide +kernel
theorem dX4_pieces_39 : decode cX4_pieces 39 = .ok (.iinc 3 1, 3) := by decide +kernel
theorem dX4_pieces_42 : decode cX4_pieces 42 = .ok (.goto (-36), 3) := by decide +kernel
theorem dX4_pieces_45 : decode cX4_pieces 45 = .ok (.iload_n 1, 1) := by decide +kernel
theorem dX4_pieces_46 : decode cX4_pieces 46 = .ok (.ireturn, 1) := by decide +kernel
theorem dX4_agreeing_0 : decode cX4_agreeing 0 = .ok (.iconst 0, 1) := by decide +kernel
theorem dX4_agreeing_1 : decode cX4_agreeing 1 = .ok (.istore_n 2, 1) := by decide +kernel
theorem dX4_agreeing_2 : decode cX4_agreeing 2 = .ok (.iconst 0, 1) := by decide +kernel
theorem dX4_agreeing_3 : decode cX4_agreeing 3 = .ok (.istore_n 3, 1) := by decide +kernel
theorem dX4_agreeing_4 : decode cX4_agreeing 4 = .ok (.iload_n 3, 1) := by decide +kernel
theorem dX4_agreeing_5 : decode cX4_agreeing 5 = .ok (.bipush 16, 2) := by decide +kernel
theorem dX4_agreeing_7 : decode cX4_agreeing 7 = .ok (.if_icmp .ge 50, 3) := by decide +kernel
theorem dX4_agreeing_10 : decode cX4_agreeing 10 = .ok (.iload_n 2, 1) := by decide +kernel
theorem dX4_agreeing_11 : decode cX4_agreeing 11 = .ok (.aload_n 0, 1) := by decide +kernel
theorem dX4_agreeing_12 : decode cX4_agreeing 12 = .ok (.iload_n 1, 1) := by decide +kernel
theorem dX4_agreeing_13 : decode cX4_agreeing 13 = .ok (.invokevirtual 58, 3) := by decide +kernel
theorem dX4_agreeing_16 : decode cX4_agreeing 16 = .ok (.ifCond .eq 32, 3) := by decide +kernel
theorem dX4_agreeing_19 : decode cX4_agreeing 19 = .ok (.aload_n 0, 1) := by decide +kernel
theorem dX4_agreeing_20 : decode cX4_agreeing 20 = .ok (.iload_n 3, 1) := by decide +kernel
theorem dX4_agreeing_21 : decode cX4_agreeing 21 = .ok (.invokevirtual 58, 3) := by decide +kernel
theorem dX4_agreeing_24 : decode cX4_agreeing 24 = .ok (.ifCond .eq 24, 3) := by decide +kernel
theorem dX4_agreeing_27 : decode cX4_agreeing 27 = .ok (.aload_n 0, 1) := by decide +kernel
theorem dX4_agreeing_28 : decode cX4_agreeing 28 = .ok (.iload_n 3, 1) := by decide +kernel
theorem dX4_agreeing_29 : decode cX4_agreeing 29 = .ok (.iconst 1, 1) := by decide +kernel
theorem dX4_agreeing_30 : decode cX4_agreeing 30 = .ok (.invokevirtual 39, 3) := by decide +kernel
theorem dX4_agreeing_33 : decode cX4_agreeing 33 = .ok (.aload_n 0, 1) := by decide +kernel
theorem dX4_agreeing_34 : decode cX4_agreeing 34 = .ok (.iload_n 1, 1) := by decide +kernel
theorem dX4_agreeing_35 : decode cX4_agreeing 35 = .ok (.iconst 1, 1) := by decide +kernel
theorem dX4_agreeing_36 : decode cX4_agreeing 36 = .ok (.invokevirtual 39, 3) := by decide +kernel
theorem dX4_agreeing_39 : decode cX4_agreeing 39 = .ok (.if_icmp .ne 9, 3) := by decide +kernel
theorem dX4_agreeing_42 : decode cX4_agreeing 42 = .ok (.iconst 1, 1) := by decide +kernel
theorem dX4_agreeing_43 : decode cX4_agreeing 43 = .ok (.iload_n 3, 1) := by decide +kernel
theorem dX4_agreeing_44 : decode cX4_agreeing 44 = .ok (.ishl, 1) := by decide +kernel
theorem dX4_agreeing_45 : decode cX4_agreeing 45 = .ok (.goto 4, 3) := by decide +kernel
theorem dX4_agreeing_48 : decode cX4_agreeing 48 = .ok (.iconst 0, 1) := by decide +kernel
theorem dX4_agreeing_49 : decode cX4_agreeing 49 = .ok (.ior, 1) := by decide +kernel
theorem dX4_agreeing_50 : decode cX4_agreeing 50 = .ok (.istore_n 2, 1) := by decide +kernel
theorem dX4_agreeing_51 : decode cX4_agreeing 51 = .ok (.iinc 3 1, 3) := by decide +kernel
theorem dX4_agreeing_54 : decode cX4_agreeing 54 = .ok (.goto (-50), 3) := by decide +kernel
theorem dX4_agreeing_57 : decode cX4_agreeing 57 = .ok (.iload_n 2, 1) := by decide +kernel
theorem dX4_agreeing_58 : decode cX4_agreeing 58 = .ok (.ireturn, 1) := by decide +kernel
theorem dX4_distance_0 : decode cX4_distance 0 = .ok (.aload_n 0, 1) := by decide +kernel
theorem dX4_distance_1 : decode cX4_distance 1 = .ok (.iload_n 1, 1) := by decide +kernel
theorem dX4_distance_2 : decode cX4_distance 2 = .ok (.iconst 1, 1) := by decide +kernel
theorem dX4_distance_3 : decode cX4_distance 3 = .ok (.invokevirtual 39, 3) := by decide +kernel
theorem dX4_distance_6 : decode cX4_distance 6 = .ok (.aload_n 0, 1) := by decide +kernel
theorem dX4_distance_7 : decode cX4_distance 7 = .ok (.iload_n 2, 1) := by decide +kernel
theorem dX4_distance_8 : decode cX4_distance 8 = .ok (.iconst 1, 1) := by decide +kernel
theorem dX4_distance_9 : decode cX4_distance 9 = .ok (.invokevirtual 39, 3) := by decide +kernel
theorem dX4_distance_12 : decode cX4_distance 12 = .ok (.isub, 1) := by decide +kernel
theorem dX4_distance_13 : decode cX4_distance 13 = .ok (.istore_n 3, 1) := by decide +kernel
theorem dX4_distance_14 : decode cX4_distance 14 = .ok (.iload_n 3, 1) := by decide +kernel
theorem dX4_distance_15 : decode cX4_distance 15 = .ok (.ifCond .ge 8, 3) := by decide +kernel
theorem dX4_distance_18 : decode cX4_distance 18 = .ok (.iload_n 3, 1) := by decide +kernel
theorem dX4_distance_19 : decode cX4_distance 19 = .ok (.ineg, 1) := by decide +kernel
theorem dX4_distance_20 : decode cX4_distance 20 = .ok (.goto 4, 3) := by decide +kernel
theorem dX4_distance_23 : decode cX4_distance 23 = .ok (.iload_n 3, 1) := by decide +kernel
theorem dX4_distance_24 : decode cX4_distance 24 = .ok (.istore_n 3, 1) := by decide +kernel
theorem dX4_distance_25 : decode cX4_distance 25 = .ok (.iload_n 3, 1) := by decide +kernel
theorem dX4_distance_26 : decode cX4_distance 26 = .ok (.aload_n 0, 1) := by decide +kernel
theorem dX4_distance_27 : decode cX4_distance 27 = .ok (.invokevirtual 70, 3) := by decide +kernel
theorem dX4_distance_30 : decode cX4_distance 30 = .ok (.iload_n 3, 1) := by decide +kernel
theorem dX4_distance_31 : decode cX4_distance 31 = .ok (.isub, 1) := by decide +kernel
theorem dX4_distance_32 : decode cX4_distance 32 = .ok (.if_icmp .ge 7, 3) := by decide +kernel
theorem dX4_distance_35 : decode cX4_distance 35 = .ok (.iload_n 3, 1) := by decide +kernel
theorem dX4_distance_36 : decode cX4_distance 36 = .ok (.goto 9, 3) := by decide +kernel
theorem dX4_distance_39 : decode cX4_distance 39 = .ok (.aload_n 0, 1) := by decide +kernel
theorem dX4_distance_40 : decode cX4_distance 40 = .ok (.invokevirtual 70, 3) := by decide +kernel
theorem dX4_distance_43 : decode cX4_distance 43 = .ok (.iload_n 3, 1) := by decide +kernel
theorem dX4_distance_44 : decode cX4_distance 44 = .ok (.isub, 1) := by decide +kernel
theorem dX4_distance_45 : decode cX4_distance 45 = .ok (.ireturn, 1) := by decide +kernel
theorem dX4_greatestDistance_0 : decode cX4_greatestDistance 0 = .ok (.aload_n 0, 1) := by decide +kernel
theorem dX4_greatestDistance_1 : decode cX4_greatestDistance 1 = .ok (.invokevirtual 86, 3) := by decide +kernel
theorem dX4_greatestDistance_4 : decode cX4_greatestDistance 4 = .ok (.ifCond .ne 8, 3) := by decide +kernel
theorem dX4_greatestDistance_7 : decode cX4_greatestDistance 7 = .ok (.bipush (-5), 2) := by decide +kernel
theorem dX4_greatestDistance_9 : decode cX4_greatestDistance 9 = .ok (.goto 4, 3) := by decide +kernel
theorem dX4_greatestDistance_12 : decode cX4_greatestDistance 12 = .ok (.iconst 0, 1) := by decide +kernel
theorem dX4_greatestDistance_13 : decode cX4_greatestDistance 13 = .ok (.istore_n 1, 1) := by decide +kernel
theorem dX4_greatestDistance_14 : decode cX4_greatestDistance 14 = .ok (.iconst 0, 1) := by decide +kernel
theorem dX4_greatestDistance_15 : decode cX4_greatestDistance 15 = .ok (.istore_n 2, 1) := by decide +kernel
theorem dX4_greatestDistance_16 : decode cX4_greatestDistance 16 = .ok (.iload_n 2, 1) := by decide +kernel
theorem dX4_greatestDistance_17 : decode cX4_greatestDistance 17 = .ok (.sipush 256, 3) := by decide +kernel
theorem dX4_greatestDistance_20 : decode cX4_greatestDistance 20 = .ok (.if_icmp .ge 55, 3) := by decide +kernel
theorem dX4_greatestDistance_23 : decode cX4_greatestDistance 23 = .ok (.aload_n 0, 1) := by decide +kernel
theorem dX4_greatestDistance_24 : decode cX4_greatestDistance 24 = .ok (.iload_n 2, 1) := by decide +kernel
theorem dX4_greatestDistance_25 : decode cX4_greatestDistance 25 = .ok (.bipush 16, 2) := by decide +kernel
theorem dX4_greatestDistance_27 : decode cX4_greatestDistance 27 = .ok (.idiv, 1) := by decide +kernel
theorem dX4_greatestDistance_28 : decode cX4_greatestDistance 28 = .ok (.invokevirtual 58, 3) := by decide +kernel
theorem dX4_greatestDistance_31 : decode cX4_greatestDistance 31 = .ok (.ifCond .eq 38, 3) := by decide +kernel
theorem dX4_greatestDistance_34 : decode cX4_greatestDistance 34 = .ok (.aload_n 0, 1) := by decide +kernel
theorem dX4_greatestDistance_35 : decode cX4_greatestDistance 35 = .ok (.iload_n 2, 1) := by decide +kernel
theorem dX4_greatestDistance_36 : decode cX4_greatestDistance 36 = .ok (.bipush 16, 2) := by decide +kernel
theorem dX4_greatestDistance_38 : decode cX4_greatestDistance 38 = .ok (.irem, 1) := by decide +kernel
theorem dX4_greatestDistance_39 : decode cX4_greatestDistance 39 = .ok (.invokevirtual 58, 3) := by decide +kernel
theorem dX4_greatestDistance_42 : decode cX4_greatestDistance 42 = .ok (.ifCond .eq 27, 3) := by decide +kernel
theorem dX4_greatestDistance_45 : decode cX4_greatestDistance 45 = .ok (.aload_n 0, 1) := by decide +kernel
theorem dX4_greatestDistance_46 : decode cX4_greatestDistance 46 = .ok (.iload_n 2, 1) := by decide +kernel
theorem dX4_greatestDistance_47 : decode cX4_greatestDistance 47 = .ok (.bipush 16, 2) := by decide +kernel
theorem dX4_greatestDistance_49 : decode cX4_greatestDistance 49 = .ok (.idiv, 1) := by decide +kernel
theorem dX4_greatestDistance_50 : decode cX4_greatestDistance 50 = .ok (.iload_n 2, 1) := by decide +kernel
theorem dX4_greatestDistance_51 : decode cX4_greatestDistance 51 = .ok (.bipush 16, 2) := by decide +kernel
theorem dX4_greatestDistance_53 : decode cX4_greatestDistance 53 = .ok (.irem, 1) := by decide +kernel
theorem dX4_greatestDistance_54 : decode cX4_greatestDistance 54 = .ok (.invokevirtual 92, 3) := by decide +kernel
theorem dX4_greatestDistance_57 : decode cX4_greatestDistance 57 = .ok (.istore_n 3, 1) := by decide +kernel
theorem dX4_greatestDistance_58 : decode cX4_greatestDistance 58 = .ok (.iload_n 3, 1) := by decide +kernel
theorem dX4_greatestDistance_59 : decode cX4_greatestDistance 59 = .ok (.iload_n 1, 1) := by decide +kernel
theorem dX4_greatestDistance_60 : decode cX4_greatestDistance 60 = .ok (.if_icmp .le 7, 3) := by decide +kernel
theorem dX4_greatestDistance_63 : decode cX4_greatestDistance 63 = .ok (.iload_n 3, 1) := by decide +kernel
theorem dX4_greatestDistance_64 : decode cX4_greatestDistance 64 = .ok (.goto 4, 3) := by decide +kernel
theorem dX4_greatestDistance_67 : decode cX4_greatestDistance 67 = .ok (.iload_n 1, 1) := by decide +kernel
theorem dX4_greatestDistance_68 : decode cX4_greatestDistance 68 = .ok (.istore_n 1, 1) := by decide +kernel
theorem dX4_greatestDistance_69 : decode cX4_greatestDistance 69 = .ok (.iinc 2 1, 3) := by decide +kernel
theorem dX4_greatestDistance_72 : decode cX4_greatestDistance 72 = .ok (.goto (-56), 3) := by decide +kernel
theorem dX4_greatestDistance_75 : decode cX4_greatestDistance 75 = .ok (.iload_n 1, 1) := by decide +kernel
theorem dX4_greatestDistance_76 : decode cX4_greatestDistance 76 = .ok (.ireturn, 1) := by decide +kernel
theorem dX4_isTogether_0 : decode cX4_isTogether 0 = .ok (.aload_n 0, 1) := by decide +kernel
theorem dX4_isTogether_1 : decode cX4_isTogether 1 = .ok (.invokevirtual 95, 3) := by decide +kernel
theorem dX4_isTogether_4 : decode cX4_isTogether 4 = .ok (.ifCond .ne 7, 3) := by decide +kernel
theorem dX4_isTogether_7 : decode cX4_isTogether 7 = .ok (.iconst 1, 1) := by decide +kernel
theorem dX4_isTogether_8 : decode cX4_isTogether 8 = .ok (.goto 4, 3) := by decide +kernel
theorem dX4_isTogether_11 : decode cX4_isTogether 11 = .ok (.iconst 0, 1) := by decide +kernel
theorem dX4_isTogether_12 : decode cX4_isTogether 12 = .ok (.ireturn, 1) := by decide +kernel
theorem dX4_come_0 : decode cX4_come 0 = .ok (.iload_n 1, 1) := by decide +kernel
theorem dX4_come_1 : decode cX4_come 1 = .ok (.iconst 0, 1) := by decide +kernel
theorem dX4_come_2 : decode cX4_come 2 = .ok (.aload_n 0, 1) := by decide +kernel
theorem dX4_come_3 : decode cX4_come 3 = .ok (.getfield 7, 3) := by decide +kernel
theorem dX4_come_6 : decode cX4_come 6 = .ok (.iconst 5, 1) := by decide +kernel
theorem dX4_come_7 : decode cX4_come 7 = .ok (.iaload, 1) := by decide +kernel
theorem dX4_come_8 : decode cX4_come 8 = .ok (.iconst 1, 1) := by decide +kernel
theorem dX4_come_9 : decode cX4_come 9 = .ok (.isub, 1) := by decide +kernel
theorem dX4_come_10 : decode cX4_come 10 = .ok (.invokestatic 35, 3) := by decide +kernel
theorem dX4_come_13 : decode cX4_come 13 = .ok (.ifCond .eq 15, 3) := by decide +kernel
theorem dX4_come_16 : decode cX4_come 16 = .ok (.iload_n 2, 1) := by decide +kernel
theorem dX4_come_17 : decode cX4_come 17 = .ok (.bipush 50, 2) := by decide +kernel
theorem dX4_come_19 : decode cX4_come 19 = .ok (.sipush 150, 3) := by decide +kernel
theorem dX4_come_22 : decode cX4_come 22 = .ok (.invokestatic 35, 3) := by decide +kernel
theorem dX4_come_25 : decode cX4_come 25 = .ok (.ifCond .ne 6, 3) := by decide +kernel
theorem dX4_come_28 : decode cX4_come 28 = .ok (.bipush (-2), 2) := by decide +kernel
theorem dX4_come_30 : decode cX4_come 30 = .ok (.ireturn, 1) := by decide +kernel
theorem dX4_come_31 : decode cX4_come 31 = .ok (.iconst 0, 1) := by decide +kernel
theorem dX4_come_32 : decode cX4_come 32 = .ok (.istore_n 3, 1) := by decide +kernel
theorem dX4_come_33 : decode cX4_come 33 = .ok (.iload_n 3, 1) := by decide +kernel
theorem dX4_come_34 : decode cX4_come 34 = .ok (.bipush 16, 2) := by decide +kernel
theorem dX4_come_36 : decode cX4_come 36 = .ok (.if_icmp .ge 19, 3) := by decide +kernel
theorem dX4_come_39 : decode cX4_come 39 = .ok (.aload_n 0, 1) := by decide +kernel
theorem dX4_come_40 : decode cX4_come 40 = .ok (.iload_n 3, 1) := by decide +kernel
theorem dX4_come_41 : decode cX4_come 41 = .ok (.iconst 0, 1) := by decide +kernel
theorem dX4_come_42 : decode cX4_come 42 = .ok (.invokevirtual 39, 3) := by decide +kernel
theorem dX4_come_45 : decode cX4_come 45 = .ok (.iconst 1, 1) := by decide +kernel
theorem dX4_come_46 : decode cX4_come 46 = .ok (.if_icmp .ne 9, 3) := by decide +kernel
theorem dX4_come_49 : decode cX4_come 49 = .ok (.iinc 3 1, 3) := by decide +kernel
theorem dX4_come_52 : decode cX4_come 52 = .ok (.goto (-19), 3) := by decide +kernel
theorem dX4_come_55 : decode cX4_come 55 = .ok (.iload_n 3, 1) := by decide +kernel
theorem dX4_come_56 : decode cX4_come 56 = .ok (.bipush 16, 2) := by decide +kernel
theorem dX4_come_58 : decode cX4_come 58 = .ok (.if_icmp .ne 6, 3) := by decide +kernel
theorem dX4_come_61 : decode cX4_come 61 = .ok (.bipush (-3), 2) := by decide +kernel
theorem dX4_come_63 : decode cX4_come 63 = .ok (.ireturn, 1) := by decide +kernel
theorem dX4_come_64 : decode cX4_come 64 = .ok (.aload_n 0, 1) := by decide +kernel
theorem dX4_come_65 : decode cX4_come 65 = .ok (.invokevirtual 98, 3) := by decide +kernel
theorem dX4_come_68 : decode cX4_come 68 = .ok (.aload_n 0, 1) := by decide +kernel
theorem dX4_come_69 : decode cX4_come 69 = .ok (.iload_n 3, 1) := by decide +kernel
theorem dX4_come_70 : decode cX4_come 70 = .ok (.bipush 100, 2) := by decide +kernel
theorem dX4_come_72 : decode cX4_come 72 = .ok (.iload_n 1, 1) := by decide +kernel
theorem dX4_come_73 : decode cX4_come 73 = .ok (.imul, 1) := by decide +kernel
theorem dX4_come_74 : decode cX4_come 74 = .ok (.iload_n 2, 1) := by decide +kernel
theorem dX4_come_75 : decode cX4_come 75 = .ok (.invokevirtual 101, 3) := by decide +kernel
theorem dX4_come_78 : decode cX4_come 78 = .ok (.iload_n 3, 1) := by decide +kernel
theorem dX4_come_79 : decode cX4_come 79 = .ok (.ireturn, 1) := by decide +kernel
theorem dX4_lay_0 : decode cX4_lay 0 = .ok (.iconst 0, 1) := by decide +kernel
theorem dX4_lay_1 : decode cX4_lay 1 = .ok (.istore 4, 2) := by decide +kernel
theorem dX4_lay_3 : decode cX4_lay 3 = .ok (.iload 4, 2) := by decide +kernel
theorem dX4_lay_5 : decode cX4_lay 5 = .ok (.bipush 9, 2) := by decide +kernel
theorem dX4_lay_7 : decode cX4_lay 7 = .ok (.if_icmp .ge 17, 3) := by decide +kernel
theorem dX4_lay_10 : decode cX4_lay 10 = .ok (.aload_n 0, 1) := by decide +kernel
theorem dX4_lay_11 : decode cX4_lay 11 = .ok (.iload_n 1, 1) := by decide +kernel
theorem dX4_lay_12 : decode cX4_lay 12 = .ok (.iload 4, 2) := by decide +kernel
theorem dX4_lay_14 : decode cX4_lay 14 = .ok (.iconst 0, 1) := by decide +kernel
theorem dX4_lay_15 : decode cX4_lay 15 = .ok (.invokevirtual 62, 3) := by decide +kernel
theorem dX4_lay_18 : decode cX4_lay 18 = .ok (.iinc 4 1, 3) := by decide +kernel
theorem dX4_lay_21 : decode cX4_lay 21 = .ok (.goto (-18), 3) := by decide +kernel
theorem dX4_lay_24 : decode cX4_lay 24 = .ok (.aload_n 0, 1) := by decide +kernel
theorem dX4_lay_25 : decode cX4_lay 25 = .ok (.iload_n 1, 1) := by decide +kernel
theorem dX4_lay_26 : decode cX4_lay 26 = .ok (.iconst 0, 1) := by decide +kernel
theorem dX4_lay_27 : decode cX4_lay 27 = .ok (.iconst 1, 1) := by decide +kernel
theorem dX4_lay_28 : decode cX4_lay 28 = .ok (.invokevirtual 62, 3) := by decide +kernel
theorem dX4_lay_31 : decode cX4_lay 31 = .ok (.aload_n 0, 1) := by decide +kernel
theorem dX4_lay_32 : decode cX4_lay 32 = .ok (.iload_n 1, 1) := by decide +kernel
theorem dX4_lay_33 : decode cX4_lay 33 = .ok (.iconst 1, 1) := by decide +kernel
theorem dX4_lay_34 : decode cX4_lay 34 = .ok (.iload_n 2, 1) := by decide +kernel
theorem dX4_lay_35 : decode cX4_lay 35 = .ok (.aload_n 0, 1) := by decide +kernel
theorem dX4_lay_36 : decode cX4_lay 36 = .ok (.invokevirtual 70, 3) := by decide +kernel
theorem dX4_lay_39 : decode cX4_lay 39 = .ok (.if_icmp .ge 7, 3) := by decide +kernel
theorem dX4_lay_42 : decode cX4_lay 42 = .ok (.iload_n 2, 1) := by decide +kernel
theorem dX4_lay_43 : decode cX4_lay 43 = .ok (.goto 9, 3) := by decide +kernel
theorem dX4_lay_46 : decode cX4_lay 46 = .ok (.aload_n 0, 1) := by decide +kernel
theorem dX4_lay_47 : decode cX4_lay 47 = .ok (.invokevirtual 70, 3) := by decide +kernel
theorem dX4_lay_50 : decode cX4_lay 50 = .ok (.iconst 1, 1) := by decide +kernel
theorem dX4_lay_51 : decode cX4_lay 51 = .ok (.isub, 1) := by decide +kernel
theorem dX4_lay_52 : decode cX4_lay 52 = .ok (.invokevirtual 62, 3) := by decide +kernel
theorem dX4_lay_55 : decode cX4_lay 55 = .ok (.aload_n 0, 1) := by decide +kernel
theorem dX4_lay_56 : decode cX4_lay 56 = .ok (.iload_n 1, 1) := by decide +kernel
theorem dX4_lay_57 : decode cX4_lay 57 = .ok (.iconst 2, 1) := by decide +kernel
theorem dX4_lay_58 : decode cX4_lay 58 = .ok (.iload_n 3, 1) := by decide +kernel
theorem dX4_lay_59 : decode cX4_lay 59 = .ok (.invokevirtual 62, 3) := by decide +kernel
theorem dX4_lay_62 : decode cX4_lay 62 = .ok (.aload_n 0, 1) := by decide +kernel
theorem dX4_lay_63 : decode cX4_lay 63 = .ok (.iload_n 1, 1) := by decide +kernel
theorem dX4_lay_64 : decode cX4_lay 64 = .ok (.iconst 3, 1) := by decide +kernel
theorem dX4_lay_65 : decode cX4_lay 65 = .ok (.iconst 1, 1) := by decide +kernel
theorem dX4_lay_66 : decode cX4_lay 66 = .ok (.invokevirtual 62, 3) := by decide +kernel
theorem dX4_lay_69 : decode cX4_lay 69 = .ok (.return_, 1) := by decide +kernel
theorem dX4_connect_0 : decode cX4_connect 0 = .ok (.aload_n 0, 1) := by decide +kernel
theorem dX4_connect_1 : decode cX4_connect 1 = .ok (.iload_n 1, 1) := by decide +kernel
theorem dX4_connect_2 : decode cX4_connect 2 = .ok (.bipush 8, 2) := by decide +kernel
theorem dX4_connect_4 : decode cX4_connect 4 = .ok (.iload_n 3, 1) := by decide +kernel
theorem dX4_connect_5 : decode cX4_connect 5 = .ok (.ifCond .eq 17, 3) := by decide +kernel
theorem dX4_connect_8 : decode cX4_connect 8 = .ok (.aload_n 0, 1) := by decide +kernel
theorem dX4_connect_9 : decode cX4_connect 9 = .ok (.iload_n 1, 1) := by decide +kernel
theorem dX4_connect_10 : decode cX4_connect 10 = .ok (.bipush 8, 2) := by decide +kernel
theorem dX4_connect_12 : decode cX4_connect 12 = .ok (.invokevirtual 39, 3) := by decide +kernel
theorem dX4_connect_15 : decode cX4_connect 15 = .ok (.iconst 1, 1) := by decide +kernel
theorem dX4_connect_16 : decode cX4_connect 16 = .ok (.iload_n 2, 1) := by decide +kernel
theorem dX4_connect_17 : decode cX4_connect 17 = .ok (.ishl, 1) := by decide +kernel
theorem dX4_connect_18 : decode cX4_connect 18 = .ok (.ior, 1) := by decide +kernel
theorem dX4_connect_19 : decode cX4_connect 19 = .ok (.goto 16, 3) := by decide +kernel
theorem dX4_connect_22 : decode cX4_connect 22 = .ok (.aload_n 0, 1) := by decide +kernel
theorem dX4_connect_23 : decode cX4_connect 23 = .ok (.iload_n 1, 1) := by decide +kernel
theorem dX4_connect_24 : decode cX4_connect 24 = .ok (.bipush 8, 2) := by decide +kernel
theorem dX4_connect_26 : decode cX4_connect 26 = .ok (.invokevirtual 39, 3) := by decide +kernel
theorem dX4_connect_29 : decode cX4_connect 29 = .ok (.iconst 1, 1) := by decide +kernel
theorem dX4_connect_30 : decode cX4_connect 30 = .ok (.iload_n 2, 1) := by decide +kernel
theorem dX4_connect_31 : decode cX4_connect 31 = .ok (.ishl, 1) := by decide +kernel
theorem dX4_connect_32 : decode cX4_connect 32 = .ok (.iconst (-1), 1) := by decide +kernel
theorem dX4_connect_33 : decode cX4_connect 33 = .ok (.ixor, 1) := by decide +kernel
theorem dX4_connect_34 : decode cX4_connect 34 = .ok (.iand, 1) := by decide +kernel
theorem dX4_connect_35 : decode cX4_connect 35 = .ok (.invokevirtual 62, 3) := by decide +kernel
theorem dX4_connect_38 : decode cX4_connect 38 = .ok (.aload_n 0, 1) := by decide +kernel
theorem dX4_connect_39 : decode cX4_connect 39 = .ok (.iload_n 2, 1) := by decide +kernel
theorem dX4_connect_40 : decode cX4_connect 40 = .ok (.bipush 8, 2) := by decide +kernel
theorem dX4_connect_42 : decode cX4_connect 42 = .ok (.iload_n 3, 1) := by decide +kernel
theorem dX4_connect_43 : decode cX4_connect 43 = .ok (.ifCond .eq 17, 3) := by decide +kernel
theorem dX4_connect_46 : decode cX4_connect 46 = .ok (.aload_n 0, 1) := by decide +kernel
theorem dX4_connect_47 : decode cX4_connect 47 = .ok (.iload_n 2, 1) := by decide +kernel
theorem dX4_connect_48 : decode cX4_connect 48 = .ok (.bipush 8, 2) := by decide +kernel
theorem dX4_connect_50 : decode cX4_connect 50 = .ok (.invokevirtual 39, 3) := by decide +kernel
theorem dX4_connect_53 : decode cX4_connect 53 = .ok (.iconst 1, 1) := by decide +kernel
theorem dX4_connect_54 : decode cX4_connect 54 = .ok (.iload_n 1, 1) := by decide +kernel
theorem dX4_connect_55 : decode cX4_connect 55 = .ok (.ishl, 1) := by decide +kernel
theorem dX4_connect_56 : decode cX4_connect 56 = .ok (.ior, 1) := by decide +kernel
theorem dX4_connect_57 : decode cX4_connect 57 = .ok (.goto 16, 3) := by decide +kernel
theorem dX4_connect_60 : decode cX4_connect 60 = .ok (.aload_n 0, 1) := by decide +kernel
theorem dX4_connect_61 : decode cX4_connect 61 = .ok (.iload_n 2, 1) := by decide +kernel
theorem dX4_connect_62 : decode cX4_connect 62 = .ok (.bipush 8, 2) := by decide +kernel
theorem dX4_connect_64 : decode cX4_connect 64 = .ok (.invokevirtual 39, 3) := by decide +kernel
theorem dX4_connect_67 : decode cX4_connect 67 = .ok (.iconst 1, 1) := by decide +kernel
theorem dX4_connect_68 : decode cX4_connect 68 = .ok (.iload_n 1, 1) := by decide +kernel
theorem dX4_connect_69 : decode cX4_connect 69 = .ok (.ishl, 1) := by decide +kernel
theorem dX4_connect_70 : decode cX4_connect 70 = .ok (.iconst (-1), 1) := by decide +kernel
theorem dX4_connect_71 : decode cX4_connect 71 = .ok (.ixor, 1) := by decide +kernel
theorem dX4_connect_72 : decode cX4_connect 72 = .ok (.iand, 1) := by decide +kernel
theorem dX4_connect_73 : decode cX4_connect 73 = .ok (.invokevirtual 62, 3) := by decide +kernel
theorem dX4_connect_76 : decode cX4_connect 76 = .ok (.return_, 1) := by decide +kernel
theorem dX4_goAway_0 : decode cX4_goAway 0 = .ok (.aload_n 0, 1) := by decide +kernel
theorem dX4_goAway_1 : decode cX4_goAway 1 = .ok (.iload_n 1, 1) := by decide +kernel
theorem dX4_goAway_2 : decode cX4_goAway 2 = .ok (.invokevirtual 104, 3) := by decide +kernel
theorem dX4_goAway_5 : decode cX4_goAway 5 = .ok (.ifCond .ne 5, 3) := by decide +kernel
theorem dX4_goAway_8 : decode cX4_goAway 8 = .ok (.iconst (-1), 1) := by decide +kernel
theorem dX4_goAway_9 : decode cX4_goAway 9 = .ok (.ireturn, 1) := by decide +kernel
theorem dX4_goAway_10 : decode cX4_goAway 10 = .ok (.aload_n 0, 1) := by decide +kernel
theorem dX4_goAway_11 : decode cX4_goAway 11 = .ok (.invokevirtual 98, 3) := by decide +kernel
theorem dX4_goAway_14 : decode cX4_goAway 14 = .ok (.aload_n 0, 1) := by decide +kernel
theorem dX4_goAway_15 : decode cX4_goAway 15 = .ok (.iload_n 1, 1) := by decide +kernel
theorem dX4_goAway_16 : decode cX4_goAway 16 = .ok (.bipush 8, 2) := by decide +kernel
theorem dX4_goAway_18 : decode cX4_goAway 18 = .ok (.invokevirtual 39, 3) := by decide +kernel
theorem dX4_goAway_21 : decode cX4_goAway 21 = .ok (.invokestatic 55, 3) := by decide +kernel
theorem dX4_goAway_24 : decode cX4_goAway 24 = .ok (.istore_n 2, 1) := by decide +kernel
theorem dX4_goAway_25 : decode cX4_goAway 25 = .ok (.iconst 0, 1) := by decide +kernel
theorem dX4_goAway_26 : decode cX4_goAway 26 = .ok (.istore_n 3, 1) := by decide +kernel
theorem dX4_goAway_27 : decode cX4_goAway 27 = .ok (.iload_n 3, 1) := by decide +kernel
theorem dX4_goAway_28 : decode cX4_goAway 28 = .ok (.bipush 16, 2) := by decide +kernel
theorem dX4_goAway_30 : decode cX4_goAway 30 = .ok (.if_icmp .ge 29, 3) := by decide +kernel
theorem dX4_goAway_33 : decode cX4_goAway 33 = .ok (.aload_n 0, 1) := by decide +kernel
theorem dX4_goAway_34 : decode cX4_goAway 34 = .ok (.iload_n 3, 1) := by decide +kernel
theorem dX4_goAway_35 : decode cX4_goAway 35 = .ok (.bipush 8, 2) := by decide +kernel
theorem dX4_goAway_37 : decode cX4_goAway 37 = .ok (.aload_n 0, 1) := by decide +kernel
theorem dX4_goAway_38 : decode cX4_goAway 38 = .ok (.iload_n 3, 1) := by decide +kernel
theorem dX4_goAway_39 : decode cX4_goAway 39 = .ok (.bipush 8, 2) := by decide +kernel
theorem dX4_goAway_41 : decode cX4_goAway 41 = .ok (.invokevirtual 39, 3) := by decide +kernel
theorem dX4_goAway_44 : decode cX4_goAway 44 = .ok (.iconst 1, 1) := by decide +kernel
theorem dX4_goAway_45 : decode cX4_goAway 45 = .ok (.iload_n 1, 1) := by decide +kernel
theorem dX4_goAway_46 : decode cX4_goAway 46 = .ok (.ishl, 1) := by decide +kernel
theorem dX4_goAway_47 : decode cX4_goAway 47 = .ok (.iconst (-1), 1) := by decide +kernel
theorem dX4_goAway_48 : decode cX4_goAway 48 = .ok (.ixor, 1) := by decide +kernel
theorem dX4_goAway_49 : decode cX4_goAway 49 = .ok (.iand, 1) := by decide +kernel
theorem dX4_goAway_50 : decode cX4_goAway 50 = .ok (.invokevirtual 62, 3) := by decide +kernel
theorem dX4_goAway_53 : decode cX4_goAway 53 = .ok (.iinc 3 1, 3) := by decide +kernel
theorem dX4_goAway_56 : decode cX4_goAway 56 = .ok (.goto (-29), 3) := by decide +kernel
theorem dX4_goAway_59 : decode cX4_goAway 59 = .ok (.aload_n 0, 1) := by decide +kernel
theorem dX4_goAway_60 : decode cX4_goAway 60 = .ok (.iload_n 1, 1) := by decide +kernel
theorem dX4_goAway_61 : decode cX4_goAway 61 = .ok (.iconst 0, 1) := by decide +kernel
theorem dX4_goAway_62 : decode cX4_goAway 62 = .ok (.iconst 0, 1) := by decide +kernel
theorem dX4_goAway_63 : decode cX4_goAway 63 = .ok (.invokevirtual 62, 3) := by decide +kernel
theorem dX4_goAway_66 : decode cX4_goAway 66 = .ok (.aload_n 0, 1) := by decide +kernel
theorem dX4_goAway_67 : decode cX4_goAway 67 = .ok (.iload_n 1, 1) := by decide +kernel
theorem dX4_goAway_68 : decode cX4_goAway 68 = .ok (.bipush 8, 2) := by decide +kernel
theorem dX4_goAway_70 : decode cX4_goAway 70 = .ok (.iconst 0, 1) := by decide +kernel
theorem dX4_goAway_71 : decode cX4_goAway 71 = .ok (.invokevirtual 62, 3) := by decide +kernel
theorem dX4_goAway_74 : decode cX4_goAway 74 = .ok (.iload_n 2, 1) := by decide +kernel
theorem dX4_goAway_75 : decode cX4_goAway 75 = .ok (.ireturn, 1) := by decide +kernel
theorem dX4_turn_0 : decode cX4_turn 0 = .ok (.aload_n 0, 1) := by decide +kernel
theorem dX4_turn_1 : decode cX4_turn 1 = .ok (.iload_n 1, 1) := by decide +kernel
theorem dX4_turn_2 : decode cX4_turn 2 = .ok (.invokevirtual 104, 3) := by decide +kernel
theorem dX4_turn_5 : decode cX4_turn 5 = .ok (.ifCond .ne 5, 3) := by decide +kernel
theorem dX4_turn_8 : decode cX4_turn 8 = .ok (.iconst (-1), 1) := by decide +kernel
theorem dX4_turn_9 : decode cX4_turn 9 = .ok (.ireturn, 1) := by decide +kernel
theorem dX4_turn_10 : decode cX4_turn 10 = .ok (.aload_n 0, 1) := by decide +kernel
theorem dX4_turn_11 : decode cX4_turn 11 = .ok (.iload_n 1, 1) := by decide +kernel
theorem dX4_turn_12 : decode cX4_turn 12 = .ok (.invokevirtual 58, 3) := by decide +kernel
theorem dX4_turn_15 : decode cX4_turn 15 = .ok (.iload_n 2, 1) := by decide +kernel
theorem dX4_turn_16 : decode cX4_turn 16 = .ok (.if_icmp .ne 6, 3) := by decide +kernel
theorem dX4_turn_19 : decode cX4_turn 19 = .ok (.bipush (-5), 2) := by decide +kernel
theorem dX4_turn_21 : decode cX4_turn 21 = .ok (.ireturn, 1) := by decide +kernel
theorem dX4_turn_22 : decode cX4_turn 22 = .ok (.aload_n 0, 1) := by decide +kernel
theorem dX4_turn_23 : decode cX4_turn 23 = .ok (.invokevirtual 98, 3) := by decide +kernel
theorem dX4_turn_26 : decode cX4_turn 26 = .ok (.aload_n 0, 1) := by decide +kernel
theorem dX4_turn_27 : decode cX4_turn 27 = .ok (.iload_n 1, 1) := by decide +kernel
theorem dX4_turn_28 : decode cX4_turn 28 = .ok (.iconst 3, 1) := by decide +kernel
theorem dX4_turn_29 : decode cX4_turn 29 = .ok (.iload_n 2, 1) := by decide +kernel
theorem dX4_turn_30 : decode cX4_turn 30 = .ok (.ifCond .eq 7, 3) := by decide +kernel
theorem dX4_turn_33 : decode cX4_turn 33 = .ok (.iconst 1, 1) := by decide +kernel
theorem dX4_turn_34 : decode cX4_turn 34 = .ok (.goto 4, 3) := by decide +kernel
theorem dX4_turn_37 : decode cX4_turn 37 = .ok (.iconst 0, 1) := by decide +kernel
theorem dX4_turn_38 : decode cX4_turn 38 = .ok (.invokevirtual 62, 3) := by decide +kernel
theorem dX4_turn_41 : decode cX4_turn 41 = .ok (.aload_n 0, 1) := by decide +kernel
theorem dX4_turn_42 : decode cX4_turn 42 = .ok (.invokevirtual 86, 3) := by decide +kernel
theorem dX4_turn_45 : decode cX4_turn 45 = .ok (.invokestatic 55, 3) := by decide +kernel
theorem dX4_turn_48 : decode cX4_turn 48 = .ok (.ireturn, 1) := by decide +kernel
theorem dX4_link_0 : decode cX4_link 0 = .ok (.aload_n 0, 1) := by decide +kernel
theorem dX4_link_1 : decode cX4_link 1 = .ok (.iload_n 1, 1) := by decide +kernel
theorem dX4_link_2 : decode cX4_link 2 = .ok (.invokevirtual 104, 3) := by decide +kernel
theorem dX4_link_5 : decode cX4_link 5 = .ok (.ifCond .eq 11, 3) := by decide +kernel
theorem dX4_link_8 : decode cX4_link 8 = .ok (.aload_n 0, 1) := by decide +kernel
theorem dX4_link_9 : decode cX4_link 9 = .ok (.iload_n 2, 1) := by decide +kernel
theorem dX4_link_10 : decode cX4_link 10 = .ok (.invokevirtual 104, 3) := by decide +kernel
theorem dX4_link_13 : decode cX4_link 13 = .ok (.ifCond .ne 5, 3) := by decide +kernel
theorem dX4_link_16 : decode cX4_link 16 = .ok (.iconst (-1), 1) := by decide +kernel
theorem dX4_link_17 : decode cX4_link 17 = .ok (.ireturn, 1) := by decide +kernel
theorem dX4_link_18 : decode cX4_link 18 = .ok (.iload_n 1, 1) := by decide +kernel
theorem dX4_link_19 : decode cX4_link 19 = .ok (.iload_n 2, 1) := by decide +kernel
theorem dX4_link_20 : decode cX4_link 20 = .ok (.if_icmp .ne 6, 3) := by decide +kernel
theorem dX4_link_23 : decode cX4_link 23 = .ok (.bipush (-2), 2) := by decide +kernel
theorem dX4_link_25 : decode cX4_link 25 = .ok (.ireturn, 1) := by decide +kernel
theorem dX4_link_26 : decode cX4_link 26 = .ok (.aload_n 0, 1) := by decide +kernel
theorem dX4_link_27 : decode cX4_link 27 = .ok (.iload_n 1, 1) := by decide +kernel
theorem dX4_link_28 : decode cX4_link 28 = .ok (.bipush 8, 2) := by decide +kernel
theorem dX4_link_30 : decode cX4_link 30 = .ok (.invokevirtual 39, 3) := by decide +kernel
theorem dX4_link_33 : decode cX4_link 33 = .ok (.iload_n 2, 1) := by decide +kernel
theorem dX4_link_34 : decode cX4_link 34 = .ok (.invokestatic 66, 3) := by decide +kernel
theorem dX4_link_37 : decode cX4_link 37 = .ok (.iload_n 3, 1) := by decide +kernel
theorem dX4_link_38 : decode cX4_link 38 = .ok (.if_icmp .ne 6, 3) := by decide +kernel
theorem dX4_link_41 : decode cX4_link 41 = .ok (.bipush (-5), 2) := by decide +kernel
theorem dX4_link_43 : decode cX4_link 43 = .ok (.ireturn, 1) := by decide +kernel
theorem dX4_link_44 : decode cX4_link 44 = .ok (.aload_n 0, 1) := by decide +kernel
theorem dX4_link_45 : decode cX4_link 45 = .ok (.invokevirtual 98, 3) := by decide +kernel
theorem dX4_link_48 : decode cX4_link 48 = .ok (.aload_n 0, 1) := by decide +kernel
theorem dX4_link_49 : decode cX4_link 49 = .ok (.iload_n 1, 1) := by decide +kernel
theorem dX4_link_50 : decode cX4_link 50 = .ok (.iload_n 2, 1) := by decide +kernel
theorem dX4_link_51 : decode cX4_link 51 = .ok (.iload_n 3, 1) := by decide +kernel
theorem dX4_link_52 : decode cX4_link 52 = .ok (.invokevirtual 107, 3) := by decide +kernel
theorem dX4_link_55 : decode cX4_link 55 = .ok (.aload_n 0, 1) := by decide +kernel
theorem dX4_link_56 : decode cX4_link 56 = .ok (.invokevirtual 111, 3) := by decide +kernel
theorem dX4_link_59 : decode cX4_link 59 = .ok (.ireturn, 1) := by decide +kernel
theorem dX4_tune_0 : decode cX4_tune 0 = .ok (.aload_n 0, 1) := by decide +kernel
theorem dX4_tune_1 : decode cX4_tune 1 = .ok (.iload_n 1, 1) := by decide +kernel
theorem dX4_tune_2 : decode cX4_tune 2 = .ok (.invokevirtual 104, 3) := by decide +kernel
theorem dX4_tune_5 : decode cX4_tune 5 = .ok (.ifCond .ne 5, 3) := by decide +kernel
theorem dX4_tune_8 : decode cX4_tune 8 = .ok (.iconst (-1), 1) := by decide +kernel
theorem dX4_tune_9 : decode cX4_tune 9 = .ok (.ireturn, 1) := by decide +kernel
theorem dX4_tune_10 : decode cX4_tune 10 = .ok (.iload_n 2, 1) := by decide +kernel
theorem dX4_tune_11 : decode cX4_tune 11 = .ok (.iconst 0, 1) := by decide +kernel
theorem dX4_tune_12 : decode cX4_tune 12 = .ok (.aload_n 0, 1) := by decide +kernel
theorem dX4_tune_13 : decode cX4_tune 13 = .ok (.getfield 7, 3) := by decide +kernel
theorem dX4_tune_16 : decode cX4_tune 16 = .ok (.iconst 5, 1) := by decide +kernel
theorem dX4_tune_17 : decode cX4_tune 17 = .ok (.iaload, 1) := by decide +kernel
theorem dX4_tune_18 : decode cX4_tune 18 = .ok (.iconst 1, 1) := by decide +kernel
theorem dX4_tune_19 : decode cX4_tune 19 = .ok (.isub, 1) := by decide +kernel
theorem dX4_tune_20 : decode cX4_tune 20 = .ok (.invokestatic 35, 3) := by decide +kernel
theorem dX4_tune_23 : decode cX4_tune 23 = .ok (.ifCond .eq 15, 3) := by decide +kernel
theorem dX4_tune_26 : decode cX4_tune 26 = .ok (.iload_n 3, 1) := by decide +kernel
theorem dX4_tune_27 : decode cX4_tune 27 = .ok (.bipush 50, 2) := by decide +kernel
theorem dX4_tune_29 : decode cX4_tune 29 = .ok (.sipush 150, 3) := by decide +kernel
theorem dX4_tune_32 : decode cX4_tune 32 = .ok (.invokestatic 35, 3) := by decide +kernel
theorem dX4_tune_35 : decode cX4_tune 35 = .ok (.ifCond .ne 6, 3) := by decide +kernel
theorem dX4_tune_38 : decode cX4_tune 38 = .ok (.bipush (-2), 2) := by decide +kernel
theorem dX4_tune_40 : decode cX4_tune 40 = .ok (.ireturn, 1) := by decide +kernel
theorem dX4_tune_41 : decode cX4_tune 41 = .ok (.aload_n 0, 1) := by decide +kernel
theorem dX4_tune_42 : decode cX4_tune 42 = .ok (.invokevirtual 98, 3) := by decide +kernel
theorem dX4_tune_45 : decode cX4_tune 45 = .ok (.aload_n 0, 1) := by decide +kernel
theorem dX4_tune_46 : decode cX4_tune 46 = .ok (.iload_n 1, 1) := by decide +kernel
theorem dX4_tune_47 : decode cX4_tune 47 = .ok (.iconst 1, 1) := by decide +kernel
theorem dX4_tune_48 : decode cX4_tune 48 = .ok (.invokevirtual 39, 3) := by decide +kernel
theorem dX4_tune_51 : decode cX4_tune 51 = .ok (.istore 4, 2) := by decide +kernel
theorem dX4_tune_53 : decode cX4_tune 53 = .ok (.aload_n 0, 1) := by decide +kernel
theorem dX4_tune_54 : decode cX4_tune 54 = .ok (.iload_n 1, 1) := by decide +kernel
theorem dX4_tune_55 : decode cX4_tune 55 = .ok (.iconst 1, 1) := by decide +kernel
theorem dX4_tune_56 : decode cX4_tune 56 = .ok (.bipush 100, 2) := by decide +kernel
theorem dX4_tune_58 : decode cX4_tune 58 = .ok (.iload_n 2, 1) := by decide +kernel
theorem dX4_tune_59 : decode cX4_tune 59 = .ok (.imul, 1) := by decide +kernel
theorem dX4_tune_60 : decode cX4_tune 60 = .ok (.invokevirtual 62, 3) := by decide +kernel
theorem dX4_tune_63 : decode cX4_tune 63 = .ok (.aload_n 0, 1) := by decide +kernel
theorem dX4_tune_64 : decode cX4_tune 64 = .ok (.iload_n 1, 1) := by decide +kernel
theorem dX4_tune_65 : decode cX4_tune 65 = .ok (.iconst 2, 1) := by decide +kernel
theorem dX4_tune_66 : decode cX4_tune 66 = .ok (.iload_n 3, 1) := by decide +kernel
theorem dX4_tune_67 : decode cX4_tune 67 = .ok (.invokevirtual 62, 3) := by decide +kernel
theorem dX4_tune_70 : decode cX4_tune 70 = .ok (.iload 4, 2) := by decide +kernel
theorem dX4_tune_72 : decode cX4_tune 72 = .ok (.ireturn, 1) := by decide +kernel
theorem dX4_set_0 : decode cX4_set 0 = .ok (.iload_n 1, 1) := by decide +kernel
theorem dX4_set_1 : decode cX4_set 1 = .ok (.iconst 0, 1) := by decide +kernel
theorem dX4_set_2 : decode cX4_set 2 = .ok (.iconst 2, 1) := by decide +kernel
theorem dX4_set_3 : decode cX4_set 3 = .ok (.invokestatic 35, 3) := by decide +kernel
theorem dX4_set_6 : decode cX4_set 6 = .ok (.ifCond .ne 5, 3) := by decide +kernel
theorem dX4_set_9 : decode cX4_set 9 = .ok (.iconst (-1), 1) := by decide +kernel
theorem dX4_set_10 : decode cX4_set 10 = .ok (.ireturn, 1) := by decide +kernel
theorem dX4_set_11 : decode cX4_set 11 = .ok (.iload_n 1, 1) := by decide +kernel
theorem dX4_set_12 : decode cX4_set 12 = .ok (.ifCond .ne 15, 3) := by decide +kernel
theorem dX4_set_15 : decode cX4_set 15 = .ok (.iload_n 2, 1) := by decide +kernel
theorem dX4_set_16 : decode cX4_set 16 = .ok (.bipush 10, 2) := by decide +kernel
theorem dX4_set_18 : decode cX4_set 18 = .ok (.sipush 200, 3) := by decide +kernel
theorem dX4_set_21 : decode cX4_set 21 = .ok (.invokestatic 35, 3) := by decide +kernel
theorem dX4_set_24 : decode cX4_set 24 = .ok (.goto 20, 3) := by decide +kernel
theorem dX4_set_27 : decode cX4_set 27 = .ok (.iload_n 2, 1) := by decide +kernel
theorem dX4_set_28 : decode cX4_set 28 = .ok (.iconst 0, 1) := by decide +kernel
theorem dX4_set_29 : decode cX4_set 29 = .ok (.iload_n 1, 1) := by decide +kernel
theorem dX4_set_30 : decode cX4_set 30 = .ok (.iconst 1, 1) := by decide +kernel
theorem dX4_set_31 : decode cX4_set 31 = .ok (.if_icmp .ne 8, 3) := by decide +kernel
theorem dX4_set_34 : decode cX4_set 34 = .ok (.bipush 100, 2) := by decide +kernel
theorem dX4_set_36 : decode cX4_set 36 = .ok (.goto 5, 3) := by decide +kernel
theorem dX4_set_39 : decode cX4_set 39 = .ok (.bipush 99, 2) := by decide +kernel
theorem dX4_set_41 : decode cX4_set 41 = .ok (.invokestatic 35, 3) := by decide +kernel
theorem dX4_set_44 : decode cX4_set 44 = .ok (.istore_n 3, 1) := by decide +kernel
theorem dX4_set_45 : decode cX4_set 45 = .ok (.iload_n 3, 1) := by decide +kernel
theorem dX4_set_46 : decode cX4_set 46 = .ok (.ifCond .ne 6, 3) := by decide +kernel
theorem dX4_set_49 : decode cX4_set 49 = .ok (.bipush (-2), 2) := by decide +kernel
theorem dX4_set_51 : decode cX4_set 51 = .ok (.ireturn, 1) := by decide +kernel
theorem dX4_set_52 : decode cX4_set 52 = .ok (.aload_n 0, 1) := by decide +kernel
theorem dX4_set_53 : decode cX4_set 53 = .ok (.getfield 7, 3) := by decide +kernel
theorem dX4_set_56 : decode cX4_set 56 = .ok (.iconst 5, 1) := by decide +kernel
theorem dX4_set_57 : decode cX4_set 57 = .ok (.iload_n 1, 1) := by decide +kernel
theorem dX4_set_58 : decode cX4_set 58 = .ok (.iadd, 1) := by decide +kernel
theorem dX4_set_59 : decode cX4_set 59 = .ok (.iaload, 1) := by decide +kernel
theorem dX4_set_60 : decode cX4_set 60 = .ok (.istore 4, 2) := by decide +kernel
theorem dX4_set_62 : decode cX4_set 62 = .ok (.iload 4, 2) := by decide +kernel
theorem dX4_set_64 : decode cX4_set 64 = .ok (.iload_n 2, 1) := by decide +kernel
theorem dX4_set_65 : decode cX4_set 65 = .ok (.if_icmp .ne 6, 3) := by decide +kernel
theorem dX4_set_68 : decode cX4_set 68 = .ok (.bipush (-5), 2) := by decide +kernel
theorem dX4_set_70 : decode cX4_set 70 = .ok (.ireturn, 1) := by decide +kernel
theorem dX4_set_71 : decode cX4_set 71 = .ok (.aload_n 0, 1) := by decide +kernel
theorem dX4_set_72 : decode cX4_set 72 = .ok (.invokevirtual 98, 3) := by decide +kernel
theorem dX4_set_75 : decode cX4_set 75 = .ok (.aload_n 0, 1) := by decide +kernel
theorem dX4_set_76 : decode cX4_set 76 = .ok (.getfield 7, 3) := by decide +kernel
theorem dX4_set_79 : decode cX4_set 79 = .ok (.iconst 5, 1) := by decide +kernel
theorem dX4_set_80 : decode cX4_set 80 = .ok (.iload_n 1, 1) := by decide +kernel
theorem dX4_set_81 : decode cX4_set 81 = .ok (.iadd, 1) := by decide +kernel
theorem dX4_set_82 : decode cX4_set 82 = .ok (.iload_n 2, 1) := by decide +kernel
theorem dX4_set_83 : decode cX4_set 83 = .ok (.iastore, 1) := by decide +kernel
theorem dX4_set_84 : decode cX4_set 84 = .ok (.iconst 0, 1) := by decide +kernel
theorem dX4_set_85 : decode cX4_set 85 = .ok (.istore 5, 2) := by decide +kernel
theorem dX4_set_87 : decode cX4_set 87 = .ok (.iload 5, 2) := by decide +kernel
theorem dX4_set_89 : decode cX4_set 89 = .ok (.bipush 16, 2) := by decide +kernel
theorem dX4_set_91 : decode cX4_set 91 = .ok (.if_icmp .ge 46, 3) := by decide +kernel
theorem dX4_set_94 : decode cX4_set 94 = .ok (.aload_n 0, 1) := by decide +kernel
theorem dX4_set_95 : decode cX4_set 95 = .ok (.iload 5, 2) := by decide +kernel
theorem dX4_set_97 : decode cX4_set 97 = .ok (.iconst 1, 1) := by decide +kernel
theorem dX4_set_98 : decode cX4_set 98 = .ok (.aload_n 0, 1) := by decide +kernel
theorem dX4_set_99 : decode cX4_set 99 = .ok (.iload 5, 2) := by decide +kernel
theorem dX4_set_101 : decode cX4_set 101 = .ok (.iconst 1, 1) := by decide +kernel
theorem dX4_set_102 : decode cX4_set 102 = .ok (.invokevirtual 39, 3) := by decide +kernel
theorem dX4_set_105 : decode cX4_set 105 = .ok (.aload_n 0, 1) := by decide +kernel
theorem dX4_set_106 : decode cX4_set 106 = .ok (.invokevirtual 70, 3) := by decide +kernel
theorem dX4_set_109 : decode cX4_set 109 = .ok (.if_icmp .ge 13, 3) := by decide +kernel
theorem dX4_set_112 : decode cX4_set 112 = .ok (.aload_n 0, 1) := by decide +kernel
theorem dX4_set_113 : decode cX4_set 113 = .ok (.iload 5, 2) := by decide +kernel
theorem dX4_set_115 : decode cX4_set 115 = .ok (.iconst 1, 1) := by decide +kernel
theorem dX4_set_116 : decode cX4_set 116 = .ok (.invokevirtual 39, 3) := by decide +kernel
theorem dX4_set_119 : decode cX4_set 119 = .ok (.goto 9, 3) := by decide +kernel
theorem dX4_set_122 : decode cX4_set 122 = .ok (.aload_n 0, 1) := by decide +kernel
theorem dX4_set_123 : decode cX4_set 123 = .ok (.invokevirtual 70, 3) := by decide +kernel
theorem dX4_set_126 : decode cX4_set 126 = .ok (.iconst 1, 1) := by decide +kernel
theorem dX4_set_127 : decode cX4_set 127 = .ok (.isub, 1) := by decide +kernel
theorem dX4_set_128 : decode cX4_set 128 = .ok (.invokevirtual 62, 3) := by decide +kernel
theorem dX4_set_131 : decode cX4_set 131 = .ok (.iinc 5 1, 3) := by decide +kernel
theorem dX4_set_134 : decode cX4_set 134 = .ok (.goto (-47), 3) := by decide +kernel
theorem dX4_set_137 : decode cX4_set 137 = .ok (.iload 4, 2) := by decide +kernel
theorem dX4_set_139 : decode cX4_set 139 = .ok (.ireturn, 1) := by decide +kernel
theorem dX4_pass_0 : decode cX4_pass 0 = .ok (.iload_n 1, 1) := by decide +kernel
theorem dX4_pass_1 : decode cX4_pass 1 = .ok (.iconst 1, 1) := by decide +kernel
theorem dX4_pass_2 : decode cX4_pass 2 = .ok (.sipush 999, 3) := by decide +kernel
theorem dX4_pass_5 : decode cX4_pass 5 = .ok (.invokestatic 35, 3) := by decide +kernel
theorem dX4_pass_8 : decode cX4_pass 8 = .ok (.ifCond .ne 6, 3) := by decide +kernel
theorem dX4_pass_11 : decode cX4_pass 11 = .ok (.bipush (-2), 2) := by decide +kernel
theorem dX4_pass_13 : decode cX4_pass 13 = .ok (.ireturn, 1) := by decide +kernel
theorem dX4_pass_14 : decode cX4_pass 14 = .ok (.aload_n 0, 1) := by decide +kernel
theorem dX4_pass_15 : decode cX4_pass 15 = .ok (.getfield 7, 3) := by decide +kernel
theorem dX4_pass_18 : decode cX4_pass 18 = .ok (.iconst 0, 1) := by decide +kernel
theorem dX4_pass_19 : decode cX4_pass 19 = .ok (.iaload, 1) := by decide +kernel
theorem dX4_pass_20 : decode cX4_pass 20 = .ok (.iload_n 1, 1) := by decide +kernel
theorem dX4_pass_21 : decode cX4_pass 21 = .ok (.iadd, 1) := by decide +kernel
theorem dX4_pass_22 : decode cX4_pass 22 = .ok (.ldc 114, 2) := by decide +kernel
theorem dX4_pass_24 : decode cX4_pass 24 = .ok (.if_icmp .le 6, 3) := by decide +kernel
theorem dX4_pass_27 : decode cX4_pass 27 = .ok (.bipush (-3), 2) := by decide +kernel
theorem dX4_pass_29 : decode cX4_pass 29 = .ok (.ireturn, 1) := by decide +kernel
theorem dX4_pass_30 : decode cX4_pass 30 = .ok (.aload_n 0, 1) := by decide +kernel
theorem dX4_pass_31 : decode cX4_pass 31 = .ok (.invokevirtual 98, 3) := by decide +kernel
theorem dX4_pass_34 : decode cX4_pass 34 = .ok (.aload_n 0, 1) := by decide +kernel
theorem dX4_pass_35 : decode cX4_pass 35 = .ok (.getfield 7, 3) := by decide +kernel
theorem dX4_pass_38 : decode cX4_pass 38 = .ok (.iconst 1, 1) := by decide +kernel
theorem dX4_pass_39 : decode cX4_pass 39 = .ok (.iaload, 1) := by decide +kernel
theorem dX4_pass_40 : decode cX4_pass 40 = .ok (.istore_n 2, 1) := by decide +kernel
theorem dX4_pass_41 : decode cX4_pass 41 = .ok (.aload_n 0, 1) := by decide +kernel
theorem dX4_pass_42 : decode cX4_pass 42 = .ok (.iload_n 1, 1) := by decide +kernel
theorem dX4_pass_43 : decode cX4_pass 43 = .ok (.invokevirtual 115, 3) := by decide +kernel
theorem dX4_pass_46 : decode cX4_pass 46 = .ok (.aload_n 0, 1) := by decide +kernel
theorem dX4_pass_47 : decode cX4_pass 47 = .ok (.getfield 7, 3) := by decide +kernel
theorem dX4_pass_50 : decode cX4_pass 50 = .ok (.iconst 1, 1) := by decide +kernel
theorem dX4_pass_51 : decode cX4_pass 51 = .ok (.iaload, 1) := by decide +kernel
theorem dX4_pass_52 : decode cX4_pass 52 = .ok (.iload_n 2, 1) := by decide +kernel
theorem dX4_pass_53 : decode cX4_pass 53 = .ok (.isub, 1) := by decide +kernel
theorem dX4_pass_54 : decode cX4_pass 54 = .ok (.ireturn, 1) := by decide +kernel
theorem dX4_type_0 : decode cX4_type 0 = .ok (.aload_n 0, 1) := by decide +kernel
theorem dX4_type_1 : decode cX4_type 1 = .ok (.getfield 119, 3) := by decide +kernel
theorem dX4_type_4 : decode cX4_type 4 = .ok (.bipush 60, 2) := by decide +kernel
theorem dX4_type_6 : decode cX4_type 6 = .ok (.if_icmp .ne 6, 3) := by decide +kernel
theorem dX4_type_9 : decode cX4_type 9 = .ok (.bipush (-3), 2) := by decide +kernel
theorem dX4_type_11 : decode cX4_type 11 = .ok (.ireturn, 1) := by decide +kernel
theorem dX4_type_12 : decode cX4_type 12 = .ok (.aload_n 0, 1) := by decide +kernel
theorem dX4_type_13 : decode cX4_type 13 = .ok (.getfield 22, 3) := by decide +kernel
theorem dX4_type_16 : decode cX4_type 16 = .ok (.aload_n 0, 1) := by decide +kernel
theorem dX4_type_17 : decode cX4_type 17 = .ok (.getfield 119, 3) := by decide +kernel
theorem dX4_type_20 : decode cX4_type 20 = .ok (.iload_n 1, 1) := by decide +kernel
theorem dX4_type_21 : decode cX4_type 21 = .ok (.castore, 1) := by decide +kernel
theorem dX4_type_22 : decode cX4_type 22 = .ok (.aload_n 0, 1) := by decide +kernel
theorem dX4_type_23 : decode cX4_type 23 = .ok (.dup, 1) := by decide +kernel
theorem dX4_type_24 : decode cX4_type 24 = .ok (.getfield 119, 3) := by decide +kernel
theorem dX4_type_27 : decode cX4_type 27 = .ok (.iconst 1, 1) := by decide +kernel
theorem dX4_type_28 : decode cX4_type 28 = .ok (.iadd, 1) := by decide +kernel
theorem dX4_type_29 : decode cX4_type 29 = .ok (.putfield 119, 3) := by decide +kernel
theorem dX4_type_32 : decode cX4_type 32 = .ok (.aload_n 0, 1) := by decide +kernel
theorem dX4_type_33 : decode cX4_type 33 = .ok (.getfield 119, 3) := by decide +kernel
theorem dX4_type_36 : decode cX4_type 36 = .ok (.ireturn, 1) := by decide +kernel
theorem dX4_clearText_0 : decode cX4_clearText 0 = .ok (.aload_n 0, 1) := by decide +kernel
theorem dX4_clearText_1 : decode cX4_clearText 1 = .ok (.getfield 119, 3) := by decide +kernel
theorem dX4_clearText_4 : decode cX4_clearText 4 = .ok (.istore_n 1, 1) := by decide +kernel
theorem dX4_clearText_5 : decode cX4_clearText 5 = .ok (.aload_n 0, 1) := by decide +kernel
theorem dX4_clearText_6 : decode cX4_clearText 6 = .ok (.iconst 0, 1) := by decide +kernel
theorem dX4_clearText_7 : decode cX4_clearText 7 = .ok (.putfield 119, 3) := by decide +kernel
theorem dX4_clearText_10 : decode cX4_clearText 10 = .ok (.iload_n 1, 1) := by decide +kernel
theorem dX4_clearText_11 : decode cX4_clearText 11 = .ok (.ireturn, 1) := by decide +kernel
theorem dX4_isNext_0 : decode cX4_isNext 0 = .ok (.aload_n 0, 1) := by decide +kernel
theorem dX4_isNext_1 : decode cX4_isNext 1 = .ok (.getfield 122, 3) := by decide +kernel
theorem dX4_isNext_4 : decode cX4_isNext 4 = .ok (.aload_n 0, 1) := by decide +kernel
theorem dX4_isNext_5 : decode cX4_isNext 5 = .ok (.getfield 119, 3) := by decide +kernel
theorem dX4_isNext_8 : decode cX4_isNext 8 = .ok (.if_icmp .ge 24, 3) := by decide +kernel
theorem dX4_isNext_11 : decode cX4_isNext 11 = .ok (.aload_n 0, 1) := by decide +kernel
theorem dX4_isNext_12 : decode cX4_isNext 12 = .ok (.getfield 22, 3) := by decide +kernel
theorem dX4_isNext_15 : decode cX4_isNext 15 = .ok (.aload_n 0, 1) := by decide +kernel
theorem dX4_isNext_16 : decode cX4_isNext 16 = .ok (.getfield 122, 3) := by decide +kernel
theorem dX4_isNext_19 : decode cX4_isNext 19 = .ok (.caload, 1) := by decide +kernel
theorem dX4_isNext_20 : decode cX4_isNext 20 = .ok (.iload_n 1, 1) := by decide +kernel
theorem dX4_isNext_21 : decode cX4_isNext 21 = .ok (.iload_n 2, 1) := by decide +kernel
theorem dX4_isNext_22 : decode cX4_isNext 22 = .ok (.invokestatic 35, 3) := by decide +kernel
theorem dX4_isNext_25 : decode cX4_isNext 25 = .ok (.ifCond .eq 7, 3) := by decide +kernel
theorem dX4_isNext_28 : decode cX4_isNext 28 = .ok (.iconst 1, 1) := by decide +kernel
theorem dX4_isNext_29 : decode cX4_isNext 29 = .ok (.goto 4, 3) := by decide +kernel
theorem dX4_isNext_32 : decode cX4_isNext 32 = .ok (.iconst 0, 1) := by decide +kernel
theorem dX4_isNext_33 : decode cX4_isNext 33 = .ok (.ireturn, 1) := by decide +kernel
theorem dX4_takes_0 : decode cX4_takes 0 = .ok (.aload_n 0, 1) := by decide +kernel
theorem dX4_takes_1 : decode cX4_takes 1 = .ok (.iload_n 1, 1) := by decide +kernel
theorem dX4_takes_2 : decode cX4_takes 2 = .ok (.iload_n 1, 1) := by decide +kernel
theorem dX4_takes_3 : decode cX4_takes 3 = .ok (.invokevirtual 125, 3) := by decide +kernel
theorem dX4_takes_6 : decode cX4_takes 6 = .ok (.istore_n 2, 1) := by decide +kernel
theorem dX4_takes_7 : decode cX4_takes 7 = .ok (.aload_n 0, 1) := by decide +kernel
theorem dX4_takes_8 : decode cX4_takes 8 = .ok (.dup, 1) := by decide +kernel
theorem dX4_takes_9 : decode cX4_takes 9 = .ok (.getfield 122, 3) := by decide +kernel
theorem dX4_takes_12 : decode cX4_takes 12 = .ok (.iload_n 2, 1) := by decide +kernel
theorem dX4_takes_13 : decode cX4_takes 13 = .ok (.ifCond .eq 7, 3) := by decide +kernel
theorem dX4_takes_16 : decode cX4_takes 16 = .ok (.iconst 1, 1) := by decide +kernel
theorem dX4_takes_17 : decode cX4_takes 17 = .ok (.goto 4, 3) := by decide +kernel
theorem dX4_takes_20 : decode cX4_takes 20 = .ok (.iconst 0, 1) := by decide +kernel
theorem dX4_takes_21 : decode cX4_takes 21 = .ok (.iadd, 1) := by decide +kernel
theorem dX4_takes_22 : decode cX4_takes 22 = .ok (.putfield 122, 3) := by decide +kernel
theorem dX4_takes_25 : decode cX4_takes 25 = .ok (.iload_n 2, 1) := by decide +kernel
theorem dX4_takes_26 : decode cX4_takes 26 = .ok (.ireturn, 1) := by decide +kernel
theorem dX4_begins_0 : decode cX4_begins 0 = .ok (.iload_n 0, 1) := by decide +kernel
theorem dX4_begins_1 : decode cX4_begins 1 = .ok (.istore_n 3, 1) := by decide +kernel
theorem dX4_begins_2 : decode cX4_begins 2 = .ok (.iload_n 0, 1) := by decide +kernel
theorem dX4_begins_3 : decode cX4_begins 3 = .ok (.istore 4, 2) := by decide +kernel
theorem dX4_begins_5 : decode cX4_begins 5 = .ok (.iload_n 3, 1) := by decide +kernel
theorem dX4_begins_6 : decode cX4_begins 6 = .ok (.ifCond .le 32, 3) := by decide +kernel
theorem dX4_begins_9 : decode cX4_begins 9 = .ok (.iload_n 3, 1) := by decide +kernel
theorem dX4_begins_10 : decode cX4_begins 10 = .ok (.iload_n 2, 1) := by decide +kernel
theorem dX4_begins_11 : decode cX4_begins 11 = .ok (.if_icmp .gt 27, 3) := by decide +kernel
theorem dX4_begins_14 : decode cX4_begins 14 = .ok (.iload 4, 2) := by decide +kernel
theorem dX4_begins_16 : decode cX4_begins 16 = .ok (.iload_n 1, 1) := by decide +kernel
theorem dX4_begins_17 : decode cX4_begins 17 = .ok (.if_icmp .ge 21, 3) := by decide +kernel
theorem dX4_begins_20 : decode cX4_begins 20 = .ok (.bipush 10, 2) := by decide +kernel
theorem dX4_begins_22 : decode cX4_begins 22 = .ok (.iload_n 3, 1) := by decide +kernel
theorem dX4_begins_23 : decode cX4_begins 23 = .ok (.imul, 1) := by decide +kernel
theorem dX4_begins_24 : decode cX4_begins 24 = .ok (.istore_n 3, 1) := by decide +kernel
theorem dX4_begins_25 : decode cX4_begins 25 = .ok (.bipush 10, 2) := by decide +kernel
theorem dX4_begins_27 : decode cX4_begins 27 = .ok (.iload 4, 2) := by decide +kernel
theorem dX4_begins_29 : decode cX4_begins 29 = .ok (.imul, 1) := by decide +kernel
theorem dX4_begins_30 : decode cX4_begins 30 = .ok (.bipush 9, 2) := by decide +kernel
theorem dX4_begins_32 : decode cX4_begins 32 = .ok (.iadd, 1) := by decide +kernel
theorem dX4_begins_33 : decode cX4_begins 33 = .ok (.istore 4, 2) := by decide +kernel
theorem dX4_begins_35 : decode cX4_begins 35 = .ok (.goto (-30), 3) := by decide +kernel
theorem dX4_begins_38 : decode cX4_begins 38 = .ok (.iload 4, 2) := by decide +kernel
theorem dX4_begins_40 : decode cX4_begins 40 = .ok (.iload_n 1, 1) := by decide +kernel
theorem dX4_begins_41 : decode cX4_begins 41 = .ok (.if_icmp .lt 12, 3) := by decide +kernel
theorem dX4_begins_44 : decode cX4_begins 44 = .ok (.iload_n 3, 1) := by decide +kernel
theorem dX4_begins_45 : decode cX4_begins 45 = .ok (.iload_n 2, 1) := by decide +kernel
theorem dX4_begins_46 : decode cX4_begins 46 = .ok (.if_icmp .gt 7, 3) := by decide +kernel
theorem dX4_begins_49 : decode cX4_begins 49 = .ok (.iconst 1, 1) := by decide +kernel
theorem dX4_begins_50 : decode cX4_begins 50 = .ok (.goto 4, 3) := by decide +kernel
theorem dX4_begins_53 : decode cX4_begins 53 = .ok (.iconst 0, 1) := by decide +kernel
theorem dX4_begins_54 : decode cX4_begins 54 = .ok (.ireturn, 1) := by decide +kernel
theorem dX4_readNumber_0 : decode cX4_readNumber 0 = .ok (.bipush (-5), 2) := by decide +kernel
theorem dX4_readNumber_2 : decode cX4_readNumber 2 = .ok (.istore_n 3, 1) := by decide +kernel
theorem dX4_readNumber_3 : decode cX4_readNumber 3 = .ok (.aload_n 0, 1) := by decide +kernel
theorem dX4_readNumber_4 : decode cX4_readNumber 4 = .ok (.bipush 48, 2) := by decide +kernel
theorem dX4_readNumber_6 : decode cX4_readNumber 6 = .ok (.bipush 57, 2) := by decide +kernel
theorem dX4_readNumber_8 : decode cX4_readNumber 8 = .ok (.invokevirtual 125, 3) := by decide +kernel
theorem dX4_readNumber_11 : decode cX4_readNumber 11 = .ok (.ifCond .eq 89, 3) := by decide +kernel
theorem dX4_readNumber_14 : decode cX4_readNumber 14 = .ok (.iload_n 3, 1) := by decide +kernel
theorem dX4_readNumber_15 : decode cX4_readNumber 15 = .ok (.ifCond .eq 85, 3) := by decide +kernel
theorem dX4_readNumber_18 : decode cX4_readNumber 18 = .ok (.iload_n 3, 1) := by decide +kernel
theorem dX4_readNumber_19 : decode cX4_readNumber 19 = .ok (.bipush (-5), 2) := by decide +kernel
theorem dX4_readNumber_21 : decode cX4_readNumber 21 = .ok (.if_icmp .ne 18, 3) := by decide +kernel
theorem dX4_readNumber_24 : decode cX4_readNumber 24 = .ok (.aload_n 0, 1) := by decide +kernel
theorem dX4_readNumber_25 : decode cX4_readNumber 25 = .ok (.getfield 22, 3) := by decide +kernel
theorem dX4_readNumber_28 : decode cX4_readNumber 28 = .ok (.aload_n 0, 1) := by decide +kernel
theorem dX4_readNumber_29 : decode cX4_readNumber 29 = .ok (.getfield 122, 3) := by decide +kernel
theorem dX4_readNumber_32 : decode cX4_readNumber 32 = .ok (.caload, 1) := by decide +kernel
theorem dX4_readNumber_33 : decode cX4_readNumber 33 = .ok (.bipush 48, 2) := by decide +kernel
theorem dX4_readNumber_35 : decode cX4_readNumber 35 = .ok (.isub, 1) := by decide +kernel
theorem dX4_readNumber_36 : decode cX4_readNumber 36 = .ok (.goto 20, 3) := by decide +kernel
theorem dX4_readNumber_39 : decode cX4_readNumber 39 = .ok (.bipush 10, 2) := by decide +kernel
theorem dX4_readNumber_41 : decode cX4_readNumber 41 = .ok (.iload_n 3, 1) := by decide +kernel
theorem dX4_readNumber_42 : decode cX4_readNumber 42 = .ok (.imul, 1) := by decide +kernel
theorem dX4_readNumber_43 : decode cX4_readNumber 43 = .ok (.aload_n 0, 1) := by decide +kernel
theorem dX4_readNumber_44 : decode cX4_readNumber 44 = .ok (.getfield 22, 3) := by decide +kernel
theorem dX4_readNumber_47 : decode cX4_readNumber 47 = .ok (.aload_n 0, 1) := by decide +kernel
theorem dX4_readNumber_48 : decode cX4_readNumber 48 = .ok (.getfield 122, 3) := by decide +kernel
theorem dX4_readNumber_51 : decode cX4_readNumber 51 = .ok (.caload, 1) := by decide +kernel
theorem dX4_readNumber_52 : decode cX4_readNumber 52 = .ok (.iadd, 1) := by decide +kernel
theorem dX4_readNumber_53 : decode cX4_readNumber 53 = .ok (.bipush 48, 2) := by decide +kernel
theorem dX4_readNumber_55 : decode cX4_readNumber 55 = .ok (.isub, 1) := by decide +kernel
theorem dX4_readNumber_56 : decode cX4_readNumber 56 = .ok (.istore 4, 2) := by decide +kernel
theorem dX4_readNumber_58 : decode cX4_readNumber 58 = .ok (.iload 4, 2) := by decide +kernel
theorem dX4_readNumber_60 : decode cX4_readNumber 60 = .ok (.iload_n 1, 1) := by decide +kernel
theorem dX4_readNumber_61 : decode cX4_readNumber 61 = .ok (.iload_n 2, 1) := by decide +kernel
theorem dX4_readNumber_62 : decode cX4_readNumber 62 = .ok (.invokestatic 128, 3) := by decide +kernel
theorem dX4_readNumber_65 : decode cX4_readNumber 65 = .ok (.ifCond .ne 19, 3) := by decide +kernel
theorem dX4_readNumber_68 : decode cX4_readNumber 68 = .ok (.iload_n 3, 1) := by decide +kernel
theorem dX4_readNumber_69 : decode cX4_readNumber 69 = .ok (.iload_n 1, 1) := by decide +kernel
theorem dX4_readNumber_70 : decode cX4_readNumber 70 = .ok (.iload_n 2, 1) := by decide +kernel
theorem dX4_readNumber_71 : decode cX4_readNumber 71 = .ok (.invokestatic 35, 3) := by decide +kernel
theorem dX4_readNumber_74 : decode cX4_readNumber 74 = .ok (.ifCond .eq 7, 3) := by decide +kernel
theorem dX4_readNumber_77 : decode cX4_readNumber 77 = .ok (.iload_n 3, 1) := by decide +kernel
theorem dX4_readNumber_78 : decode cX4_readNumber 78 = .ok (.goto 5, 3) := by decide +kernel
theorem dX4_readNumber_81 : decode cX4_readNumber 81 = .ok (.bipush (-5), 2) := by decide +kernel
theorem dX4_readNumber_83 : decode cX4_readNumber 83 = .ok (.ireturn, 1) := by decide +kernel
theorem dX4_readNumber_84 : decode cX4_readNumber 84 = .ok (.iload 4, 2) := by decide +kernel
theorem dX4_readNumber_86 : decode cX4_readNumber 86 = .ok (.istore_n 3, 1) := by decide +kernel
theorem dX4_readNumber_87 : decode cX4_readNumber 87 = .ok (.aload_n 0, 1) := by decide +kernel
theorem dX4_readNumber_88 : decode cX4_readNumber 88 = .ok (.dup, 1) := by decide +kernel
theorem dX4_readNumber_89 : decode cX4_readNumber 89 = .ok (.getfield 122, 3) := by decide +kernel
theorem dX4_readNumber_92 : decode cX4_readNumber 92 = .ok (.iconst 1, 1) := by decide +kernel
theorem dX4_readNumber_93 : decode cX4_readNumber 93 = .ok (.iadd, 1) := by decide +kernel
theorem dX4_readNumber_94 : decode cX4_readNumber 94 = .ok (.putfield 122, 3) := by decide +kernel
theorem dX4_readNumber_97 : decode cX4_readNumber 97 = .ok (.goto (-94), 3) := by decide +kernel
theorem dX4_readNumber_100 : decode cX4_readNumber 100 = .ok (.iload_n 3, 1) := by decide +kernel
theorem dX4_readNumber_101 : decode cX4_readNumber 101 = .ok (.iload_n 1, 1) := by decide +kernel
theorem dX4_readNumber_102 : decode cX4_readNumber 102 = .ok (.iload_n 2, 1) := by decide +kernel
theorem dX4_readNumber_103 : decode cX4_readNumber 103 = .ok (.invokestatic 35, 3) := by decide +kernel
theorem dX4_readNumber_106 : decode cX4_readNumber 106 = .ok (.ifCond .eq 7, 3) := by decide +kernel
theorem dX4_readNumber_109 : decode cX4_readNumber 109 = .ok (.iload_n 3, 1) := by decide +kernel
theorem dX4_readNumber_110 : decode cX4_readNumber 110 = .ok (.goto 5, 3) := by decide +kernel
theorem dX4_readNumber_113 : decode cX4_readNumber 113 = .ok (.bipush (-5), 2) := by decide +kernel
theorem dX4_readNumber_115 : decode cX4_readNumber 115 = .ok (.ireturn, 1) := by decide +kernel
theorem dX4_readLamp_0 : decode cX4_readLamp 0 = .ok (.aload_n 0, 1) := by decide +kernel
theorem dX4_readLamp_1 : decode cX4_readLamp 1 = .ok (.iconst 0, 1) := by decide +kernel
theorem dX4_readLamp_2 : decode cX4_readLamp 2 = .ok (.sipush 199, 3) := by decide +kernel
theorem dX4_readLamp_5 : decode cX4_readLamp 5 = .ok (.invokevirtual 131, 3) := by decide +kernel
theorem dX4_readLamp_8 : decode cX4_readLamp 8 = .ok (.istore_n 1, 1) := by decide +kernel
theorem dX4_readLamp_9 : decode cX4_readLamp 9 = .ok (.iload_n 1, 1) := by decide +kernel
theorem dX4_readLamp_10 : decode cX4_readLamp 10 = .ok (.bipush (-5), 2) := by decide +kernel
theorem dX4_readLamp_12 : decode cX4_readLamp 12 = .ok (.if_icmp .ne 5, 3) := by decide +kernel
theorem dX4_readLamp_15 : decode cX4_readLamp 15 = .ok (.iconst 0, 1) := by decide +kernel
theorem dX4_readLamp_16 : decode cX4_readLamp 16 = .ok (.ireturn, 1) := by decide +kernel
theorem dX4_readLamp_17 : decode cX4_readLamp 17 = .ok (.aload_n 0, 1) := by decide +kernel
theorem dX4_readLamp_18 : decode cX4_readLamp 18 = .ok (.getfield 26, 3) := by decide +kernel
theorem dX4_readLamp_21 : decode cX4_readLamp 21 = .ok (.aload_n 0, 1) := by decide +kernel
theorem dX4_readLamp_22 : decode cX4_readLamp 22 = .ok (.getfield 134, 3) := by decide +kernel
theorem dX4_readLamp_25 : decode cX4_readLamp 25 = .ok (.iload_n 1, 1) := by decide +kernel
theorem dX4_readLamp_26 : decode cX4_readLamp 26 = .ok (.iastore, 1) := by decide +kernel
theorem dX4_readLamp_27 : decode cX4_readLamp 27 = .ok (.aload_n 0, 1) := by decide +kernel
theorem dX4_readLamp_28 : decode cX4_readLamp 28 = .ok (.getfield 29, 3) := by decide +kernel
theorem dX4_readLamp_31 : decode cX4_readLamp 31 = .ok (.aload_n 0, 1) := by decide +kernel
theorem dX4_readLamp_32 : decode cX4_readLamp 32 = .ok (.getfield 134, 3) := by decide +kernel
theorem dX4_readLamp_35 : decode cX4_readLamp 35 = .ok (.aload_n 0, 1) := by decide +kernel
theorem dX4_readLamp_36 : decode cX4_readLamp 36 = .ok (.bipush 42, 2) := by decide +kernel
theorem dX4_readLamp_38 : decode cX4_readLamp 38 = .ok (.invokevirtual 137, 3) := by decide +kernel
theorem dX4_readLamp_41 : decode cX4_readLamp 41 = .ok (.ifCond .eq 15, 3) := by decide +kernel
theorem dX4_readLamp_44 : decode cX4_readLamp 44 = .ok (.aload_n 0, 1) := by decide +kernel
theorem dX4_readLamp_45 : decode cX4_readLamp 45 = .ok (.bipush 50, 2) := by decide +kernel
theorem dX4_readLamp_47 : decode cX4_readLamp 47 = .ok (.sipush 150, 3) := by decide +kernel
theorem dX4_readLamp_50 : decode cX4_readLamp 50 = .ok (.invokevirtual 131, 3) := by decide +kernel
theorem dX4_readLamp_53 : decode cX4_readLamp 53 = .ok (.goto 5, 3) := by decide +kernel
theorem dX4_readLamp_56 : decode cX4_readLamp 56 = .ok (.bipush 100, 2) := by decide +kernel
theorem dX4_readLamp_58 : decode cX4_readLamp 58 = .ok (.iastore, 1) := by decide +kernel
theorem dX4_readLamp_59 : decode cX4_readLamp 59 = .ok (.aload_n 0, 1) := by decide +kernel
theorem dX4_readLamp_60 : decode cX4_readLamp 60 = .ok (.getfield 32, 3) := by decide +kernel
theorem dX4_readLamp_63 : decode cX4_readLamp 63 = .ok (.aload_n 0, 1) := by decide +kernel
theorem dX4_readLamp_64 : decode cX4_readLamp 64 = .ok (.getfield 134, 3) := by decide +kernel
theorem dX4_readLamp_67 : decode cX4_readLamp 67 = .ok (.iconst 0, 1) := by decide +kernel
theorem dX4_readLamp_68 : decode cX4_readLamp 68 = .ok (.iastore, 1) := by decide +kernel
theorem dX4_readLamp_69 : decode cX4_readLamp 69 = .ok (.aload_n 0, 1) := by decide +kernel
theorem dX4_readLamp_70 : decode cX4_readLamp 70 = .ok (.getfield 29, 3) := by decide +kernel
theorem dX4_readLamp_73 : decode cX4_readLamp 73 = .ok (.aload_n 0, 1) := by decide +kernel
theorem dX4_readLamp_74 : decode cX4_readLamp 74 = .ok (.getfield 134, 3) := by decide +kernel
theorem dX4_readLamp_77 : decode cX4_readLamp 77 = .ok (.iaload, 1) := by decide +kernel
theorem dX4_readLamp_78 : decode cX4_readLamp 78 = .ok (.bipush (-5), 2) := by decide +kernel
theorem dX4_readLamp_80 : decode cX4_readLamp 80 = .ok (.if_icmp .eq 7, 3) := by decide +kernel
theorem dX4_readLamp_83 : decode cX4_readLamp 83 = .ok (.iconst 1, 1) := by decide +kernel
theorem dX4_readLamp_84 : decode cX4_readLamp 84 = .ok (.goto 4, 3) := by decide +kernel
theorem dX4_readLamp_87 : decode cX4_readLamp 87 = .ok (.iconst 0, 1) := by decide +kernel
theorem dX4_readLamp_88 : decode cX4_readLamp 88 = .ok (.istore_n 2, 1) := by decide +kernel
theorem dX4_readLamp_89 : decode cX4_readLamp 89 = .ok (.aload_n 0, 1) := by decide +kernel
theorem dX4_readLamp_90 : decode cX4_readLamp 90 = .ok (.dup, 1) := by decide +kernel
theorem dX4_readLamp_91 : decode cX4_readLamp 91 = .ok (.getfield 134, 3) := by decide +kernel
theorem dX4_readLamp_94 : decode cX4_readLamp 94 = .ok (.iconst 1, 1) := by decide +kernel
theorem dX4_readLamp_95 : decode cX4_readLamp 95 = .ok (.iadd, 1) := by decide +kernel
theorem dX4_readLamp_96 : decode cX4_readLamp 96 = .ok (.putfield 134, 3) := by decide +kernel
theorem dX4_readLamp_99 : decode cX4_readLamp 99 = .ok (.iload_n 2, 1) := by decide +kernel
theorem dX4_readLamp_100 : decode cX4_readLamp 100 = .ok (.ireturn, 1) := by decide +kernel
theorem dX4_readLink_0 : decode cX4_readLink 0 = .ok (.aload_n 0, 1) := by decide +kernel
theorem dX4_readLink_1 : decode cX4_readLink 1 = .ok (.bipush 97, 2) := by decide +kernel
theorem dX4_readLink_3 : decode cX4_readLink 3 = .ok (.bipush 97, 2) := by decide +kernel
theorem dX4_readLink_5 : decode cX4_readLink 5 = .ok (.aload_n 0, 1) := by decide +kernel
theorem dX4_readLink_6 : decode cX4_readLink 6 = .ok (.getfield 134, 3) := by decide +kernel
theorem dX4_readLink_9 : decode cX4_readLink 9 = .ok (.iadd, 1) := by decide +kernel
theorem dX4_readLink_10 : decode cX4_readLink 10 = .ok (.iconst 1, 1) := by decide +kernel
theorem dX4_readLink_11 : decode cX4_readLink 11 = .ok (.isub, 1) := by decide +kernel
theorem dX4_readLink_12 : decode cX4_readLink 12 = .ok (.invokevirtual 125, 3) := by decide +kernel
theorem dX4_readLink_15 : decode cX4_readLink 15 = .ok (.ifCond .ne 5, 3) := by decide +kernel
theorem dX4_readLink_18 : decode cX4_readLink 18 = .ok (.iconst 0, 1) := by decide +kernel
theorem dX4_readLink_19 : decode cX4_readLink 19 = .ok (.ireturn, 1) := by decide +kernel
theorem dX4_readLink_20 : decode cX4_readLink 20 = .ok (.aload_n 0, 1) := by decide +kernel
theorem dX4_readLink_21 : decode cX4_readLink 21 = .ok (.getfield 22, 3) := by decide +kernel
theorem dX4_readLink_24 : decode cX4_readLink 24 = .ok (.aload_n 0, 1) := by decide +kernel
theorem dX4_readLink_25 : decode cX4_readLink 25 = .ok (.getfield 122, 3) := by decide +kernel
theorem dX4_readLink_28 : decode cX4_readLink 28 = .ok (.caload, 1) := by decide +kernel
theorem dX4_readLink_29 : decode cX4_readLink 29 = .ok (.bipush 97, 2) := by decide +kernel
theorem dX4_readLink_31 : decode cX4_readLink 31 = .ok (.isub, 1) := by decide +kernel
theorem dX4_readLink_32 : decode cX4_readLink 32 = .ok (.istore_n 1, 1) := by decide +kernel
theorem dX4_readLink_33 : decode cX4_readLink 33 = .ok (.aload_n 0, 1) := by decide +kernel
theorem dX4_readLink_34 : decode cX4_readLink 34 = .ok (.dup, 1) := by decide +kernel
theorem dX4_readLink_35 : decode cX4_readLink 35 = .ok (.getfield 122, 3) := by decide +kernel
theorem dX4_readLink_38 : decode cX4_readLink 38 = .ok (.iconst 1, 1) := by decide +kernel
theorem dX4_readLink_39 : decode cX4_readLink 39 = .ok (.iadd, 1) := by decide +kernel
theorem dX4_readLink_40 : decode cX4_readLink 40 = .ok (.putfield 122, 3) := by decide +kernel
theorem dX4_readLink_43 : decode cX4_readLink 43 = .ok (.aload_n 0, 1) := by decide +kernel
theorem dX4_readLink_44 : decode cX4_readLink 44 = .ok (.bipush 97, 2) := by decide +kernel
theorem dX4_readLink_46 : decode cX4_readLink 46 = .ok (.bipush 97, 2) := by decide +kernel
theorem dX4_readLink_48 : decode cX4_readLink 48 = .ok (.aload_n 0, 1) := by decide +kernel
theorem dX4_readLink_49 : decode cX4_readLink 49 = .ok (.getfield 134, 3) := by decide +kernel
theorem dX4_readLink_52 : decode cX4_readLink 52 = .ok (.iadd, 1) := by decide +kernel
theorem dX4_readLink_53 : decode cX4_readLink 53 = .ok (.iconst 1, 1) := by decide +kernel
theorem dX4_readLink_54 : decode cX4_readLink 54 = .ok (.isub, 1) := by decide +kernel
theorem dX4_readLink_55 : decode cX4_readLink 55 = .ok (.invokevirtual 125, 3) := by decide +kernel
theorem dX4_readLink_58 : decode cX4_readLink 58 = .ok (.ifCond .eq 19, 3) := by decide +kernel
theorem dX4_readLink_61 : decode cX4_readLink 61 = .ok (.aload_n 0, 1) := by decide +kernel
theorem dX4_readLink_62 : decode cX4_readLink 62 = .ok (.getfield 22, 3) := by decide +kernel
theorem dX4_readLink_65 : decode cX4_readLink 65 = .ok (.aload_n 0, 1) := by decide +kernel
theorem dX4_readLink_66 : decode cX4_readLink 66 = .ok (.getfield 122, 3) := by decide +kernel
theorem dX4_readLink_69 : decode cX4_readLink 69 = .ok (.caload, 1) := by decide +kernel
theorem dX4_readLink_70 : decode cX4_readLink 70 = .ok (.bipush 97, 2) := by decide +kernel
theorem dX4_readLink_72 : decode cX4_readLink 72 = .ok (.isub, 1) := by decide +kernel
theorem dX4_readLink_73 : decode cX4_readLink 73 = .ok (.iload_n 1, 1) := by decide +kernel
theorem dX4_readLink_74 : decode cX4_readLink 74 = .ok (.if_icmp .ne 5, 3) := by decide +kernel
theorem dX4_readLink_77 : decode cX4_readLink 77 = .ok (.iconst 0, 1) := by decide +kernel
theorem dX4_readLink_78 : decode cX4_readLink 78 = .ok (.ireturn, 1) := by decide +kernel
theorem dX4_readLink_79 : decode cX4_readLink 79 = .ok (.aload_n 0, 1) := by decide +kernel
theorem dX4_readLink_80 : decode cX4_readLink 80 = .ok (.getfield 22, 3) := by decide +kernel
theorem dX4_readLink_83 : decode cX4_readLink 83 = .ok (.aload_n 0, 1) := by decide +kernel
theorem dX4_readLink_84 : decode cX4_readLink 84 = .ok (.getfield 122, 3) := by decide +kernel
theorem dX4_readLink_87 : decode cX4_readLink 87 = .ok (.caload, 1) := by decide +kernel
theorem dX4_readLink_88 : decode cX4_readLink 88 = .ok (.bipush 97, 2) := by decide +kernel
theorem dX4_readLink_90 : decode cX4_readLink 90 = .ok (.isub, 1) := by decide +kernel
theorem dX4_readLink_91 : decode cX4_readLink 91 = .ok (.istore_n 2, 1) := by decide +kernel
theorem dX4_readLink_92 : decode cX4_readLink 92 = .ok (.aload_n 0, 1) := by decide +kernel
theorem dX4_readLink_93 : decode cX4_readLink 93 = .ok (.dup, 1) := by decide +kernel
theorem dX4_readLink_94 : decode cX4_readLink 94 = .ok (.getfield 122, 3) := by decide +kernel
theorem dX4_readLink_97 : decode cX4_readLink 97 = .ok (.iconst 1, 1) := by decide +kernel
theorem dX4_readLink_98 : decode cX4_readLink 98 = .ok (.iadd, 1) := by decide +kernel
theorem dX4_readLink_99 : decode cX4_readLink 99 = .ok (.putfield 122, 3) := by decide +kernel
theorem dX4_readLink_102 : decode cX4_readLink 102 = .ok (.aload_n 0, 1) := by decide +kernel
theorem dX4_readLink_103 : decode cX4_readLink 103 = .ok (.getfield 32, 3) := by decide +kernel
theorem dX4_readLink_106 : decode cX4_readLink 106 = .ok (.iload_n 1, 1) := by decide +kernel
theorem dX4_readLink_107 : decode cX4_readLink 107 = .ok (.dup2, 1) := by decide +kernel
theorem dX4_readLink_108 : decode cX4_readLink 108 = .ok (.iaload, 1) := by decide +kernel
theorem dX4_readLink_109 : decode cX4_readLink 109 = .ok (.iconst 1, 1) := by decide +kernel
theorem dX4_readLink_110 : decode cX4_readLink 110 = .ok (.iload_n 2, 1) := by decide +kernel
theorem dX4_readLink_111 : decode cX4_readLink 111 = .ok (.ishl, 1) := by decide +kernel
theorem dX4_readLink_112 : decode cX4_readLink 112 = .ok (.ior, 1) := by decide +kernel
theorem dX4_readLink_113 : decode cX4_readLink 113 = .ok (.iastore, 1) := by decide +kernel
theorem dX4_readLink_114 : decode cX4_readLink 114 = .ok (.aload_n 0, 1) := by decide +kernel
theorem dX4_readLink_115 : decode cX4_readLink 115 = .ok (.getfield 32, 3) := by decide +kernel
theorem dX4_readLink_118 : decode cX4_readLink 118 = .ok (.iload_n 2, 1) := by decide +kernel
theorem dX4_readLink_119 : decode cX4_readLink 119 = .ok (.dup2, 1) := by decide +kernel
theorem dX4_readLink_120 : decode cX4_readLink 120 = .ok (.iaload, 1) := by decide +kernel
theorem dX4_readLink_121 : decode cX4_readLink 121 = .ok (.iconst 1, 1) := by decide +kernel
theorem dX4_readLink_122 : decode cX4_readLink 122 = .ok (.iload_n 1, 1) := by decide +kernel
theorem dX4_readLink_123 : decode cX4_readLink 123 = .ok (.ishl, 1) := by decide +kernel
theorem dX4_readLink_124 : decode cX4_readLink 124 = .ok (.ior, 1) := by decide +kernel
theorem dX4_readLink_125 : decode cX4_readLink 125 = .ok (.iastore, 1) := by decide +kernel
theorem dX4_readLink_126 : decode cX4_readLink 126 = .ok (.iconst 1, 1) := by decide +kernel
theorem dX4_readLink_127 : decode cX4_readLink 127 = .ok (.ireturn, 1) := by decide +kernel
theorem dX4_readText_0 : decode cX4_readText 0 = .ok (.aload_n 0, 1) := by decide +kernel
theorem dX4_readText_1 : decode cX4_readText 1 = .ok (.iconst 0, 1) := by decide +kernel
theorem dX4_readText_2 : decode cX4_readText 2 = .ok (.putfield 122, 3) := by decide +kernel
theorem dX4_readText_5 : decode cX4_readText 5 = .ok (.aload_n 0, 1) := by decide +kernel
theorem dX4_readText_6 : decode cX4_readText 6 = .ok (.iconst 0, 1) := by decide +kernel
theorem dX4_readText_7 : decode cX4_readText 7 = .ok (.putfield 134, 3) := by decide +kernel
theorem dX4_readText_10 : decode cX4_readText 10 = .ok (.aload_n 0, 1) := by decide +kernel
theorem dX4_readText_11 : decode cX4_readText 11 = .ok (.invokevirtual 140, 3) := by decide +kernel
theorem dX4_readText_14 : decode cX4_readText 14 = .ok (.istore_n 1, 1) := by decide +kernel
theorem dX4_readText_15 : decode cX4_readText 15 = .ok (.iload_n 1, 1) := by decide +kernel
theorem dX4_readText_16 : decode cX4_readText 16 = .ok (.ifCond .eq 29, 3) := by decide +kernel
theorem dX4_readText_19 : decode cX4_readText 19 = .ok (.aload_n 0, 1) := by decide +kernel
theorem dX4_readText_20 : decode cX4_readText 20 = .ok (.getfield 134, 3) := by decide +kernel
theorem dX4_readText_23 : decode cX4_readText 23 = .ok (.bipush 16, 2) := by decide +kernel
theorem dX4_readText_25 : decode cX4_readText 25 = .ok (.if_icmp .ge 20, 3) := by decide +kernel
theorem dX4_readText_28 : decode cX4_readText 28 = .ok (.aload_n 0, 1) := by decide +kernel
theorem dX4_readText_29 : decode cX4_readText 29 = .ok (.bipush 44, 2) := by decide +kernel
theorem dX4_readText_31 : decode cX4_readText 31 = .ok (.invokevirtual 137, 3) := by decide +kernel
theorem dX4_readText_34 : decode cX4_readText 34 = .ok (.ifCond .eq 11, 3) := by decide +kernel
theorem dX4_readText_37 : decode cX4_readText 37 = .ok (.aload_n 0, 1) := by decide +kernel
theorem dX4_readText_38 : decode cX4_readText 38 = .ok (.invokevirtual 140, 3) := by decide +kernel
theorem dX4_readText_41 : decode cX4_readText 41 = .ok (.istore_n 1, 1) := by decide +kernel
theorem dX4_readText_42 : decode cX4_readText 42 = .ok (.goto (-27), 3) := by decide +kernel
theorem dX4_readText_45 : decode cX4_readText 45 = .ok (.iload_n 1, 1) := by decide +kernel
theorem dX4_readText_46 : decode cX4_readText 46 = .ok (.ifCond .eq 14, 3) := by decide +kernel
theorem dX4_readText_49 : decode cX4_readText 49 = .ok (.aload_n 0, 1) := by decide +kernel
theorem dX4_readText_50 : decode cX4_readText 50 = .ok (.getfield 122, 3) := by decide +kernel
theorem dX4_readText_53 : decode cX4_readText 53 = .ok (.aload_n 0, 1) := by decide +kernel
theorem dX4_readText_54 : decode cX4_readText 54 = .ok (.getfield 119, 3) := by decide +kernel
theorem dX4_readText_57 : decode cX4_readText 57 = .ok (.if_icmp .ne 5, 3) := by decide +kernel
theorem dX4_readText_60 : decode cX4_readText 60 = .ok (.iload_n 1, 1) := by decide +kernel
theorem dX4_readText_61 : decode cX4_readText 61 = .ok (.ireturn, 1) := by decide +kernel
theorem dX4_readText_62 : decode cX4_readText 62 = .ok (.aload_n 0, 1) := by decide +kernel
theorem dX4_readText_63 : decode cX4_readText 63 = .ok (.getfield 134, 3) := by decide +kernel
theorem dX4_readText_66 : decode cX4_readText 66 = .ok (.iconst 1, 1) := by decide +kernel
theorem dX4_readText_67 : decode cX4_readText 67 = .ok (.if_icmp .le 23, 3) := by decide +kernel
theorem dX4_readText_70 : decode cX4_readText 70 = .ok (.aload_n 0, 1) := by decide +kernel
theorem dX4_readText_71 : decode cX4_readText 71 = .ok (.bipush 59, 2) := by decide +kernel
theorem dX4_readText_73 : decode cX4_readText 73 = .ok (.invokevirtual 137, 3) := by decide +kernel
theorem dX4_readText_76 : decode cX4_readText 76 = .ok (.ifCond .eq 14, 3) := by decide +kernel
theorem dX4_readText_79 : decode cX4_readText 79 = .ok (.aload_n 0, 1) := by decide +kernel
theorem dX4_readText_80 : decode cX4_readText 80 = .ok (.invokevirtual 144, 3) := by decide +kernel
theorem dX4_readText_83 : decode cX4_readText 83 = .ok (.ifCond .eq 7, 3) := by decide +kernel
theorem dX4_readText_86 : decode cX4_readText 86 = .ok (.iconst 1, 1) := by decide +kernel
theorem dX4_readText_87 : decode cX4_readText 87 = .ok (.goto 4, 3) := by decide +kernel
theorem dX4_readText_90 : decode cX4_readText 90 = .ok (.iconst 0, 1) := by decide +kernel
theorem dX4_readText_91 : decode cX4_readText 91 = .ok (.istore_n 1, 1) := by decide +kernel
theorem dX4_readText_92 : decode cX4_readText 92 = .ok (.iload_n 1, 1) := by decide +kernel
theorem dX4_readText_93 : decode cX4_readText 93 = .ok (.ifCond .eq 20, 3) := by decide +kernel
theorem dX4_readText_96 : decode cX4_readText 96 = .ok (.aload_n 0, 1) := by decide +kernel
theorem dX4_readText_97 : decode cX4_readText 97 = .ok (.bipush 44, 2) := by decide +kernel
theorem dX4_readText_99 : decode cX4_readText 99 = .ok (.invokevirtual 137, 3) := by decide +kernel
theorem dX4_readText_102 : decode cX4_readText 102 = .ok (.ifCond .eq 11, 3) := by decide +kernel
theorem dX4_readText_105 : decode cX4_readText 105 = .ok (.aload_n 0, 1) := by decide +kernel
theorem dX4_readText_106 : decode cX4_readText 106 = .ok (.invokevirtual 144, 3) := by decide +kernel
theorem dX4_readText_109 : decode cX4_readText 109 = .ok (.istore_n 1, 1) := by decide +kernel
theorem dX4_readText_110 : decode cX4_readText 110 = .ok (.goto (-18), 3) := by decide +kernel
theorem dX4_readText_113 : decode cX4_readText 113 = .ok (.iload_n 1, 1) := by decide +kernel
theorem dX4_readText_114 : decode cX4_readText 114 = .ok (.ifCond .eq 18, 3) := by decide +kernel
theorem dX4_readText_117 : decode cX4_readText 117 = .ok (.aload_n 0, 1) := by decide +kernel
theorem dX4_readText_118 : decode cX4_readText 118 = .ok (.getfield 122, 3) := by decide +kernel
theorem dX4_readText_121 : decode cX4_readText 121 = .ok (.aload_n 0, 1) := by decide +kernel
theorem dX4_readText_122 : decode cX4_readText 122 = .ok (.getfield 119, 3) := by decide +kernel
theorem dX4_readText_125 : decode cX4_readText 125 = .ok (.if_icmp .ne 7, 3) := by decide +kernel
theorem dX4_readText_128 : decode cX4_readText 128 = .ok (.iconst 1, 1) := by decide +kernel
theorem dX4_readText_129 : decode cX4_readText 129 = .ok (.goto 4, 3) := by decide +kernel
theorem dX4_readText_132 : decode cX4_readText 132 = .ok (.iconst 0, 1) := by decide +kernel
theorem dX4_readText_133 : decode cX4_readText 133 = .ok (.ireturn, 1) := by decide +kernel
theorem dX4_readMesh_0 : decode cX4_readMesh 0 = .ok (.aload_n 0, 1) := by decide +kernel
theorem dX4_readMesh_1 : decode cX4_readMesh 1 = .ok (.invokevirtual 147, 3) := by decide +kernel
theorem dX4_readMesh_4 : decode cX4_readMesh 4 = .ok (.ifCond .ne 11, 3) := by decide +kernel
theorem dX4_readMesh_7 : decode cX4_readMesh 7 = .ok (.bipush (-100), 2) := by decide +kernel
theorem dX4_readMesh_9 : decode cX4_readMesh 9 = .ok (.aload_n 0, 1) := by decide +kernel
theorem dX4_readMesh_10 : decode cX4_readMesh 10 = .ok (.getfield 122, 3) := by decide +kernel
theorem dX4_readMesh_13 : decode cX4_readMesh 13 = .ok (.isub, 1) := by decide +kernel
theorem dX4_readMesh_14 : decode cX4_readMesh 14 = .ok (.ireturn, 1) := by decide +kernel
theorem dX4_readMesh_15 : decode cX4_readMesh 15 = .ok (.aload_n 0, 1) := by decide +kernel
theorem dX4_readMesh_16 : decode cX4_readMesh 16 = .ok (.invokevirtual 98, 3) := by decide +kernel
theorem dX4_readMesh_19 : decode cX4_readMesh 19 = .ok (.iconst 0, 1) := by decide +kernel
theorem dX4_readMesh_20 : decode cX4_readMesh 20 = .ok (.istore_n 1, 1) := by decide +kernel
theorem dX4_readMesh_21 : decode cX4_readMesh 21 = .ok (.iload_n 1, 1) := by decide +kernel
theorem dX4_readMesh_22 : decode cX4_readMesh 22 = .ok (.bipush 16, 2) := by decide +kernel
theorem dX4_readMesh_24 : decode cX4_readMesh 24 = .ok (.if_icmp .ge 65, 3) := by decide +kernel
theorem dX4_readMesh_27 : decode cX4_readMesh 27 = .ok (.aload_n 0, 1) := by decide +kernel
theorem dX4_readMesh_28 : decode cX4_readMesh 28 = .ok (.iload_n 1, 1) := by decide +kernel
theorem dX4_readMesh_29 : decode cX4_readMesh 29 = .ok (.iconst 0, 1) := by decide +kernel
theorem dX4_readMesh_30 : decode cX4_readMesh 30 = .ok (.iconst 0, 1) := by decide +kernel
theorem dX4_readMesh_31 : decode cX4_readMesh 31 = .ok (.invokevirtual 62, 3) := by decide +kernel
theorem dX4_readMesh_34 : decode cX4_readMesh 34 = .ok (.aload_n 0, 1) := by decide +kernel
theorem dX4_readMesh_35 : decode cX4_readMesh 35 = .ok (.iload_n 1, 1) := by decide +kernel
theorem dX4_readMesh_36 : decode cX4_readMesh 36 = .ok (.bipush 8, 2) := by decide +kernel
theorem dX4_readMesh_38 : decode cX4_readMesh 38 = .ok (.iconst 0, 1) := by decide +kernel
theorem dX4_readMesh_39 : decode cX4_readMesh 39 = .ok (.invokevirtual 62, 3) := by decide +kernel
theorem dX4_readMesh_42 : decode cX4_readMesh 42 = .ok (.iload_n 1, 1) := by decide +kernel
theorem dX4_readMesh_43 : decode cX4_readMesh 43 = .ok (.aload_n 0, 1) := by decide +kernel
theorem dX4_readMesh_44 : decode cX4_readMesh 44 = .ok (.getfield 134, 3) := by decide +kernel
theorem dX4_readMesh_47 : decode cX4_readMesh 47 = .ok (.if_icmp .ge 36, 3) := by decide +kernel
theorem dX4_readMesh_50 : decode cX4_readMesh 50 = .ok (.aload_n 0, 1) := by decide +kernel
theorem dX4_readMesh_51 : decode cX4_readMesh 51 = .ok (.iload_n 1, 1) := by decide +kernel
theorem dX4_readMesh_52 : decode cX4_readMesh 52 = .ok (.bipush 100, 2) := by decide +kernel
theorem dX4_readMesh_54 : decode cX4_readMesh 54 = .ok (.aload_n 0, 1) := by decide +kernel
theorem dX4_readMesh_55 : decode cX4_readMesh 55 = .ok (.getfield 26, 3) := by decide +kernel
theorem dX4_readMesh_58 : decode cX4_readMesh 58 = .ok (.iload_n 1, 1) := by decide +kernel
theorem dX4_readMesh_59 : decode cX4_readMesh 59 = .ok (.iaload, 1) := by decide +kernel
theorem dX4_readMesh_60 : decode cX4_readMesh 60 = .ok (.imul, 1) := by decide +kernel
theorem dX4_readMesh_61 : decode cX4_readMesh 61 = .ok (.aload_n 0, 1) := by decide +kernel
theorem dX4_readMesh_62 : decode cX4_readMesh 62 = .ok (.getfield 29, 3) := by decide +kernel
theorem dX4_readMesh_65 : decode cX4_readMesh 65 = .ok (.iload_n 1, 1) := by decide +kernel
theorem dX4_readMesh_66 : decode cX4_readMesh 66 = .ok (.iaload, 1) := by decide +kernel
theorem dX4_readMesh_67 : decode cX4_readMesh 67 = .ok (.invokevirtual 101, 3) := by decide +kernel
theorem dX4_readMesh_70 : decode cX4_readMesh 70 = .ok (.aload_n 0, 1) := by decide +kernel
theorem dX4_readMesh_71 : decode cX4_readMesh 71 = .ok (.iload_n 1, 1) := by decide +kernel
theorem dX4_readMesh_72 : decode cX4_readMesh 72 = .ok (.bipush 8, 2) := by decide +kernel
theorem dX4_readMesh_74 : decode cX4_readMesh 74 = .ok (.aload_n 0, 1) := by decide +kernel
theorem dX4_readMesh_75 : decode cX4_readMesh 75 = .ok (.getfield 32, 3) := by decide +kernel
theorem dX4_readMesh_78 : decode cX4_readMesh 78 = .ok (.iload_n 1, 1) := by decide +kernel
theorem dX4_readMesh_79 : decode cX4_readMesh 79 = .ok (.iaload, 1) := by decide +kernel
theorem dX4_readMesh_80 : decode cX4_readMesh 80 = .ok (.invokevirtual 62, 3) := by decide +kernel
theorem dX4_readMesh_83 : decode cX4_readMesh 83 = .ok (.iinc 1 1, 3) := by decide +kernel
theorem dX4_readMesh_86 : decode cX4_readMesh 86 = .ok (.goto (-65), 3) := by decide +kernel
theorem dX4_readMesh_89 : decode cX4_readMesh 89 = .ok (.aload_n 0, 1) := by decide +kernel
theorem dX4_readMesh_90 : decode cX4_readMesh 90 = .ok (.getfield 134, 3) := by decide +kernel
theorem dX4_readMesh_93 : decode cX4_readMesh 93 = .ok (.ireturn, 1) := by decide +kernel
theorem dX4_undo_0 : decode cX4_undo 0 = .ok (.aload_n 0, 1) := by decide +kernel
theorem dX4_undo_1 : decode cX4_undo 1 = .ok (.getfield 43, 3) := by decide +kernel
theorem dX4_undo_4 : decode cX4_undo 4 = .ok (.ifCond .ne 6, 3) := by decide +kernel
theorem dX4_undo_7 : decode cX4_undo 7 = .ok (.bipush (-5), 2) := by decide +kernel
theorem dX4_undo_9 : decode cX4_undo 9 = .ok (.ireturn, 1) := by decide +kernel
theorem dX4_undo_10 : decode cX4_undo 10 = .ok (.aload_n 0, 1) := by decide +kernel
theorem dX4_undo_11 : decode cX4_undo 11 = .ok (.dup, 1) := by decide +kernel
theorem dX4_undo_12 : decode cX4_undo 12 = .ok (.getfield 43, 3) := by decide +kernel
theorem dX4_undo_15 : decode cX4_undo 15 = .ok (.iconst 1, 1) := by decide +kernel
theorem dX4_undo_16 : decode cX4_undo 16 = .ok (.isub, 1) := by decide +kernel
theorem dX4_undo_17 : decode cX4_undo 17 = .ok (.putfield 43, 3) := by decide +kernel
theorem dX4_undo_20 : decode cX4_undo 20 = .ok (.aload_n 0, 1) := by decide +kernel
theorem dX4_undo_21 : decode cX4_undo 21 = .ok (.getfield 13, 3) := by decide +kernel
theorem dX4_undo_24 : decode cX4_undo 24 = .ok (.sipush 152, 3) := by decide +kernel
theorem dX4_undo_27 : decode cX4_undo 27 = .ok (.aload_n 0, 1) := by decide +kernel
theorem dX4_undo_28 : decode cX4_undo 28 = .ok (.getfield 43, 3) := by decide +kernel
theorem dX4_undo_31 : decode cX4_undo 31 = .ok (.imul, 1) := by decide +kernel
theorem dX4_undo_32 : decode cX4_undo 32 = .ok (.aload_n 0, 1) := by decide +kernel
theorem dX4_undo_33 : decode cX4_undo 33 = .ok (.getfield 7, 3) := by decide +kernel
theorem dX4_undo_36 : decode cX4_undo 36 = .ok (.iconst 0, 1) := by decide +kernel
theorem dX4_undo_37 : decode cX4_undo 37 = .ok (.invokestatic 47, 3) := by decide +kernel
theorem dX4_undo_40 : decode cX4_undo 40 = .ok (.aload_n 0, 1) := by decide +kernel
theorem dX4_undo_41 : decode cX4_undo 41 = .ok (.getfield 43, 3) := by decide +kernel
theorem dX4_undo_44 : decode cX4_undo 44 = .ok (.ireturn, 1) := by decide +kernel
theorem dX4_keep_0 : decode cX4_keep 0 = .ok (.aload_n 0, 1) := by decide +kernel
theorem dX4_keep_1 : decode cX4_keep 1 = .ok (.getfield 7, 3) := by decide +kernel
theorem dX4_keep_4 : decode cX4_keep 4 = .ok (.iconst 0, 1) := by decide +kernel
theorem dX4_keep_5 : decode cX4_keep 5 = .ok (.aload_n 0, 1) := by decide +kernel
theorem dX4_keep_6 : decode cX4_keep 6 = .ok (.getfield 16, 3) := by decide +kernel
theorem dX4_keep_9 : decode cX4_keep 9 = .ok (.iconst 0, 1) := by decide +kernel
theorem dX4_keep_10 : decode cX4_keep 10 = .ok (.invokestatic 47, 3) := by decide +kernel
theorem dX4_keep_13 : decode cX4_keep 13 = .ok (.aload_n 0, 1) := by decide +kernel
theorem dX4_keep_14 : decode cX4_keep 14 = .ok (.iconst 1, 1) := by decide +kernel
theorem dX4_keep_15 : decode cX4_keep 15 = .ok (.putfield 150, 3) := by decide +kernel
theorem dX4_keep_18 : decode cX4_keep 18 = .ok (.aload_n 0, 1) := by decide +kernel
theorem dX4_keep_19 : decode cX4_keep 19 = .ok (.iconst 0, 1) := by decide +kernel
theorem dX4_keep_20 : decode cX4_keep 20 = .ok (.invokevirtual 51, 3) := by decide +kernel
theorem dX4_keep_23 : decode cX4_keep 23 = .ok (.invokestatic 55, 3) := by decide +kernel
theorem dX4_keep_26 : decode cX4_keep 26 = .ok (.ireturn, 1) := by decide +kernel
theorem dX4_restore_0 : decode cX4_restore 0 = .ok (.aload_n 0, 1) := by decide +kernel
theorem dX4_restore_1 : decode cX4_restore 1 = .ok (.getfield 150, 3) := by decide +kernel
theorem dX4_restore_4 : decode cX4_restore 4 = .ok (.ifCond .ne 6, 3) := by decide +kernel
theorem dX4_restore_7 : decode cX4_restore 7 = .ok (.bipush (-5), 2) := by decide +kernel
theorem dX4_restore_9 : decode cX4_restore 9 = .ok (.ireturn, 1) := by decide +kernel
theorem dX4_restore_10 : decode cX4_restore 10 = .ok (.aload_n 0, 1) := by decide +kernel
theorem dX4_restore_11 : decode cX4_restore 11 = .ok (.invokevirtual 98, 3) := by decide +kernel
theorem dX4_restore_14 : decode cX4_restore 14 = .ok (.aload_n 0, 1) := by decide +kernel
theorem dX4_restore_15 : decode cX4_restore 15 = .ok (.getfield 16, 3) := by decide +kernel
theorem dX4_restore_18 : decode cX4_restore 18 = .ok (.iconst 0, 1) := by decide +kernel
theorem dX4_restore_19 : decode cX4_restore 19 = .ok (.aload_n 0, 1) := by decide +kernel
theorem dX4_restore_20 : decode cX4_restore 20 = .ok (.getfield 7, 3) := by decide +kernel
theorem dX4_restore_23 : decode cX4_restore 23 = .ok (.iconst 0, 1) := by decide +kernel
theorem dX4_restore_24 : decode cX4_restore 24 = .ok (.invokestatic 47, 3) := by decide +kernel
theorem dX4_restore_27 : decode cX4_restore 27 = .ok (.aload_n 0, 1) := by decide +kernel
theorem dX4_restore_28 : decode cX4_restore 28 = .ok (.iconst 0, 1) := by decide +kernel
theorem dX4_restore_29 : decode cX4_restore 29 = .ok (.invokevirtual 51, 3) := by decide +kernel
theorem dX4_restore_32 : decode cX4_restore 32 = .ok (.invokestatic 55, 3) := by decide +kernel
theorem dX4_restore_35 : decode cX4_restore 35 = .ok (.ireturn, 1) := by decide +kernel
theorem dX4_lamp_0 : decode cX4_lamp 0 = .ok (.aload_n 0, 1) := by decide +kernel
theorem dX4_lamp_1 : decode cX4_lamp 1 = .ok (.iload_n 1, 1) := by decide +kernel
theorem dX4_lamp_2 : decode cX4_lamp 2 = .ok (.invokevirtual 104, 3) := by decide +kernel
theorem dX4_lamp_5 : decode cX4_lamp 5 = .ok (.ifCond .ne 5, 3) := by decide +kernel
theorem dX4_lamp_8 : decode cX4_lamp 8 = .ok (.iconst (-1), 1) := by decide +kernel
theorem dX4_lamp_9 : decode cX4_lamp 9 = .ok (.ireturn, 1) := by decide +kernel
theorem dX4_lamp_10 : decode cX4_lamp 10 = .ok (.iload_n 2, 1) := by decide +kernel
theorem dX4_lamp_11 : decode cX4_lamp 11 = .ok (.tableswitch 124 0 9 #[53, 60, 67, 74, 81, 88, 96, 104, 110, 116], 53) := by decide +kernel
theorem dX4_lamp_64 : decode cX4_lamp 64 = .ok (.aload_n 0, 1) := by decide +kernel
theorem dX4_lamp_65 : decode cX4_lamp 65 = .ok (.iload_n 1, 1) := by decide +kernel
theorem dX4_lamp_66 : decode cX4_lamp 66 = .ok (.iconst 1, 1) := by decide +kernel
theorem dX4_lamp_67 : decode cX4_lamp 67 = .ok (.invokevirtual 39, 3) := by decide +kernel
theorem dX4_lamp_70 : decode cX4_lamp 70 = .ok (.ireturn, 1) := by decide +kernel
theorem dX4_lamp_71 : decode cX4_lamp 71 = .ok (.aload_n 0, 1) := by decide +kernel
theorem dX4_lamp_72 : decode cX4_lamp 72 = .ok (.iload_n 1, 1) := by decide +kernel
theorem dX4_lamp_73 : decode cX4_lamp 73 = .ok (.iconst 2, 1) := by decide +kernel
theorem dX4_lamp_74 : decode cX4_lamp 74 = .ok (.invokevirtual 39, 3) := by decide +kernel
theorem dX4_lamp_77 : decode cX4_lamp 77 = .ok (.ireturn, 1) := by decide +kernel
theorem dX4_lamp_78 : decode cX4_lamp 78 = .ok (.aload_n 0, 1) := by decide +kernel
theorem dX4_lamp_79 : decode cX4_lamp 79 = .ok (.iload_n 1, 1) := by decide +kernel
theorem dX4_lamp_80 : decode cX4_lamp 80 = .ok (.iconst 3, 1) := by decide +kernel
theorem dX4_lamp_81 : decode cX4_lamp 81 = .ok (.invokevirtual 39, 3) := by decide +kernel
theorem dX4_lamp_84 : decode cX4_lamp 84 = .ok (.ireturn, 1) := by decide +kernel
theorem dX4_lamp_85 : decode cX4_lamp 85 = .ok (.aload_n 0, 1) := by decide +kernel
theorem dX4_lamp_86 : decode cX4_lamp 86 = .ok (.iload_n 1, 1) := by decide +kernel
theorem dX4_lamp_87 : decode cX4_lamp 87 = .ok (.iconst 4, 1) := by decide +kernel
theorem dX4_lamp_88 : decode cX4_lamp 88 = .ok (.invokevirtual 39, 3) := by decide +kernel
theorem dX4_lamp_91 : decode cX4_lamp 91 = .ok (.ireturn, 1) := by decide +kernel
theorem dX4_lamp_92 : decode cX4_lamp 92 = .ok (.aload_n 0, 1) := by decide +kernel
theorem dX4_lamp_93 : decode cX4_lamp 93 = .ok (.iload_n 1, 1) := by decide +kernel
theorem dX4_lamp_94 : decode cX4_lamp 94 = .ok (.iconst 5, 1) := by decide +kernel
theorem dX4_lamp_95 : decode cX4_lamp 95 = .ok (.invokevirtual 39, 3) := by decide +kernel
theorem dX4_lamp_98 : decode cX4_lamp 98 = .ok (.ireturn, 1) := by decide +kernel
theorem dX4_lamp_99 : decode cX4_lamp 99 = .ok (.aload_n 0, 1) := by decide +kernel
theorem dX4_lamp_100 : decode cX4_lamp 100 = .ok (.iload_n 1, 1) := by decide +kernel
theorem dX4_lamp_101 : decode cX4_lamp 101 = .ok (.bipush 6, 2) := by decide +kernel
theorem dX4_lamp_103 : decode cX4_lamp 103 = .ok (.invokevirtual 39, 3) := by decide +kernel
theorem dX4_lamp_106 : decode cX4_lamp 106 = .ok (.ireturn, 1) := by decide +kernel
theorem dX4_lamp_107 : decode cX4_lamp 107 = .ok (.aload_n 0, 1) := by decide +kernel
theorem dX4_lamp_108 : decode cX4_lamp 108 = .ok (.iload_n 1, 1) := by decide +kernel
theorem dX4_lamp_109 : decode cX4_lamp 109 = .ok (.bipush 8, 2) := by decide +kernel
theorem dX4_lamp_111 : decode cX4_lamp 111 = .ok (.invokevirtual 39, 3) := by decide +kernel
theorem dX4_lamp_114 : decode cX4_lamp 114 = .ok (.ireturn, 1) := by decide +kernel
theorem dX4_lamp_115 : decode cX4_lamp 115 = .ok (.aload_n 0, 1) := by decide +kernel
theorem dX4_lamp_116 : decode cX4_lamp 116 = .ok (.iload_n 1, 1) := by decide +kernel
theorem dX4_lamp_117 : decode cX4_lamp 117 = .ok (.invokevirtual 89, 3) := by decide +kernel
theorem dX4_lamp_120 : decode cX4_lamp 120 = .ok (.ireturn, 1) := by decide +kernel
theorem dX4_lamp_121 : decode cX4_lamp 121 = .ok (.aload_n 0, 1) := by decide +kernel
theorem dX4_lamp_122 : decode cX4_lamp 122 = .ok (.iload_n 1, 1) := by decide +kernel
theorem dX4_lamp_123 : decode cX4_lamp 123 = .ok (.invokevirtual 154, 3) := by decide +kernel
theorem dX4_lamp_126 : decode cX4_lamp 126 = .ok (.ireturn, 1) := by decide +kernel
theorem dX4_lamp_127 : decode cX4_lamp 127 = .ok (.aload_n 0, 1) := by decide +kernel
theorem dX4_lamp_128 : decode cX4_lamp 128 = .ok (.iload_n 1, 1) := by decide +kernel
theorem dX4_lamp_129 : decode cX4_lamp 129 = .ok (.bipush 7, 2) := by decide +kernel
theorem dX4_lamp_131 : decode cX4_lamp 131 = .ok (.invokevirtual 39, 3) := by decide +kernel
theorem dX4_lamp_134 : decode cX4_lamp 134 = .ok (.ireturn, 1) := by decide +kernel
theorem dX4_lamp_135 : decode cX4_lamp 135 = .ok (.bipush (-2), 2) := by decide +kernel
theorem dX4_lamp_137 : decode cX4_lamp 137 = .ok (.ireturn, 1) := by decide +kernel
theorem dX4_apart_0 : decode cX4_apart 0 = .ok (.aload_n 0, 1) := by decide +kernel
theorem dX4_apart_1 : decode cX4_apart 1 = .ok (.iload_n 1, 1) := by decide +kernel
theorem dX4_apart_2 : decode cX4_apart 2 = .ok (.invokevirtual 104, 3) := by decide +kernel
theorem dX4_apart_5 : decode cX4_apart 5 = .ok (.ifCond .eq 20, 3) := by decide +kernel
theorem dX4_apart_8 : decode cX4_apart 8 = .ok (.aload_n 0, 1) := by decide +kernel
theorem dX4_apart_9 : decode cX4_apart 9 = .ok (.iload_n 2, 1) := by decide +kernel
theorem dX4_apart_10 : decode cX4_apart 10 = .ok (.invokevirtual 104, 3) := by decide +kernel
theorem dX4_apart_13 : decode cX4_apart 13 = .ok (.ifCond .eq 12, 3) := by decide +kernel
theorem dX4_apart_16 : decode cX4_apart 16 = .ok (.aload_n 0, 1) := by decide +kernel
theorem dX4_apart_17 : decode cX4_apart 17 = .ok (.iload_n 1, 1) := by decide +kernel
theorem dX4_apart_18 : decode cX4_apart 18 = .ok (.iload_n 2, 1) := by decide +kernel
theorem dX4_apart_19 : decode cX4_apart 19 = .ok (.invokevirtual 92, 3) := by decide +kernel
theorem dX4_apart_22 : decode cX4_apart 22 = .ok (.goto 4, 3) := by decide +kernel
theorem dX4_apart_25 : decode cX4_apart 25 = .ok (.iconst (-1), 1) := by decide +kernel
theorem dX4_apart_26 : decode cX4_apart 26 = .ok (.ireturn, 1) := by decide +kernel
theorem dX4_next_0 : decode cX4_next 0 = .ok (.iload_n 1, 1) := by decide +kernel
theorem dX4_next_1 : decode cX4_next 1 = .ok (.iconst 0, 1) := by decide +kernel
theorem dX4_next_2 : decode cX4_next 2 = .ok (.iconst 1, 1) := by decide +kernel
theorem dX4_next_3 : decode cX4_next 3 = .ok (.invokestatic 35, 3) := by decide +kernel
theorem dX4_next_6 : decode cX4_next 6 = .ok (.ifCond .ne 6, 3) := by decide +kernel
theorem dX4_next_9 : decode cX4_next 9 = .ok (.bipush (-2), 2) := by decide +kernel
theorem dX4_next_11 : decode cX4_next 11 = .ok (.ireturn, 1) := by decide +kernel
theorem dX4_next_12 : decode cX4_next 12 = .ok (.aload_n 0, 1) := by decide +kernel
theorem dX4_next_13 : decode cX4_next 13 = .ok (.invokevirtual 86, 3) := by decide +kernel
theorem dX4_next_16 : decode cX4_next 16 = .ok (.ifCond .ne 6, 3) := by decide +kernel
theorem dX4_next_19 : decode cX4_next 19 = .ok (.bipush (-5), 2) := by decide +kernel
theorem dX4_next_21 : decode cX4_next 21 = .ok (.ireturn, 1) := by decide +kernel
theorem dX4_next_22 : decode cX4_next 22 = .ok (.aload_n 0, 1) := by decide +kernel
theorem dX4_next_23 : decode cX4_next 23 = .ok (.getfield 7, 3) := by decide +kernel
theorem dX4_next_26 : decode cX4_next 26 = .ok (.iconst 0, 1) := by decide +kernel
theorem dX4_next_27 : decode cX4_next 27 = .ok (.aload_n 0, 1) := by decide +kernel
theorem dX4_next_28 : decode cX4_next 28 = .ok (.getfield 19, 3) := by decide +kernel
theorem dX4_next_31 : decode cX4_next 31 = .ok (.iconst 0, 1) := by decide +kernel
theorem dX4_next_32 : decode cX4_next 32 = .ok (.invokestatic 47, 3) := by decide +kernel
theorem dX4_next_35 : decode cX4_next 35 = .ok (.iconst 0, 1) := by decide +kernel
theorem dX4_next_36 : decode cX4_next 36 = .ok (.istore_n 2, 1) := by decide +kernel
theorem dX4_next_37 : decode cX4_next 37 = .ok (.iconst 0, 1) := by decide +kernel
theorem dX4_next_38 : decode cX4_next 38 = .ok (.istore_n 3, 1) := by decide +kernel
theorem dX4_next_39 : decode cX4_next 39 = .ok (.iload_n 3, 1) := by decide +kernel
theorem dX4_next_40 : decode cX4_next 40 = .ok (.ifCond .ne 14, 3) := by decide +kernel
theorem dX4_next_43 : decode cX4_next 43 = .ok (.aload_n 0, 1) := by decide +kernel
theorem dX4_next_44 : decode cX4_next 44 = .ok (.invokevirtual 83, 3) := by decide +kernel
theorem dX4_next_47 : decode cX4_next 47 = .ok (.istore_n 3, 1) := by decide +kernel
theorem dX4_next_48 : decode cX4_next 48 = .ok (.iinc 2 1, 3) := by decide +kernel
theorem dX4_next_51 : decode cX4_next 51 = .ok (.goto (-12), 3) := by decide +kernel
theorem dX4_next_54 : decode cX4_next 54 = .ok (.aload_n 0, 1) := by decide +kernel
theorem dX4_next_55 : decode cX4_next 55 = .ok (.getfield 19, 3) := by decide +kernel
theorem dX4_next_58 : decode cX4_next 58 = .ok (.iconst 0, 1) := by decide +kernel
theorem dX4_next_59 : decode cX4_next 59 = .ok (.aload_n 0, 1) := by decide +kernel
theorem dX4_next_60 : decode cX4_next 60 = .ok (.getfield 7, 3) := by decide +kernel
theorem dX4_next_63 : decode cX4_next 63 = .ok (.iconst 0, 1) := by decide +kernel
theorem dX4_next_64 : decode cX4_next 64 = .ok (.invokestatic 47, 3) := by decide +kernel
theorem dX4_next_67 : decode cX4_next 67 = .ok (.iload_n 1, 1) := by decide +kernel
theorem dX4_next_68 : decode cX4_next 68 = .ok (.ifCond .ne 7, 3) := by decide +kernel
theorem dX4_next_71 : decode cX4_next 71 = .ok (.iload_n 2, 1) := by decide +kernel
theorem dX4_next_72 : decode cX4_next 72 = .ok (.goto 4, 3) := by decide +kernel
theorem dX4_next_75 : decode cX4_next 75 = .ok (.iload_n 3, 1) := by decide +kernel
theorem dX4_next_76 : decode cX4_next 76 = .ok (.ireturn, 1) := by decide +kernel
theorem dX4_untilTogether_0 : decode cX4_untilTogether 0 = .ok (.aload_n 0, 1) := by decide +kernel
theorem dX4_untilTogether_1 : decode cX4_untilTogether 1 = .ok (.invokevirtual 86, 3) := by decide +kernel
theorem dX4_untilTogether_4 : decode cX4_untilTogether 4 = .ok (.ifCond .ne 6, 3) := by decide +kernel
theorem dX4_untilTogether_7 : decode cX4_untilTogether 7 = .ok (.bipush (-5), 2) := by decide +kernel
theorem dX4_untilTogether_9 : decode cX4_untilTogether 9 = .ok (.ireturn, 1) := by decide +kernel
theorem dX4_untilTogether_10 : decode cX4_untilTogether 10 = .ok (.iconst 0, 1) := by decide +kernel
theorem dX4_untilTogether_11 : decode cX4_untilTogether 11 = .ok (.istore_n 1, 1) := by decide +kernel
theorem dX4_untilTogether_12 : decode cX4_untilTogether 12 = .ok (.iload_n 1, 1) := by decide +kernel
theorem dX4_untilTogether_13 : decode cX4_untilTogether 13 = .ok (.sipush 2000, 3) := by decide +kernel
theorem dX4_untilTogether_16 : decode cX4_untilTogether 16 = .ok (.if_icmp .ge 21, 3) := by decide +kernel
theorem dX4_untilTogether_19 : decode cX4_untilTogether 19 = .ok (.aload_n 0, 1) := by decide +kernel
theorem dX4_untilTogether_20 : decode cX4_untilTogether 20 = .ok (.invokevirtual 157, 3) := by decide +kernel
theorem dX4_untilTogether_23 : decode cX4_untilTogether 23 = .ok (.ifCond .ne 14, 3) := by decide +kernel
theorem dX4_untilTogether_26 : decode cX4_untilTogether 26 = .ok (.aload_n 0, 1) := by decide +kernel
theorem dX4_untilTogether_27 : decode cX4_untilTogether 27 = .ok (.invokevirtual 83, 3) := by decide +kernel
theorem dX4_untilTogether_30 : decode cX4_untilTogether 30 = .ok (.pop, 1) := by decide +kernel
theorem dX4_untilTogether_31 : decode cX4_untilTogether 31 = .ok (.iinc 1 1, 3) := by decide +kernel
theorem dX4_untilTogether_34 : decode cX4_untilTogether 34 = .ok (.goto (-22), 3) := by decide +kernel
theorem dX4_untilTogether_37 : decode cX4_untilTogether 37 = .ok (.aload_n 0, 1) := by decide +kernel
theorem dX4_untilTogether_38 : decode cX4_untilTogether 38 = .ok (.invokevirtual 157, 3) := by decide +kernel
theorem dX4_untilTogether_41 : decode cX4_untilTogether 41 = .ok (.ifCond .eq 7, 3) := by decide +kernel
theorem dX4_untilTogether_44 : decode cX4_untilTogether 44 = .ok (.iload_n 1, 1) := by decide +kernel
theorem dX4_untilTogether_45 : decode cX4_untilTogether 45 = .ok (.goto 5, 3) := by decide +kernel
theorem dX4_untilTogether_48 : decode cX4_untilTogether 48 = .ok (.bipush (-5), 2) := by decide +kernel
theorem dX4_untilTogether_50 : decode cX4_untilTogether 50 = .ok (.ireturn, 1) := by decide +kernel
theorem dX4_togetherIn_0 : decode cX4_togetherIn 0 = .ok (.aload_n 0, 1) := by decide +kernel
theorem dX4_togetherIn_1 : decode cX4_togetherIn 1 = .ok (.getfield 7, 3) := by decide +kernel
theorem dX4_togetherIn_4 : decode cX4_togetherIn 4 = .ok (.iconst 0, 1) := by decide +kernel
theorem dX4_togetherIn_5 : decode cX4_togetherIn 5 = .ok (.aload_n 0, 1) := by decide +kernel
theorem dX4_togetherIn_6 : decode cX4_togetherIn 6 = .ok (.getfield 19, 3) := by decide +kernel
theorem dX4_togetherIn_9 : decode cX4_togetherIn 9 = .ok (.iconst 0, 1) := by decide +kernel
theorem dX4_togetherIn_10 : decode cX4_togetherIn 10 = .ok (.invokestatic 47, 3) := by decide +kernel
theorem dX4_togetherIn_13 : decode cX4_togetherIn 13 = .ok (.aload_n 0, 1) := by decide +kernel
theorem dX4_togetherIn_14 : decode cX4_togetherIn 14 = .ok (.invokevirtual 160, 3) := by decide +kernel
theorem dX4_togetherIn_17 : decode cX4_togetherIn 17 = .ok (.istore_n 1, 1) := by decide +kernel
theorem dX4_togetherIn_18 : decode cX4_togetherIn 18 = .ok (.aload_n 0, 1) := by decide +kernel
theorem dX4_togetherIn_19 : decode cX4_togetherIn 19 = .ok (.getfield 19, 3) := by decide +kernel
theorem dX4_togetherIn_22 : decode cX4_togetherIn 22 = .ok (.iconst 0, 1) := by decide +kernel
theorem dX4_togetherIn_23 : decode cX4_togetherIn 23 = .ok (.aload_n 0, 1) := by decide +kernel
theorem dX4_togetherIn_24 : decode cX4_togetherIn 24 = .ok (.getfield 7, 3) := by decide +kernel
theorem dX4_togetherIn_27 : decode cX4_togetherIn 27 = .ok (.iconst 0, 1) := by decide +kernel
theorem dX4_togetherIn_28 : decode cX4_togetherIn 28 = .ok (.invokestatic 47, 3) := by decide +kernel
theorem dX4_togetherIn_31 : decode cX4_togetherIn 31 = .ok (.iload_n 1, 1) := by decide +kernel
theorem dX4_togetherIn_32 : decode cX4_togetherIn 32 = .ok (.ireturn, 1) := by decide +kernel
theorem dX4_areRatesUnlike_0 : decode cX4_areRatesUnlike 0 = .ok (.sipush 150, 3) := by decide +kernel
theorem dX4_areRatesUnlike_3 : decode cX4_areRatesUnlike 3 = .ok (.istore_n 1, 1) := by decide +kernel
theorem dX4_areRatesUnlike_4 : decode cX4_areRatesUnlike 4 = .ok (.iconst 0, 1) := by decide +kernel
theorem dX4_areRatesUnlike_5 : decode cX4_areRatesUnlike 5 = .ok (.istore_n 2, 1) := by decide +kernel
theorem dX4_areRatesUnlike_6 : decode cX4_areRatesUnlike 6 = .ok (.iconst 0, 1) := by decide +kernel
theorem dX4_areRatesUnlike_7 : decode cX4_areRatesUnlike 7 = .ok (.istore_n 3, 1) := by decide +kernel
theorem dX4_areRatesUnlike_8 : decode cX4_areRatesUnlike 8 = .ok (.iload_n 3, 1) := by decide +kernel
theorem dX4_areRatesUnlike_9 : decode cX4_areRatesUnlike 9 = .ok (.bipush 16, 2) := by decide +kernel
theorem dX4_areRatesUnlike_11 : decode cX4_areRatesUnlike 11 = .ok (.if_icmp .ge 67, 3) := by decide +kernel
theorem dX4_areRatesUnlike_14 : decode cX4_areRatesUnlike 14 = .ok (.aload_n 0, 1) := by decide +kernel
theorem dX4_areRatesUnlike_15 : decode cX4_areRatesUnlike 15 = .ok (.iload_n 3, 1) := by decide +kernel
theorem dX4_areRatesUnlike_16 : decode cX4_areRatesUnlike 16 = .ok (.invokevirtual 58, 3) := by decide +kernel
theorem dX4_areRatesUnlike_19 : decode cX4_areRatesUnlike 19 = .ok (.ifCond .eq 22, 3) := by decide +kernel
theorem dX4_areRatesUnlike_22 : decode cX4_areRatesUnlike 22 = .ok (.aload_n 0, 1) := by decide +kernel
theorem dX4_areRatesUnlike_23 : decode cX4_areRatesUnlike 23 = .ok (.iload_n 3, 1) := by decide +kernel
theorem dX4_areRatesUnlike_24 : decode cX4_areRatesUnlike 24 = .ok (.iconst 2, 1) := by decide +kernel
theorem dX4_areRatesUnlike_25 : decode cX4_areRatesUnlike 25 = .ok (.invokevirtual 39, 3) := by decide +kernel
theorem dX4_areRatesUnlike_28 : decode cX4_areRatesUnlike 28 = .ok (.iload_n 1, 1) := by decide +kernel
theorem dX4_areRatesUnlike_29 : decode cX4_areRatesUnlike 29 = .ok (.if_icmp .ge 12, 3) := by decide +kernel
theorem dX4_areRatesUnlike_32 : decode cX4_areRatesUnlike 32 = .ok (.aload_n 0, 1) := by decide +kernel
theorem dX4_areRatesUnlike_33 : decode cX4_areRatesUnlike 33 = .ok (.iload_n 3, 1) := by decide +kernel
theorem dX4_areRatesUnlike_34 : decode cX4_areRatesUnlike 34 = .ok (.iconst 2, 1) := by decide +kernel
theorem dX4_areRatesUnlike_35 : decode cX4_areRatesUnlike 35 = .ok (.invokevirtual 39, 3) := by decide +kernel
theorem dX4_areRatesUnlike_38 : decode cX4_areRatesUnlike 38 = .ok (.goto 4, 3) := by decide +kernel
theorem dX4_areRatesUnlike_41 : decode cX4_areRatesUnlike 41 = .ok (.iload_n 1, 1) := by decide +kernel
theorem dX4_areRatesUnlike_42 : decode cX4_areRatesUnlike 42 = .ok (.istore_n 1, 1) := by decide +kernel
theorem dX4_areRatesUnlike_43 : decode cX4_areRatesUnlike 43 = .ok (.aload_n 0, 1) := by decide +kernel
theorem dX4_areRatesUnlike_44 : decode cX4_areRatesUnlike 44 = .ok (.iload_n 3, 1) := by decide +kernel
theorem dX4_areRatesUnlike_45 : decode cX4_areRatesUnlike 45 = .ok (.invokevirtual 58, 3) := by decide +kernel
theorem dX4_areRatesUnlike_48 : decode cX4_areRatesUnlike 48 = .ok (.ifCond .eq 22, 3) := by decide +kernel
theorem dX4_areRatesUnlike_51 : decode cX4_areRatesUnlike 51 = .ok (.aload_n 0, 1) := by decide +kernel
theorem dX4_areRatesUnlike_52 : decode cX4_areRatesUnlike 52 = .ok (.iload_n 3, 1) := by decide +kernel
theorem dX4_areRatesUnlike_53 : decode cX4_areRatesUnlike 53 = .ok (.iconst 2, 1) := by decide +kernel
theorem dX4_areRatesUnlike_54 : decode cX4_areRatesUnlike 54 = .ok (.invokevirtual 39, 3) := by decide +kernel
theorem dX4_areRatesUnlike_57 : decode cX4_areRatesUnlike 57 = .ok (.iload_n 2, 1) := by decide +kernel
theorem dX4_areRatesUnlike_58 : decode cX4_areRatesUnlike 58 = .ok (.if_icmp .le 12, 3) := by decide +kernel
theorem dX4_areRatesUnlike_61 : decode cX4_areRatesUnlike 61 = .ok (.aload_n 0, 1) := by decide +kernel
theorem dX4_areRatesUnlike_62 : decode cX4_areRatesUnlike 62 = .ok (.iload_n 3, 1) := by decide +kernel
theorem dX4_areRatesUnlike_63 : decode cX4_areRatesUnlike 63 = .ok (.iconst 2, 1) := by decide +kernel
theorem dX4_areRatesUnlike_64 : decode cX4_areRatesUnlike 64 = .ok (.invokevirtual 39, 3) := by decide +kernel
theorem dX4_areRatesUnlike_67 : decode cX4_areRatesUnlike 67 = .ok (.goto 4, 3) := by decide +kernel
theorem dX4_areRatesUnlike_70 : decode cX4_areRatesUnlike 70 = .ok (.iload_n 2, 1) := by decide +kernel
theorem dX4_areRatesUnlike_71 : decode cX4_areRatesUnlike 71 = .ok (.istore_n 2, 1) := by decide +kernel
theorem dX4_areRatesUnlike_72 : decode cX4_areRatesUnlike 72 = .ok (.iinc 3 1, 3) := by decide +kernel
theorem dX4_areRatesUnlike_75 : decode cX4_areRatesUnlike 75 = .ok (.goto (-67), 3) := by decide +kernel
theorem dX4_areRatesUnlike_78 : decode cX4_areRatesUnlike 78 = .ok (.iload_n 2, 1) := by decide +kernel
theorem dX4_areRatesUnlike_79 : decode cX4_areRatesUnlike 79 = .ok (.iload_n 1, 1) := by decide +kernel
theorem dX4_areRatesUnlike_80 : decode cX4_areRatesUnlike 80 = .ok (.if_icmp .le 7, 3) := by decide +kernel
theorem dX4_areRatesUnlike_83 : decode cX4_areRatesUnlike 83 = .ok (.iconst 1, 1) := by decide +kernel
theorem dX4_areRatesUnlike_84 : decode cX4_areRatesUnlike 84 = .ok (.goto 4, 3) := by decide +kernel
theorem dX4_areRatesUnlike_87 : decode cX4_areRatesUnlike 87 = .ok (.iconst 0, 1) := by decide +kernel
theorem dX4_areRatesUnlike_88 : decode cX4_areRatesUnlike 88 = .ok (.ireturn, 1) := by decide +kernel
theorem dX4_reason_0 : decode cX4_reason 0 = .ok (.aload_n 0, 1) := by decide +kernel
theorem dX4_reason_1 : decode cX4_reason 1 = .ok (.invokevirtual 86, 3) := by decide +kernel
theorem dX4_reason_4 : decode cX4_reason 4 = .ok (.ifCond .ne 5, 3) := by decide +kernel
theorem dX4_reason_7 : decode cX4_reason 7 = .ok (.iconst 1, 1) := by decide +kernel
theorem dX4_reason_8 : decode cX4_reason 8 = .ok (.ireturn, 1) := by decide +kernel
theorem dX4_reason_9 : decode cX4_reason 9 = .ok (.aload_n 0, 1) := by decide +kernel
theorem dX4_reason_10 : decode cX4_reason 10 = .ok (.invokevirtual 157, 3) := by decide +kernel
theorem dX4_reason_13 : decode cX4_reason 13 = .ok (.ifCond .eq 5, 3) := by decide +kernel
theorem dX4_reason_16 : decode cX4_reason 16 = .ok (.iconst 0, 1) := by decide +kernel
theorem dX4_reason_17 : decode cX4_reason 17 = .ok (.ireturn, 1) := by decide +kernel
theorem dX4_reason_18 : decode cX4_reason 18 = .ok (.aload_n 0, 1) := by decide +kernel
theorem dX4_reason_19 : decode cX4_reason 19 = .ok (.invokevirtual 163, 3) := by decide +kernel
theorem dX4_reason_22 : decode cX4_reason 22 = .ok (.iconst 1, 1) := by decide +kernel
theorem dX4_reason_23 : decode cX4_reason 23 = .ok (.if_icmp .le 7, 3) := by decide +kernel
theorem dX4_reason_26 : decode cX4_reason 26 = .ok (.iconst 2, 1) := by decide +kernel
theorem dX4_reason_27 : decode cX4_reason 27 = .ok (.goto 29, 3) := by decide +kernel
theorem dX4_reason_30 : decode cX4_reason 30 = .ok (.aload_n 0, 1) := by decide +kernel
theorem dX4_reason_31 : decode cX4_reason 31 = .ok (.invokevirtual 166, 3) := by decide +kernel
theorem dX4_reason_34 : decode cX4_reason 34 = .ok (.ifCond .eq 7, 3) := by decide +kernel
theorem dX4_reason_37 : decode cX4_reason 37 = .ok (.iconst 3, 1) := by decide +kernel
theorem dX4_reason_38 : decode cX4_reason 38 = .ok (.goto 18, 3) := by decide +kernel
theorem dX4_reason_41 : decode cX4_reason 41 = .ok (.aload_n 0, 1) := by decide +kernel
theorem dX4_reason_42 : decode cX4_reason 42 = .ok (.getfield 7, 3) := by decide +kernel
theorem dX4_reason_45 : decode cX4_reason 45 = .ok (.bipush 6, 2) := by decide +kernel
theorem dX4_reason_47 : decode cX4_reason 47 = .ok (.iaload, 1) := by decide +kernel
theorem dX4_reason_48 : decode cX4_reason 48 = .ok (.ifCond .ne 7, 3) := by decide +kernel
theorem dX4_reason_51 : decode cX4_reason 51 = .ok (.iconst 4, 1) := by decide +kernel
theorem dX4_reason_52 : decode cX4_reason 52 = .ok (.goto 4, 3) := by decide +kernel
theorem dX4_reason_55 : decode cX4_reason 55 = .ok (.iconst 0, 1) := by decide +kernel
theorem dX4_reason_56 : decode cX4_reason 56 = .ok (.ireturn, 1) := by decide +kernel
theorem dX4_spread_0 : decode cX4_spread 0 = .ok (.aload_n 0, 1) := by decide +kernel
theorem dX4_spread_1 : decode cX4_spread 1 = .ok (.invokevirtual 95, 3) := by decide +kernel
theorem dX4_spread_4 : decode cX4_spread 4 = .ok (.ireturn, 1) := by decide +kernel
theorem dX4_ifLinked_0 : decode cX4_ifLinked 0 = .ok (.aload_n 0, 1) := by decide +kernel
theorem dX4_ifLinked_1 : decode cX4_ifLinked 1 = .ok (.iload_n 1, 1) := by decide +kernel
theorem dX4_ifLinked_2 : decode cX4_ifLinked 2 = .ok (.invokevirtual 104, 3) := by decide +kernel
theorem dX4_ifLinked_5 : decode cX4_ifLinked 5 = .ok (.ifCond .eq 11, 3) := by decide +kernel
theorem dX4_ifLinked_8 : decode cX4_ifLinked 8 = .ok (.aload_n 0, 1) := by decide +kernel
theorem dX4_ifLinked_9 : decode cX4_ifLinked 9 = .ok (.iload_n 2, 1) := by decide +kernel
theorem dX4_ifLinked_10 : decode cX4_ifLinked 10 = .ok (.invokevirtual 104, 3) := by decide +kernel
theorem dX4_ifLinked_13 : decode cX4_ifLinked 13 = .ok (.ifCond .ne 5, 3) := by decide +kernel
theorem dX4_ifLinked_16 : decode cX4_ifLinked 16 = .ok (.iconst (-1), 1) := by decide +kernel
theorem dX4_ifLinked_17 : decode cX4_ifLinked 17 = .ok (.ireturn, 1) := by decide +kernel
theorem dX4_ifLinked_18 : decode cX4_ifLinked 18 = .ok (.iload_n 1, 1) := by decide +kernel
theorem dX4_ifLinked_19 : decode cX4_ifLinked 19 = .ok (.iload_n 2, 1) := by decide +kernel
theorem dX4_ifLinked_20 : decode cX4_ifLinked 20 = .ok (.if_icmp .ne 6, 3) := by decide +kernel
theorem dX4_ifLinked_23 : decode cX4_ifLinked 23 = .ok (.bipush (-2), 2) := by decide +kernel
theorem dX4_ifLinked_25 : decode cX4_ifLinked 25 = .ok (.ireturn, 1) := by decide +kernel
theorem dX4_ifLinked_26 : decode cX4_ifLinked 26 = .ok (.aload_n 0, 1) := by decide +kernel
theorem dX4_ifLinked_27 : decode cX4_ifLinked 27 = .ok (.getfield 7, 3) := by decide +kernel
theorem dX4_ifLinked_30 : decode cX4_ifLinked 30 = .ok (.iconst 0, 1) := by decide +kernel
theorem dX4_ifLinked_31 : decode cX4_ifLinked 31 = .ok (.aload_n 0, 1) := by decide +kernel
theorem dX4_ifLinked_32 : decode cX4_ifLinked 32 = .ok (.getfield 19, 3) := by decide +kernel
theorem dX4_ifLinked_35 : decode cX4_ifLinked 35 = .ok (.iconst 0, 1) := by decide +kernel
theorem dX4_ifLinked_36 : decode cX4_ifLinked 36 = .ok (.invokestatic 47, 3) := by decide +kernel
theorem dX4_ifLinked_39 : decode cX4_ifLinked 39 = .ok (.aload_n 0, 1) := by decide +kernel
theorem dX4_ifLinked_40 : decode cX4_ifLinked 40 = .ok (.iload_n 1, 1) := by decide +kernel
theorem dX4_ifLinked_41 : decode cX4_ifLinked 41 = .ok (.iload_n 2, 1) := by decide +kernel
theorem dX4_ifLinked_42 : decode cX4_ifLinked 42 = .ok (.aload_n 0, 1) := by decide +kernel
theorem dX4_ifLinked_43 : decode cX4_ifLinked 43 = .ok (.iload_n 1, 1) := by decide +kernel
theorem dX4_ifLinked_44 : decode cX4_ifLinked 44 = .ok (.bipush 8, 2) := by decide +kernel
theorem dX4_ifLinked_46 : decode cX4_ifLinked 46 = .ok (.invokevirtual 39, 3) := by decide +kernel
theorem dX4_ifLinked_49 : decode cX4_ifLinked 49 = .ok (.iload_n 2, 1) := by decide +kernel
theorem dX4_ifLinked_50 : decode cX4_ifLinked 50 = .ok (.invokestatic 66, 3) := by decide +kernel
theorem dX4_ifLinked_53 : decode cX4_ifLinked 53 = .ok (.ifCond .ne 7, 3) := by decide +kernel
theorem dX4_ifLinked_56 : decode cX4_ifLinked 56 = .ok (.iconst 1, 1) := by decide +kernel
theorem dX4_ifLinked_57 : decode cX4_ifLinked 57 = .ok (.goto 4, 3) := by decide +kernel
theorem dX4_ifLinked_60 : decode cX4_ifLinked 60 = .ok (.iconst 0, 1) := by decide +kernel
theorem dX4_ifLinked_61 : decode cX4_ifLinked 61 = .ok (.invokevirtual 107, 3) := by decide +kernel
theorem dX4_ifLinked_64 : decode cX4_ifLinked 64 = .ok (.aload_n 0, 1) := by decide +kernel
theorem dX4_ifLinked_65 : decode cX4_ifLinked 65 = .ok (.invokevirtual 160, 3) := by decide +kernel
theorem dX4_ifLinked_68 : decode cX4_ifLinked 68 = .ok (.istore_n 3, 1) := by decide +kernel
theorem dX4_ifLinked_69 : decode cX4_ifLinked 69 = .ok (.aload_n 0, 1) := by decide +kernel
theorem dX4_ifLinked_70 : decode cX4_ifLinked 70 = .ok (.getfield 19, 3) := by decide +kernel
theorem dX4_ifLinked_73 : decode cX4_ifLinked 73 = .ok (.iconst 0, 1) := by decide +kernel
theorem dX4_ifLinked_74 : decode cX4_ifLinked 74 = .ok (.aload_n 0, 1) := by decide +kernel
theorem dX4_ifLinked_75 : decode cX4_ifLinked 75 = .ok (.getfield 7, 3) := by decide +kernel
theorem dX4_ifLinked_78 : decode cX4_ifLinked 78 = .ok (.iconst 0, 1) := by decide +kernel
theorem dX4_ifLinked_79 : decode cX4_ifLinked 79 = .ok (.invokestatic 47, 3) := by decide +kernel
theorem dX4_ifLinked_82 : decode cX4_ifLinked 82 = .ok (.iload_n 3, 1) := by decide +kernel
theorem dX4_ifLinked_83 : decode cX4_ifLinked 83 = .ok (.ireturn, 1) := by decide +kernel
theorem dX4_hub_0 : decode cX4_hub 0 = .ok (.bipush (-5), 2) := by decide +kernel
theorem dX4_hub_2 : decode cX4_hub 2 = .ok (.istore_n 1, 1) := by decide +kernel
theorem dX4_hub_3 : decode cX4_hub 3 = .ok (.iconst 0, 1) := by decide +kernel
theorem dX4_hub_4 : decode cX4_hub 4 = .ok (.istore_n 2, 1) := by decide +kernel
theorem dX4_hub_5 : decode cX4_hub 5 = .ok (.iload_n 2, 1) := by decide +kernel
theorem dX4_hub_6 : decode cX4_hub 6 = .ok (.bipush 16, 2) := by decide +kernel
theorem dX4_hub_8 : decode cX4_hub 8 = .ok (.if_icmp .ge 64, 3) := by decide +kernel
theorem dX4_hub_11 : decode cX4_hub 11 = .ok (.aload_n 0, 1) := by decide +kernel
theorem dX4_hub_12 : decode cX4_hub 12 = .ok (.iload_n 2, 1) := by decide +kernel
theorem dX4_hub_13 : decode cX4_hub 13 = .ok (.iconst 0, 1) := by decide +kernel
theorem dX4_hub_14 : decode cX4_hub 14 = .ok (.invokevirtual 39, 3) := by decide +kernel
theorem dX4_hub_17 : decode cX4_hub 17 = .ok (.iconst 1, 1) := by decide +kernel
theorem dX4_hub_18 : decode cX4_hub 18 = .ok (.if_icmp .ne 36, 3) := by decide +kernel
theorem dX4_hub_21 : decode cX4_hub 21 = .ok (.iload_n 1, 1) := by decide +kernel
theorem dX4_hub_22 : decode cX4_hub 22 = .ok (.bipush (-5), 2) := by decide +kernel
theorem dX4_hub_24 : decode cX4_hub 24 = .ok (.if_icmp .eq 26, 3) := by decide +kernel
theorem dX4_hub_27 : decode cX4_hub 27 = .ok (.aload_n 0, 1) := by decide +kernel
theorem dX4_hub_28 : decode cX4_hub 28 = .ok (.iload_n 2, 1) := by decide +kernel
theorem dX4_hub_29 : decode cX4_hub 29 = .ok (.bipush 8, 2) := by decide +kernel
theorem dX4_hub_31 : decode cX4_hub 31 = .ok (.invokevirtual 39, 3) := by decide +kernel
theorem dX4_hub_34 : decode cX4_hub 34 = .ok (.invokestatic 55, 3) := by decide +kernel
theorem dX4_hub_37 : decode cX4_hub 37 = .ok (.aload_n 0, 1) := by decide +kernel
theorem dX4_hub_38 : decode cX4_hub 38 = .ok (.iload_n 1, 1) := by decide +kernel
theorem dX4_hub_39 : decode cX4_hub 39 = .ok (.bipush 8, 2) := by decide +kernel
theorem dX4_hub_41 : decode cX4_hub 41 = .ok (.invokevirtual 39, 3) := by decide +kernel
theorem dX4_hub_44 : decode cX4_hub 44 = .ok (.invokestatic 55, 3) := by decide +kernel
theorem dX4_hub_47 : decode cX4_hub 47 = .ok (.if_icmp .le 7, 3) := by decide +kernel
theorem dX4_hub_50 : decode cX4_hub 50 = .ok (.iconst 1, 1) := by decide +kernel
theorem dX4_hub_51 : decode cX4_hub 51 = .ok (.goto 4, 3) := by decide +kernel
theorem dX4_hub_54 : decode cX4_hub 54 = .ok (.iconst 0, 1) := by decide +kernel
theorem dX4_hub_55 : decode cX4_hub 55 = .ok (.istore_n 3, 1) := by decide +kernel
theorem dX4_hub_56 : decode cX4_hub 56 = .ok (.iload_n 3, 1) := by decide +kernel
theorem dX4_hub_57 : decode cX4_hub 57 = .ok (.ifCond .eq 7, 3) := by decide +kernel
theorem dX4_hub_60 : decode cX4_hub 60 = .ok (.iload_n 2, 1) := by decide +kernel
theorem dX4_hub_61 : decode cX4_hub 61 = .ok (.goto 4, 3) := by decide +kernel
theorem dX4_hub_64 : decode cX4_hub 64 = .ok (.iload_n 1, 1) := by decide +kernel
theorem dX4_hub_65 : decode cX4_hub 65 = .ok (.istore_n 1, 1) := by decide +kernel
theorem dX4_hub_66 : decode cX4_hub 66 = .ok (.iinc 2 1, 3) := by decide +kernel
theorem dX4_hub_69 : decode cX4_hub 69 = .ok (.goto (-64), 3) := by decide +kernel
theorem dX4_hub_72 : decode cX4_hub 72 = .ok (.iload_n 1, 1) := by decide +kernel
theorem dX4_hub_73 : decode cX4_hub 73 = .ok (.ireturn, 1) := by decide +kernel
theorem dX4_bestLink_0 : decode cX4_bestLink 0 = .ok (.iload_n 1, 1) := by decide +kernel
theorem dX4_bestLink_1 : decode cX4_bestLink 1 = .ok (.iconst 0, 1) := by decide +kernel
theorem dX4_bestLink_2 : decode cX4_bestLink 2 = .ok (.iconst 2, 1) := by decide +kernel
theorem dX4_bestLink_3 : decode cX4_bestLink 3 = .ok (.invokestatic 35, 3) := by decide +kernel
theorem dX4_bestLink_6 : decode cX4_bestLink 6 = .ok (.ifCond .ne 6, 3) := by decide +kernel
theorem dX4_bestLink_9 : decode cX4_bestLink 9 = .ok (.bipush (-2), 2) := by decide +kernel
theorem dX4_bestLink_11 : decode cX4_bestLink 11 = .ok (.ireturn, 1) := by decide +kernel
theorem dX4_bestLink_12 : decode cX4_bestLink 12 = .ok (.bipush (-5), 2) := by decide +kernel
theorem dX4_bestLink_14 : decode cX4_bestLink 14 = .ok (.istore_n 2, 1) := by decide +kernel
theorem dX4_bestLink_15 : decode cX4_bestLink 15 = .ok (.bipush (-5), 2) := by decide +kernel
theorem dX4_bestLink_17 : decode cX4_bestLink 17 = .ok (.istore_n 3, 1) := by decide +kernel
theorem dX4_bestLink_18 : decode cX4_bestLink 18 = .ok (.aload_n 0, 1) := by decide +kernel
theorem dX4_bestLink_19 : decode cX4_bestLink 19 = .ok (.getfield 7, 3) := by decide +kernel
theorem dX4_bestLink_22 : decode cX4_bestLink 22 = .ok (.iconst 0, 1) := by decide +kernel
theorem dX4_bestLink_23 : decode cX4_bestLink 23 = .ok (.aload_n 0, 1) := by decide +kernel
theorem dX4_bestLink_24 : decode cX4_bestLink 24 = .ok (.getfield 19, 3) := by decide +kernel
theorem dX4_bestLink_27 : decode cX4_bestLink 27 = .ok (.iconst 0, 1) := by decide +kernel
theorem dX4_bestLink_28 : decode cX4_bestLink 28 = .ok (.invokestatic 47, 3) := by decide +kernel
theorem dX4_bestLink_31 : decode cX4_bestLink 31 = .ok (.iconst 0, 1) := by decide +kernel
theorem dX4_bestLink_32 : decode cX4_bestLink 32 = .ok (.istore 4, 2) := by decide +kernel
theorem dX4_bestLink_34 : decode cX4_bestLink 34 = .ok (.iload 4, 2) := by decide +kernel
theorem dX4_bestLink_36 : decode cX4_bestLink 36 = .ok (.sipush 256, 3) := by decide +kernel
theorem dX4_bestLink_39 : decode cX4_bestLink 39 = .ok (.if_icmp .ge 141, 3) := by decide +kernel
theorem dX4_bestLink_42 : decode cX4_bestLink 42 = .ok (.iload 4, 2) := by decide +kernel
theorem dX4_bestLink_44 : decode cX4_bestLink 44 = .ok (.bipush 16, 2) := by decide +kernel
theorem dX4_bestLink_46 : decode cX4_bestLink 46 = .ok (.idiv, 1) := by decide +kernel
theorem dX4_bestLink_47 : decode cX4_bestLink 47 = .ok (.istore 5, 2) := by decide +kernel
theorem dX4_bestLink_49 : decode cX4_bestLink 49 = .ok (.iload 4, 2) := by decide +kernel
theorem dX4_bestLink_51 : decode cX4_bestLink 51 = .ok (.bipush 16, 2) := by decide +kernel
theorem dX4_bestLink_53 : decode cX4_bestLink 53 = .ok (.irem, 1) := by decide +kernel
theorem dX4_bestLink_54 : decode cX4_bestLink 54 = .ok (.istore 6, 2) := by decide +kernel
theorem dX4_bestLink_56 : decode cX4_bestLink 56 = .ok (.iload 5, 2) := by decide +kernel
theorem dX4_bestLink_58 : decode cX4_bestLink 58 = .ok (.iload 6, 2) := by decide +kernel
theorem dX4_bestLink_60 : decode cX4_bestLink 60 = .ok (.if_icmp .ge 114, 3) := by decide +kernel
theorem dX4_bestLink_63 : decode cX4_bestLink 63 = .ok (.aload_n 0, 1) := by decide +kernel
theorem dX4_bestLink_64 : decode cX4_bestLink 64 = .ok (.iload 5, 2) := by decide +kernel
theorem dX4_bestLink_66 : decode cX4_bestLink 66 = .ok (.invokevirtual 58, 3) := by decide +kernel
theorem dX4_bestLink_69 : decode cX4_bestLink 69 = .ok (.ifCond .eq 105, 3) := by decide +kernel
theorem dX4_bestLink_72 : decode cX4_bestLink 72 = .ok (.aload_n 0, 1) := by decide +kernel
theorem dX4_bestLink_73 : decode cX4_bestLink 73 = .ok (.iload 6, 2) := by decide +kernel
theorem dX4_bestLink_75 : decode cX4_bestLink 75 = .ok (.invokevirtual 58, 3) := by decide +kernel
theorem dX4_bestLink_78 : decode cX4_bestLink 78 = .ok (.ifCond .eq 96, 3) := by decide +kernel
theorem dX4_bestLink_81 : decode cX4_bestLink 81 = .ok (.aload_n 0, 1) := by decide +kernel
theorem dX4_bestLink_82 : decode cX4_bestLink 82 = .ok (.iload 5, 2) := by decide +kernel
theorem dX4_bestLink_84 : decode cX4_bestLink 84 = .ok (.bipush 8, 2) := by decide +kernel
theorem dX4_bestLink_86 : decode cX4_bestLink 86 = .ok (.invokevirtual 39, 3) := by decide +kernel
theorem dX4_bestLink_89 : decode cX4_bestLink 89 = .ok (.iload 6, 2) := by decide +kernel
theorem dX4_bestLink_91 : decode cX4_bestLink 91 = .ok (.invokestatic 66, 3) := by decide +kernel
theorem dX4_bestLink_94 : decode cX4_bestLink 94 = .ok (.ifCond .ne 80, 3) := by decide +kernel
theorem dX4_bestLink_97 : decode cX4_bestLink 97 = .ok (.aload_n 0, 1) := by decide +kernel
theorem dX4_bestLink_98 : decode cX4_bestLink 98 = .ok (.iload 5, 2) := by decide +kernel
theorem dX4_bestLink_100 : decode cX4_bestLink 100 = .ok (.iload 6, 2) := by decide +kernel
theorem dX4_bestLink_102 : decode cX4_bestLink 102 = .ok (.iconst 1, 1) := by decide +kernel
theorem dX4_bestLink_103 : decode cX4_bestLink 103 = .ok (.invokevirtual 107, 3) := by decide +kernel
theorem dX4_bestLink_106 : decode cX4_bestLink 106 = .ok (.aload_n 0, 1) := by decide +kernel
theorem dX4_bestLink_107 : decode cX4_bestLink 107 = .ok (.bipush 100, 2) := by decide +kernel
theorem dX4_bestLink_109 : decode cX4_bestLink 109 = .ok (.invokevirtual 115, 3) := by decide +kernel
theorem dX4_bestLink_112 : decode cX4_bestLink 112 = .ok (.aload_n 0, 1) := by decide +kernel
theorem dX4_bestLink_113 : decode cX4_bestLink 113 = .ok (.invokevirtual 95, 3) := by decide +kernel
theorem dX4_bestLink_116 : decode cX4_bestLink 116 = .ok (.istore 7, 2) := by decide +kernel
theorem dX4_bestLink_118 : decode cX4_bestLink 118 = .ok (.iload_n 2, 1) := by decide +kernel
theorem dX4_bestLink_119 : decode cX4_bestLink 119 = .ok (.bipush (-5), 2) := by decide +kernel
theorem dX4_bestLink_121 : decode cX4_bestLink 121 = .ok (.if_icmp .eq 9, 3) := by decide +kernel
theorem dX4_bestLink_124 : decode cX4_bestLink 124 = .ok (.iload 7, 2) := by decide +kernel
theorem dX4_bestLink_126 : decode cX4_bestLink 126 = .ok (.iload_n 3, 1) := by decide +kernel
theorem dX4_bestLink_127 : decode cX4_bestLink 127 = .ok (.if_icmp .ge 7, 3) := by decide +kernel
theorem dX4_bestLink_130 : decode cX4_bestLink 130 = .ok (.iconst 1, 1) := by decide +kernel
theorem dX4_bestLink_131 : decode cX4_bestLink 131 = .ok (.goto 4, 3) := by decide +kernel
theorem dX4_bestLink_134 : decode cX4_bestLink 134 = .ok (.iconst 0, 1) := by decide +kernel
theorem dX4_bestLink_135 : decode cX4_bestLink 135 = .ok (.istore 8, 2) := by decide +kernel
theorem dX4_bestLink_137 : decode cX4_bestLink 137 = .ok (.iload 8, 2) := by decide +kernel
theorem dX4_bestLink_139 : decode cX4_bestLink 139 = .ok (.ifCond .eq 8, 3) := by decide +kernel
theorem dX4_bestLink_142 : decode cX4_bestLink 142 = .ok (.iload 4, 2) := by decide +kernel
theorem dX4_bestLink_144 : decode cX4_bestLink 144 = .ok (.goto 4, 3) := by decide +kernel
theorem dX4_bestLink_147 : decode cX4_bestLink 147 = .ok (.iload_n 2, 1) := by decide +kernel
theorem dX4_bestLink_148 : decode cX4_bestLink 148 = .ok (.istore_n 2, 1) := by decide +kernel
theorem dX4_bestLink_149 : decode cX4_bestLink 149 = .ok (.iload 8, 2) := by decide +kernel
theorem dX4_bestLink_151 : decode cX4_bestLink 151 = .ok (.ifCond .eq 8, 3) := by decide +kernel
theorem dX4_bestLink_154 : decode cX4_bestLink 154 = .ok (.iload 7, 2) := by decide +kernel
theorem dX4_bestLink_156 : decode cX4_bestLink 156 = .ok (.goto 4, 3) := by decide +kernel
theorem dX4_bestLink_159 : decode cX4_bestLink 159 = .ok (.iload_n 3, 1) := by decide +kernel
theorem dX4_bestLink_160 : decode cX4_bestLink 160 = .ok (.istore_n 3, 1) := by decide +kernel
theorem dX4_bestLink_161 : decode cX4_bestLink 161 = .ok (.aload_n 0, 1) := by decide +kernel
theorem dX4_bestLink_162 : decode cX4_bestLink 162 = .ok (.getfield 19, 3) := by decide +kernel
theorem dX4_bestLink_165 : decode cX4_bestLink 165 = .ok (.iconst 0, 1) := by decide +kernel
theorem dX4_bestLink_166 : decode cX4_bestLink 166 = .ok (.aload_n 0, 1) := by decide +kernel
theorem dX4_bestLink_167 : decode cX4_bestLink 167 = .ok (.getfield 7, 3) := by decide +kernel
theorem dX4_bestLink_170 : decode cX4_bestLink 170 = .ok (.iconst 0, 1) := by decide +kernel
theorem dX4_bestLink_171 : decode cX4_bestLink 171 = .ok (.invokestatic 47, 3) := by decide +kernel
theorem dX4_bestLink_174 : decode cX4_bestLink 174 = .ok (.iinc 4 1, 3) := by decide +kernel
theorem dX4_bestLink_177 : decode cX4_bestLink 177 = .ok (.goto (-143), 3) := by decide +kernel
theorem dX4_bestLink_180 : decode cX4_bestLink 180 = .ok (.iload_n 2, 1) := by decide +kernel
theorem dX4_bestLink_181 : decode cX4_bestLink 181 = .ok (.bipush (-5), 2) := by decide +kernel
theorem dX4_bestLink_183 : decode cX4_bestLink 183 = .ok (.if_icmp .ne 8, 3) := by decide +kernel
theorem dX4_bestLink_186 : decode cX4_bestLink 186 = .ok (.bipush (-5), 2) := by decide +kernel
theorem dX4_bestLink_188 : decode cX4_bestLink 188 = .ok (.goto 27, 3) := by decide +kernel
theorem dX4_bestLink_191 : decode cX4_bestLink 191 = .ok (.iload_n 1, 1) := by decide +kernel
theorem dX4_bestLink_192 : decode cX4_bestLink 192 = .ok (.ifCond .ne 10, 3) := by decide +kernel
theorem dX4_bestLink_195 : decode cX4_bestLink 195 = .ok (.iload_n 2, 1) := by decide +kernel
theorem dX4_bestLink_196 : decode cX4_bestLink 196 = .ok (.bipush 16, 2) := by decide +kernel
theorem dX4_bestLink_198 : decode cX4_bestLink 198 = .ok (.idiv, 1) := by decide +kernel
theorem dX4_bestLink_199 : decode cX4_bestLink 199 = .ok (.goto 16, 3) := by decide +kernel
theorem dX4_bestLink_202 : decode cX4_bestLink 202 = .ok (.iload_n 1, 1) := by decide +kernel
theorem dX4_bestLink_203 : decode cX4_bestLink 203 = .ok (.iconst 1, 1) := by decide +kernel
theorem dX4_bestLink_204 : decode cX4_bestLink 204 = .ok (.if_icmp .ne 10, 3) := by decide +kernel
theorem dX4_bestLink_207 : decode cX4_bestLink 207 = .ok (.iload_n 2, 1) := by decide +kernel
theorem dX4_bestLink_208 : decode cX4_bestLink 208 = .ok (.bipush 16, 2) := by decide +kernel
theorem dX4_bestLink_210 : decode cX4_bestLink 210 = .ok (.irem, 1) := by decide +kernel
theorem dX4_bestLink_211 : decode cX4_bestLink 211 = .ok (.goto 4, 3) := by decide +kernel
theorem dX4_bestLink_214 : decode cX4_bestLink 214 = .ok (.iload_n 3, 1) := by decide +kernel
theorem dX4_bestLink_215 : decode cX4_bestLink 215 = .ok (.ireturn, 1) := by decide +kernel
theorem dX4_count_0 : decode cX4_count 0 = .ok (.iload_n 1, 1) := by decide +kernel
theorem dX4_count_1 : decode cX4_count 1 = .ok (.tableswitch 138 0 13 #[71, 78, 87, 95, 100, 105, 105, 105, 105, 116, 116, 116, 128, 133], 71) := by decide +kernel
theorem dX4_count_72 : decode cX4_count 72 = .ok (.aload_n 0, 1) := by decide +kernel
theorem dX4_count_73 : decode cX4_count 73 = .ok (.getfield 7, 3) := by decide +kernel
theorem dX4_count_76 : decode cX4_count 76 = .ok (.iconst 0, 1) := by decide +kernel
theorem dX4_count_77 : decode cX4_count 77 = .ok (.iaload, 1) := by decide +kernel
theorem dX4_count_78 : decode cX4_count 78 = .ok (.ireturn, 1) := by decide +kernel
theorem dX4_count_79 : decode cX4_count 79 = .ok (.aload_n 0, 1) := by decide +kernel
theorem dX4_count_80 : decode cX4_count 80 = .ok (.iconst 0, 1) := by decide +kernel
theorem dX4_count_81 : decode cX4_count 81 = .ok (.invokevirtual 51, 3) := by decide +kernel
theorem dX4_count_84 : decode cX4_count 84 = .ok (.invokestatic 55, 3) := by decide +kernel
theorem dX4_count_87 : decode cX4_count 87 = .ok (.ireturn, 1) := by decide +kernel
theorem dX4_count_88 : decode cX4_count 88 = .ok (.aload_n 0, 1) := by decide +kernel
theorem dX4_count_89 : decode cX4_count 89 = .ok (.invokevirtual 86, 3) := by decide +kernel
theorem dX4_count_92 : decode cX4_count 92 = .ok (.invokestatic 55, 3) := by decide +kernel
theorem dX4_count_95 : decode cX4_count 95 = .ok (.ireturn, 1) := by decide +kernel
theorem dX4_count_96 : decode cX4_count 96 = .ok (.aload_n 0, 1) := by decide +kernel
theorem dX4_count_97 : decode cX4_count 97 = .ok (.invokevirtual 111, 3) := by decide +kernel
theorem dX4_count_100 : decode cX4_count 100 = .ok (.ireturn, 1) := by decide +kernel
theorem dX4_count_101 : decode cX4_count 101 = .ok (.aload_n 0, 1) := by decide +kernel
theorem dX4_count_102 : decode cX4_count 102 = .ok (.invokevirtual 163, 3) := by decide +kernel
theorem dX4_count_105 : decode cX4_count 105 = .ok (.ireturn, 1) := by decide +kernel
theorem dX4_count_106 : decode cX4_count 106 = .ok (.aload_n 0, 1) := by decide +kernel
theorem dX4_count_107 : decode cX4_count 107 = .ok (.getfield 7, 3) := by decide +kernel
theorem dX4_count_110 : decode cX4_count 110 = .ok (.iconst 1, 1) := by decide +kernel
theorem dX4_count_111 : decode cX4_count 111 = .ok (.iload_n 1, 1) := by decide +kernel
theorem dX4_count_112 : decode cX4_count 112 = .ok (.iadd, 1) := by decide +kernel
theorem dX4_count_113 : decode cX4_count 113 = .ok (.iconst 5, 1) := by decide +kernel
theorem dX4_count_114 : decode cX4_count 114 = .ok (.isub, 1) := by decide +kernel
theorem dX4_count_115 : decode cX4_count 115 = .ok (.iaload, 1) := by decide +kernel
theorem dX4_count_116 : decode cX4_count 116 = .ok (.ireturn, 1) := by decide +kernel
theorem dX4_count_117 : decode cX4_count 117 = .ok (.aload_n 0, 1) := by decide +kernel
theorem dX4_count_118 : decode cX4_count 118 = .ok (.getfield 7, 3) := by decide +kernel
theorem dX4_count_121 : decode cX4_count 121 = .ok (.iconst 5, 1) := by decide +kernel
theorem dX4_count_122 : decode cX4_count 122 = .ok (.iload_n 1, 1) := by decide +kernel
theorem dX4_count_123 : decode cX4_count 123 = .ok (.iadd, 1) := by decide +kernel
theorem dX4_count_124 : decode cX4_count 124 = .ok (.bipush 9, 2) := by decide +kernel
theorem dX4_count_126 : decode cX4_count 126 = .ok (.isub, 1) := by decide +kernel
theorem dX4_count_127 : decode cX4_count 127 = .ok (.iaload, 1) := by decide +kernel
theorem dX4_count_128 : decode cX4_count 128 = .ok (.ireturn, 1) := by decide +kernel
theorem dX4_count_129 : decode cX4_count 129 = .ok (.aload_n 0, 1) := by decide +kernel
theorem dX4_count_130 : decode cX4_count 130 = .ok (.getfield 43, 3) := by decide +kernel
theorem dX4_count_133 : decode cX4_count 133 = .ok (.ireturn, 1) := by decide +kernel
theorem dX4_count_134 : decode cX4_count 134 = .ok (.aload_n 0, 1) := by decide +kernel
theorem dX4_count_135 : decode cX4_count 135 = .ok (.getfield 119, 3) := by decide +kernel
theorem dX4_count_138 : decode cX4_count 138 = .ok (.ireturn, 1) := by decide +kernel
theorem dX4_count_139 : decode cX4_count 139 = .ok (.bipush (-2), 2) := by decide +kernel
theorem dX4_count_141 : decode cX4_count 141 = .ok (.ireturn, 1) := by decide +kernel
theorem dJ6_bitCount_0f7a4_0 : decode cJ6_bitCount_0f7a4 0 = .ok (.iload_n 0, 1) := by decide +kernel
theorem dJ6_bitCount_0f7a4_1 : decode cJ6_bitCount_0f7a4 1 = .ok (.iload_n 0, 1) := by decide +kernel
theorem dJ6_bitCount_0f7a4_2 : decode cJ6_bitCount_0f7a4 2 = .ok (.iconst 1, 1) := by decide +kernel
theorem dJ6_bitCount_0f7a4_3 : decode cJ6_bitCount_0f7a4 3 = .ok (.iushr, 1) := by decide +kernel
theorem dJ6_bitCount_0f7a4_4 : decode cJ6_bitCount_0f7a4 4 = .ok (.ldc_w 265, 3) := by decide +kernel
theorem dJ6_bitCount_0f7a4_7 : decode cJ6_bitCount_0f7a4 7 = .ok (.iand, 1) := by decide +kernel
theorem dJ6_bitCount_0f7a4_8 : decode cJ6_bitCount_0f7a4 8 = .ok (.isub, 1) := by decide +kernel
theorem dJ6_bitCount_0f7a4_9 : decode cJ6_bitCount_0f7a4 9 = .ok (.istore_n 0, 1) := by decide +kernel
theorem dJ6_bitCount_0f7a4_10 : decode cJ6_bitCount_0f7a4 10 = .ok (.iload_n 0, 1) := by decide +kernel
theorem dJ6_bitCount_0f7a4_11 : decode cJ6_bitCount_0f7a4 11 = .ok (.ldc_w 266, 3) := by decide +kernel
theorem dJ6_bitCount_0f7a4_14 : decode cJ6_bitCount_0f7a4 14 = .ok (.iand, 1) := by decide +kernel
theorem dJ6_bitCount_0f7a4_15 : decode cJ6_bitCount_0f7a4 15 = .ok (.iload_n 0, 1) := by decide +kernel
theorem dJ6_bitCount_0f7a4_16 : decode cJ6_bitCount_0f7a4 16 = .ok (.iconst 2, 1) := by decide +kernel
theorem dJ6_bitCount_0f7a4_17 : decode cJ6_bitCount_0f7a4 17 = .ok (.iushr, 1) := by decide +kernel
theorem dJ6_bitCount_0f7a4_18 : decode cJ6_bitCount_0f7a4 18 = .ok (.ldc_w 266, 3) := by decide +kernel
theorem dJ6_bitCount_0f7a4_21 : decode cJ6_bitCount_0f7a4 21 = .ok (.iand, 1) := by decide +kernel
theorem dJ6_bitCount_0f7a4_22 : decode cJ6_bitCount_0f7a4 22 = .ok (.iadd, 1) := by decide +kernel
theorem dJ6_bitCount_0f7a4_23 : decode cJ6_bitCount_0f7a4 23 = .ok (.istore_n 0, 1) := by decide +kernel
theorem dJ6_bitCount_0f7a4_24 : decode cJ6_bitCount_0f7a4 24 = .ok (.iload_n 0, 1) := by decide +kernel
theorem dJ6_bitCount_0f7a4_25 : decode cJ6_bitCount_0f7a4 25 = .ok (.iload_n 0, 1) := by decide +kernel
theorem dJ6_bitCount_0f7a4_26 : decode cJ6_bitCount_0f7a4 26 = .ok (.iconst 4, 1) := by decide +kernel
theorem dJ6_bitCount_0f7a4_27 : decode cJ6_bitCount_0f7a4 27 = .ok (.iushr, 1) := by decide +kernel
theorem dJ6_bitCount_0f7a4_28 : decode cJ6_bitCount_0f7a4 28 = .ok (.iadd, 1) := by decide +kernel
theorem dJ6_bitCount_0f7a4_29 : decode cJ6_bitCount_0f7a4 29 = .ok (.ldc_w 267, 3) := by decide +kernel
theorem dJ6_bitCount_0f7a4_32 : decode cJ6_bitCount_0f7a4 32 = .ok (.iand, 1) := by decide +kernel
theorem dJ6_bitCount_0f7a4_33 : decode cJ6_bitCount_0f7a4 33 = .ok (.istore_n 0, 1) := by decide +kernel
theorem dJ6_bitCount_0f7a4_34 : decode cJ6_bitCount_0f7a4 34 = .ok (.iload_n 0, 1) := by decide +kernel
theorem dJ6_bitCount_0f7a4_35 : decode cJ6_bitCount_0f7a4 35 = .ok (.iload_n 0, 1) := by decide +kernel
theorem dJ6_bitCount_0f7a4_36 : decode cJ6_bitCount_0f7a4 36 = .ok (.bipush 8, 2) := by decide +kernel
theorem dJ6_bitCount_0f7a4_38 : decode cJ6_bitCount_0f7a4 38 = .ok (.iushr, 1) := by decide +kernel
theorem dJ6_bitCount_0f7a4_39 : decode cJ6_bitCount_0f7a4 39 = .ok (.iadd, 1) := by decide +kernel
theorem dJ6_bitCount_0f7a4_40 : decode cJ6_bitCount_0f7a4 40 = .ok (.istore_n 0, 1) := by decide +kernel
theorem dJ6_bitCount_0f7a4_41 : decode cJ6_bitCount_0f7a4 41 = .ok (.iload_n 0, 1) := by decide +kernel
theorem dJ6_bitCount_0f7a4_42 : decode cJ6_bitCount_0f7a4 42 = .ok (.iload_n 0, 1) := by decide +kernel
theorem dJ6_bitCount_0f7a4_43 : decode cJ6_bitCount_0f7a4 43 = .ok (.bipush 16, 2) := by decide +kernel
theorem dJ6_bitCount_0f7a4_45 : decode cJ6_bitCount_0f7a4 45 = .ok (.iushr, 1) := by decide +kernel
theorem dJ6_bitCount_0f7a4_46 : decode cJ6_bitCount_0f7a4 46 = .ok (.iadd, 1) := by decide +kernel
theorem dJ6_bitCount_0f7a4_47 : decode cJ6_bitCount_0f7a4 47 = .ok (.istore_n 0, 1) := by decide +kernel
theorem dJ6_bitCount_0f7a4_48 : decode cJ6_bitCount_0f7a4 48 = .ok (.iload_n 0, 1) := by decide +kernel
theorem dJ6_bitCount_0f7a4_49 : decode cJ6_bitCount_0f7a4 49 = .ok (.bipush 63, 2) := by decide +kernel
theorem dJ6_bitCount_0f7a4_51 : decode cJ6_bitCount_0f7a4 51 = .ok (.iand, 1) := by decide +kernel
theorem dJ6_bitCount_0f7a4_52 : decode cJ6_bitCount_0f7a4 52 = .ok (.ireturn, 1) := by decide +kernel
theorem dJ9_abs_0f7a4_0 : decode cJ9_abs_0f7a4 0 = .ok (.iload_n 0, 1) := by decide +kernel
theorem dJ9_abs_0f7a4_1 : decode cJ9_abs_0f7a4 1 = .ok (.ifCond .ge 8, 3) := by decide +kernel
theorem dJ9_abs_0f7a4_4 : decode cJ9_abs_0f7a4 4 = .ok (.iload_n 0, 1) := by decide +kernel
theorem dJ9_abs_0f7a4_5 : decode cJ9_abs_0f7a4 5 = .ok (.ineg, 1) := by decide +kernel
theorem dJ9_abs_0f7a4_6 : decode cJ9_abs_0f7a4 6 = .ok (.goto 4, 3) := by decide +kernel
theorem dJ9_abs_0f7a4_9 : decode cJ9_abs_0f7a4 9 = .ok (.iload_n 0, 1) := by decide +kernel
theorem dJ9_abs_0f7a4_10 : decode cJ9_abs_0f7a4 10 = .ok (.ireturn, 1) := by decide +kernel
theorem dJ9_max_7cf53_0 : decode cJ9_max_7cf53 0 = .ok (.iload_n 0, 1) := by decide +kernel
theorem dJ9_max_7cf53_1 : decode cJ9_max_7cf53 1 = .ok (.iload_n 1, 1) := by decide +kernel
theorem dJ9_max_7cf53_2 : decode cJ9_max_7cf53 2 = .ok (.if_icmp .lt 7, 3) := by decide +kernel
theorem dJ9_max_7cf53_5 : decode cJ9_max_7cf53 5 = .ok (.iload_n 0, 1) := by decide +kernel
theorem dJ9_max_7cf53_6 : decode cJ9_max_7cf53 6 = .ok (.goto 4, 3) := by decide +kernel
theorem dJ9_max_7cf53_9 : decode cJ9_max_7cf53 9 = .ok (.iload_n 1, 1) := by decide +kernel
theorem dJ9_max_7cf53_10 : decode cJ9_max_7cf53 10 = .ok (.ireturn, 1) := by decide +kernel
theorem dJ9_min_7cf53_0 : decode cJ9_min_7cf53 0 = .ok (.iload_n 0, 1) := by decide +kernel
theorem dJ9_min_7cf53_1 : decode cJ9_min_7cf53 1 = .ok (.iload_n 1, 1) := by decide +kernel
theorem dJ9_min_7cf53_2 : decode cJ9_min_7cf53 2 = .ok (.if_icmp .gt 7, 3) := by decide +kernel
theorem dJ9_min_7cf53_5 : decode cJ9_min_7cf53 5 = .ok (.iload_n 0, 1) := by decide +kernel
theorem dJ9_min_7cf53_6 : decode cJ9_min_7cf53 6 = .ok (.goto 4, 3) := by decide +kernel
theorem dJ9_min_7cf53_9 : decode cJ9_min_7cf53 9 = .ok (.iload_n 1, 1) := by decide +kernel
theorem dJ9_min_7cf53_10 : decode cJ9_min_7cf53 10 = .ok (.ireturn, 1) := by decide +kernel
