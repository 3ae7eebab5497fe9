theorem dX0_init_0 : decode cX0_init 0 = .ok (.aload_n 0, 1) := by decide +kernel
theorem dX0_init_1 : decode cX0_init 1 = .ok (.invokespecial 3, 3) := by decide +kernel
theorem dX0_init_4 : decode cX0_init 4 = .ok (.aload_n 0, 1) := by decide +kernel
theorem dX0_init_5 : decode cX0_init 5 = .ok (.iconst 4, 1) := by decide +kernel
theorem dX0_init_6 : decode cX0_init 6 = .ok (.anewarray 9, 3) := by decide +kernel
theorem dX0_init_9 : decode cX0_init 9 = .ok (.putfield 11, 3) := by decide +kernel
theorem dX0_init_12 : decode cX0_init 12 = .ok (.iconst 0, 1) := by decide +kernel
theorem dX0_init_13 : decode cX0_init 13 = .ok (.istore_n 1, 1) := by decide +kernel
theorem dX0_init_14 : decode cX0_init 14 = .ok (.iload_n 1, 1) := by decide +kernel
theorem dX0_init_15 : decode cX0_init 15 = .ok (.iconst 4, 1) := by decide +kernel
theorem dX0_init_16 : decode cX0_init 16 = .ok (.if_icmp .ge 22, 3) := by decide +kernel
theorem dX0_init_19 : decode cX0_init 19 = .ok (.aload_n 0, 1) := by decide +kernel
theorem dX0_init_20 : decode cX0_init 20 = .ok (.getfield 11, 3) := by decide +kernel
theorem dX0_init_23 : decode cX0_init 23 = .ok (.iload_n 1, 1) := by decide +kernel
theorem dX0_init_24 : decode cX0_init 24 = .ok (.new 9, 3) := by decide +kernel
theorem dX0_init_27 : decode cX0_init 27 = .ok (.dup, 1) := by decide +kernel
theorem dX0_init_28 : decode cX0_init 28 = .ok (.invokespecial 17, 3) := by decide +kernel
theorem dX0_init_31 : decode cX0_init 31 = .ok (.aastore, 1) := by decide +kernel
theorem dX0_init_32 : decode cX0_init 32 = .ok (.iinc 1 1, 3) := by decide +kernel
theorem dX0_init_35 : decode cX0_init 35 = .ok (.goto (-21), 3) := by decide +kernel
theorem dX0_init_38 : decode cX0_init 38 = .ok (.return_, 1) := by decide +kernel
theorem dX0_size_0 : decode cX0_size 0 = .ok (.aload_n 0, 1) := by decide +kernel
theorem dX0_size_1 : decode cX0_size 1 = .ok (.getfield 18, 3) := by decide +kernel
theorem dX0_size_4 : decode cX0_size 4 = .ok (.ireturn, 1) := by decide +kernel
theorem dX0_remember_0 : decode cX0_remember 0 = .ok (.aload_n 0, 1) := by decide +kernel
theorem dX0_remember_1 : decode cX0_remember 1 = .ok (.getfield 18, 3) := by decide +kernel
theorem dX0_remember_4 : decode cX0_remember 4 = .ok (.iconst 4, 1) := by decide +kernel
theorem dX0_remember_5 : decode cX0_remember 5 = .ok (.if_icmp .lt 7, 3) := by decide +kernel
theorem dX0_remember_8 : decode cX0_remember 8 = .ok (.aload_n 0, 1) := by decide +kernel
theorem dX0_remember_9 : decode cX0_remember 9 = .ok (.invokevirtual 22, 3) := by decide +kernel
theorem dX0_remember_12 : decode cX0_remember 12 = .ok (.aload_n 0, 1) := by decide +kernel
theorem dX0_remember_13 : decode cX0_remember 13 = .ok (.getfield 11, 3) := by decide +kernel
theorem dX0_remember_16 : decode cX0_remember 16 = .ok (.aload_n 0, 1) := by decide +kernel
theorem dX0_remember_17 : decode cX0_remember 17 = .ok (.getfield 18, 3) := by decide +kernel
theorem dX0_remember_20 : decode cX0_remember 20 = .ok (.aaload, 1) := by decide +kernel
theorem dX0_remember_21 : decode cX0_remember 21 = .ok (.aload_n 1, 1) := by decide +kernel
theorem dX0_remember_22 : decode cX0_remember 22 = .ok (.invokevirtual 25, 3) := by decide +kernel
theorem dX0_remember_25 : decode cX0_remember 25 = .ok (.aload_n 0, 1) := by decide +kernel
theorem dX0_remember_26 : decode cX0_remember 26 = .ok (.dup, 1) := by decide +kernel
theorem dX0_remember_27 : decode cX0_remember 27 = .ok (.getfield 18, 3) := by decide +kernel
theorem dX0_remember_30 : decode cX0_remember 30 = .ok (.iconst 1, 1) := by decide +kernel
theorem dX0_remember_31 : decode cX0_remember 31 = .ok (.iadd, 1) := by decide +kernel
theorem dX0_remember_32 : decode cX0_remember 32 = .ok (.putfield 18, 3) := by decide +kernel
theorem dX0_remember_35 : decode cX0_remember 35 = .ok (.return_, 1) := by decide +kernel
theorem dX0_dropOldest_0 : decode cX0_dropOldest 0 = .ok (.aload_n 0, 1) := by decide +kernel
theorem dX0_dropOldest_1 : decode cX0_dropOldest 1 = .ok (.getfield 11, 3) := by decide +kernel
theorem dX0_dropOldest_4 : decode cX0_dropOldest 4 = .ok (.iconst 0, 1) := by decide +kernel
theorem dX0_dropOldest_5 : decode cX0_dropOldest 5 = .ok (.aaload, 1) := by decide +kernel
theorem dX0_dropOldest_6 : decode cX0_dropOldest 6 = .ok (.astore_n 1, 1) := by decide +kernel
theorem dX0_dropOldest_7 : decode cX0_dropOldest 7 = .ok (.iconst 1, 1) := by decide +kernel
theorem dX0_dropOldest_8 : decode cX0_dropOldest 8 = .ok (.istore_n 2, 1) := by decide +kernel
theorem dX0_dropOldest_9 : decode cX0_dropOldest 9 = .ok (.iload_n 2, 1) := by decide +kernel
theorem dX0_dropOldest_10 : decode cX0_dropOldest 10 = .ok (.iconst 4, 1) := by decide +kernel
theorem dX0_dropOldest_11 : decode cX0_dropOldest 11 = .ok (.if_icmp .ge 23, 3) := by decide +kernel
theorem dX0_dropOldest_14 : decode cX0_dropOldest 14 = .ok (.aload_n 0, 1) := by decide +kernel
theorem dX0_dropOldest_15 : decode cX0_dropOldest 15 = .ok (.getfield 11, 3) := by decide +kernel
theorem dX0_dropOldest_18 : decode cX0_dropOldest 18 = .ok (.iload_n 2, 1) := by decide +kernel
theorem dX0_dropOldest_19 : decode cX0_dropOldest 19 = .ok (.iconst 1, 1) := by decide +kernel
theorem dX0_dropOldest_20 : decode cX0_dropOldest 20 = .ok (.isub, 1) := by decide +kernel
theorem dX0_dropOldest_21 : decode cX0_dropOldest 21 = .ok (.aload_n 0, 1) := by decide +kernel
theorem dX0_dropOldest_22 : decode cX0_dropOldest 22 = .ok (.getfield 11, 3) := by decide +kernel
theorem dX0_dropOldest_25 : decode cX0_dropOldest 25 = .ok (.iload_n 2, 1) := by decide +kernel
theorem dX0_dropOldest_26 : decode cX0_dropOldest 26 = .ok (.aaload, 1) := by decide +kernel
theorem dX0_dropOldest_27 : decode cX0_dropOldest 27 = .ok (.aastore, 1) := by decide +kernel
theorem dX0_dropOldest_28 : decode cX0_dropOldest 28 = .ok (.iinc 2 1, 3) := by decide +kernel
theorem dX0_dropOldest_31 : decode cX0_dropOldest 31 = .ok (.goto (-22), 3) := by decide +kernel
theorem dX0_dropOldest_34 : decode cX0_dropOldest 34 = .ok (.aload_n 0, 1) := by decide +kernel
theorem dX0_dropOldest_35 : decode cX0_dropOldest 35 = .ok (.getfield 11, 3) := by decide +kernel
theorem dX0_dropOldest_38 : decode cX0_dropOldest 38 = .ok (.iconst 3, 1) := by decide +kernel
theorem dX0_dropOldest_39 : decode cX0_dropOldest 39 = .ok (.aload_n 1, 1) := by decide +kernel
theorem dX0_dropOldest_40 : decode cX0_dropOldest 40 = .ok (.aastore, 1) := by decide +kernel
theorem dX0_dropOldest_41 : decode cX0_dropOldest 41 = .ok (.aload_n 0, 1) := by decide +kernel
theorem dX0_dropOldest_42 : decode cX0_dropOldest 42 = .ok (.iconst 3, 1) := by decide +kernel
theorem dX0_dropOldest_43 : decode cX0_dropOldest 43 = .ok (.putfield 18, 3) := by decide +kernel
theorem dX0_dropOldest_46 : decode cX0_dropOldest 46 = .ok (.return_, 1) := by decide +kernel
theorem dX0_takeBack_0 : decode cX0_takeBack 0 = .ok (.aload_n 0, 1) := by decide +kernel
theorem dX0_takeBack_1 : decode cX0_takeBack 1 = .ok (.getfield 18, 3) := by decide +kernel
theorem dX0_takeBack_4 : decode cX0_takeBack 4 = .ok (.ifCond .le 26, 3) := by decide +kernel
theorem dX0_takeBack_7 : decode cX0_takeBack 7 = .ok (.aload_n 0, 1) := by decide +kernel
theorem dX0_takeBack_8 : decode cX0_takeBack 8 = .ok (.dup, 1) := by decide +kernel
theorem dX0_takeBack_9 : decode cX0_takeBack 9 = .ok (.getfield 18, 3) := by decide +kernel
theorem dX0_takeBack_12 : decode cX0_takeBack 12 = .ok (.iconst 1, 1) := by decide +kernel
theorem dX0_takeBack_13 : decode cX0_takeBack 13 = .ok (.isub, 1) := by decide +kernel
theorem dX0_takeBack_14 : decode cX0_takeBack 14 = .ok (.putfield 18, 3) := by decide +kernel
theorem dX0_takeBack_17 : decode cX0_takeBack 17 = .ok (.aload_n 1, 1) := by decide +kernel
theorem dX0_takeBack_18 : decode cX0_takeBack 18 = .ok (.aload_n 0, 1) := by decide +kernel
theorem dX0_takeBack_19 : decode cX0_takeBack 19 = .ok (.getfield 11, 3) := by decide +kernel
theorem dX0_takeBack_22 : decode cX0_takeBack 22 = .ok (.aload_n 0, 1) := by decide +kernel
theorem dX0_takeBack_23 : decode cX0_takeBack 23 = .ok (.getfield 18, 3) := by decide +kernel
theorem dX0_takeBack_26 : decode cX0_takeBack 26 = .ok (.aaload, 1) := by decide +kernel
theorem dX0_takeBack_27 : decode cX0_takeBack 27 = .ok (.invokevirtual 25, 3) := by decide +kernel
theorem dX0_takeBack_30 : decode cX0_takeBack 30 = .ok (.return_, 1) := by decide +kernel
theorem dX1_init_0 : decode cX1_init 0 = .ok (.aload_n 0, 1) := by decide +kernel
theorem dX1_init_1 : decode cX1_init 1 = .ok (.invokespecial 3, 3) := by decide +kernel
theorem dX1_init_4 : decode cX1_init 4 = .ok (.aload_n 0, 1) := by decide +kernel
theorem dX1_init_5 : decode cX1_init 5 = .ok (.bipush 16, 2) := by decide +kernel
theorem dX1_init_7 : decode cX1_init 7 = .ok (.newarray .int, 2) := by decide +kernel
theorem dX1_init_9 : decode cX1_init 9 = .ok (.putfield 9, 3) := by decide +kernel
theorem dX1_init_12 : decode cX1_init 12 = .ok (.aload_n 0, 1) := by decide +kernel
theorem dX1_init_13 : decode cX1_init 13 = .ok (.bipush 16, 2) := by decide +kernel
theorem dX1_init_15 : decode cX1_init 15 = .ok (.newarray .int, 2) := by decide +kernel
theorem dX1_init_17 : decode cX1_init 17 = .ok (.putfield 15, 3) := by decide +kernel
theorem dX1_init_20 : decode cX1_init 20 = .ok (.aload_n 0, 1) := by decide +kernel
theorem dX1_init_21 : decode cX1_init 21 = .ok (.bipush 16, 2) := by decide +kernel
theorem dX1_init_23 : decode cX1_init 23 = .ok (.newarray .int, 2) := by decide +kernel
theorem dX1_init_25 : decode cX1_init 25 = .ok (.putfield 18, 3) := by decide +kernel
theorem dX1_init_28 : decode cX1_init 28 = .ok (.aload_n 0, 1) := by decide +kernel
theorem dX1_init_29 : decode cX1_init 29 = .ok (.bipush 16, 2) := by decide +kernel
theorem dX1_init_31 : decode cX1_init 31 = .ok (.newarray .int, 2) := by decide +kernel
theorem dX1_init_33 : decode cX1_init 33 = .ok (.putfield 21, 3) := by decide +kernel
theorem dX1_init_36 : decode cX1_init 36 = .ok (.aload_n 0, 1) := by decide +kernel
theorem dX1_init_37 : decode cX1_init 37 = .ok (.bipush 16, 2) := by decide +kernel
theorem dX1_init_39 : decode cX1_init 39 = .ok (.newarray .int, 2) := by decide +kernel
theorem dX1_init_41 : decode cX1_init 41 = .ok (.putfield 24, 3) := by decide +kernel
theorem dX1_init_44 : decode cX1_init 44 = .ok (.aload_n 0, 1) := by decide +kernel
theorem dX1_init_45 : decode cX1_init 45 = .ok (.bipush 16, 2) := by decide +kernel
theorem dX1_init_47 : decode cX1_init 47 = .ok (.newarray .int, 2) := by decide +kernel
theorem dX1_init_49 : decode cX1_init 49 = .ok (.putfield 27, 3) := by decide +kernel
theorem dX1_init_52 : decode cX1_init 52 = .ok (.aload_n 0, 1) := by decide +kernel
theorem dX1_init_53 : decode cX1_init 53 = .ok (.bipush 16, 2) := by decide +kernel
theorem dX1_init_55 : decode cX1_init 55 = .ok (.newarray .int, 2) := by decide +kernel
theorem dX1_init_57 : decode cX1_init 57 = .ok (.putfield 30, 3) := by decide +kernel
theorem dX1_init_60 : decode cX1_init 60 = .ok (.aload_n 0, 1) := by decide +kernel
theorem dX1_init_61 : decode cX1_init 61 = .ok (.getstatic 33, 3) := by decide +kernel
theorem dX1_init_64 : decode cX1_init 64 = .ok (.invokevirtual 36, 3) := by decide +kernel
theorem dX1_init_67 : decode cX1_init 67 = .ok (.checkcast 37, 3) := by decide +kernel
theorem dX1_init_70 : decode cX1_init 70 = .ok (.putfield 41, 3) := by decide +kernel
theorem dX1_init_73 : decode cX1_init 73 = .ok (.return_, 1) := by decide +kernel
theorem dX1_copyFrom_0 : decode cX1_copyFrom 0 = .ok (.aload_n 1, 1) := by decide +kernel
theorem dX1_copyFrom_1 : decode cX1_copyFrom 1 = .ok (.getfield 9, 3) := by decide +kernel
theorem dX1_copyFrom_4 : decode cX1_copyFrom 4 = .ok (.iconst 0, 1) := by decide +kernel
theorem dX1_copyFrom_5 : decode cX1_copyFrom 5 = .ok (.aload_n 0, 1) := by decide +kernel
theorem dX1_copyFrom_6 : decode cX1_copyFrom 6 = .ok (.getfield 9, 3) := by decide +kernel
theorem dX1_copyFrom_9 : decode cX1_copyFrom 9 = .ok (.iconst 0, 1) := by decide +kernel
theorem dX1_copyFrom_10 : decode cX1_copyFrom 10 = .ok (.bipush 16, 2) := by decide +kernel
theorem dX1_copyFrom_12 : decode cX1_copyFrom 12 = .ok (.invokestatic 44, 3) := by decide +kernel
theorem dX1_copyFrom_15 : decode cX1_copyFrom 15 = .ok (.aload_n 1, 1) := by decide +kernel
theorem dX1_copyFrom_16 : decode cX1_copyFrom 16 = .ok (.getfield 15, 3) := by decide +kernel
theorem dX1_copyFrom_19 : decode cX1_copyFrom 19 = .ok (.iconst 0, 1) := by decide +kernel
theorem dX1_copyFrom_20 : decode cX1_copyFrom 20 = .ok (.aload_n 0, 1) := by decide +kernel
theorem dX1_copyFrom_21 : decode cX1_copyFrom 21 = .ok (.getfield 15, 3) := by decide +kernel
theorem dX1_copyFrom_24 : decode cX1_copyFrom 24 = .ok (.iconst 0, 1) := by decide +kernel
theorem dX1_copyFrom_25 : decode cX1_copyFrom 25 = .ok (.bipush 16, 2) := by decide +kernel
theorem dX1_copyFrom_27 : decode cX1_copyFrom 27 = .ok (.invokestatic 44, 3) := by decide +kernel
theorem dX1_copyFrom_30 : decode cX1_copyFrom 30 = .ok (.aload_n 1, 1) := by decide +kernel
theorem dX1_copyFrom_31 : decode cX1_copyFrom 31 = .ok (.getfield 18, 3) := by decide +kernel
theorem dX1_copyFrom_34 : decode cX1_copyFrom 34 = .ok (.iconst 0, 1) := by decide +kernel
theorem dX1_copyFrom_35 : decode cX1_copyFrom 35 = .ok (.aload_n 0, 1) := by decide +kernel
theorem dX1_copyFrom_36 : decode cX1_copyFrom 36 = .ok (.getfield 18, 3) := by decide +kernel
theorem dX1_copyFrom_39 : decode cX1_copyFrom 39 = .ok (.iconst 0, 1) := by decide +kernel
theorem dX1_copyFrom_40 : decode cX1_copyFrom 40 = .ok (.bipush 16, 2) := by decide +kernel
theorem dX1_copyFrom_42 : decode cX1_copyFrom 42 = .ok (.invokestatic 44, 3) := by decide +kernel
theorem dX1_copyFrom_45 : decode cX1_copyFrom 45 = .ok (.aload_n 1, 1) := by decide +kernel
theorem dX1_copyFrom_46 : decode cX1_copyFrom 46 = .ok (.getfield 21, 3) := by decide +kernel
theorem dX1_copyFrom_49 : decode cX1_copyFrom 49 = .ok (.iconst 0, 1) := by decide +kernel
theorem dX1_copyFrom_50 : decode cX1_copyFrom 50 = .ok (.aload_n 0, 1) := by decide +kernel
theorem dX1_copyFrom_51 : decode cX1_copyFrom 51 = .ok (.getfield 21, 3) := by decide +kernel
theorem dX1_copyFrom_54 : decode cX1_copyFrom 54 = .ok (.iconst 0, 1) := by decide +kernel
theorem dX1_copyFrom_55 : decode cX1_copyFrom 55 = .ok (.bipush 16, 2) := by decide +kernel
theorem dX1_copyFrom_57 : decode cX1_copyFrom 57 = .ok (.invokestatic 44, 3) := by decide +kernel
theorem dX1_copyFrom_60 : decode cX1_copyFrom 60 = .ok (.aload_n 1, 1) := by decide +kernel
theorem dX1_copyFrom_61 : decode cX1_copyFrom 61 = .ok (.getfield 24, 3) := by decide +kernel
theorem dX1_copyFrom_64 : decode cX1_copyFrom 64 = .ok (.iconst 0, 1) := by decide +kernel
theorem dX1_copyFrom_65 : decode cX1_copyFrom 65 = .ok (.aload_n 0, 1) := by decide +kernel
theorem dX1_copyFrom_66 : decode cX1_copyFrom 66 = .ok (.getfield 24, 3) := by decide +kernel
theorem dX1_copyFrom_69 : decode cX1_copyFrom 69 = .ok (.iconst 0, 1) := by decide +kernel
theorem dX1_copyFrom_70 : decode cX1_copyFrom 70 = .ok (.bipush 16, 2) := by decide +kernel
theorem dX1_copyFrom_72 : decode cX1_copyFrom 72 = .ok (.invokestatic 44, 3) := by decide +kernel
theorem dX1_copyFrom_75 : decode cX1_copyFrom 75 = .ok (.aload_n 1, 1) := by decide +kernel
theorem dX1_copyFrom_76 : decode cX1_copyFrom 76 = .ok (.getfield 27, 3) := by decide +kernel
theorem dX1_copyFrom_79 : decode cX1_copyFrom 79 = .ok (.iconst 0, 1) := by decide +kernel
theorem dX1_copyFrom_80 : decode cX1_copyFrom 80 = .ok (.aload_n 0, 1) := by decide +kernel
theorem dX1_copyFrom_81 : decode cX1_copyFrom 81 = .ok (.getfield 27, 3) := by decide +kernel
theorem dX1_copyFrom_84 : decode cX1_copyFrom 84 = .ok (.iconst 0, 1) := by decide +kernel
theorem dX1_copyFrom_85 : decode cX1_copyFrom 85 = .ok (.bipush 16, 2) := by decide +kernel
theorem dX1_copyFrom_87 : decode cX1_copyFrom 87 = .ok (.invokestatic 44, 3) := by decide +kernel
theorem dX1_copyFrom_90 : decode cX1_copyFrom 90 = .ok (.aload_n 1, 1) := by decide +kernel
theorem dX1_copyFrom_91 : decode cX1_copyFrom 91 = .ok (.getfield 30, 3) := by decide +kernel
theorem dX1_copyFrom_94 : decode cX1_copyFrom 94 = .ok (.iconst 0, 1) := by decide +kernel
theorem dX1_copyFrom_95 : decode cX1_copyFrom 95 = .ok (.aload_n 0, 1) := by decide +kernel
theorem dX1_copyFrom_96 : decode cX1_copyFrom 96 = .ok (.getfield 30, 3) := by decide +kernel
theorem dX1_copyFrom_99 : decode cX1_copyFrom 99 = .ok (.iconst 0, 1) := by decide +kernel
theorem dX1_copyFrom_100 : decode cX1_copyFrom 100 = .ok (.bipush 16, 2) := by decide +kernel
theorem dX1_copyFrom_102 : decode cX1_copyFrom 102 = .ok (.invokestatic 44, 3) := by decide +kernel
theorem dX1_copyFrom_105 : decode cX1_copyFrom 105 = .ok (.aload_n 1, 1) := by decide +kernel
theorem dX1_copyFrom_106 : decode cX1_copyFrom 106 = .ok (.getfield 41, 3) := by decide +kernel
theorem dX1_copyFrom_109 : decode cX1_copyFrom 109 = .ok (.iconst 0, 1) := by decide +kernel
theorem dX1_copyFrom_110 : decode cX1_copyFrom 110 = .ok (.aload_n 0, 1) := by decide +kernel
theorem dX1_copyFrom_111 : decode cX1_copyFrom 111 = .ok (.getfield 41, 3) := by decide +kernel
theorem dX1_copyFrom_114 : decode cX1_copyFrom 114 = .ok (.iconst 0, 1) := by decide +kernel
theorem dX1_copyFrom_115 : decode cX1_copyFrom 115 = .ok (.iconst 3, 1) := by decide +kernel
theorem dX1_copyFrom_116 : decode cX1_copyFrom 116 = .ok (.invokestatic 44, 3) := by decide +kernel
theorem dX1_copyFrom_119 : decode cX1_copyFrom 119 = .ok (.aload_n 0, 1) := by decide +kernel
theorem dX1_copyFrom_120 : decode cX1_copyFrom 120 = .ok (.aload_n 1, 1) := by decide +kernel
theorem dX1_copyFrom_121 : decode cX1_copyFrom 121 = .ok (.getfield 50, 3) := by decide +kernel
theorem dX1_copyFrom_124 : decode cX1_copyFrom 124 = .ok (.putfield 50, 3) := by decide +kernel
theorem dX1_copyFrom_127 : decode cX1_copyFrom 127 = .ok (.aload_n 0, 1) := by decide +kernel
theorem dX1_copyFrom_128 : decode cX1_copyFrom 128 = .ok (.aload_n 1, 1) := by decide +kernel
theorem dX1_copyFrom_129 : decode cX1_copyFrom 129 = .ok (.getfield 54, 3) := by decide +kernel
theorem dX1_copyFrom_132 : decode cX1_copyFrom 132 = .ok (.putfield 54, 3) := by decide +kernel
theorem dX1_copyFrom_135 : decode cX1_copyFrom 135 = .ok (.aload_n 0, 1) := by decide +kernel
theorem dX1_copyFrom_136 : decode cX1_copyFrom 136 = .ok (.aload_n 1, 1) := by decide +kernel
theorem dX1_copyFrom_137 : decode cX1_copyFrom 137 = .ok (.getfield 57, 3) := by decide +kernel
theorem dX1_copyFrom_140 : decode cX1_copyFrom 140 = .ok (.putfield 57, 3) := by decide +kernel
theorem dX1_copyFrom_143 : decode cX1_copyFrom 143 = .ok (.aload_n 0, 1) := by decide +kernel
theorem dX1_copyFrom_144 : decode cX1_copyFrom 144 = .ok (.aload_n 1, 1) := by decide +kernel
theorem dX1_copyFrom_145 : decode cX1_copyFrom 145 = .ok (.getfield 60, 3) := by decide +kernel
theorem dX1_copyFrom_148 : decode cX1_copyFrom 148 = .ok (.putfield 60, 3) := by decide +kernel
theorem dX1_copyFrom_151 : decode cX1_copyFrom 151 = .ok (.aload_n 0, 1) := by decide +kernel
theorem dX1_copyFrom_152 : decode cX1_copyFrom 152 = .ok (.aload_n 1, 1) := by decide +kernel
theorem dX1_copyFrom_153 : decode cX1_copyFrom 153 = .ok (.getfield 63, 3) := by decide +kernel
theorem dX1_copyFrom_156 : decode cX1_copyFrom 156 = .ok (.putfield 63, 3) := by decide +kernel
theorem dX1_copyFrom_159 : decode cX1_copyFrom 159 = .ok (.aload_n 0, 1) := by decide +kernel
theorem dX1_copyFrom_160 : decode cX1_copyFrom 160 = .ok (.aload_n 1, 1) := by decide +kernel
theorem dX1_copyFrom_161 : decode cX1_copyFrom 161 = .ok (.getfield 66, 3) := by decide +kernel
theorem dX1_copyFrom_164 : decode cX1_copyFrom 164 = .ok (.putfield 66, 3) := by decide +kernel
theorem dX1_copyFrom_167 : decode cX1_copyFrom 167 = .ok (.aload_n 0, 1) := by decide +kernel
theorem dX1_copyFrom_168 : decode cX1_copyFrom 168 = .ok (.aload_n 1, 1) := by decide +kernel
theorem dX1_copyFrom_169 : decode cX1_copyFrom 169 = .ok (.getfield 69, 3) := by decide +kernel
theorem dX1_copyFrom_172 : decode cX1_copyFrom 172 = .ok (.putfield 69, 3) := by decide +kernel
theorem dX1_copyFrom_175 : decode cX1_copyFrom 175 = .ok (.return_, 1) := by decide +kernel
theorem dX1_has_0 : decode cX1_has 0 = .ok (.iload_n 1, 1) := by decide +kernel
theorem dX1_has_1 : decode cX1_has 1 = .ok (.ifCond .lt 24, 3) := by decide +kernel
theorem dX1_has_4 : decode cX1_has 4 = .ok (.iload_n 1, 1) := by decide +kernel
theorem dX1_has_5 : decode cX1_has 5 = .ok (.bipush 16, 2) := by decide +kernel
theorem dX1_has_7 : decode cX1_has 7 = .ok (.if_icmp .ge 18, 3) := by decide +kernel
theorem dX1_has_10 : decode cX1_has 10 = .ok (.aload_n 0, 1) := by decide +kernel
theorem dX1_has_11 : decode cX1_has 11 = .ok (.getfield 50, 3) := by decide +kernel
theorem dX1_has_14 : decode cX1_has 14 = .ok (.iload_n 1, 1) := by decide +kernel
theorem dX1_has_15 : decode cX1_has 15 = .ok (.invokestatic 72, 3) := by decide +kernel
theorem dX1_has_18 : decode cX1_has 18 = .ok (.ifCond .eq 7, 3) := by decide +kernel
theorem dX1_has_21 : decode cX1_has 21 = .ok (.iconst 1, 1) := by decide +kernel
theorem dX1_has_22 : decode cX1_has 22 = .ok (.goto 4, 3) := by decide +kernel
theorem dX1_has_25 : decode cX1_has 25 = .ok (.iconst 0, 1) := by decide +kernel
theorem dX1_has_26 : decode cX1_has 26 = .ok (.ireturn, 1) := by decide +kernel
theorem dX1_isOn_0 : decode cX1_isOn 0 = .ok (.aload_n 0, 1) := by decide +kernel
theorem dX1_isOn_1 : decode cX1_isOn 1 = .ok (.getfield 54, 3) := by decide +kernel
theorem dX1_isOn_4 : decode cX1_isOn 4 = .ok (.iload_n 1, 1) := by decide +kernel
theorem dX1_isOn_5 : decode cX1_isOn 5 = .ok (.invokestatic 72, 3) := by decide +kernel
theorem dX1_isOn_8 : decode cX1_isOn 8 = .ok (.ireturn, 1) := by decide +kernel
theorem dX1_isLinked_0 : decode cX1_isLinked 0 = .ok (.aload_n 0, 1) := by decide +kernel
theorem dX1_isLinked_1 : decode cX1_isLinked 1 = .ok (.getfield 21, 3) := by decide +kernel
theorem dX1_isLinked_4 : decode cX1_isLinked 4 = .ok (.iload_n 1, 1) := by decide +kernel
theorem dX1_isLinked_5 : decode cX1_isLinked 5 = .ok (.iaload, 1) := by decide +kernel
theorem dX1_isLinked_6 : decode cX1_isLinked 6 = .ok (.iload_n 2, 1) := by decide +kernel
theorem dX1_isLinked_7 : decode cX1_isLinked 7 = .ok (.invokestatic 72, 3) := by decide +kernel
theorem dX1_isLinked_10 : decode cX1_isLinked 10 = .ok (.ireturn, 1) := by decide +kernel
theorem dX1_couldLink_0 : decode cX1_couldLink 0 = .ok (.aload_n 0, 1) := by decide +kernel
theorem dX1_couldLink_1 : decode cX1_couldLink 1 = .ok (.iload_n 1, 1) := by decide +kernel
theorem dX1_couldLink_2 : decode cX1_couldLink 2 = .ok (.invokevirtual 76, 3) := by decide +kernel
theorem dX1_couldLink_5 : decode cX1_couldLink 5 = .ok (.ifCond .eq 24, 3) := by decide +kernel
theorem dX1_couldLink_8 : decode cX1_couldLink 8 = .ok (.aload_n 0, 1) := by decide +kernel
theorem dX1_couldLink_9 : decode cX1_couldLink 9 = .ok (.iload_n 2, 1) := by decide +kernel
theorem dX1_couldLink_10 : decode cX1_couldLink 10 = .ok (.invokevirtual 76, 3) := by decide +kernel
theorem dX1_couldLink_13 : decode cX1_couldLink 13 = .ok (.ifCond .eq 16, 3) := by decide +kernel
theorem dX1_couldLink_16 : decode cX1_couldLink 16 = .ok (.aload_n 0, 1) := by decide +kernel
theorem dX1_couldLink_17 : decode cX1_couldLink 17 = .ok (.iload_n 1, 1) := by decide +kernel
theorem dX1_couldLink_18 : decode cX1_couldLink 18 = .ok (.iload_n 2, 1) := by decide +kernel
theorem dX1_couldLink_19 : decode cX1_couldLink 19 = .ok (.invokevirtual 80, 3) := by decide +kernel
theorem dX1_couldLink_22 : decode cX1_couldLink 22 = .ok (.ifCond .ne 7, 3) := by decide +kernel
theorem dX1_couldLink_25 : decode cX1_couldLink 25 = .ok (.iconst 1, 1) := by decide +kernel
theorem dX1_couldLink_26 : decode cX1_couldLink 26 = .ok (.goto 4, 3) := by decide +kernel
theorem dX1_couldLink_29 : decode cX1_couldLink 29 = .ok (.iconst 0, 1) := by decide +kernel
theorem dX1_couldLink_30 : decode cX1_couldLink 30 = .ok (.ireturn, 1) := by decide +kernel
theorem dX1_isWholePhase_0 : decode cX1_isWholePhase 0 = .ok (.iload_n 1, 1) := by decide +kernel
theorem dX1_isWholePhase_1 : decode cX1_isWholePhase 1 = .ok (.ifCond .lt 17, 3) := by decide +kernel
theorem dX1_isWholePhase_4 : decode cX1_isWholePhase 4 = .ok (.iload_n 1, 1) := by decide +kernel
theorem dX1_isWholePhase_5 : decode cX1_isWholePhase 5 = .ok (.aload_n 0, 1) := by decide +kernel
theorem dX1_isWholePhase_6 : decode cX1_isWholePhase 6 = .ok (.getfield 41, 3) := by decide +kernel
theorem dX1_isWholePhase_9 : decode cX1_isWholePhase 9 = .ok (.iconst 0, 1) := by decide +kernel
theorem dX1_isWholePhase_10 : decode cX1_isWholePhase 10 = .ok (.iaload, 1) := by decide +kernel
theorem dX1_isWholePhase_11 : decode cX1_isWholePhase 11 = .ok (.if_icmp .ge 7, 3) := by decide +kernel
theorem dX1_isWholePhase_14 : decode cX1_isWholePhase 14 = .ok (.iconst 1, 1) := by decide +kernel
theorem dX1_isWholePhase_15 : decode cX1_isWholePhase 15 = .ok (.goto 4, 3) := by decide +kernel
theorem dX1_isWholePhase_18 : decode cX1_isWholePhase 18 = .ok (.iconst 0, 1) := by decide +kernel
theorem dX1_isWholePhase_19 : decode cX1_isWholePhase 19 = .ok (.ireturn, 1) := by decide +kernel
theorem dX1_setting_0 : decode cX1_setting 0 = .ok (.aload_n 0, 1) := by decide +kernel
theorem dX1_setting_1 : decode cX1_setting 1 = .ok (.getfield 41, 3) := by decide +kernel
theorem dX1_setting_4 : decode cX1_setting 4 = .ok (.iload_n 1, 1) := by decide +kernel
theorem dX1_setting_5 : decode cX1_setting 5 = .ok (.iaload, 1) := by decide +kernel
theorem dX1_setting_6 : decode cX1_setting 6 = .ok (.ireturn, 1) := by decide +kernel
theorem dX1_tickNumber_0 : decode cX1_tickNumber 0 = .ok (.aload_n 0, 1) := by decide +kernel
theorem dX1_tickNumber_1 : decode cX1_tickNumber 1 = .ok (.getfield 57, 3) := by decide +kernel
theorem dX1_tickNumber_4 : decode cX1_tickNumber 4 = .ok (.ireturn, 1) := by decide +kernel
theorem dX1_allBlinks_0 : decode cX1_allBlinks 0 = .ok (.aload_n 0, 1) := by decide +kernel
theorem dX1_allBlinks_1 : decode cX1_allBlinks 1 = .ok (.getfield 60, 3) := by decide +kernel
theorem dX1_allBlinks_4 : decode cX1_allBlinks 4 = .ok (.ireturn, 1) := by decide +kernel
theorem dX1_lamps_0 : decode cX1_lamps 0 = .ok (.aload_n 0, 1) := by decide +kernel
theorem dX1_lamps_1 : decode cX1_lamps 1 = .ok (.getfield 50, 3) := by decide +kernel
theorem dX1_lamps_4 : decode cX1_lamps 4 = .ok (.invokestatic 83, 3) := by decide +kernel
theorem dX1_lamps_7 : decode cX1_lamps 7 = .ok (.ireturn, 1) := by decide +kernel
theorem dX1_lampsOn_0 : decode cX1_lampsOn 0 = .ok (.aload_n 0, 1) := by decide +kernel
theorem dX1_lampsOn_1 : decode cX1_lampsOn 1 = .ok (.getfield 54, 3) := by decide +kernel
theorem dX1_lampsOn_4 : decode cX1_lampsOn 4 = .ok (.invokestatic 83, 3) := by decide +kernel
theorem dX1_lampsOn_7 : decode cX1_lampsOn 7 = .ok (.ireturn, 1) := by decide +kernel
theorem dX1_links_0 : decode cX1_links 0 = .ok (.iconst 0, 1) := by decide +kernel
theorem dX1_links_1 : decode cX1_links 1 = .ok (.istore_n 1, 1) := by decide +kernel
theorem dX1_links_2 : decode cX1_links 2 = .ok (.iconst 0, 1) := by decide +kernel
theorem dX1_links_3 : decode cX1_links 3 = .ok (.istore_n 2, 1) := by decide +kernel
theorem dX1_links_4 : decode cX1_links 4 = .ok (.iload_n 2, 1) := by decide +kernel
theorem dX1_links_5 : decode cX1_links 5 = .ok (.bipush 16, 2) := by decide +kernel
theorem dX1_links_7 : decode cX1_links 7 = .ok (.if_icmp .ge 21, 3) := by decide +kernel
theorem dX1_links_10 : decode cX1_links 10 = .ok (.iload_n 1, 1) := by decide +kernel
theorem dX1_links_11 : decode cX1_links 11 = .ok (.aload_n 0, 1) := by decide +kernel
theorem dX1_links_12 : decode cX1_links 12 = .ok (.getfield 21, 3) := by decide +kernel
theorem dX1_links_15 : decode cX1_links 15 = .ok (.iload_n 2, 1) := by decide +kernel
theorem dX1_links_16 : decode cX1_links 16 = .ok (.iaload, 1) := by decide +kernel
theorem dX1_links_17 : decode cX1_links 17 = .ok (.invokestatic 83, 3) := by decide +kernel
theorem dX1_links_20 : decode cX1_links 20 = .ok (.iadd, 1) := by decide +kernel
theorem dX1_links_21 : decode cX1_links 21 = .ok (.istore_n 1, 1) := by decide +kernel
theorem dX1_links_22 : decode cX1_links 22 = .ok (.iinc 2 1, 3) := by decide +kernel
theorem dX1_links_25 : decode cX1_links 25 = .ok (.goto (-21), 3) := by decide +kernel
theorem dX1_links_28 : decode cX1_links 28 = .ok (.iload_n 1, 1) := by decide +kernel
theorem dX1_links_29 : decode cX1_links 29 = .ok (.iconst 2, 1) := by decide +kernel
theorem dX1_links_30 : decode cX1_links 30 = .ok (.idiv, 1) := by decide +kernel
theorem dX1_links_31 : decode cX1_links 31 = .ok (.ireturn, 1) := by decide +kernel
theorem dX1_freeNumber_0 : decode cX1_freeNumber 0 = .ok (.iconst 0, 1) := by decide +kernel
theorem dX1_freeNumber_1 : decode cX1_freeNumber 1 = .ok (.istore_n 1, 1) := by decide +kernel
theorem dX1_freeNumber_2 : decode cX1_freeNumber 2 = .ok (.iload_n 1, 1) := by decide +kernel
theorem dX1_freeNumber_3 : decode cX1_freeNumber 3 = .ok (.bipush 16, 2) := by decide +kernel
theorem dX1_freeNumber_5 : decode cX1_freeNumber 5 = .ok (.if_icmp .ge 22, 3) := by decide +kernel
theorem dX1_freeNumber_8 : decode cX1_freeNumber 8 = .ok (.aload_n 0, 1) := by decide +kernel
theorem dX1_freeNumber_9 : decode cX1_freeNumber 9 = .ok (.getfield 50, 3) := by decide +kernel
theorem dX1_freeNumber_12 : decode cX1_freeNumber 12 = .ok (.iload_n 1, 1) := by decide +kernel
theorem dX1_freeNumber_13 : decode cX1_freeNumber 13 = .ok (.invokestatic 72, 3) := by decide +kernel
theorem dX1_freeNumber_16 : decode cX1_freeNumber 16 = .ok (.ifCond .ne 5, 3) := by decide +kernel
theorem dX1_freeNumber_19 : decode cX1_freeNumber 19 = .ok (.iload_n 1, 1) := by decide +kernel
theorem dX1_freeNumber_20 : decode cX1_freeNumber 20 = .ok (.ireturn, 1) := by decide +kernel
theorem dX1_freeNumber_21 : decode cX1_freeNumber 21 = .ok (.iinc 1 1, 3) := by decide +kernel
theorem dX1_freeNumber_24 : decode cX1_freeNumber 24 = .ok (.goto (-22), 3) := by decide +kernel
theorem dX1_freeNumber_27 : decode cX1_freeNumber 27 = .ok (.iconst (-1), 1) := by decide +kernel
theorem dX1_freeNumber_28 : decode cX1_freeNumber 28 = .ok (.ireturn, 1) := by decide +kernel
theorem dX1_place_0 : decode cX1_place 0 = .ok (.aload_n 0, 1) := by decide +kernel
theorem dX1_place_1 : decode cX1_place 1 = .ok (.dup, 1) := by decide +kernel
theorem dX1_place_2 : decode cX1_place 2 = .ok (.getfield 50, 3) := by decide +kernel
theorem dX1_place_5 : decode cX1_place 5 = .ok (.iconst 1, 1) := by decide +kernel
theorem dX1_place_6 : decode cX1_place 6 = .ok (.iload_n 1, 1) := by decide +kernel
theorem dX1_place_7 : decode cX1_place 7 = .ok (.ishl, 1) := by decide +kernel
theorem dX1_place_8 : decode cX1_place 8 = .ok (.ior, 1) := by decide +kernel
theorem dX1_place_9 : decode cX1_place 9 = .ok (.putfield 50, 3) := by decide +kernel
theorem dX1_place_12 : decode cX1_place 12 = .ok (.aload_n 0, 1) := by decide +kernel
theorem dX1_place_13 : decode cX1_place 13 = .ok (.dup, 1) := by decide +kernel
theorem dX1_place_14 : decode cX1_place 14 = .ok (.getfield 54, 3) := by decide +kernel
theorem dX1_place_17 : decode cX1_place 17 = .ok (.iconst 1, 1) := by decide +kernel
theorem dX1_place_18 : decode cX1_place 18 = .ok (.iload_n 1, 1) := by decide +kernel
theorem dX1_place_19 : decode cX1_place 19 = .ok (.ishl, 1) := by decide +kernel
theorem dX1_place_20 : decode cX1_place 20 = .ok (.ior, 1) := by decide +kernel
theorem dX1_place_21 : decode cX1_place 21 = .ok (.putfield 54, 3) := by decide +kernel
theorem dX1_place_24 : decode cX1_place 24 = .ok (.aload_n 0, 1) := by decide +kernel
theorem dX1_place_25 : decode cX1_place 25 = .ok (.getfield 9, 3) := by decide +kernel
theorem dX1_place_28 : decode cX1_place 28 = .ok (.iload_n 1, 1) := by decide +kernel
theorem dX1_place_29 : decode cX1_place 29 = .ok (.iload_n 2, 1) := by decide +kernel
theorem dX1_place_30 : decode cX1_place 30 = .ok (.bipush 100, 2) := by decide +kernel
theorem dX1_place_32 : decode cX1_place 32 = .ok (.imul, 1) := by decide +kernel
theorem dX1_place_33 : decode cX1_place 33 = .ok (.iastore, 1) := by decide +kernel
theorem dX1_place_34 : decode cX1_place 34 = .ok (.aload_n 0, 1) := by decide +kernel
theorem dX1_place_35 : decode cX1_place 35 = .ok (.getfield 15, 3) := by decide +kernel
theorem dX1_place_38 : decode cX1_place 38 = .ok (.iload_n 1, 1) := by decide +kernel
theorem dX1_place_39 : decode cX1_place 39 = .ok (.iload_n 3, 1) := by decide +kernel
theorem dX1_place_40 : decode cX1_place 40 = .ok (.iastore, 1) := by decide +kernel
theorem dX1_place_41 : decode cX1_place 41 = .ok (.aload_n 0, 1) := by decide +kernel
theorem dX1_place_42 : decode cX1_place 42 = .ok (.getfield 18, 3) := by decide +kernel
theorem dX1_place_45 : decode cX1_place 45 = .ok (.iload_n 1, 1) := by decide +kernel
theorem dX1_place_46 : decode cX1_place 46 = .ok (.iconst 0, 1) := by decide +kernel
theorem dX1_place_47 : decode cX1_place 47 = .ok (.iastore, 1) := by decide +kernel
theorem dX1_place_48 : decode cX1_place 48 = .ok (.aload_n 0, 1) := by decide +kernel
theorem dX1_place_49 : decode cX1_place 49 = .ok (.getfield 21, 3) := by decide +kernel
theorem dX1_place_52 : decode cX1_place 52 = .ok (.iload_n 1, 1) := by decide +kernel
theorem dX1_place_53 : decode cX1_place 53 = .ok (.iconst 0, 1) := by decide +kernel
theorem dX1_place_54 : decode cX1_place 54 = .ok (.iastore, 1) := by decide +kernel
theorem dX1_place_55 : decode cX1_place 55 = .ok (.aload_n 0, 1) := by decide +kernel
theorem dX1_place_56 : decode cX1_place 56 = .ok (.getfield 24, 3) := by decide +kernel
theorem dX1_place_59 : decode cX1_place 59 = .ok (.iload_n 1, 1) := by decide +kernel
theorem dX1_place_60 : decode cX1_place 60 = .ok (.iconst 0, 1) := by decide +kernel
theorem dX1_place_61 : decode cX1_place 61 = .ok (.iastore, 1) := by decide +kernel
theorem dX1_place_62 : decode cX1_place 62 = .ok (.aload_n 0, 1) := by decide +kernel
theorem dX1_place_63 : decode cX1_place 63 = .ok (.getfield 27, 3) := by decide +kernel
theorem dX1_place_66 : decode cX1_place 66 = .ok (.iload_n 1, 1) := by decide +kernel
theorem dX1_place_67 : decode cX1_place 67 = .ok (.iconst 0, 1) := by decide +kernel
theorem dX1_place_68 : decode cX1_place 68 = .ok (.iastore, 1) := by decide +kernel
theorem dX1_place_69 : decode cX1_place 69 = .ok (.aload_n 0, 1) := by decide +kernel
theorem dX1_place_70 : decode cX1_place 70 = .ok (.getfield 30, 3) := by decide +kernel
theorem dX1_place_73 : decode cX1_place 73 = .ok (.iload_n 1, 1) := by decide +kernel
theorem dX1_place_74 : decode cX1_place 74 = .ok (.iconst 0, 1) := by decide +kernel
theorem dX1_place_75 : decode cX1_place 75 = .ok (.iastore, 1) := by decide +kernel
theorem dX1_place_76 : decode cX1_place 76 = .ok (.return_, 1) := by decide +kernel
theorem dX1_remove_0 : decode cX1_remove 0 = .ok (.aload_n 0, 1) := by decide +kernel
theorem dX1_remove_1 : decode cX1_remove 1 = .ok (.getfield 21, 3) := by decide +kernel
theorem dX1_remove_4 : decode cX1_remove 4 = .ok (.iload_n 1, 1) := by decide +kernel
theorem dX1_remove_5 : decode cX1_remove 5 = .ok (.iaload, 1) := by decide +kernel
theorem dX1_remove_6 : decode cX1_remove 6 = .ok (.invokestatic 83, 3) := by decide +kernel
theorem dX1_remove_9 : decode cX1_remove 9 = .ok (.istore_n 2, 1) := by decide +kernel
theorem dX1_remove_10 : decode cX1_remove 10 = .ok (.iconst 1, 1) := by decide +kernel
theorem dX1_remove_11 : decode cX1_remove 11 = .ok (.iload_n 1, 1) := by decide +kernel
theorem dX1_remove_12 : decode cX1_remove 12 = .ok (.ishl, 1) := by decide +kernel
theorem dX1_remove_13 : decode cX1_remove 13 = .ok (.iconst (-1), 1) := by decide +kernel
theorem dX1_remove_14 : decode cX1_remove 14 = .ok (.ixor, 1) := by decide +kernel
theorem dX1_remove_15 : decode cX1_remove 15 = .ok (.istore_n 3, 1) := by decide +kernel
theorem dX1_remove_16 : decode cX1_remove 16 = .ok (.aload_n 0, 1) := by decide +kernel
theorem dX1_remove_17 : decode cX1_remove 17 = .ok (.dup, 1) := by decide +kernel
theorem dX1_remove_18 : decode cX1_remove 18 = .ok (.getfield 50, 3) := by decide +kernel
theorem dX1_remove_21 : decode cX1_remove 21 = .ok (.iload_n 3, 1) := by decide +kernel
theorem dX1_remove_22 : decode cX1_remove 22 = .ok (.iand, 1) := by decide +kernel
theorem dX1_remove_23 : decode cX1_remove 23 = .ok (.putfield 50, 3) := by decide +kernel
theorem dX1_remove_26 : decode cX1_remove 26 = .ok (.aload_n 0, 1) := by decide +kernel
theorem dX1_remove_27 : decode cX1_remove 27 = .ok (.dup, 1) := by decide +kernel
theorem dX1_remove_28 : decode cX1_remove 28 = .ok (.getfield 54, 3) := by decide +kernel
theorem dX1_remove_31 : decode cX1_remove 31 = .ok (.iload_n 3, 1) := by decide +kernel
theorem dX1_remove_32 : decode cX1_remove 32 = .ok (.iand, 1) := by decide +kernel
theorem dX1_remove_33 : decode cX1_remove 33 = .ok (.putfield 54, 3) := by decide +kernel
theorem dX1_remove_36 : decode cX1_remove 36 = .ok (.aload_n 0, 1) := by decide +kernel
theorem dX1_remove_37 : decode cX1_remove 37 = .ok (.getfield 21, 3) := by decide +kernel
theorem dX1_remove_40 : decode cX1_remove 40 = .ok (.iload_n 1, 1) := by decide +kernel
theorem dX1_remove_41 : decode cX1_remove 41 = .ok (.iconst 0, 1) := by decide +kernel
theorem dX1_remove_42 : decode cX1_remove 42 = .ok (.iastore, 1) := by decide +kernel
theorem dX1_remove_43 : decode cX1_remove 43 = .ok (.iconst 0, 1) := by decide +kernel
theorem dX1_remove_44 : decode cX1_remove 44 = .ok (.istore 4, 2) := by decide +kernel
theorem dX1_remove_46 : decode cX1_remove 46 = .ok (.iload 4, 2) := by decide +kernel
theorem dX1_remove_48 : decode cX1_remove 48 = .ok (.bipush 16, 2) := by decide +kernel
theorem dX1_remove_50 : decode cX1_remove 50 = .ok (.if_icmp .ge 20, 3) := by decide +kernel
theorem dX1_remove_53 : decode cX1_remove 53 = .ok (.aload_n 0, 1) := by decide +kernel
theorem dX1_remove_54 : decode cX1_remove 54 = .ok (.getfield 21, 3) := by decide +kernel
theorem dX1_remove_57 : decode cX1_remove 57 = .ok (.iload 4, 2) := by decide +kernel
theorem dX1_remove_59 : decode cX1_remove 59 = .ok (.dup2, 1) := by decide +kernel
theorem dX1_remove_60 : decode cX1_remove 60 = .ok (.iaload, 1) := by decide +kernel
theorem dX1_remove_61 : decode cX1_remove 61 = .ok (.iload_n 3, 1) := by decide +kernel
theorem dX1_remove_62 : decode cX1_remove 62 = .ok (.iand, 1) := by decide +kernel
theorem dX1_remove_63 : decode cX1_remove 63 = .ok (.iastore, 1) := by decide +kernel
theorem dX1_remove_64 : decode cX1_remove 64 = .ok (.iinc 4 1, 3) := by decide +kernel
theorem dX1_remove_67 : decode cX1_remove 67 = .ok (.goto (-21), 3) := by decide +kernel
theorem dX1_remove_70 : decode cX1_remove 70 = .ok (.iload_n 2, 1) := by decide +kernel
theorem dX1_remove_71 : decode cX1_remove 71 = .ok (.ireturn, 1) := by decide +kernel
theorem dX1_switchTo_0 : decode cX1_switchTo 0 = .ok (.iload_n 2, 1) := by decide +kernel
theorem dX1_switchTo_1 : decode cX1_switchTo 1 = .ok (.ifCond .eq 18, 3) := by decide +kernel
theorem dX1_switchTo_4 : decode cX1_switchTo 4 = .ok (.aload_n 0, 1) := by decide +kernel
theorem dX1_switchTo_5 : decode cX1_switchTo 5 = .ok (.dup, 1) := by decide +kernel
theorem dX1_switchTo_6 : decode cX1_switchTo 6 = .ok (.getfield 54, 3) := by decide +kernel
theorem dX1_switchTo_9 : decode cX1_switchTo 9 = .ok (.iconst 1, 1) := by decide +kernel
theorem dX1_switchTo_10 : decode cX1_switchTo 10 = .ok (.iload_n 1, 1) := by decide +kernel
theorem dX1_switchTo_11 : decode cX1_switchTo 11 = .ok (.ishl, 1) := by decide +kernel
theorem dX1_switchTo_12 : decode cX1_switchTo 12 = .ok (.ior, 1) := by decide +kernel
theorem dX1_switchTo_13 : decode cX1_switchTo 13 = .ok (.putfield 54, 3) := by decide +kernel
theorem dX1_switchTo_16 : decode cX1_switchTo 16 = .ok (.goto 17, 3) := by decide +kernel
theorem dX1_switchTo_19 : decode cX1_switchTo 19 = .ok (.aload_n 0, 1) := by decide +kernel
theorem dX1_switchTo_20 : decode cX1_switchTo 20 = .ok (.dup, 1) := by decide +kernel
theorem dX1_switchTo_21 : decode cX1_switchTo 21 = .ok (.getfield 54, 3) := by decide +kernel
theorem dX1_switchTo_24 : decode cX1_switchTo 24 = .ok (.iconst 1, 1) := by decide +kernel
theorem dX1_switchTo_25 : decode cX1_switchTo 25 = .ok (.iload_n 1, 1) := by decide +kernel
theorem dX1_switchTo_26 : decode cX1_switchTo 26 = .ok (.ishl, 1) := by decide +kernel
theorem dX1_switchTo_27 : decode cX1_switchTo 27 = .ok (.iconst (-1), 1) := by decide +kernel
theorem dX1_switchTo_28 : decode cX1_switchTo 28 = .ok (.ixor, 1) := by decide +kernel
theorem dX1_switchTo_29 : decode cX1_switchTo 29 = .ok (.iand, 1) := by decide +kernel
theorem dX1_switchTo_30 : decode cX1_switchTo 30 = .ok (.putfield 54, 3) := by decide +kernel
theorem dX1_switchTo_33 : decode cX1_switchTo 33 = .ok (.return_, 1) := by decide +kernel
theorem dX1_changeLink_0 : decode cX1_changeLink 0 = .ok (.iload_n 3, 1) := by decide +kernel
theorem dX1_changeLink_1 : decode cX1_changeLink 1 = .ok (.ifCond .eq 30, 3) := by decide +kernel
theorem dX1_changeLink_4 : decode cX1_changeLink 4 = .ok (.aload_n 0, 1) := by decide +kernel
theorem dX1_changeLink_5 : decode cX1_changeLink 5 = .ok (.getfield 21, 3) := by decide +kernel
theorem dX1_changeLink_8 : decode cX1_changeLink 8 = .ok (.iload_n 1, 1) := by decide +kernel
theorem dX1_changeLink_9 : decode cX1_changeLink 9 = .ok (.dup2, 1) := by decide +kernel
theorem dX1_changeLink_10 : decode cX1_changeLink 10 = .ok (.iaload, 1) := by decide +kernel
theorem dX1_changeLink_11 : decode cX1_changeLink 11 = .ok (.iconst 1, 1) := by decide +kernel
theorem dX1_changeLink_12 : decode cX1_changeLink 12 = .ok (.iload_n 2, 1) := by decide +kernel
theorem dX1_changeLink_13 : decode cX1_changeLink 13 = .ok (.ishl, 1) := by decide +kernel
theorem dX1_changeLink_14 : decode cX1_changeLink 14 = .ok (.ior, 1) := by decide +kernel
theorem dX1_changeLink_15 : decode cX1_changeLink 15 = .ok (.iastore, 1) := by decide +kernel
theorem dX1_changeLink_16 : decode cX1_changeLink 16 = .ok (.aload_n 0, 1) := by decide +kernel
theorem dX1_changeLink_17 : decode cX1_changeLink 17 = .ok (.getfield 21, 3) := by decide +kernel
theorem dX1_changeLink_20 : decode cX1_changeLink 20 = .ok (.iload_n 2, 1) := by decide +kernel
theorem dX1_changeLink_21 : decode cX1_changeLink 21 = .ok (.dup2, 1) := by decide +kernel
theorem dX1_changeLink_22 : decode cX1_changeLink 22 = .ok (.iaload, 1) := by decide +kernel
theorem dX1_changeLink_23 : decode cX1_changeLink 23 = .ok (.iconst 1, 1) := by decide +kernel
theorem dX1_changeLink_24 : decode cX1_changeLink 24 = .ok (.iload_n 1, 1) := by decide +kernel
theorem dX1_changeLink_25 : decode cX1_changeLink 25 = .ok (.ishl, 1) := by decide +kernel
theorem dX1_changeLink_26 : decode cX1_changeLink 26 = .ok (.ior, 1) := by decide +kernel
theorem dX1_changeLink_27 : decode cX1_changeLink 27 = .ok (.iastore, 1) := by decide +kernel
theorem dX1_changeLink_28 : decode cX1_changeLink 28 = .ok (.goto 31, 3) := by decide +kernel
theorem dX1_changeLink_31 : decode cX1_changeLink 31 = .ok (.aload_n 0, 1) := by decide +kernel
theorem dX1_changeLink_32 : decode cX1_changeLink 32 = .ok (.getfield 21, 3) := by decide +kernel
theorem dX1_changeLink_35 : decode cX1_changeLink 35 = .ok (.iload_n 1, 1) := by decide +kernel
theorem dX1_changeLink_36 : decode cX1_changeLink 36 = .ok (.dup2, 1) := by decide +kernel
theorem dX1_changeLink_37 : decode cX1_changeLink 37 = .ok (.iaload, 1) := by decide +kernel
theorem dX1_changeLink_38 : decode cX1_changeLink 38 = .ok (.iconst 1, 1) := by decide +kernel
theorem dX1_changeLink_39 : decode cX1_changeLink 39 = .ok (.iload_n 2, 1) := by decide +kernel
theorem dX1_changeLink_40 : decode cX1_changeLink 40 = .ok (.ishl, 1) := by decide +kernel
theorem dX1_changeLink_41 : decode cX1_changeLink 41 = .ok (.iconst (-1), 1) := by decide +kernel
theorem dX1_changeLink_42 : decode cX1_changeLink 42 = .ok (.ixor, 1) := by decide +kernel
theorem dX1_changeLink_43 : decode cX1_changeLink 43 = .ok (.iand, 1) := by decide +kernel
theorem dX1_changeLink_44 : decode cX1_changeLink 44 = .ok (.iastore, 1) := by decide +kernel
theorem dX1_changeLink_45 : decode cX1_changeLink 45 = .ok (.aload_n 0, 1) := by decide +kernel
theorem dX1_changeLink_46 : decode cX1_changeLink 46 = .ok (.getfield 21, 3) := by decide +kernel
theorem dX1_changeLink_49 : decode cX1_changeLink 49 = .ok (.iload_n 2, 1) := by decide +kernel
theorem dX1_changeLink_50 : decode cX1_changeLink 50 = .ok (.dup2, 1) := by decide +kernel
theorem dX1_changeLink_51 : decode cX1_changeLink 51 = .ok (.iaload, 1) := by decide +kernel
theorem dX1_changeLink_52 : decode cX1_changeLink 52 = .ok (.iconst 1, 1) := by decide +kernel
theorem dX1_changeLink_53 : decode cX1_changeLink 53 = .ok (.iload_n 1, 1) := by decide +kernel
theorem dX1_changeLink_54 : decode cX1_changeLink 54 = .ok (.ishl, 1) := by decide +kernel
theorem dX1_changeLink_55 : decode cX1_changeLink 55 = .ok (.iconst (-1), 1) := by decide +kernel
theorem dX1_changeLink_56 : decode cX1_changeLink 56 = .ok (.ixor, 1) := by decide +kernel
theorem dX1_changeLink_57 : decode cX1_changeLink 57 = .ok (.iand, 1) := by decide +kernel
theorem dX1_changeLink_58 : decode cX1_changeLink 58 = .ok (.iastore, 1) := by decide +kernel
theorem dX1_changeLink_59 : decode cX1_changeLink 59 = .ok (.return_, 1) := by decide +kernel
theorem dX1_retune_0 : decode cX1_retune 0 = .ok (.aload_n 0, 1) := by decide +kernel
theorem dX1_retune_1 : decode cX1_retune 1 = .ok (.getfield 9, 3) := by decide +kernel
theorem dX1_retune_4 : decode cX1_retune 4 = .ok (.iload_n 1, 1) := by decide +kernel
theorem dX1_retune_5 : decode cX1_retune 5 = .ok (.iaload, 1) := by decide +kernel
theorem dX1_retune_6 : decode cX1_retune 6 = .ok (.istore 4, 2) := by decide +kernel
theorem dX1_retune_8 : decode cX1_retune 8 = .ok (.aload_n 0, 1) := by decide +kernel
theorem dX1_retune_9 : decode cX1_retune 9 = .ok (.getfield 9, 3) := by decide +kernel
theorem dX1_retune_12 : decode cX1_retune 12 = .ok (.iload_n 1, 1) := by decide +kernel
theorem dX1_retune_13 : decode cX1_retune 13 = .ok (.iload_n 2, 1) := by decide +kernel
theorem dX1_retune_14 : decode cX1_retune 14 = .ok (.bipush 100, 2) := by decide +kernel
theorem dX1_retune_16 : decode cX1_retune 16 = .ok (.imul, 1) := by decide +kernel
theorem dX1_retune_17 : decode cX1_retune 17 = .ok (.iastore, 1) := by decide +kernel
theorem dX1_retune_18 : decode cX1_retune 18 = .ok (.aload_n 0, 1) := by decide +kernel
theorem dX1_retune_19 : decode cX1_retune 19 = .ok (.getfield 15, 3) := by decide +kernel
theorem dX1_retune_22 : decode cX1_retune 22 = .ok (.iload_n 1, 1) := by decide +kernel
theorem dX1_retune_23 : decode cX1_retune 23 = .ok (.iload_n 3, 1) := by decide +kernel
theorem dX1_retune_24 : decode cX1_retune 24 = .ok (.iastore, 1) := by decide +kernel
theorem dX1_retune_25 : decode cX1_retune 25 = .ok (.iload 4, 2) := by decide +kernel
theorem dX1_retune_27 : decode cX1_retune 27 = .ok (.ireturn, 1) := by decide +kernel
theorem dX1_changeSetting_0 : decode cX1_changeSetting 0 = .ok (.aload_n 0, 1) := by decide +kernel
theorem dX1_changeSetting_1 : decode cX1_changeSetting 1 = .ok (.getfield 41, 3) := by decide +kernel
theorem dX1_changeSetting_4 : decode cX1_changeSetting 4 = .ok (.iload_n 1, 1) := by decide +kernel
theorem dX1_changeSetting_5 : decode cX1_changeSetting 5 = .ok (.iaload, 1) := by decide +kernel
theorem dX1_changeSetting_6 : decode cX1_changeSetting 6 = .ok (.istore_n 3, 1) := by decide +kernel
theorem dX1_changeSetting_7 : decode cX1_changeSetting 7 = .ok (.aload_n 0, 1) := by decide +kernel
theorem dX1_changeSetting_8 : decode cX1_changeSetting 8 = .ok (.getfield 41, 3) := by decide +kernel
theorem dX1_changeSetting_11 : decode cX1_changeSetting 11 = .ok (.iload_n 1, 1) := by decide +kernel
theorem dX1_changeSetting_12 : decode cX1_changeSetting 12 = .ok (.iload_n 2, 1) := by decide +kernel
theorem dX1_changeSetting_13 : decode cX1_changeSetting 13 = .ok (.iastore, 1) := by decide +kernel
theorem dX1_changeSetting_14 : decode cX1_changeSetting 14 = .ok (.aload_n 0, 1) := by decide +kernel
theorem dX1_changeSetting_15 : decode cX1_changeSetting 15 = .ok (.invokevirtual 89, 3) := by decide +kernel
theorem dX1_changeSetting_18 : decode cX1_changeSetting 18 = .ok (.iload_n 3, 1) := by decide +kernel
theorem dX1_changeSetting_19 : decode cX1_changeSetting 19 = .ok (.ireturn, 1) := by decide +kernel
theorem dX1_fitPhases_0 : decode cX1_fitPhases 0 = .ok (.iconst 0, 1) := by decide +kernel
theorem dX1_fitPhases_1 : decode cX1_fitPhases 1 = .ok (.istore_n 1, 1) := by decide +kernel
theorem dX1_fitPhases_2 : decode cX1_fitPhases 2 = .ok (.iload_n 1, 1) := by decide +kernel
theorem dX1_fitPhases_3 : decode cX1_fitPhases 3 = .ok (.bipush 16, 2) := by decide +kernel
theorem dX1_fitPhases_5 : decode cX1_fitPhases 5 = .ok (.if_icmp .ge 30, 3) := by decide +kernel
theorem dX1_fitPhases_8 : decode cX1_fitPhases 8 = .ok (.aload_n 0, 1) := by decide +kernel
theorem dX1_fitPhases_9 : decode cX1_fitPhases 9 = .ok (.getfield 9, 3) := by decide +kernel
theorem dX1_fitPhases_12 : decode cX1_fitPhases 12 = .ok (.iload_n 1, 1) := by decide +kernel
theorem dX1_fitPhases_13 : decode cX1_fitPhases 13 = .ok (.aload_n 0, 1) := by decide +kernel
theorem dX1_fitPhases_14 : decode cX1_fitPhases 14 = .ok (.getfield 9, 3) := by decide +kernel
theorem dX1_fitPhases_17 : decode cX1_fitPhases 17 = .ok (.iload_n 1, 1) := by decide +kernel
theorem dX1_fitPhases_18 : decode cX1_fitPhases 18 = .ok (.iaload, 1) := by decide +kernel
theorem dX1_fitPhases_19 : decode cX1_fitPhases 19 = .ok (.aload_n 0, 1) := by decide +kernel
theorem dX1_fitPhases_20 : decode cX1_fitPhases 20 = .ok (.invokevirtual 92, 3) := by decide +kernel
theorem dX1_fitPhases_23 : decode cX1_fitPhases 23 = .ok (.iconst 1, 1) := by decide +kernel
theorem dX1_fitPhases_24 : decode cX1_fitPhases 24 = .ok (.isub, 1) := by decide +kernel
theorem dX1_fitPhases_25 : decode cX1_fitPhases 25 = .ok (.invokestatic 96, 3) := by decide +kernel
theorem dX1_fitPhases_28 : decode cX1_fitPhases 28 = .ok (.iastore, 1) := by decide +kernel
theorem dX1_fitPhases_29 : decode cX1_fitPhases 29 = .ok (.iinc 1 1, 3) := by decide +kernel
theorem dX1_fitPhases_32 : decode cX1_fitPhases 32 = .ok (.goto (-30), 3) := by decide +kernel
theorem dX1_fitPhases_35 : decode cX1_fitPhases 35 = .ok (.return_, 1) := by decide +kernel
theorem dX1_fullPhase_0 : decode cX1_fullPhase 0 = .ok (.aload_n 0, 1) := by decide +kernel
theorem dX1_fullPhase_1 : decode cX1_fullPhase 1 = .ok (.getfield 41, 3) := by decide +kernel
theorem dX1_fullPhase_4 : decode cX1_fullPhase 4 = .ok (.iconst 0, 1) := by decide +kernel
theorem dX1_fullPhase_5 : decode cX1_fullPhase 5 = .ok (.iaload, 1) := by decide +kernel
theorem dX1_fullPhase_6 : decode cX1_fullPhase 6 = .ok (.bipush 100, 2) := by decide +kernel
theorem dX1_fullPhase_8 : decode cX1_fullPhase 8 = .ok (.imul, 1) := by decide +kernel
theorem dX1_fullPhase_9 : decode cX1_fullPhase 9 = .ok (.ireturn, 1) := by decide +kernel
theorem dX1_tickOften_0 : decode cX1_tickOften 0 = .ok (.iconst 0, 1) := by decide +kernel
theorem dX1_tickOften_1 : decode cX1_tickOften 1 = .ok (.istore_n 2, 1) := by decide +kernel
theorem dX1_tickOften_2 : decode cX1_tickOften 2 = .ok (.iload_n 2, 1) := by decide +kernel
theorem dX1_tickOften_3 : decode cX1_tickOften 3 = .ok (.iload_n 1, 1) := by decide +kernel
theorem dX1_tickOften_4 : decode cX1_tickOften 4 = .ok (.if_icmp .ge 14, 3) := by decide +kernel
theorem dX1_tickOften_7 : decode cX1_tickOften 7 = .ok (.aload_n 0, 1) := by decide +kernel
theorem dX1_tickOften_8 : decode cX1_tickOften 8 = .ok (.invokevirtual 102, 3) := by decide +kernel
theorem dX1_tickOften_11 : decode cX1_tickOften 11 = .ok (.pop, 1) := by decide +kernel
theorem dX1_tickOften_12 : decode cX1_tickOften 12 = .ok (.iinc 2 1, 3) := by decide +kernel
theorem dX1_tickOften_15 : decode cX1_tickOften 15 = .ok (.goto (-13), 3) := by decide +kernel
theorem dX1_tickOften_18 : decode cX1_tickOften 18 = .ok (.return_, 1) := by decide +kernel
theorem dX1_tickOnce_0 : decode cX1_tickOnce 0 = .ok (.iconst 0, 1) := by decide +kernel
theorem dX1_tickOnce_1 : decode cX1_tickOnce 1 = .ok (.istore_n 1, 1) := by decide +kernel
theorem dX1_tickOnce_2 : decode cX1_tickOnce 2 = .ok (.aload_n 0, 1) := by decide +kernel
theorem dX1_tickOnce_3 : decode cX1_tickOnce 3 = .ok (.invokevirtual 105, 3) := by decide +kernel
theorem dX1_tickOnce_6 : decode cX1_tickOnce 6 = .ok (.istore_n 2, 1) := by decide +kernel
theorem dX1_tickOnce_7 : decode cX1_tickOnce 7 = .ok (.iconst 0, 1) := by decide +kernel
theorem dX1_tickOnce_8 : decode cX1_tickOnce 8 = .ok (.istore_n 3, 1) := by decide +kernel
theorem dX1_tickOnce_9 : decode cX1_tickOnce 9 = .ok (.iload_n 3, 1) := by decide +kernel
theorem dX1_tickOnce_10 : decode cX1_tickOnce 10 = .ok (.bipush 16, 2) := by decide +kernel
theorem dX1_tickOnce_12 : decode cX1_tickOnce 12 = .ok (.if_icmp .ge 36, 3) := by decide +kernel
theorem dX1_tickOnce_15 : decode cX1_tickOnce 15 = .ok (.iload_n 2, 1) := by decide +kernel
theorem dX1_tickOnce_16 : decode cX1_tickOnce 16 = .ok (.ifCond .eq 32, 3) := by decide +kernel
theorem dX1_tickOnce_19 : decode cX1_tickOnce 19 = .ok (.iload_n 1, 1) := by decide +kernel
theorem dX1_tickOnce_20 : decode cX1_tickOnce 20 = .ok (.iload_n 2, 1) := by decide +kernel
theorem dX1_tickOnce_21 : decode cX1_tickOnce 21 = .ok (.ior, 1) := by decide +kernel
theorem dX1_tickOnce_22 : decode cX1_tickOnce 22 = .ok (.istore_n 1, 1) := by decide +kernel
theorem dX1_tickOnce_23 : decode cX1_tickOnce 23 = .ok (.aload_n 0, 1) := by decide +kernel
theorem dX1_tickOnce_24 : decode cX1_tickOnce 24 = .ok (.iload_n 2, 1) := by decide +kernel
theorem dX1_tickOnce_25 : decode cX1_tickOnce 25 = .ok (.invokevirtual 108, 3) := by decide +kernel
theorem dX1_tickOnce_28 : decode cX1_tickOnce 28 = .ok (.aload_n 0, 1) := by decide +kernel
theorem dX1_tickOnce_29 : decode cX1_tickOnce 29 = .ok (.iload_n 2, 1) := by decide +kernel
theorem dX1_tickOnce_30 : decode cX1_tickOnce 30 = .ok (.aload_n 0, 1) := by decide +kernel
theorem dX1_tickOnce_31 : decode cX1_tickOnce 31 = .ok (.getfield 54, 3) := by decide +kernel
theorem dX1_tickOnce_34 : decode cX1_tickOnce 34 = .ok (.iload_n 1, 1) := by decide +kernel
theorem dX1_tickOnce_35 : decode cX1_tickOnce 35 = .ok (.iconst (-1), 1) := by decide +kernel
theorem dX1_tickOnce_36 : decode cX1_tickOnce 36 = .ok (.ixor, 1) := by decide +kernel
theorem dX1_tickOnce_37 : decode cX1_tickOnce 37 = .ok (.iand, 1) := by decide +kernel
theorem dX1_tickOnce_38 : decode cX1_tickOnce 38 = .ok (.invokevirtual 112, 3) := by decide +kernel
theorem dX1_tickOnce_41 : decode cX1_tickOnce 41 = .ok (.istore_n 2, 1) := by decide +kernel
theorem dX1_tickOnce_42 : decode cX1_tickOnce 42 = .ok (.iinc 3 1, 3) := by decide +kernel
theorem dX1_tickOnce_45 : decode cX1_tickOnce 45 = .ok (.goto (-36), 3) := by decide +kernel
theorem dX1_tickOnce_48 : decode cX1_tickOnce 48 = .ok (.aload_n 0, 1) := by decide +kernel
theorem dX1_tickOnce_49 : decode cX1_tickOnce 49 = .ok (.dup, 1) := by decide +kernel
theorem dX1_tickOnce_50 : decode cX1_tickOnce 50 = .ok (.getfield 57, 3) := by decide +kernel
theorem dX1_tickOnce_53 : decode cX1_tickOnce 53 = .ok (.iconst 1, 1) := by decide +kernel
theorem dX1_tickOnce_54 : decode cX1_tickOnce 54 = .ok (.iadd, 1) := by decide +kernel
theorem dX1_tickOnce_55 : decode cX1_tickOnce 55 = .ok (.putfield 57, 3) := by decide +kernel
theorem dX1_tickOnce_58 : decode cX1_tickOnce 58 = .ok (.aload_n 0, 1) := by decide +kernel
theorem dX1_tickOnce_59 : decode cX1_tickOnce 59 = .ok (.iload_n 1, 1) := by decide +kernel
theorem dX1_tickOnce_60 : decode cX1_tickOnce 60 = .ok (.invokestatic 83, 3) := by decide +kernel
theorem dX1_tickOnce_63 : decode cX1_tickOnce 63 = .ok (.invokevirtual 115, 3) := by decide +kernel
theorem dX1_tickOnce_66 : decode cX1_tickOnce 66 = .ok (.iload_n 1, 1) := by decide +kernel
theorem dX1_tickOnce_67 : decode cX1_tickOnce 67 = .ok (.ireturn, 1) := by decide +kernel
theorem dX1_grow_0 : decode cX1_grow 0 = .ok (.aload_n 0, 1) := by decide +kernel
theorem dX1_grow_1 : decode cX1_grow 1 = .ok (.invokevirtual 92, 3) := by decide +kernel
theorem dX1_grow_4 : decode cX1_grow 4 = .ok (.istore_n 1, 1) := by decide +kernel
theorem dX1_grow_5 : decode cX1_grow 5 = .ok (.iconst 0, 1) := by decide +kernel
theorem dX1_grow_6 : decode cX1_grow 6 = .ok (.istore_n 2, 1) := by decide +kernel
theorem dX1_grow_7 : decode cX1_grow 7 = .ok (.iconst 0, 1) := by decide +kernel
theorem dX1_grow_8 : decode cX1_grow 8 = .ok (.istore_n 3, 1) := by decide +kernel
theorem dX1_grow_9 : decode cX1_grow 9 = .ok (.iload_n 3, 1) := by decide +kernel
theorem dX1_grow_10 : decode cX1_grow 10 = .ok (.bipush 16, 2) := by decide +kernel
theorem dX1_grow_12 : decode cX1_grow 12 = .ok (.if_icmp .ge 70, 3) := by decide +kernel
theorem dX1_grow_15 : decode cX1_grow 15 = .ok (.aload_n 0, 1) := by decide +kernel
theorem dX1_grow_16 : decode cX1_grow 16 = .ok (.getfield 54, 3) := by decide +kernel
theorem dX1_grow_19 : decode cX1_grow 19 = .ok (.iload_n 3, 1) := by decide +kernel
theorem dX1_grow_20 : decode cX1_grow 20 = .ok (.invokestatic 72, 3) := by decide +kernel
theorem dX1_grow_23 : decode cX1_grow 23 = .ok (.ifCond .eq 53, 3) := by decide +kernel
theorem dX1_grow_26 : decode cX1_grow 26 = .ok (.aload_n 0, 1) := by decide +kernel
theorem dX1_grow_27 : decode cX1_grow 27 = .ok (.getfield 9, 3) := by decide +kernel
theorem dX1_grow_30 : decode cX1_grow 30 = .ok (.iload_n 3, 1) := by decide +kernel
theorem dX1_grow_31 : decode cX1_grow 31 = .ok (.dup2, 1) := by decide +kernel
theorem dX1_grow_32 : decode cX1_grow 32 = .ok (.iaload, 1) := by decide +kernel
theorem dX1_grow_33 : decode cX1_grow 33 = .ok (.aload_n 0, 1) := by decide +kernel
theorem dX1_grow_34 : decode cX1_grow 34 = .ok (.getfield 15, 3) := by decide +kernel
theorem dX1_grow_37 : decode cX1_grow 37 = .ok (.iload_n 3, 1) := by decide +kernel
theorem dX1_grow_38 : decode cX1_grow 38 = .ok (.iaload, 1) := by decide +kernel
theorem dX1_grow_39 : decode cX1_grow 39 = .ok (.iadd, 1) := by decide +kernel
theorem dX1_grow_40 : decode cX1_grow 40 = .ok (.iastore, 1) := by decide +kernel
theorem dX1_grow_41 : decode cX1_grow 41 = .ok (.aload_n 0, 1) := by decide +kernel
theorem dX1_grow_42 : decode cX1_grow 42 = .ok (.getfield 18, 3) := by decide +kernel
theorem dX1_grow_45 : decode cX1_grow 45 = .ok (.iload_n 3, 1) := by decide +kernel
theorem dX1_grow_46 : decode cX1_grow 46 = .ok (.iaload, 1) := by decide +kernel
theorem dX1_grow_47 : decode cX1_grow 47 = .ok (.ifCond .le 13, 3) := by decide +kernel
theorem dX1_grow_50 : decode cX1_grow 50 = .ok (.aload_n 0, 1) := by decide +kernel
theorem dX1_grow_51 : decode cX1_grow 51 = .ok (.getfield 18, 3) := by decide +kernel
theorem dX1_grow_54 : decode cX1_grow 54 = .ok (.iload_n 3, 1) := by decide +kernel
theorem dX1_grow_55 : decode cX1_grow 55 = .ok (.dup2, 1) := by decide +kernel
theorem dX1_grow_56 : decode cX1_grow 56 = .ok (.iaload, 1) := by decide +kernel
theorem dX1_grow_57 : decode cX1_grow 57 = .ok (.iconst 1, 1) := by decide +kernel
theorem dX1_grow_58 : decode cX1_grow 58 = .ok (.isub, 1) := by decide +kernel
theorem dX1_grow_59 : decode cX1_grow 59 = .ok (.iastore, 1) := by decide +kernel
theorem dX1_grow_60 : decode cX1_grow 60 = .ok (.aload_n 0, 1) := by decide +kernel
theorem dX1_grow_61 : decode cX1_grow 61 = .ok (.getfield 9, 3) := by decide +kernel
theorem dX1_grow_64 : decode cX1_grow 64 = .ok (.iload_n 3, 1) := by decide +kernel
theorem dX1_grow_65 : decode cX1_grow 65 = .ok (.iaload, 1) := by decide +kernel
theorem dX1_grow_66 : decode cX1_grow 66 = .ok (.iload_n 1, 1) := by decide +kernel
theorem dX1_grow_67 : decode cX1_grow 67 = .ok (.if_icmp .lt 9, 3) := by decide +kernel
theorem dX1_grow_70 : decode cX1_grow 70 = .ok (.iload_n 2, 1) := by decide +kernel
theorem dX1_grow_71 : decode cX1_grow 71 = .ok (.iconst 1, 1) := by decide +kernel
theorem dX1_grow_72 : decode cX1_grow 72 = .ok (.iload_n 3, 1) := by decide +kernel
theorem dX1_grow_73 : decode cX1_grow 73 = .ok (.ishl, 1) := by decide +kernel
theorem dX1_grow_74 : decode cX1_grow 74 = .ok (.ior, 1) := by decide +kernel
theorem dX1_grow_75 : decode cX1_grow 75 = .ok (.istore_n 2, 1) := by decide +kernel
theorem dX1_grow_76 : decode cX1_grow 76 = .ok (.iinc 3 1, 3) := by decide +kernel
theorem dX1_grow_79 : decode cX1_grow 79 = .ok (.goto (-70), 3) := by decide +kernel
theorem dX1_grow_82 : decode cX1_grow 82 = .ok (.iload_n 2, 1) := by decide +kernel
theorem dX1_grow_83 : decode cX1_grow 83 = .ok (.ireturn, 1) := by decide +kernel
theorem dX1_blink_0 : decode cX1_blink 0 = .ok (.iconst 0, 1) := by decide +kernel
theorem dX1_blink_1 : decode cX1_blink 1 = .ok (.istore_n 2, 1) := by decide +kernel
theorem dX1_blink_2 : decode cX1_blink 2 = .ok (.iload_n 2, 1) := by decide +kernel
theorem dX1_blink_3 : decode cX1_blink 3 = .ok (.bipush 16, 2) := by decide +kernel
theorem dX1_blink_5 : decode cX1_blink 5 = .ok (.if_icmp .ge 58, 3) := by decide +kernel
theorem dX1_blink_8 : decode cX1_blink 8 = .ok (.iload_n 1, 1) := by decide +kernel
theorem dX1_blink_9 : decode cX1_blink 9 = .ok (.iload_n 2, 1) := by decide +kernel
theorem dX1_blink_10 : decode cX1_blink 10 = .ok (.invokestatic 72, 3) := by decide +kernel
theorem dX1_blink_13 : decode cX1_blink 13 = .ok (.ifCond .eq 44, 3) := by decide +kernel
theorem dX1_blink_16 : decode cX1_blink 16 = .ok (.aload_n 0, 1) := by decide +kernel
theorem dX1_blink_17 : decode cX1_blink 17 = .ok (.getfield 9, 3) := by decide +kernel
theorem dX1_blink_20 : decode cX1_blink 20 = .ok (.iload_n 2, 1) := by decide +kernel
theorem dX1_blink_21 : decode cX1_blink 21 = .ok (.iconst 0, 1) := by decide +kernel
theorem dX1_blink_22 : decode cX1_blink 22 = .ok (.iastore, 1) := by decide +kernel
theorem dX1_blink_23 : decode cX1_blink 23 = .ok (.aload_n 0, 1) := by decide +kernel
theorem dX1_blink_24 : decode cX1_blink 24 = .ok (.getfield 18, 3) := by decide +kernel
theorem dX1_blink_27 : decode cX1_blink 27 = .ok (.iload_n 2, 1) := by decide +kernel
theorem dX1_blink_28 : decode cX1_blink 28 = .ok (.aload_n 0, 1) := by decide +kernel
theorem dX1_blink_29 : decode cX1_blink 29 = .ok (.getfield 41, 3) := by decide +kernel
theorem dX1_blink_32 : decode cX1_blink 32 = .ok (.iconst 2, 1) := by decide +kernel
theorem dX1_blink_33 : decode cX1_blink 33 = .ok (.iaload, 1) := by decide +kernel
theorem dX1_blink_34 : decode cX1_blink 34 = .ok (.iastore, 1) := by decide +kernel
theorem dX1_blink_35 : decode cX1_blink 35 = .ok (.aload_n 0, 1) := by decide +kernel
theorem dX1_blink_36 : decode cX1_blink 36 = .ok (.getfield 24, 3) := by decide +kernel
theorem dX1_blink_39 : decode cX1_blink 39 = .ok (.iload_n 2, 1) := by decide +kernel
theorem dX1_blink_40 : decode cX1_blink 40 = .ok (.dup2, 1) := by decide +kernel
theorem dX1_blink_41 : decode cX1_blink 41 = .ok (.iaload, 1) := by decide +kernel
theorem dX1_blink_42 : decode cX1_blink 42 = .ok (.iconst 1, 1) := by decide +kernel
theorem dX1_blink_43 : decode cX1_blink 43 = .ok (.iadd, 1) := by decide +kernel
theorem dX1_blink_44 : decode cX1_blink 44 = .ok (.iastore, 1) := by decide +kernel
theorem dX1_blink_45 : decode cX1_blink 45 = .ok (.aload_n 0, 1) := by decide +kernel
theorem dX1_blink_46 : decode cX1_blink 46 = .ok (.getfield 27, 3) := by decide +kernel
theorem dX1_blink_49 : decode cX1_blink 49 = .ok (.iload_n 2, 1) := by decide +kernel
theorem dX1_blink_50 : decode cX1_blink 50 = .ok (.aload_n 0, 1) := by decide +kernel
theorem dX1_blink_51 : decode cX1_blink 51 = .ok (.getfield 57, 3) := by decide +kernel
theorem dX1_blink_54 : decode cX1_blink 54 = .ok (.iconst 1, 1) := by decide +kernel
theorem dX1_blink_55 : decode cX1_blink 55 = .ok (.iadd, 1) := by decide +kernel
theorem dX1_blink_56 : decode cX1_blink 56 = .ok (.iastore, 1) := by decide +kernel
theorem dX1_blink_57 : decode cX1_blink 57 = .ok (.iinc 2 1, 3) := by decide +kernel
theorem dX1_blink_60 : decode cX1_blink 60 = .ok (.goto (-58), 3) := by decide +kernel
theorem dX1_blink_63 : decode cX1_blink 63 = .ok (.return_, 1) := by decide +kernel
theorem dX1_pushFrom_0 : decode cX1_pushFrom 0 = .ok (.iconst 0, 1) := by decide +kernel
theorem dX1_pushFrom_1 : decode cX1_pushFrom 1 = .ok (.istore_n 3, 1) := by decide +kernel
theorem dX1_pushFrom_2 : decode cX1_pushFrom 2 = .ok (.iconst 0, 1) := by decide +kernel
theorem dX1_pushFrom_3 : decode cX1_pushFrom 3 = .ok (.istore 4, 2) := by decide +kernel
theorem dX1_pushFrom_5 : decode cX1_pushFrom 5 = .ok (.iload 4, 2) := by decide +kernel
theorem dX1_pushFrom_7 : decode cX1_pushFrom 7 = .ok (.bipush 16, 2) := by decide +kernel
theorem dX1_pushFrom_9 : decode cX1_pushFrom 9 = .ok (.if_icmp .ge 34, 3) := by decide +kernel
theorem dX1_pushFrom_12 : decode cX1_pushFrom 12 = .ok (.iload_n 1, 1) := by decide +kernel
theorem dX1_pushFrom_13 : decode cX1_pushFrom 13 = .ok (.iload 4, 2) := by decide +kernel
theorem dX1_pushFrom_15 : decode cX1_pushFrom 15 = .ok (.invokestatic 72, 3) := by decide +kernel
theorem dX1_pushFrom_18 : decode cX1_pushFrom 18 = .ok (.ifCond .eq 19, 3) := by decide +kernel
theorem dX1_pushFrom_21 : decode cX1_pushFrom 21 = .ok (.iload_n 3, 1) := by decide +kernel
theorem dX1_pushFrom_22 : decode cX1_pushFrom 22 = .ok (.aload_n 0, 1) := by decide +kernel
theorem dX1_pushFrom_23 : decode cX1_pushFrom 23 = .ok (.aload_n 0, 1) := by decide +kernel
theorem dX1_pushFrom_24 : decode cX1_pushFrom 24 = .ok (.getfield 21, 3) := by decide +kernel
theorem dX1_pushFrom_27 : decode cX1_pushFrom 27 = .ok (.iload 4, 2) := by decide +kernel
theorem dX1_pushFrom_29 : decode cX1_pushFrom 29 = .ok (.iaload, 1) := by decide +kernel
theorem dX1_pushFrom_30 : decode cX1_pushFrom 30 = .ok (.iload_n 2, 1) := by decide +kernel
theorem dX1_pushFrom_31 : decode cX1_pushFrom 31 = .ok (.iand, 1) := by decide +kernel
theorem dX1_pushFrom_32 : decode cX1_pushFrom 32 = .ok (.invokevirtual 118, 3) := by decide +kernel
theorem dX1_pushFrom_35 : decode cX1_pushFrom 35 = .ok (.ior, 1) := by decide +kernel
theorem dX1_pushFrom_36 : decode cX1_pushFrom 36 = .ok (.istore_n 3, 1) := by decide +kernel
theorem dX1_pushFrom_37 : decode cX1_pushFrom 37 = .ok (.iinc 4 1, 3) := by decide +kernel
theorem dX1_pushFrom_40 : decode cX1_pushFrom 40 = .ok (.goto (-35), 3) := by decide +kernel
theorem dX1_pushFrom_43 : decode cX1_pushFrom 43 = .ok (.iload_n 3, 1) := by decide +kernel
theorem dX1_pushFrom_44 : decode cX1_pushFrom 44 = .ok (.ireturn, 1) := by decide +kernel
theorem dX1_pushAll_0 : decode cX1_pushAll 0 = .ok (.aload_n 0, 1) := by decide +kernel
theorem dX1_pushAll_1 : decode cX1_pushAll 1 = .ok (.invokevirtual 92, 3) := by decide +kernel
theorem dX1_pushAll_4 : decode cX1_pushAll 4 = .ok (.istore_n 2, 1) := by decide +kernel
theorem dX1_pushAll_5 : decode cX1_pushAll 5 = .ok (.iconst 0, 1) := by decide +kernel
theorem dX1_pushAll_6 : decode cX1_pushAll 6 = .ok (.istore_n 3, 1) := by decide +kernel
theorem dX1_pushAll_7 : decode cX1_pushAll 7 = .ok (.iconst 0, 1) := by decide +kernel
theorem dX1_pushAll_8 : decode cX1_pushAll 8 = .ok (.istore 4, 2) := by decide +kernel
theorem dX1_pushAll_10 : decode cX1_pushAll 10 = .ok (.iload 4, 2) := by decide +kernel
theorem dX1_pushAll_12 : decode cX1_pushAll 12 = .ok (.bipush 16, 2) := by decide +kernel
theorem dX1_pushAll_14 : decode cX1_pushAll 14 = .ok (.if_icmp .ge 102, 3) := by decide +kernel
theorem dX1_pushAll_17 : decode cX1_pushAll 17 = .ok (.iload_n 1, 1) := by decide +kernel
theorem dX1_pushAll_18 : decode cX1_pushAll 18 = .ok (.iload 4, 2) := by decide +kernel
theorem dX1_pushAll_20 : decode cX1_pushAll 20 = .ok (.invokestatic 72, 3) := by decide +kernel
theorem dX1_pushAll_23 : decode cX1_pushAll 23 = .ok (.ifCond .eq 87, 3) := by decide +kernel
theorem dX1_pushAll_26 : decode cX1_pushAll 26 = .ok (.aload_n 0, 1) := by decide +kernel
theorem dX1_pushAll_27 : decode cX1_pushAll 27 = .ok (.getfield 18, 3) := by decide +kernel
theorem dX1_pushAll_30 : decode cX1_pushAll 30 = .ok (.iload 4, 2) := by decide +kernel
theorem dX1_pushAll_32 : decode cX1_pushAll 32 = .ok (.iaload, 1) := by decide +kernel
theorem dX1_pushAll_33 : decode cX1_pushAll 33 = .ok (.ifCond .ne 77, 3) := by decide +kernel
theorem dX1_pushAll_36 : decode cX1_pushAll 36 = .ok (.aload_n 0, 1) := by decide +kernel
theorem dX1_pushAll_37 : decode cX1_pushAll 37 = .ok (.getfield 9, 3) := by decide +kernel
theorem dX1_pushAll_40 : decode cX1_pushAll 40 = .ok (.iload 4, 2) := by decide +kernel
theorem dX1_pushAll_42 : decode cX1_pushAll 42 = .ok (.iaload, 1) := by decide +kernel
theorem dX1_pushAll_43 : decode cX1_pushAll 43 = .ok (.aload_n 0, 1) := by decide +kernel
theorem dX1_pushAll_44 : decode cX1_pushAll 44 = .ok (.getfield 9, 3) := by decide +kernel
theorem dX1_pushAll_47 : decode cX1_pushAll 47 = .ok (.iload 4, 2) := by decide +kernel
theorem dX1_pushAll_49 : decode cX1_pushAll 49 = .ok (.iaload, 1) := by decide +kernel
theorem dX1_pushAll_50 : decode cX1_pushAll 50 = .ok (.aload_n 0, 1) := by decide +kernel
theorem dX1_pushAll_51 : decode cX1_pushAll 51 = .ok (.getfield 41, 3) := by decide +kernel
theorem dX1_pushAll_54 : decode cX1_pushAll 54 = .ok (.iconst 1, 1) := by decide +kernel
theorem dX1_pushAll_55 : decode cX1_pushAll 55 = .ok (.iaload, 1) := by decide +kernel
theorem dX1_pushAll_56 : decode cX1_pushAll 56 = .ok (.imul, 1) := by decide +kernel
theorem dX1_pushAll_57 : decode cX1_pushAll 57 = .ok (.bipush 100, 2) := by decide +kernel
theorem dX1_pushAll_59 : decode cX1_pushAll 59 = .ok (.idiv, 1) := by decide +kernel
theorem dX1_pushAll_60 : decode cX1_pushAll 60 = .ok (.iadd, 1) := by decide +kernel
theorem dX1_pushAll_61 : decode cX1_pushAll 61 = .ok (.istore 5, 2) := by decide +kernel
theorem dX1_pushAll_63 : decode cX1_pushAll 63 = .ok (.aload_n 0, 1) := by decide +kernel
theorem dX1_pushAll_64 : decode cX1_pushAll 64 = .ok (.getfield 9, 3) := by decide +kernel
theorem dX1_pushAll_67 : decode cX1_pushAll 67 = .ok (.iload 4, 2) := by decide +kernel
theorem dX1_pushAll_69 : decode cX1_pushAll 69 = .ok (.iload 5, 2) := by decide +kernel
theorem dX1_pushAll_71 : decode cX1_pushAll 71 = .ok (.iload_n 2, 1) := by decide +kernel
theorem dX1_pushAll_72 : decode cX1_pushAll 72 = .ok (.invokestatic 96, 3) := by decide +kernel
theorem dX1_pushAll_75 : decode cX1_pushAll 75 = .ok (.iastore, 1) := by decide +kernel
theorem dX1_pushAll_76 : decode cX1_pushAll 76 = .ok (.aload_n 0, 1) := by decide +kernel
theorem dX1_pushAll_77 : decode cX1_pushAll 77 = .ok (.getfield 30, 3) := by decide +kernel
theorem dX1_pushAll_80 : decode cX1_pushAll 80 = .ok (.iload 4, 2) := by decide +kernel
theorem dX1_pushAll_82 : decode cX1_pushAll 82 = .ok (.dup2, 1) := by decide +kernel
theorem dX1_pushAll_83 : decode cX1_pushAll 83 = .ok (.iaload, 1) := by decide +kernel
theorem dX1_pushAll_84 : decode cX1_pushAll 84 = .ok (.iconst 1, 1) := by decide +kernel
theorem dX1_pushAll_85 : decode cX1_pushAll 85 = .ok (.iadd, 1) := by decide +kernel
theorem dX1_pushAll_86 : decode cX1_pushAll 86 = .ok (.iastore, 1) := by decide +kernel
theorem dX1_pushAll_87 : decode cX1_pushAll 87 = .ok (.aload_n 0, 1) := by decide +kernel
theorem dX1_pushAll_88 : decode cX1_pushAll 88 = .ok (.dup, 1) := by decide +kernel
theorem dX1_pushAll_89 : decode cX1_pushAll 89 = .ok (.getfield 63, 3) := by decide +kernel
theorem dX1_pushAll_92 : decode cX1_pushAll 92 = .ok (.iconst 1, 1) := by decide +kernel
theorem dX1_pushAll_93 : decode cX1_pushAll 93 = .ok (.iadd, 1) := by decide +kernel
theorem dX1_pushAll_94 : decode cX1_pushAll 94 = .ok (.putfield 63, 3) := by decide +kernel
theorem dX1_pushAll_97 : decode cX1_pushAll 97 = .ok (.iload 5, 2) := by decide +kernel
theorem dX1_pushAll_99 : decode cX1_pushAll 99 = .ok (.iload_n 2, 1) := by decide +kernel
theorem dX1_pushAll_100 : decode cX1_pushAll 100 = .ok (.if_icmp .lt 10, 3) := by decide +kernel
theorem dX1_pushAll_103 : decode cX1_pushAll 103 = .ok (.iload_n 3, 1) := by decide +kernel
theorem dX1_pushAll_104 : decode cX1_pushAll 104 = .ok (.iconst 1, 1) := by decide +kernel
theorem dX1_pushAll_105 : decode cX1_pushAll 105 = .ok (.iload 4, 2) := by decide +kernel
theorem dX1_pushAll_107 : decode cX1_pushAll 107 = .ok (.ishl, 1) := by decide +kernel
theorem dX1_pushAll_108 : decode cX1_pushAll 108 = .ok (.ior, 1) := by decide +kernel
theorem dX1_pushAll_109 : decode cX1_pushAll 109 = .ok (.istore_n 3, 1) := by decide +kernel
theorem dX1_pushAll_110 : decode cX1_pushAll 110 = .ok (.iinc 4 1, 3) := by decide +kernel
theorem dX1_pushAll_113 : decode cX1_pushAll 113 = .ok (.goto (-103), 3) := by decide +kernel
theorem dX1_pushAll_116 : decode cX1_pushAll 116 = .ok (.iload_n 3, 1) := by decide +kernel
theorem dX1_pushAll_117 : decode cX1_pushAll 117 = .ok (.ireturn, 1) := by decide +kernel
theorem dX1_account_0 : decode cX1_account 0 = .ok (.aload_n 0, 1) := by decide +kernel
theorem dX1_account_1 : decode cX1_account 1 = .ok (.dup, 1) := by decide +kernel
theorem dX1_account_2 : decode cX1_account 2 = .ok (.getfield 60, 3) := by decide +kernel
theorem dX1_account_5 : decode cX1_account 5 = .ok (.iload_n 1, 1) := by decide +kernel
theorem dX1_account_6 : decode cX1_account 6 = .ok (.iadd, 1) := by decide +kernel
theorem dX1_account_7 : decode cX1_account 7 = .ok (.putfield 60, 3) := by decide +kernel
theorem dX1_account_10 : decode cX1_account 10 = .ok (.iload_n 1, 1) := by decide +kernel
theorem dX1_account_11 : decode cX1_account 11 = .ok (.iconst 2, 1) := by decide +kernel
theorem dX1_account_12 : decode cX1_account 12 = .ok (.if_icmp .lt 25, 3) := by decide +kernel
theorem dX1_account_15 : decode cX1_account 15 = .ok (.aload_n 0, 1) := by decide +kernel
theorem dX1_account_16 : decode cX1_account 16 = .ok (.dup, 1) := by decide +kernel
theorem dX1_account_17 : decode cX1_account 17 = .ok (.getfield 66, 3) := by decide +kernel
theorem dX1_account_20 : decode cX1_account 20 = .ok (.iconst 1, 1) := by decide +kernel
theorem dX1_account_21 : decode cX1_account 21 = .ok (.iadd, 1) := by decide +kernel
theorem dX1_account_22 : decode cX1_account 22 = .ok (.putfield 66, 3) := by decide +kernel
theorem dX1_account_25 : decode cX1_account 25 = .ok (.aload_n 0, 1) := by decide +kernel
theorem dX1_account_26 : decode cX1_account 26 = .ok (.aload_n 0, 1) := by decide +kernel
theorem dX1_account_27 : decode cX1_account 27 = .ok (.getfield 69, 3) := by decide +kernel
theorem dX1_account_30 : decode cX1_account 30 = .ok (.iload_n 1, 1) := by decide +kernel
theorem dX1_account_31 : decode cX1_account 31 = .ok (.invokestatic 121, 3) := by decide +kernel
theorem dX1_account_34 : decode cX1_account 34 = .ok (.putfield 69, 3) := by decide +kernel
theorem dX1_account_37 : decode cX1_account 37 = .ok (.return_, 1) := by decide +kernel
theorem dX1_distance_0 : decode cX1_distance 0 = .ok (.aload_n 0, 1) := by decide +kernel
theorem dX1_distance_1 : decode cX1_distance 1 = .ok (.getfield 9, 3) := by decide +kernel
theorem dX1_distance_4 : decode cX1_distance 4 = .ok (.iload_n 1, 1) := by decide +kernel
theorem dX1_distance_5 : decode cX1_distance 5 = .ok (.iaload, 1) := by decide +kernel
theorem dX1_distance_6 : decode cX1_distance 6 = .ok (.aload_n 0, 1) := by decide +kernel
theorem dX1_distance_7 : decode cX1_distance 7 = .ok (.getfield 9, 3) := by decide +kernel
theorem dX1_distance_10 : decode cX1_distance 10 = .ok (.iload_n 2, 1) := by decide +kernel
theorem dX1_distance_11 : decode cX1_distance 11 = .ok (.iaload, 1) := by decide +kernel
theorem dX1_distance_12 : decode cX1_distance 12 = .ok (.isub, 1) := by decide +kernel
theorem dX1_distance_13 : decode cX1_distance 13 = .ok (.invokestatic 124, 3) := by decide +kernel
theorem dX1_distance_16 : decode cX1_distance 16 = .ok (.istore_n 3, 1) := by decide +kernel
theorem dX1_distance_17 : decode cX1_distance 17 = .ok (.iload_n 3, 1) := by decide +kernel
theorem dX1_distance_18 : decode cX1_distance 18 = .ok (.aload_n 0, 1) := by decide +kernel
theorem dX1_distance_19 : decode cX1_distance 19 = .ok (.invokevirtual 92, 3) := by decide +kernel
theorem dX1_distance_22 : decode cX1_distance 22 = .ok (.iload_n 3, 1) := by decide +kernel
theorem dX1_distance_23 : decode cX1_distance 23 = .ok (.isub, 1) := by decide +kernel
theorem dX1_distance_24 : decode cX1_distance 24 = .ok (.invokestatic 96, 3) := by decide +kernel
theorem dX1_distance_27 : decode cX1_distance 27 = .ok (.ireturn, 1) := by decide +kernel
theorem dX1_greatestDistance_0 : decode cX1_greatestDistance 0 = .ok (.iconst 0, 1) := by decide +kernel
theorem dX1_greatestDistance_1 : decode cX1_greatestDistance 1 = .ok (.istore_n 1, 1) := by decide +kernel
theorem dX1_greatestDistance_2 : decode cX1_greatestDistance 2 = .ok (.iconst 0, 1) := by decide +kernel
theorem dX1_greatestDistance_3 : decode cX1_greatestDistance 3 = .ok (.istore_n 2, 1) := by decide +kernel
theorem dX1_greatestDistance_4 : decode cX1_greatestDistance 4 = .ok (.iload_n 2, 1) := by decide +kernel
theorem dX1_greatestDistance_5 : decode cX1_greatestDistance 5 = .ok (.bipush 16, 2) := by decide +kernel
theorem dX1_greatestDistance_7 : decode cX1_greatestDistance 7 = .ok (.if_icmp .ge 52, 3) := by decide +kernel
theorem dX1_greatestDistance_10 : decode cX1_greatestDistance 10 = .ok (.iload_n 2, 1) := by decide +kernel
theorem dX1_greatestDistance_11 : decode cX1_greatestDistance 11 = .ok (.iconst 1, 1) := by decide +kernel
theorem dX1_greatestDistance_12 : decode cX1_greatestDistance 12 = .ok (.iadd, 1) := by decide +kernel
theorem dX1_greatestDistance_13 : decode cX1_greatestDistance 13 = .ok (.istore_n 3, 1) := by decide +kernel
theorem dX1_greatestDistance_14 : decode cX1_greatestDistance 14 = .ok (.iload_n 3, 1) := by decide +kernel
theorem dX1_greatestDistance_15 : decode cX1_greatestDistance 15 = .ok (.bipush 16, 2) := by decide +kernel
theorem dX1_greatestDistance_17 : decode cX1_greatestDistance 17 = .ok (.if_icmp .ge 36, 3) := by decide +kernel
theorem dX1_greatestDistance_20 : decode cX1_greatestDistance 20 = .ok (.aload_n 0, 1) := by decide +kernel
theorem dX1_greatestDistance_21 : decode cX1_greatestDistance 21 = .ok (.iload_n 2, 1) := by decide +kernel
theorem dX1_greatestDistance_22 : decode cX1_greatestDistance 22 = .ok (.invokevirtual 76, 3) := by decide +kernel
theorem dX1_greatestDistance_25 : decode cX1_greatestDistance 25 = .ok (.ifCond .eq 22, 3) := by decide +kernel
theorem dX1_greatestDistance_28 : decode cX1_greatestDistance 28 = .ok (.aload_n 0, 1) := by decide +kernel
theorem dX1_greatestDistance_29 : decode cX1_greatestDistance 29 = .ok (.iload_n 3, 1) := by decide +kernel
theorem dX1_greatestDistance_30 : decode cX1_greatestDistance 30 = .ok (.invokevirtual 76, 3) := by decide +kernel
theorem dX1_greatestDistance_33 : decode cX1_greatestDistance 33 = .ok (.ifCond .eq 14, 3) := by decide +kernel
theorem dX1_greatestDistance_36 : decode cX1_greatestDistance 36 = .ok (.iload_n 1, 1) := by decide +kernel
theorem dX1_greatestDistance_37 : decode cX1_greatestDistance 37 = .ok (.aload_n 0, 1) := by decide +kernel
theorem dX1_greatestDistance_38 : decode cX1_greatestDistance 38 = .ok (.iload_n 2, 1) := by decide +kernel
theorem dX1_greatestDistance_39 : decode cX1_greatestDistance 39 = .ok (.iload_n 3, 1) := by decide +kernel
theorem dX1_greatestDistance_40 : decode cX1_greatestDistance 40 = .ok (.invokevirtual 127, 3) := by decide +kernel
theorem dX1_greatestDistance_43 : decode cX1_greatestDistance 43 = .ok (.invokestatic 121, 3) := by decide +kernel
theorem dX1_greatestDistance_46 : decode cX1_greatestDistance 46 = .ok (.istore_n 1, 1) := by decide +kernel
theorem dX1_greatestDistance_47 : decode cX1_greatestDistance 47 = .ok (.iinc 3 1, 3) := by decide +kernel
theorem dX1_greatestDistance_50 : decode cX1_greatestDistance 50 = .ok (.goto (-36), 3) := by decide +kernel
theorem dX1_greatestDistance_53 : decode cX1_greatestDistance 53 = .ok (.iinc 2 1, 3) := by decide +kernel
theorem dX1_greatestDistance_56 : decode cX1_greatestDistance 56 = .ok (.goto (-52), 3) := by decide +kernel
theorem dX1_greatestDistance_59 : decode cX1_greatestDistance 59 = .ok (.iload_n 1, 1) := by decide +kernel
theorem dX1_greatestDistance_60 : decode cX1_greatestDistance 60 = .ok (.ireturn, 1) := by decide +kernel
theorem dX1_isTogether_0 : decode cX1_isTogether 0 = .ok (.iconst (-1), 1) := by decide +kernel
theorem dX1_isTogether_1 : decode cX1_isTogether 1 = .ok (.istore_n 1, 1) := by decide +kernel
theorem dX1_isTogether_2 : decode cX1_isTogether 2 = .ok (.iconst 0, 1) := by decide +kernel
theorem dX1_isTogether_3 : decode cX1_isTogether 3 = .ok (.istore_n 2, 1) := by decide +kernel
theorem dX1_isTogether_4 : decode cX1_isTogether 4 = .ok (.iload_n 2, 1) := by decide +kernel
theorem dX1_isTogether_5 : decode cX1_isTogether 5 = .ok (.bipush 16, 2) := by decide +kernel
theorem dX1_isTogether_7 : decode cX1_isTogether 7 = .ok (.if_icmp .ge 47, 3) := by decide +kernel
theorem dX1_isTogether_10 : decode cX1_isTogether 10 = .ok (.aload_n 0, 1) := by decide +kernel
theorem dX1_isTogether_11 : decode cX1_isTogether 11 = .ok (.getfield 54, 3) := by decide +kernel
theorem dX1_isTogether_14 : decode cX1_isTogether 14 = .ok (.iload_n 2, 1) := by decide +kernel
theorem dX1_isTogether_15 : decode cX1_isTogether 15 = .ok (.invokestatic 72, 3) := by decide +kernel
theorem dX1_isTogether_18 : decode cX1_isTogether 18 = .ok (.ifCond .eq 30, 3) := by decide +kernel
theorem dX1_isTogether_21 : decode cX1_isTogether 21 = .ok (.iload_n 1, 1) := by decide +kernel
theorem dX1_isTogether_22 : decode cX1_isTogether 22 = .ok (.iconst (-1), 1) := by decide +kernel
theorem dX1_isTogether_23 : decode cX1_isTogether 23 = .ok (.if_icmp .ne 8, 3) := by decide +kernel
theorem dX1_isTogether_26 : decode cX1_isTogether 26 = .ok (.iload_n 2, 1) := by decide +kernel
theorem dX1_isTogether_27 : decode cX1_isTogether 27 = .ok (.istore_n 1, 1) := by decide +kernel
theorem dX1_isTogether_28 : decode cX1_isTogether 28 = .ok (.goto 20, 3) := by decide +kernel
theorem dX1_isTogether_31 : decode cX1_isTogether 31 = .ok (.aload_n 0, 1) := by decide +kernel
theorem dX1_isTogether_32 : decode cX1_isTogether 32 = .ok (.getfield 9, 3) := by decide +kernel
theorem dX1_isTogether_35 : decode cX1_isTogether 35 = .ok (.iload_n 2, 1) := by decide +kernel
theorem dX1_isTogether_36 : decode cX1_isTogether 36 = .ok (.iaload, 1) := by decide +kernel
theorem dX1_isTogether_37 : decode cX1_isTogether 37 = .ok (.aload_n 0, 1) := by decide +kernel
theorem dX1_isTogether_38 : decode cX1_isTogether 38 = .ok (.getfield 9, 3) := by decide +kernel
theorem dX1_isTogether_41 : decode cX1_isTogether 41 = .ok (.iload_n 1, 1) := by decide +kernel
theorem dX1_isTogether_42 : decode cX1_isTogether 42 = .ok (.iaload, 1) := by decide +kernel
theorem dX1_isTogether_43 : decode cX1_isTogether 43 = .ok (.if_icmp .eq 5, 3) := by decide +kernel
theorem dX1_isTogether_46 : decode cX1_isTogether 46 = .ok (.iconst 0, 1) := by decide +kernel
theorem dX1_isTogether_47 : decode cX1_isTogether 47 = .ok (.ireturn, 1) := by decide +kernel
theorem dX1_isTogether_48 : decode cX1_isTogether 48 = .ok (.iinc 2 1, 3) := by decide +kernel
theorem dX1_isTogether_51 : decode cX1_isTogether 51 = .ok (.goto (-47), 3) := by decide +kernel
theorem dX1_isTogether_54 : decode cX1_isTogether 54 = .ok (.aload_n 0, 1) := by decide +kernel
theorem dX1_isTogether_55 : decode cX1_isTogether 55 = .ok (.getfield 54, 3) := by decide +kernel
theorem dX1_isTogether_58 : decode cX1_isTogether 58 = .ok (.ifCond .eq 7, 3) := by decide +kernel
theorem dX1_isTogether_61 : decode cX1_isTogether 61 = .ok (.iconst 1, 1) := by decide +kernel
theorem dX1_isTogether_62 : decode cX1_isTogether 62 = .ok (.goto 4, 3) := by decide +kernel
theorem dX1_isTogether_65 : decode cX1_isTogether 65 = .ok (.iconst 0, 1) := by decide +kernel
theorem dX1_isTogether_66 : decode cX1_isTogether 66 = .ok (.ireturn, 1) := by decide +kernel
theorem dX1_hasUnlikeRates_0 : decode cX1_hasUnlikeRates 0 = .ok (.iconst (-1), 1) := by decide +kernel
theorem dX1_hasUnlikeRates_1 : decode cX1_hasUnlikeRates 1 = .ok (.istore_n 1, 1) := by decide +kernel
theorem dX1_hasUnlikeRates_2 : decode cX1_hasUnlikeRates 2 = .ok (.iconst 0, 1) := by decide +kernel
theorem dX1_hasUnlikeRates_3 : decode cX1_hasUnlikeRates 3 = .ok (.istore_n 2, 1) := by decide +kernel
theorem dX1_hasUnlikeRates_4 : decode cX1_hasUnlikeRates 4 = .ok (.iload_n 2, 1) := by decide +kernel
theorem dX1_hasUnlikeRates_5 : decode cX1_hasUnlikeRates 5 = .ok (.bipush 16, 2) := by decide +kernel
theorem dX1_hasUnlikeRates_7 : decode cX1_hasUnlikeRates 7 = .ok (.if_icmp .ge 47, 3) := by decide +kernel
theorem dX1_hasUnlikeRates_10 : decode cX1_hasUnlikeRates 10 = .ok (.aload_n 0, 1) := by decide +kernel
theorem dX1_hasUnlikeRates_11 : decode cX1_hasUnlikeRates 11 = .ok (.getfield 54, 3) := by decide +kernel
theorem dX1_hasUnlikeRates_14 : decode cX1_hasUnlikeRates 14 = .ok (.iload_n 2, 1) := by decide +kernel
theorem dX1_hasUnlikeRates_15 : decode cX1_hasUnlikeRates 15 = .ok (.invokestatic 72, 3) := by decide +kernel
theorem dX1_hasUnlikeRates_18 : decode cX1_hasUnlikeRates 18 = .ok (.ifCond .eq 30, 3) := by decide +kernel
theorem dX1_hasUnlikeRates_21 : decode cX1_hasUnlikeRates 21 = .ok (.iload_n 1, 1) := by decide +kernel
theorem dX1_hasUnlikeRates_22 : decode cX1_hasUnlikeRates 22 = .ok (.iconst (-1), 1) := by decide +kernel
theorem dX1_hasUnlikeRates_23 : decode cX1_hasUnlikeRates 23 = .ok (.if_icmp .ne 8, 3) := by decide +kernel
theorem dX1_hasUnlikeRates_26 : decode cX1_hasUnlikeRates 26 = .ok (.iload_n 2, 1) := by decide +kernel
theorem dX1_hasUnlikeRates_27 : decode cX1_hasUnlikeRates 27 = .ok (.istore_n 1, 1) := by decide +kernel
theorem dX1_hasUnlikeRates_28 : decode cX1_hasUnlikeRates 28 = .ok (.goto 20, 3) := by decide +kernel
theorem dX1_hasUnlikeRates_31 : decode cX1_hasUnlikeRates 31 = .ok (.aload_n 0, 1) := by decide +kernel
theorem dX1_hasUnlikeRates_32 : decode cX1_hasUnlikeRates 32 = .ok (.getfield 15, 3) := by decide +kernel
theorem dX1_hasUnlikeRates_35 : decode cX1_hasUnlikeRates 35 = .ok (.iload_n 2, 1) := by decide +kernel
theorem dX1_hasUnlikeRates_36 : decode cX1_hasUnlikeRates 36 = .ok (.iaload, 1) := by decide +kernel
theorem dX1_hasUnlikeRates_37 : decode cX1_hasUnlikeRates 37 = .ok (.aload_n 0, 1) := by decide +kernel
theorem dX1_hasUnlikeRates_38 : decode cX1_hasUnlikeRates 38 = .ok (.getfield 15, 3) := by decide +kernel
theorem dX1_hasUnlikeRates_41 : decode cX1_hasUnlikeRates 41 = .ok (.iload_n 1, 1) := by decide +kernel
theorem dX1_hasUnlikeRates_42 : decode cX1_hasUnlikeRates 42 = .ok (.iaload, 1) := by decide +kernel
theorem dX1_hasUnlikeRates_43 : decode cX1_hasUnlikeRates 43 = .ok (.if_icmp .eq 5, 3) := by decide +kernel
theorem dX1_hasUnlikeRates_46 : decode cX1_hasUnlikeRates 46 = .ok (.iconst 1, 1) := by decide +kernel
theorem dX1_hasUnlikeRates_47 : decode cX1_hasUnlikeRates 47 = .ok (.ireturn, 1) := by decide +kernel
theorem dX1_hasUnlikeRates_48 : decode cX1_hasUnlikeRates 48 = .ok (.iinc 2 1, 3) := by decide +kernel
theorem dX1_hasUnlikeRates_51 : decode cX1_hasUnlikeRates 51 = .ok (.goto (-47), 3) := by decide +kernel
theorem dX1_hasUnlikeRates_54 : decode cX1_hasUnlikeRates 54 = .ok (.iconst 0, 1) := by decide +kernel
theorem dX1_hasUnlikeRates_55 : decode cX1_hasUnlikeRates 55 = .ok (.ireturn, 1) := by decide +kernel
theorem dX1_pieceOf_0 : decode cX1_pieceOf 0 = .ok (.aload_n 0, 1) := by decide +kernel
theorem dX1_pieceOf_1 : decode cX1_pieceOf 1 = .ok (.getfield 54, 3) := by decide +kernel
theorem dX1_pieceOf_4 : decode cX1_pieceOf 4 = .ok (.iconst 1, 1) := by decide +kernel
theorem dX1_pieceOf_5 : decode cX1_pieceOf 5 = .ok (.iload_n 1, 1) := by decide +kernel
theorem dX1_pieceOf_6 : decode cX1_pieceOf 6 = .ok (.ishl, 1) := by decide +kernel
theorem dX1_pieceOf_7 : decode cX1_pieceOf 7 = .ok (.iand, 1) := by decide +kernel
theorem dX1_pieceOf_8 : decode cX1_pieceOf 8 = .ok (.istore_n 2, 1) := by decide +kernel
theorem dX1_pieceOf_9 : decode cX1_pieceOf 9 = .ok (.iconst 0, 1) := by decide +kernel
theorem dX1_pieceOf_10 : decode cX1_pieceOf 10 = .ok (.istore_n 3, 1) := by decide +kernel
theorem dX1_pieceOf_11 : decode cX1_pieceOf 11 = .ok (.iload_n 3, 1) := by decide +kernel
theorem dX1_pieceOf_12 : decode cX1_pieceOf 12 = .ok (.bipush 16, 2) := by decide +kernel
theorem dX1_pieceOf_14 : decode cX1_pieceOf 14 = .ok (.if_icmp .ge 29, 3) := by decide +kernel
theorem dX1_pieceOf_17 : decode cX1_pieceOf 17 = .ok (.iload_n 2, 1) := by decide +kernel
theorem dX1_pieceOf_18 : decode cX1_pieceOf 18 = .ok (.aload_n 0, 1) := by decide +kernel
theorem dX1_pieceOf_19 : decode cX1_pieceOf 19 = .ok (.iload_n 2, 1) := by decide +kernel
theorem dX1_pieceOf_20 : decode cX1_pieceOf 20 = .ok (.invokevirtual 130, 3) := by decide +kernel
theorem dX1_pieceOf_23 : decode cX1_pieceOf 23 = .ok (.ior, 1) := by decide +kernel
theorem dX1_pieceOf_24 : decode cX1_pieceOf 24 = .ok (.istore 4, 2) := by decide +kernel
theorem dX1_pieceOf_26 : decode cX1_pieceOf 26 = .ok (.iload 4, 2) := by decide +kernel
theorem dX1_pieceOf_28 : decode cX1_pieceOf 28 = .ok (.iload_n 2, 1) := by decide +kernel
theorem dX1_pieceOf_29 : decode cX1_pieceOf 29 = .ok (.if_icmp .ne 5, 3) := by decide +kernel
theorem dX1_pieceOf_32 : decode cX1_pieceOf 32 = .ok (.iload_n 2, 1) := by decide +kernel
theorem dX1_pieceOf_33 : decode cX1_pieceOf 33 = .ok (.ireturn, 1) := by decide +kernel
theorem dX1_pieceOf_34 : decode cX1_pieceOf 34 = .ok (.iload 4, 2) := by decide +kernel
theorem dX1_pieceOf_36 : decode cX1_pieceOf 36 = .ok (.istore_n 2, 1) := by decide +kernel
theorem dX1_pieceOf_37 : decode cX1_pieceOf 37 = .ok (.iinc 3 1, 3) := by decide +kernel
theorem dX1_pieceOf_40 : decode cX1_pieceOf 40 = .ok (.goto (-29), 3) := by decide +kernel
theorem dX1_pieceOf_43 : decode cX1_pieceOf 43 = .ok (.iload_n 2, 1) := by decide +kernel
theorem dX1_pieceOf_44 : decode cX1_pieceOf 44 = .ok (.ireturn, 1) := by decide +kernel
theorem dX1_neighbours_0 : decode cX1_neighbours 0 = .ok (.iconst 0, 1) := by decide +kernel
theorem dX1_neighbours_1 : decode cX1_neighbours 1 = .ok (.istore_n 2, 1) := by decide +kernel
theorem dX1_neighbours_2 : decode cX1_neighbours 2 = .ok (.iconst 0, 1) := by decide +kernel
theorem dX1_neighbours_3 : decode cX1_neighbours 3 = .ok (.istore_n 3, 1) := by decide +kernel
theorem dX1_neighbours_4 : decode cX1_neighbours 4 = .ok (.iload_n 3, 1) := by decide +kernel
theorem dX1_neighbours_5 : decode cX1_neighbours 5 = .ok (.bipush 16, 2) := by decide +kernel
theorem dX1_neighbours_7 : decode cX1_neighbours 7 = .ok (.if_icmp .ge 31, 3) := by decide +kernel
theorem dX1_neighbours_10 : decode cX1_neighbours 10 = .ok (.iload_n 1, 1) := by decide +kernel
theorem dX1_neighbours_11 : decode cX1_neighbours 11 = .ok (.iload_n 3, 1) := by decide +kernel
theorem dX1_neighbours_12 : decode cX1_neighbours 12 = .ok (.invokestatic 72, 3) := by decide +kernel
theorem dX1_neighbours_15 : decode cX1_neighbours 15 = .ok (.ifCond .eq 17, 3) := by decide +kernel
theorem dX1_neighbours_18 : decode cX1_neighbours 18 = .ok (.iload_n 2, 1) := by decide +kernel
theorem dX1_neighbours_19 : decode cX1_neighbours 19 = .ok (.aload_n 0, 1) := by decide +kernel
theorem dX1_neighbours_20 : decode cX1_neighbours 20 = .ok (.getfield 21, 3) := by decide +kernel
theorem dX1_neighbours_23 : decode cX1_neighbours 23 = .ok (.iload_n 3, 1) := by decide +kernel
theorem dX1_neighbours_24 : decode cX1_neighbours 24 = .ok (.iaload, 1) := by decide +kernel
theorem dX1_neighbours_25 : decode cX1_neighbours 25 = .ok (.aload_n 0, 1) := by decide +kernel
theorem dX1_neighbours_26 : decode cX1_neighbours 26 = .ok (.getfield 54, 3) := by decide +kernel
theorem dX1_neighbours_29 : decode cX1_neighbours 29 = .ok (.iand, 1) := by decide +kernel
theorem dX1_neighbours_30 : decode cX1_neighbours 30 = .ok (.ior, 1) := by decide +kernel
theorem dX1_neighbours_31 : decode cX1_neighbours 31 = .ok (.istore_n 2, 1) := by decide +kernel
theorem dX1_neighbours_32 : decode cX1_neighbours 32 = .ok (.iinc 3 1, 3) := by decide +kernel
theorem dX1_neighbours_35 : decode cX1_neighbours 35 = .ok (.goto (-31), 3) := by decide +kernel
theorem dX1_neighbours_38 : decode cX1_neighbours 38 = .ok (.iload_n 2, 1) := by decide +kernel
theorem dX1_neighbours_39 : decode cX1_neighbours 39 = .ok (.ireturn, 1) := by decide +kernel
theorem dX1_pieces_0 : decode cX1_pieces 0 = .ok (.iconst 0, 1) := by decide +kernel
theorem dX1_pieces_1 : decode cX1_pieces 1 = .ok (.istore_n 1, 1) := by decide +kernel
theorem dX1_pieces_2 : decode cX1_pieces 2 = .ok (.iconst 0, 1) := by decide +kernel
theorem dX1_pieces_3 : decode cX1_pieces 3 = .ok (.istore_n 2, 1) := by decide +kernel
theorem dX1_pieces_4 : decode cX1_pieces 4 = .ok (.iconst 0, 1) := by decide +kernel
theorem dX1_pieces_5 : decode cX1_pieces 5 = .ok (.istore_n 3, 1) := by decide +kernel
theorem dX1_pieces_6 : decode cX1_pieces 6 = .ok (.iload_n 3, 1) := by decide +kernel
theorem dX1_pieces_7 : decode cX1_pieces 7 = .ok (.bipush 16, 2) := by decide +kernel
theorem dX1_pieces_9 : decode cX1_pieces 9 = .ok (.if_icmp .ge 35, 3) := by decide +kernel
theorem dX1_pieces_12 : decode cX1_pieces 12 = .ok (.aload_n 0, 1) := by decide +kernel
theorem dX1_pieces_13 : decode cX1_pieces 13 = .ok (.getfield 54, 3) := by decide +kernel
theorem dX1_pieces_16 : decode cX1_pieces 16 = .ok (.iload_n 2, 1) := by decide +kernel
theorem dX1_pieces_17 : decode cX1_pieces 17 = .ok (.iconst (-1), 1) := by decide +kernel
theorem dX1_pieces_18 : decode cX1_pieces 18 = .ok (.ixor, 1) := by decide +kernel
theorem dX1_pieces_19 : decode cX1_pieces 19 = .ok (.iand, 1) := by decide +kernel
theorem dX1_pieces_20 : decode cX1_pieces 20 = .ok (.iload_n 3, 1) := by decide +kernel
theorem dX1_pieces_21 : decode cX1_pieces 21 = .ok (.invokestatic 72, 3) := by decide +kernel
theorem dX1_pieces_24 : decode cX1_pieces 24 = .ok (.ifCond .eq 14, 3) := by decide +kernel
theorem dX1_pieces_27 : decode cX1_pieces 27 = .ok (.iload_n 2, 1) := by decide +kernel
theorem dX1_pieces_28 : decode cX1_pieces 28 = .ok (.aload_n 0, 1) := by decide +kernel
theorem dX1_pieces_29 : decode cX1_pieces 29 = .ok (.iload_n 3, 1) := by decide +kernel
theorem dX1_pieces_30 : decode cX1_pieces 30 = .ok (.invokevirtual 133, 3) := by decide +kernel
theorem dX1_pieces_33 : decode cX1_pieces 33 = .ok (.ior, 1) := by decide +kernel
theorem dX1_pieces_34 : decode cX1_pieces 34 = .ok (.istore_n 2, 1) := by decide +kernel
theorem dX1_pieces_35 : decode cX1_pieces 35 = .ok (.iinc 1 1, 3) := by decide +kernel
theorem dX1_pieces_38 : decode cX1_pieces 38 = .ok (.iinc 3 1, 3) := by decide +kernel
theorem dX1_pieces_41 : decode cX1_pieces 41 = .ok (.goto (-35), 3) := by decide +kernel
theorem dX1_pieces_44 : decode cX1_pieces 44 = .ok (.iload_n 1, 1) := by decide +kernel
theorem dX1_pieces_45 : decode cX1_pieces 45 = .ok (.ireturn, 1) := by decide +kernel
theorem dX1_agreeing_0 : decode cX1_agreeing 0 = .ok (.aload_n 0, 1) := by decide +kernel
theorem dX1_agreeing_1 : decode cX1_agreeing 1 = .ok (.iload_n 1, 1) := by decide +kernel
theorem dX1_agreeing_2 : decode cX1_agreeing 2 = .ok (.invokevirtual 76, 3) := by decide +kernel
theorem dX1_agreeing_5 : decode cX1_agreeing 5 = .ok (.ifCond .ne 5, 3) := by decide +kernel
theorem dX1_agreeing_8 : decode cX1_agreeing 8 = .ok (.iconst 0, 1) := by decide +kernel
theorem dX1_agreeing_9 : decode cX1_agreeing 9 = .ok (.ireturn, 1) := by decide +kernel
theorem dX1_agreeing_10 : decode cX1_agreeing 10 = .ok (.iconst 0, 1) := by decide +kernel
theorem dX1_agreeing_11 : decode cX1_agreeing 11 = .ok (.istore_n 2, 1) := by decide +kernel
theorem dX1_agreeing_12 : decode cX1_agreeing 12 = .ok (.iconst 0, 1) := by decide +kernel
theorem dX1_agreeing_13 : decode cX1_agreeing 13 = .ok (.istore_n 3, 1) := by decide +kernel
theorem dX1_agreeing_14 : decode cX1_agreeing 14 = .ok (.iload_n 3, 1) := by decide +kernel
theorem dX1_agreeing_15 : decode cX1_agreeing 15 = .ok (.bipush 16, 2) := by decide +kernel
theorem dX1_agreeing_17 : decode cX1_agreeing 17 = .ok (.if_icmp .ge 38, 3) := by decide +kernel
theorem dX1_agreeing_20 : decode cX1_agreeing 20 = .ok (.aload_n 0, 1) := by decide +kernel
theorem dX1_agreeing_21 : decode cX1_agreeing 21 = .ok (.iload_n 3, 1) := by decide +kernel
theorem dX1_agreeing_22 : decode cX1_agreeing 22 = .ok (.invokevirtual 76, 3) := by decide +kernel
theorem dX1_agreeing_25 : decode cX1_agreeing 25 = .ok (.ifCond .eq 24, 3) := by decide +kernel
theorem dX1_agreeing_28 : decode cX1_agreeing 28 = .ok (.aload_n 0, 1) := by decide +kernel
theorem dX1_agreeing_29 : decode cX1_agreeing 29 = .ok (.getfield 9, 3) := by decide +kernel
theorem dX1_agreeing_32 : decode cX1_agreeing 32 = .ok (.iload_n 3, 1) := by decide +kernel
theorem dX1_agreeing_33 : decode cX1_agreeing 33 = .ok (.iaload, 1) := by decide +kernel
theorem dX1_agreeing_34 : decode cX1_agreeing 34 = .ok (.aload_n 0, 1) := by decide +kernel
theorem dX1_agreeing_35 : decode cX1_agreeing 35 = .ok (.getfield 9, 3) := by decide +kernel
theorem dX1_agreeing_38 : decode cX1_agreeing 38 = .ok (.iload_n 1, 1) := by decide +kernel
theorem dX1_agreeing_39 : decode cX1_agreeing 39 = .ok (.iaload, 1) := by decide +kernel
theorem dX1_agreeing_40 : decode cX1_agreeing 40 = .ok (.if_icmp .ne 9, 3) := by decide +kernel
theorem dX1_agreeing_43 : decode cX1_agreeing 43 = .ok (.iload_n 2, 1) := by decide +kernel
theorem dX1_agreeing_44 : decode cX1_agreeing 44 = .ok (.iconst 1, 1) := by decide +kernel
theorem dX1_agreeing_45 : decode cX1_agreeing 45 = .ok (.iload_n 3, 1) := by decide +kernel
theorem dX1_agreeing_46 : decode cX1_agreeing 46 = .ok (.ishl, 1) := by decide +kernel
theorem dX1_agreeing_47 : decode cX1_agreeing 47 = .ok (.ior, 1) := by decide +kernel
theorem dX1_agreeing_48 : decode cX1_agreeing 48 = .ok (.istore_n 2, 1) := by decide +kernel
theorem dX1_agreeing_49 : decode cX1_agreeing 49 = .ok (.iinc 3 1, 3) := by decide +kernel
theorem dX1_agreeing_52 : decode cX1_agreeing 52 = .ok (.goto (-38), 3) := by decide +kernel
theorem dX1_agreeing_55 : decode cX1_agreeing 55 = .ok (.iload_n 2, 1) := by decide +kernel
theorem dX1_agreeing_56 : decode cX1_agreeing 56 = .ok (.ireturn, 1) := by decide +kernel
theorem dX1_lampWithMostLinks_0 : decode cX1_lampWithMostLinks 0 = .ok (.iconst (-1), 1) := by decide +kernel
theorem dX1_lampWithMostLinks_1 : decode cX1_lampWithMostLinks 1 = .ok (.istore_n 1, 1) := by decide +kernel
theorem dX1_lampWithMostLinks_2 : decode cX1_lampWithMostLinks 2 = .ok (.iconst (-1), 1) := by decide +kernel
theorem dX1_lampWithMostLinks_3 : decode cX1_lampWithMostLinks 3 = .ok (.istore_n 2, 1) := by decide +kernel
theorem dX1_lampWithMostLinks_4 : decode cX1_lampWithMostLinks 4 = .ok (.iconst 0, 1) := by decide +kernel
theorem dX1_lampWithMostLinks_5 : decode cX1_lampWithMostLinks 5 = .ok (.istore_n 3, 1) := by decide +kernel
theorem dX1_lampWithMostLinks_6 : decode cX1_lampWithMostLinks 6 = .ok (.iload_n 3, 1) := by decide +kernel
theorem dX1_lampWithMostLinks_7 : decode cX1_lampWithMostLinks 7 = .ok (.bipush 16, 2) := by decide +kernel
theorem dX1_lampWithMostLinks_9 : decode cX1_lampWithMostLinks 9 = .ok (.if_icmp .ge 42, 3) := by decide +kernel
theorem dX1_lampWithMostLinks_12 : decode cX1_lampWithMostLinks 12 = .ok (.aload_n 0, 1) := by decide +kernel
theorem dX1_lampWithMostLinks_13 : decode cX1_lampWithMostLinks 13 = .ok (.getfield 21, 3) := by decide +kernel
theorem dX1_lampWithMostLinks_16 : decode cX1_lampWithMostLinks 16 = .ok (.iload_n 3, 1) := by decide +kernel
theorem dX1_lampWithMostLinks_17 : decode cX1_lampWithMostLinks 17 = .ok (.iaload, 1) := by decide +kernel
theorem dX1_lampWithMostLinks_18 : decode cX1_lampWithMostLinks 18 = .ok (.invokestatic 83, 3) := by decide +kernel
theorem dX1_lampWithMostLinks_21 : decode cX1_lampWithMostLinks 21 = .ok (.istore 4, 2) := by decide +kernel
theorem dX1_lampWithMostLinks_23 : decode cX1_lampWithMostLinks 23 = .ok (.aload_n 0, 1) := by decide +kernel
theorem dX1_lampWithMostLinks_24 : decode cX1_lampWithMostLinks 24 = .ok (.getfield 50, 3) := by decide +kernel
theorem dX1_lampWithMostLinks_27 : decode cX1_lampWithMostLinks 27 = .ok (.iload_n 3, 1) := by decide +kernel
theorem dX1_lampWithMostLinks_28 : decode cX1_lampWithMostLinks 28 = .ok (.invokestatic 72, 3) := by decide +kernel
theorem dX1_lampWithMostLinks_31 : decode cX1_lampWithMostLinks 31 = .ok (.ifCond .eq 14, 3) := by decide +kernel
theorem dX1_lampWithMostLinks_34 : decode cX1_lampWithMostLinks 34 = .ok (.iload 4, 2) := by decide +kernel
theorem dX1_lampWithMostLinks_36 : decode cX1_lampWithMostLinks 36 = .ok (.iload_n 2, 1) := by decide +kernel
theorem dX1_lampWithMostLinks_37 : decode cX1_lampWithMostLinks 37 = .ok (.if_icmp .le 8, 3) := by decide +kernel
theorem dX1_lampWithMostLinks_40 : decode cX1_lampWithMostLinks 40 = .ok (.iload_n 3, 1) := by decide +kernel
theorem dX1_lampWithMostLinks_41 : decode cX1_lampWithMostLinks 41 = .ok (.istore_n 1, 1) := by decide +kernel
theorem dX1_lampWithMostLinks_42 : decode cX1_lampWithMostLinks 42 = .ok (.iload 4, 2) := by decide +kernel
theorem dX1_lampWithMostLinks_44 : decode cX1_lampWithMostLinks 44 = .ok (.istore_n 2, 1) := by decide +kernel
theorem dX1_lampWithMostLinks_45 : decode cX1_lampWithMostLinks 45 = .ok (.iinc 3 1, 3) := by decide +kernel
theorem dX1_lampWithMostLinks_48 : decode cX1_lampWithMostLinks 48 = .ok (.goto (-42), 3) := by decide +kernel
theorem dX1_lampWithMostLinks_51 : decode cX1_lampWithMostLinks 51 = .ok (.iload_n 1, 1) := by decide +kernel
theorem dX1_lampWithMostLinks_52 : decode cX1_lampWithMostLinks 52 = .ok (.ireturn, 1) := by decide +kernel
theorem dX1_tellLamp_0 : decode cX1_tellLamp 0 = .ok (.iload_n 2, 1) := by decide +kernel
theorem dX1_tellLamp_1 : decode cX1_tellLamp 1 = .ok (.tableswitch 130 0 9 #[55, 62, 69, 83, 90, 97, 104, 111, 117, 123], 55) := by decide +kernel
theorem dX1_tellLamp_56 : decode cX1_tellLamp 56 = .ok (.aload_n 0, 1) := by decide +kernel
theorem dX1_tellLamp_57 : decode cX1_tellLamp 57 = .ok (.getfield 9, 3) := by decide +kernel
theorem dX1_tellLamp_60 : decode cX1_tellLamp 60 = .ok (.iload_n 1, 1) := by decide +kernel
theorem dX1_tellLamp_61 : decode cX1_tellLamp 61 = .ok (.iaload, 1) := by decide +kernel
theorem dX1_tellLamp_62 : decode cX1_tellLamp 62 = .ok (.ireturn, 1) := by decide +kernel
theorem dX1_tellLamp_63 : decode cX1_tellLamp 63 = .ok (.aload_n 0, 1) := by decide +kernel
theorem dX1_tellLamp_64 : decode cX1_tellLamp 64 = .ok (.getfield 15, 3) := by decide +kernel
theorem dX1_tellLamp_67 : decode cX1_tellLamp 67 = .ok (.iload_n 1, 1) := by decide +kernel
theorem dX1_tellLamp_68 : decode cX1_tellLamp 68 = .ok (.iaload, 1) := by decide +kernel
theorem dX1_tellLamp_69 : decode cX1_tellLamp 69 = .ok (.ireturn, 1) := by decide +kernel
theorem dX1_tellLamp_70 : decode cX1_tellLamp 70 = .ok (.aload_n 0, 1) := by decide +kernel
theorem dX1_tellLamp_71 : decode cX1_tellLamp 71 = .ok (.iload_n 1, 1) := by decide +kernel
theorem dX1_tellLamp_72 : decode cX1_tellLamp 72 = .ok (.invokevirtual 76, 3) := by decide +kernel
theorem dX1_tellLamp_75 : decode cX1_tellLamp 75 = .ok (.ifCond .eq 7, 3) := by decide +kernel
theorem dX1_tellLamp_78 : decode cX1_tellLamp 78 = .ok (.iconst 1, 1) := by decide +kernel
theorem dX1_tellLamp_79 : decode cX1_tellLamp 79 = .ok (.goto 4, 3) := by decide +kernel
theorem dX1_tellLamp_82 : decode cX1_tellLamp 82 = .ok (.iconst 0, 1) := by decide +kernel
theorem dX1_tellLamp_83 : decode cX1_tellLamp 83 = .ok (.ireturn, 1) := by decide +kernel
theorem dX1_tellLamp_84 : decode cX1_tellLamp 84 = .ok (.aload_n 0, 1) := by decide +kernel
theorem dX1_tellLamp_85 : decode cX1_tellLamp 85 = .ok (.getfield 18, 3) := by decide +kernel
theorem dX1_tellLamp_88 : decode cX1_tellLamp 88 = .ok (.iload_n 1, 1) := by decide +kernel
theorem dX1_tellLamp_89 : decode cX1_tellLamp 89 = .ok (.iaload, 1) := by decide +kernel
theorem dX1_tellLamp_90 : decode cX1_tellLamp 90 = .ok (.ireturn, 1) := by decide +kernel
theorem dX1_tellLamp_91 : decode cX1_tellLamp 91 = .ok (.aload_n 0, 1) := by decide +kernel
theorem dX1_tellLamp_92 : decode cX1_tellLamp 92 = .ok (.getfield 24, 3) := by decide +kernel
theorem dX1_tellLamp_95 : decode cX1_tellLamp 95 = .ok (.iload_n 1, 1) := by decide +kernel
theorem dX1_tellLamp_96 : decode cX1_tellLamp 96 = .ok (.iaload, 1) := by decide +kernel
theorem dX1_tellLamp_97 : decode cX1_tellLamp 97 = .ok (.ireturn, 1) := by decide +kernel
theorem dX1_tellLamp_98 : decode cX1_tellLamp 98 = .ok (.aload_n 0, 1) := by decide +kernel
theorem dX1_tellLamp_99 : decode cX1_tellLamp 99 = .ok (.getfield 27, 3) := by decide +kernel
theorem dX1_tellLamp_102 : decode cX1_tellLamp 102 = .ok (.iload_n 1, 1) := by decide +kernel
theorem dX1_tellLamp_103 : decode cX1_tellLamp 103 = .ok (.iaload, 1) := by decide +kernel
theorem dX1_tellLamp_104 : decode cX1_tellLamp 104 = .ok (.ireturn, 1) := by decide +kernel
theorem dX1_tellLamp_105 : decode cX1_tellLamp 105 = .ok (.aload_n 0, 1) := by decide +kernel
theorem dX1_tellLamp_106 : decode cX1_tellLamp 106 = .ok (.getfield 21, 3) := by decide +kernel
theorem dX1_tellLamp_109 : decode cX1_tellLamp 109 = .ok (.iload_n 1, 1) := by decide +kernel
theorem dX1_tellLamp_110 : decode cX1_tellLamp 110 = .ok (.iaload, 1) := by decide +kernel
theorem dX1_tellLamp_111 : decode cX1_tellLamp 111 = .ok (.ireturn, 1) := by decide +kernel
theorem dX1_tellLamp_112 : decode cX1_tellLamp 112 = .ok (.aload_n 0, 1) := by decide +kernel
theorem dX1_tellLamp_113 : decode cX1_tellLamp 113 = .ok (.iload_n 1, 1) := by decide +kernel
theorem dX1_tellLamp_114 : decode cX1_tellLamp 114 = .ok (.invokevirtual 133, 3) := by decide +kernel
theorem dX1_tellLamp_117 : decode cX1_tellLamp 117 = .ok (.ireturn, 1) := by decide +kernel
theorem dX1_tellLamp_118 : decode cX1_tellLamp 118 = .ok (.aload_n 0, 1) := by decide +kernel
theorem dX1_tellLamp_119 : decode cX1_tellLamp 119 = .ok (.iload_n 1, 1) := by decide +kernel
theorem dX1_tellLamp_120 : decode cX1_tellLamp 120 = .ok (.invokevirtual 136, 3) := by decide +kernel
theorem dX1_tellLamp_123 : decode cX1_tellLamp 123 = .ok (.ireturn, 1) := by decide +kernel
theorem dX1_tellLamp_124 : decode cX1_tellLamp 124 = .ok (.aload_n 0, 1) := by decide +kernel
theorem dX1_tellLamp_125 : decode cX1_tellLamp 125 = .ok (.getfield 30, 3) := by decide +kernel
theorem dX1_tellLamp_128 : decode cX1_tellLamp 128 = .ok (.iload_n 1, 1) := by decide +kernel
theorem dX1_tellLamp_129 : decode cX1_tellLamp 129 = .ok (.iaload, 1) := by decide +kernel
theorem dX1_tellLamp_130 : decode cX1_tellLamp 130 = .ok (.ireturn, 1) := by decide +kernel
theorem dX1_tellLamp_131 : decode cX1_tellLamp 131 = .ok (.bipush (-2), 2) := by decide +kernel
theorem dX1_tellLamp_133 : decode cX1_tellLamp 133 = .ok (.ireturn, 1) := by decide +kernel
theorem dX1_tellMesh_0 : decode cX1_tellMesh 0 = .ok (.iload_n 1, 1) := by decide +kernel
theorem dX1_tellMesh_1 : decode cX1_tellMesh 1 = .ok (.tableswitch 129 0 11 #[63, 68, 73, 78, 83, 88, 93, 98, 103, 108, 115, 122], 63) := by decide +kernel
theorem dX1_tellMesh_64 : decode cX1_tellMesh 64 = .ok (.aload_n 0, 1) := by decide +kernel
theorem dX1_tellMesh_65 : decode cX1_tellMesh 65 = .ok (.getfield 57, 3) := by decide +kernel
theorem dX1_tellMesh_68 : decode cX1_tellMesh 68 = .ok (.ireturn, 1) := by decide +kernel
theorem dX1_tellMesh_69 : decode cX1_tellMesh 69 = .ok (.aload_n 0, 1) := by decide +kernel
theorem dX1_tellMesh_70 : decode cX1_tellMesh 70 = .ok (.invokevirtual 139, 3) := by decide +kernel
theorem dX1_tellMesh_73 : decode cX1_tellMesh 73 = .ok (.ireturn, 1) := by decide +kernel
theorem dX1_tellMesh_74 : decode cX1_tellMesh 74 = .ok (.aload_n 0, 1) := by decide +kernel
theorem dX1_tellMesh_75 : decode cX1_tellMesh 75 = .ok (.invokevirtual 142, 3) := by decide +kernel
theorem dX1_tellMesh_78 : decode cX1_tellMesh 78 = .ok (.ireturn, 1) := by decide +kernel
theorem dX1_tellMesh_79 : decode cX1_tellMesh 79 = .ok (.aload_n 0, 1) := by decide +kernel
theorem dX1_tellMesh_80 : decode cX1_tellMesh 80 = .ok (.invokevirtual 145, 3) := by decide +kernel
theorem dX1_tellMesh_83 : decode cX1_tellMesh 83 = .ok (.ireturn, 1) := by decide +kernel
theorem dX1_tellMesh_84 : decode cX1_tellMesh 84 = .ok (.aload_n 0, 1) := by decide +kernel
theorem dX1_tellMesh_85 : decode cX1_tellMesh 85 = .ok (.invokevirtual 148, 3) := by decide +kernel
theorem dX1_tellMesh_88 : decode cX1_tellMesh 88 = .ok (.ireturn, 1) := by decide +kernel
theorem dX1_tellMesh_89 : decode cX1_tellMesh 89 = .ok (.aload_n 0, 1) := by decide +kernel
theorem dX1_tellMesh_90 : decode cX1_tellMesh 90 = .ok (.getfield 60, 3) := by decide +kernel
theorem dX1_tellMesh_93 : decode cX1_tellMesh 93 = .ok (.ireturn, 1) := by decide +kernel
theorem dX1_tellMesh_94 : decode cX1_tellMesh 94 = .ok (.aload_n 0, 1) := by decide +kernel
theorem dX1_tellMesh_95 : decode cX1_tellMesh 95 = .ok (.getfield 63, 3) := by decide +kernel
theorem dX1_tellMesh_98 : decode cX1_tellMesh 98 = .ok (.ireturn, 1) := by decide +kernel
theorem dX1_tellMesh_99 : decode cX1_tellMesh 99 = .ok (.aload_n 0, 1) := by decide +kernel
theorem dX1_tellMesh_100 : decode cX1_tellMesh 100 = .ok (.getfield 66, 3) := by decide +kernel
theorem dX1_tellMesh_103 : decode cX1_tellMesh 103 = .ok (.ireturn, 1) := by decide +kernel
theorem dX1_tellMesh_104 : decode cX1_tellMesh 104 = .ok (.aload_n 0, 1) := by decide +kernel
theorem dX1_tellMesh_105 : decode cX1_tellMesh 105 = .ok (.getfield 69, 3) := by decide +kernel
theorem dX1_tellMesh_108 : decode cX1_tellMesh 108 = .ok (.ireturn, 1) := by decide +kernel
theorem dX1_tellMesh_109 : decode cX1_tellMesh 109 = .ok (.aload_n 0, 1) := by decide +kernel
theorem dX1_tellMesh_110 : decode cX1_tellMesh 110 = .ok (.getfield 41, 3) := by decide +kernel
theorem dX1_tellMesh_113 : decode cX1_tellMesh 113 = .ok (.iconst 0, 1) := by decide +kernel
theorem dX1_tellMesh_114 : decode cX1_tellMesh 114 = .ok (.iaload, 1) := by decide +kernel
theorem dX1_tellMesh_115 : decode cX1_tellMesh 115 = .ok (.ireturn, 1) := by decide +kernel
theorem dX1_tellMesh_116 : decode cX1_tellMesh 116 = .ok (.aload_n 0, 1) := by decide +kernel
theorem dX1_tellMesh_117 : decode cX1_tellMesh 117 = .ok (.getfield 41, 3) := by decide +kernel
theorem dX1_tellMesh_120 : decode cX1_tellMesh 120 = .ok (.iconst 1, 1) := by decide +kernel
theorem dX1_tellMesh_121 : decode cX1_tellMesh 121 = .ok (.iaload, 1) := by decide +kernel
theorem dX1_tellMesh_122 : decode cX1_tellMesh 122 = .ok (.ireturn, 1) := by decide +kernel
theorem dX1_tellMesh_123 : decode cX1_tellMesh 123 = .ok (.aload_n 0, 1) := by decide +kernel
theorem dX1_tellMesh_124 : decode cX1_tellMesh 124 = .ok (.getfield 41, 3) := by decide +kernel
theorem dX1_tellMesh_127 : decode cX1_tellMesh 127 = .ok (.iconst 2, 1) := by decide +kernel
theorem dX1_tellMesh_128 : decode cX1_tellMesh 128 = .ok (.iaload, 1) := by decide +kernel
theorem dX1_tellMesh_129 : decode cX1_tellMesh 129 = .ok (.ireturn, 1) := by decide +kernel
theorem dX1_tellMesh_130 : decode cX1_tellMesh 130 = .ok (.bipush (-2), 2) := by decide +kernel
theorem dX1_tellMesh_132 : decode cX1_tellMesh 132 = .ok (.ireturn, 1) := by decide +kernel
theorem dX2_init_0 : decode cX2_init 0 = .ok (.aload_n 0, 1) := by decide +kernel
theorem dX2_init_1 : decode cX2_init 1 = .ok (.invokespecial 3, 3) := by decide +kernel
theorem dX2_init_4 : decode cX2_init 4 = .ok (.aload_n 0, 1) := by decide +kernel
theorem dX2_init_5 : decode cX2_init 5 = .ok (.bipush 60, 2) := by decide +kernel
theorem dX2_init_7 : decode cX2_init 7 = .ok (.newarray .char, 2) := by decide +kernel
theorem dX2_init_9 : decode cX2_init 9 = .ok (.putfield 9, 3) := by decide +kernel
theorem dX2_init_12 : decode cX2_init 12 = .ok (.aload_n 0, 1) := by decide +kernel
theorem dX2_init_13 : decode cX2_init 13 = .ok (.bipush 16, 2) := by decide +kernel
theorem dX2_init_15 : decode cX2_init 15 = .ok (.newarray .int, 2) := by decide +kernel
theorem dX2_init_17 : decode cX2_init 17 = .ok (.putfield 15, 3) := by decide +kernel
theorem dX2_init_20 : decode cX2_init 20 = .ok (.aload_n 0, 1) := by decide +kernel
theorem dX2_init_21 : decode cX2_init 21 = .ok (.bipush 16, 2) := by decide +kernel
theorem dX2_init_23 : decode cX2_init 23 = .ok (.newarray .int, 2) := by decide +kernel
theorem dX2_init_25 : decode cX2_init 25 = .ok (.putfield 19, 3) := by decide +kernel
theorem dX2_init_28 : decode cX2_init 28 = .ok (.aload_n 0, 1) := by decide +kernel
theorem dX2_init_29 : decode cX2_init 29 = .ok (.bipush 16, 2) := by decide +kernel
theorem dX2_init_31 : decode cX2_init 31 = .ok (.newarray .int, 2) := by decide +kernel
theorem dX2_init_33 : decode cX2_init 33 = .ok (.putfield 22, 3) := by decide +kernel
theorem dX2_init_36 : decode cX2_init 36 = .ok (.return_, 1) := by decide +kernel
theorem dX2_length_0 : decode cX2_length 0 = .ok (.aload_n 0, 1) := by decide +kernel
theorem dX2_length_1 : decode cX2_length 1 = .ok (.getfield 25, 3) := by decide +kernel
theorem dX2_length_4 : decode cX2_length 4 = .ok (.ireturn, 1) := by decide +kernel
theorem dX3_init_0 : decode cX3_init 0 = .ok (.aload_n 0, 1) := by decide +kernel
theorem dX3_init_1 : decode cX3_init 1 = .ok (.invokespecial 1, 3) := by decide +kernel
theorem dX3_init_4 : decode cX3_init 4 = .ok (.aload_n 0, 1) := by decide +kernel
theorem dX3_init_5 : decode cX3_init 5 = .ok (.new 7, 3) := by decide +kernel
theorem dX3_init_8 : decode cX3_init 8 = .ok (.dup, 1) := by decide +kernel
theorem dX3_init_9 : decode cX3_init 9 = .ok (.invokespecial 9, 3) := by decide +kernel
theorem dX3_init_12 : decode cX3_init 12 = .ok (.putfield 10, 3) := by decide +kernel
theorem dX3_init_15 : decode cX3_init 15 = .ok (.aload_n 0, 1) := by decide +kernel
theorem dX3_init_16 : decode cX3_init 16 = .ok (.new 7, 3) := by decide +kernel
theorem dX3_init_19 : decode cX3_init 19 = .ok (.dup, 1) := by decide +kernel
theorem dX3_init_20 : decode cX3_init 20 = .ok (.invokespecial 9, 3) := by decide +kernel
theorem dX3_init_23 : decode cX3_init 23 = .ok (.putfield 16, 3) := by decide +kernel
theorem dX3_init_26 : decode cX3_init 26 = .ok (.aload_n 0, 1) := by decide +kernel
theorem dX3_init_27 : decode cX3_init 27 = .ok (.new 7, 3) := by decide +kernel
theorem dX3_init_30 : decode cX3_init 30 = .ok (.dup, 1) := by decide +kernel
theorem dX3_init_31 : decode cX3_init 31 = .ok (.invokespecial 9, 3) := by decide +kernel
theorem dX3_init_34 : decode cX3_init 34 = .ok (.putfield 19, 3) := by decide +kernel
theorem dX3_init_37 : decode cX3_init 37 = .ok (.aload_n 0, 1) := by decide +kernel
theorem dX3_init_38 : decode cX3_init 38 = .ok (.iconst 0, 1) := by decide +kernel
theorem dX3_init_39 : decode cX3_init 39 = .ok (.putfield 22, 3) := by decide +kernel
theorem dX3_init_42 : decode cX3_init 42 = .ok (.aload_n 0, 1) := by decide +kernel
theorem dX3_init_43 : decode cX3_init 43 = .ok (.new 26, 3) := by decide +kernel
theorem dX3_init_46 : decode cX3_init 46 = .ok (.dup, 1) := by decide +kernel
theorem dX3_init_47 : decode cX3_init 47 = .ok (.invokespecial 28, 3) := by decide +kernel
theorem dX3_init_50 : decode cX3_init 50 = .ok (.putfield 29, 3) := by decide +kernel
theorem dX3_init_53 : decode cX3_init 53 = .ok (.aload_n 0, 1) := by decide +kernel
theorem dX3_init_54 : decode cX3_init 54 = .ok (.new 33, 3) := by decide +kernel
theorem dX3_init_57 : decode cX3_init 57 = .ok (.dup, 1) := by decide +kernel
theorem dX3_init_58 : decode cX3_init 58 = .ok (.invokespecial 35, 3) := by decide +kernel
theorem dX3_init_61 : decode cX3_init 61 = .ok (.putfield 36, 3) := by decide +kernel
theorem dX3_init_64 : decode cX3_init 64 = .ok (.return_, 1) := by decide +kernel
theorem dX3_come_0 : decode cX3_come 0 = .ok (.aload_n 0, 1) := by decide +kernel
theorem dX3_come_1 : decode cX3_come 1 = .ok (.getfield 10, 3) := by decide +kernel
theorem dX3_come_4 : decode cX3_come 4 = .ok (.iload_n 1, 1) := by decide +kernel
theorem dX3_come_5 : decode cX3_come 5 = .ok (.invokevirtual 40, 3) := by decide +kernel
theorem dX3_come_8 : decode cX3_come 8 = .ok (.ifCond .eq 10, 3) := by decide +kernel
theorem dX3_come_11 : decode cX3_come 11 = .ok (.iload_n 2, 1) := by decide +kernel
theorem dX3_come_12 : decode cX3_come 12 = .ok (.invokestatic 44, 3) := by decide +kernel
theorem dX3_come_15 : decode cX3_come 15 = .ok (.ifCond .ne 6, 3) := by decide +kernel
theorem dX3_come_18 : decode cX3_come 18 = .ok (.bipush (-2), 2) := by decide +kernel
theorem dX3_come_20 : decode cX3_come 20 = .ok (.ireturn, 1) := by decide +kernel
theorem dX3_come_21 : decode cX3_come 21 = .ok (.aload_n 0, 1) := by decide +kernel
theorem dX3_come_22 : decode cX3_come 22 = .ok (.getfield 10, 3) := by decide +kernel
theorem dX3_come_25 : decode cX3_come 25 = .ok (.invokevirtual 47, 3) := by decide +kernel
theorem dX3_come_28 : decode cX3_come 28 = .ok (.istore_n 3, 1) := by decide +kernel
theorem dX3_come_29 : decode cX3_come 29 = .ok (.iload_n 3, 1) := by decide +kernel
theorem dX3_come_30 : decode cX3_come 30 = .ok (.iconst (-1), 1) := by decide +kernel
theorem dX3_come_31 : decode cX3_come 31 = .ok (.if_icmp .ne 6, 3) := by decide +kernel
theorem dX3_come_34 : decode cX3_come 34 = .ok (.bipush (-3), 2) := by decide +kernel
theorem dX3_come_36 : decode cX3_come 36 = .ok (.ireturn, 1) := by decide +kernel
theorem dX3_come_37 : decode cX3_come 37 = .ok (.aload_n 0, 1) := by decide +kernel
theorem dX3_come_38 : decode cX3_come 38 = .ok (.getfield 29, 3) := by decide +kernel
theorem dX3_come_41 : decode cX3_come 41 = .ok (.aload_n 0, 1) := by decide +kernel
theorem dX3_come_42 : decode cX3_come 42 = .ok (.getfield 10, 3) := by decide +kernel
theorem dX3_come_45 : decode cX3_come 45 = .ok (.invokevirtual 51, 3) := by decide +kernel
theorem dX3_come_48 : decode cX3_come 48 = .ok (.aload_n 0, 1) := by decide +kernel
theorem dX3_come_49 : decode cX3_come 49 = .ok (.getfield 10, 3) := by decide +kernel
theorem dX3_come_52 : decode cX3_come 52 = .ok (.iload_n 3, 1) := by decide +kernel
theorem dX3_come_53 : decode cX3_come 53 = .ok (.iload_n 1, 1) := by decide +kernel
theorem dX3_come_54 : decode cX3_come 54 = .ok (.iload_n 2, 1) := by decide +kernel
theorem dX3_come_55 : decode cX3_come 55 = .ok (.invokevirtual 55, 3) := by decide +kernel
theorem dX3_come_58 : decode cX3_come 58 = .ok (.iload_n 3, 1) := by decide +kernel
theorem dX3_come_59 : decode cX3_come 59 = .ok (.ireturn, 1) := by decide +kernel
theorem dX3_goAway_0 : decode cX3_goAway 0 = .ok (.aload_n 0, 1) := by decide +kernel
theorem dX3_goAway_1 : decode cX3_goAway 1 = .ok (.getfield 10, 3) := by decide +kernel
theorem dX3_goAway_4 : decode cX3_goAway 4 = .ok (.iload_n 1, 1) := by decide +kernel
theorem dX3_goAway_5 : decode cX3_goAway 5 = .ok (.invokevirtual 59, 3) := by decide +kernel
theorem dX3_goAway_8 : decode cX3_goAway 8 = .ok (.ifCond .ne 5, 3) := by decide +kernel
theorem dX3_goAway_11 : decode cX3_goAway 11 = .ok (.iconst (-1), 1) := by decide +kernel
theorem dX3_goAway_12 : decode cX3_goAway 12 = .ok (.ireturn, 1) := by decide +kernel
theorem dX3_goAway_13 : decode cX3_goAway 13 = .ok (.aload_n 0, 1) := by decide +kernel
theorem dX3_goAway_14 : decode cX3_goAway 14 = .ok (.getfield 29, 3) := by decide +kernel
theorem dX3_goAway_17 : decode cX3_goAway 17 = .ok (.aload_n 0, 1) := by decide +kernel
theorem dX3_goAway_18 : decode cX3_goAway 18 = .ok (.getfield 10, 3) := by decide +kernel
theorem dX3_goAway_21 : decode cX3_goAway 21 = .ok (.invokevirtual 51, 3) := by decide +kernel
theorem dX3_goAway_24 : decode cX3_goAway 24 = .ok (.aload_n 0, 1) := by decide +kernel
theorem dX3_goAway_25 : decode cX3_goAway 25 = .ok (.getfield 10, 3) := by decide +kernel
theorem dX3_goAway_28 : decode cX3_goAway 28 = .ok (.iload_n 1, 1) := by decide +kernel
theorem dX3_goAway_29 : decode cX3_goAway 29 = .ok (.invokevirtual 62, 3) := by decide +kernel
theorem dX3_goAway_32 : decode cX3_goAway 32 = .ok (.ireturn, 1) := by decide +kernel
theorem dX3_turn_0 : decode cX3_turn 0 = .ok (.aload_n 0, 1) := by decide +kernel
theorem dX3_turn_1 : decode cX3_turn 1 = .ok (.getfield 10, 3) := by decide +kernel
theorem dX3_turn_4 : decode cX3_turn 4 = .ok (.iload_n 1, 1) := by decide +kernel
theorem dX3_turn_5 : decode cX3_turn 5 = .ok (.invokevirtual 59, 3) := by decide +kernel
theorem dX3_turn_8 : decode cX3_turn 8 = .ok (.ifCond .ne 5, 3) := by decide +kernel
theorem dX3_turn_11 : decode cX3_turn 11 = .ok (.iconst (-1), 1) := by decide +kernel
theorem dX3_turn_12 : decode cX3_turn 12 = .ok (.ireturn, 1) := by decide +kernel
theorem dX3_turn_13 : decode cX3_turn 13 = .ok (.aload_n 0, 1) := by decide +kernel
theorem dX3_turn_14 : decode cX3_turn 14 = .ok (.getfield 10, 3) := by decide +kernel
theorem dX3_turn_17 : decode cX3_turn 17 = .ok (.iload_n 1, 1) := by decide +kernel
theorem dX3_turn_18 : decode cX3_turn 18 = .ok (.invokevirtual 66, 3) := by decide +kernel
theorem dX3_turn_21 : decode cX3_turn 21 = .ok (.iload_n 2, 1) := by decide +kernel
theorem dX3_turn_22 : decode cX3_turn 22 = .ok (.if_icmp .ne 6, 3) := by decide +kernel
theorem dX3_turn_25 : decode cX3_turn 25 = .ok (.bipush (-5), 2) := by decide +kernel
theorem dX3_turn_27 : decode cX3_turn 27 = .ok (.ireturn, 1) := by decide +kernel
theorem dX3_turn_28 : decode cX3_turn 28 = .ok (.aload_n 0, 1) := by decide +kernel
theorem dX3_turn_29 : decode cX3_turn 29 = .ok (.getfield 29, 3) := by decide +kernel
theorem dX3_turn_32 : decode cX3_turn 32 = .ok (.aload_n 0, 1) := by decide +kernel
theorem dX3_turn_33 : decode cX3_turn 33 = .ok (.getfield 10, 3) := by decide +kernel
theorem dX3_turn_36 : decode cX3_turn 36 = .ok (.invokevirtual 51, 3) := by decide +kernel
theorem dX3_turn_39 : decode cX3_turn 39 = .ok (.aload_n 0, 1) := by decide +kernel
theorem dX3_turn_40 : decode cX3_turn 40 = .ok (.getfield 10, 3) := by decide +kernel
theorem dX3_turn_43 : decode cX3_turn 43 = .ok (.iload_n 1, 1) := by decide +kernel
theorem dX3_turn_44 : decode cX3_turn 44 = .ok (.iload_n 2, 1) := by decide +kernel
theorem dX3_turn_45 : decode cX3_turn 45 = .ok (.invokevirtual 69, 3) := by decide +kernel
theorem dX3_turn_48 : decode cX3_turn 48 = .ok (.aload_n 0, 1) := by decide +kernel
theorem dX3_turn_49 : decode cX3_turn 49 = .ok (.getfield 10, 3) := by decide +kernel
theorem dX3_turn_52 : decode cX3_turn 52 = .ok (.invokevirtual 73, 3) := by decide +kernel
theorem dX3_turn_55 : decode cX3_turn 55 = .ok (.ireturn, 1) := by decide +kernel
theorem dX3_link_0 : decode cX3_link 0 = .ok (.aload_n 0, 1) := by decide +kernel
theorem dX3_link_1 : decode cX3_link 1 = .ok (.getfield 10, 3) := by decide +kernel
theorem dX3_link_4 : decode cX3_link 4 = .ok (.iload_n 1, 1) := by decide +kernel
theorem dX3_link_5 : decode cX3_link 5 = .ok (.invokevirtual 59, 3) := by decide +kernel
theorem dX3_link_8 : decode cX3_link 8 = .ok (.ifCond .eq 14, 3) := by decide +kernel
theorem dX3_link_11 : decode cX3_link 11 = .ok (.aload_n 0, 1) := by decide +kernel
theorem dX3_link_12 : decode cX3_link 12 = .ok (.getfield 10, 3) := by decide +kernel
theorem dX3_link_15 : decode cX3_link 15 = .ok (.iload_n 2, 1) := by decide +kernel
theorem dX3_link_16 : decode cX3_link 16 = .ok (.invokevirtual 59, 3) := by decide +kernel
theorem dX3_link_19 : decode cX3_link 19 = .ok (.ifCond .ne 5, 3) := by decide +kernel
theorem dX3_link_22 : decode cX3_link 22 = .ok (.iconst (-1), 1) := by decide +kernel
theorem dX3_link_23 : decode cX3_link 23 = .ok (.ireturn, 1) := by decide +kernel
theorem dX3_link_24 : decode cX3_link 24 = .ok (.iload_n 1, 1) := by decide +kernel
theorem dX3_link_25 : decode cX3_link 25 = .ok (.iload_n 2, 1) := by decide +kernel
theorem dX3_link_26 : decode cX3_link 26 = .ok (.if_icmp .ne 6, 3) := by decide +kernel
theorem dX3_link_29 : decode cX3_link 29 = .ok (.bipush (-2), 2) := by decide +kernel
theorem dX3_link_31 : decode cX3_link 31 = .ok (.ireturn, 1) := by decide +kernel
theorem dX3_link_32 : decode cX3_link 32 = .ok (.aload_n 0, 1) := by decide +kernel
theorem dX3_link_33 : decode cX3_link 33 = .ok (.getfield 10, 3) := by decide +kernel
theorem dX3_link_36 : decode cX3_link 36 = .ok (.iload_n 1, 1) := by decide +kernel
theorem dX3_link_37 : decode cX3_link 37 = .ok (.iload_n 2, 1) := by decide +kernel
theorem dX3_link_38 : decode cX3_link 38 = .ok (.invokevirtual 76, 3) := by decide +kernel
theorem dX3_link_41 : decode cX3_link 41 = .ok (.iload_n 3, 1) := by decide +kernel
theorem dX3_link_42 : decode cX3_link 42 = .ok (.if_icmp .ne 6, 3) := by decide +kernel
theorem dX3_link_45 : decode cX3_link 45 = .ok (.bipush (-5), 2) := by decide +kernel
theorem dX3_link_47 : decode cX3_link 47 = .ok (.ireturn, 1) := by decide +kernel
theorem dX3_link_48 : decode cX3_link 48 = .ok (.aload_n 0, 1) := by decide +kernel
theorem dX3_link_49 : decode cX3_link 49 = .ok (.getfield 29, 3) := by decide +kernel
theorem dX3_link_52 : decode cX3_link 52 = .ok (.aload_n 0, 1) := by decide +kernel
theorem dX3_link_53 : decode cX3_link 53 = .ok (.getfield 10, 3) := by decide +kernel
theorem dX3_link_56 : decode cX3_link 56 = .ok (.invokevirtual 51, 3) := by decide +kernel
theorem dX3_link_59 : decode cX3_link 59 = .ok (.aload_n 0, 1) := by decide +kernel
theorem dX3_link_60 : decode cX3_link 60 = .ok (.getfield 10, 3) := by decide +kernel
theorem dX3_link_63 : decode cX3_link 63 = .ok (.iload_n 1, 1) := by decide +kernel
theorem dX3_link_64 : decode cX3_link 64 = .ok (.iload_n 2, 1) := by decide +kernel
theorem dX3_link_65 : decode cX3_link 65 = .ok (.iload_n 3, 1) := by decide +kernel
theorem dX3_link_66 : decode cX3_link 66 = .ok (.invokevirtual 80, 3) := by decide +kernel
theorem dX3_link_69 : decode cX3_link 69 = .ok (.aload_n 0, 1) := by decide +kernel
theorem dX3_link_70 : decode cX3_link 70 = .ok (.getfield 10, 3) := by decide +kernel
theorem dX3_link_73 : decode cX3_link 73 = .ok (.invokevirtual 84, 3) := by decide +kernel
theorem dX3_link_76 : decode cX3_link 76 = .ok (.ireturn, 1) := by decide +kernel
theorem dX3_tune_0 : decode cX3_tune 0 = .ok (.aload_n 0, 1) := by decide +kernel
theorem dX3_tune_1 : decode cX3_tune 1 = .ok (.getfield 10, 3) := by decide +kernel
theorem dX3_tune_4 : decode cX3_tune 4 = .ok (.iload_n 1, 1) := by decide +kernel
theorem dX3_tune_5 : decode cX3_tune 5 = .ok (.invokevirtual 59, 3) := by decide +kernel
theorem dX3_tune_8 : decode cX3_tune 8 = .ok (.ifCond .ne 5, 3) := by decide +kernel
theorem dX3_tune_11 : decode cX3_tune 11 = .ok (.iconst (-1), 1) := by decide +kernel
theorem dX3_tune_12 : decode cX3_tune 12 = .ok (.ireturn, 1) := by decide +kernel
theorem dX3_tune_13 : decode cX3_tune 13 = .ok (.aload_n 0, 1) := by decide +kernel
theorem dX3_tune_14 : decode cX3_tune 14 = .ok (.getfield 10, 3) := by decide +kernel
theorem dX3_tune_17 : decode cX3_tune 17 = .ok (.iload_n 2, 1) := by decide +kernel
theorem dX3_tune_18 : decode cX3_tune 18 = .ok (.invokevirtual 40, 3) := by decide +kernel
theorem dX3_tune_21 : decode cX3_tune 21 = .ok (.ifCond .eq 10, 3) := by decide +kernel
theorem dX3_tune_24 : decode cX3_tune 24 = .ok (.iload_n 3, 1) := by decide +kernel
theorem dX3_tune_25 : decode cX3_tune 25 = .ok (.invokestatic 44, 3) := by decide +kernel
theorem dX3_tune_28 : decode cX3_tune 28 = .ok (.ifCond .ne 6, 3) := by decide +kernel
theorem dX3_tune_31 : decode cX3_tune 31 = .ok (.bipush (-2), 2) := by decide +kernel
theorem dX3_tune_33 : decode cX3_tune 33 = .ok (.ireturn, 1) := by decide +kernel
theorem dX3_tune_34 : decode cX3_tune 34 = .ok (.aload_n 0, 1) := by decide +kernel
theorem dX3_tune_35 : decode cX3_tune 35 = .ok (.getfield 29, 3) := by decide +kernel
theorem dX3_tune_38 : decode cX3_tune 38 = .ok (.aload_n 0, 1) := by decide +kernel
theorem dX3_tune_39 : decode cX3_tune 39 = .ok (.getfield 10, 3) := by decide +kernel
theorem dX3_tune_42 : decode cX3_tune 42 = .ok (.invokevirtual 51, 3) := by decide +kernel
theorem dX3_tune_45 : decode cX3_tune 45 = .ok (.aload_n 0, 1) := by decide +kernel
theorem dX3_tune_46 : decode cX3_tune 46 = .ok (.getfield 10, 3) := by decide +kernel
theorem dX3_tune_49 : decode cX3_tune 49 = .ok (.iload_n 1, 1) := by decide +kernel
theorem dX3_tune_50 : decode cX3_tune 50 = .ok (.iload_n 2, 1) := by decide +kernel
theorem dX3_tune_51 : decode cX3_tune 51 = .ok (.iload_n 3, 1) := by decide +kernel
theorem dX3_tune_52 : decode cX3_tune 52 = .ok (.invokevirtual 87, 3) := by decide +kernel
theorem dX3_tune_55 : decode cX3_tune 55 = .ok (.ireturn, 1) := by decide +kernel
theorem dX3_set_0 : decode cX3_set 0 = .ok (.iload_n 1, 1) := by decide +kernel
theorem dX3_set_1 : decode cX3_set 1 = .ok (.ifCond .lt 8, 3) := by decide +kernel
theorem dX3_set_4 : decode cX3_set 4 = .ok (.iload_n 1, 1) := by decide +kernel
theorem dX3_set_5 : decode cX3_set 5 = .ok (.iconst 3, 1) := by decide +kernel
theorem dX3_set_6 : decode cX3_set 6 = .ok (.if_icmp .lt 5, 3) := by decide +kernel
theorem dX3_set_9 : decode cX3_set 9 = .ok (.iconst (-1), 1) := by decide +kernel
theorem dX3_set_10 : decode cX3_set 10 = .ok (.ireturn, 1) := by decide +kernel
theorem dX3_set_11 : decode cX3_set 11 = .ok (.iload_n 2, 1) := by decide +kernel
theorem dX3_set_12 : decode cX3_set 12 = .ok (.getstatic 91, 3) := by decide +kernel
theorem dX3_set_15 : decode cX3_set 15 = .ok (.iload_n 1, 1) := by decide +kernel
theorem dX3_set_16 : decode cX3_set 16 = .ok (.iaload, 1) := by decide +kernel
theorem dX3_set_17 : decode cX3_set 17 = .ok (.if_icmp .lt 12, 3) := by decide +kernel
theorem dX3_set_20 : decode cX3_set 20 = .ok (.iload_n 2, 1) := by decide +kernel
theorem dX3_set_21 : decode cX3_set 21 = .ok (.getstatic 95, 3) := by decide +kernel
theorem dX3_set_24 : decode cX3_set 24 = .ok (.iload_n 1, 1) := by decide +kernel
theorem dX3_set_25 : decode cX3_set 25 = .ok (.iaload, 1) := by decide +kernel
theorem dX3_set_26 : decode cX3_set 26 = .ok (.if_icmp .le 6, 3) := by decide +kernel
theorem dX3_set_29 : decode cX3_set 29 = .ok (.bipush (-2), 2) := by decide +kernel
theorem dX3_set_31 : decode cX3_set 31 = .ok (.ireturn, 1) := by decide +kernel
theorem dX3_set_32 : decode cX3_set 32 = .ok (.aload_n 0, 1) := by decide +kernel
theorem dX3_set_33 : decode cX3_set 33 = .ok (.getfield 10, 3) := by decide +kernel
theorem dX3_set_36 : decode cX3_set 36 = .ok (.iload_n 1, 1) := by decide +kernel
theorem dX3_set_37 : decode cX3_set 37 = .ok (.invokevirtual 98, 3) := by decide +kernel
theorem dX3_set_40 : decode cX3_set 40 = .ok (.iload_n 2, 1) := by decide +kernel
theorem dX3_set_41 : decode cX3_set 41 = .ok (.if_icmp .ne 6, 3) := by decide +kernel
theorem dX3_set_44 : decode cX3_set 44 = .ok (.bipush (-5), 2) := by decide +kernel
theorem dX3_set_46 : decode cX3_set 46 = .ok (.ireturn, 1) := by decide +kernel
theorem dX3_set_47 : decode cX3_set 47 = .ok (.aload_n 0, 1) := by decide +kernel
theorem dX3_set_48 : decode cX3_set 48 = .ok (.getfield 29, 3) := by decide +kernel
theorem dX3_set_51 : decode cX3_set 51 = .ok (.aload_n 0, 1) := by decide +kernel
theorem dX3_set_52 : decode cX3_set 52 = .ok (.getfield 10, 3) := by decide +kernel
theorem dX3_set_55 : decode cX3_set 55 = .ok (.invokevirtual 51, 3) := by decide +kernel
theorem dX3_set_58 : decode cX3_set 58 = .ok (.aload_n 0, 1) := by decide +kernel
theorem dX3_set_59 : decode cX3_set 59 = .ok (.getfield 10, 3) := by decide +kernel
theorem dX3_set_62 : decode cX3_set 62 = .ok (.iload_n 1, 1) := by decide +kernel
theorem dX3_set_63 : decode cX3_set 63 = .ok (.iload_n 2, 1) := by decide +kernel
theorem dX3_set_64 : decode cX3_set 64 = .ok (.invokevirtual 101, 3) := by decide +kernel
theorem dX3_set_67 : decode cX3_set 67 = .ok (.ireturn, 1) := by decide +kernel
theorem dX3_pass_0 : decode cX3_pass 0 = .ok (.iload_n 1, 1) := by decide +kernel
theorem dX3_pass_1 : decode cX3_pass 1 = .ok (.iconst 1, 1) := by decide +kernel
theorem dX3_pass_2 : decode cX3_pass 2 = .ok (.if_icmp .lt 10, 3) := by decide +kernel
theorem dX3_pass_5 : decode cX3_pass 5 = .ok (.iload_n 1, 1) := by decide +kernel
theorem dX3_pass_6 : decode cX3_pass 6 = .ok (.sipush 999, 3) := by decide +kernel
theorem dX3_pass_9 : decode cX3_pass 9 = .ok (.if_icmp .le 6, 3) := by decide +kernel
theorem dX3_pass_12 : decode cX3_pass 12 = .ok (.bipush (-2), 2) := by decide +kernel
theorem dX3_pass_14 : decode cX3_pass 14 = .ok (.ireturn, 1) := by decide +kernel
theorem dX3_pass_15 : decode cX3_pass 15 = .ok (.aload_n 0, 1) := by decide +kernel
theorem dX3_pass_16 : decode cX3_pass 16 = .ok (.getfield 10, 3) := by decide +kernel
theorem dX3_pass_19 : decode cX3_pass 19 = .ok (.invokevirtual 105, 3) := by decide +kernel
theorem dX3_pass_22 : decode cX3_pass 22 = .ok (.iload_n 1, 1) := by decide +kernel
theorem dX3_pass_23 : decode cX3_pass 23 = .ok (.iadd, 1) := by decide +kernel
theorem dX3_pass_24 : decode cX3_pass 24 = .ok (.ldc 108, 2) := by decide +kernel
theorem dX3_pass_26 : decode cX3_pass 26 = .ok (.if_icmp .le 6, 3) := by decide +kernel
theorem dX3_pass_29 : decode cX3_pass 29 = .ok (.bipush (-3), 2) := by decide +kernel
theorem dX3_pass_31 : decode cX3_pass 31 = .ok (.ireturn, 1) := by decide +kernel
theorem dX3_pass_32 : decode cX3_pass 32 = .ok (.aload_n 0, 1) := by decide +kernel
theorem dX3_pass_33 : decode cX3_pass 33 = .ok (.getfield 29, 3) := by decide +kernel
theorem dX3_pass_36 : decode cX3_pass 36 = .ok (.aload_n 0, 1) := by decide +kernel
theorem dX3_pass_37 : decode cX3_pass 37 = .ok (.getfield 10, 3) := by decide +kernel
theorem dX3_pass_40 : decode cX3_pass 40 = .ok (.invokevirtual 51, 3) := by decide +kernel
theorem dX3_pass_43 : decode cX3_pass 43 = .ok (.aload_n 0, 1) := by decide +kernel
theorem dX3_pass_44 : decode cX3_pass 44 = .ok (.getfield 10, 3) := by decide +kernel
theorem dX3_pass_47 : decode cX3_pass 47 = .ok (.invokevirtual 109, 3) := by decide +kernel
theorem dX3_pass_50 : decode cX3_pass 50 = .ok (.istore_n 2, 1) := by decide +kernel
theorem dX3_pass_51 : decode cX3_pass 51 = .ok (.aload_n 0, 1) := by decide +kernel
theorem dX3_pass_52 : decode cX3_pass 52 = .ok (.getfield 10, 3) := by decide +kernel
theorem dX3_pass_55 : decode cX3_pass 55 = .ok (.iload_n 1, 1) := by decide +kernel
theorem dX3_pass_56 : decode cX3_pass 56 = .ok (.invokevirtual 112, 3) := by decide +kernel
theorem dX3_pass_59 : decode cX3_pass 59 = .ok (.aload_n 0, 1) := by decide +kernel
theorem dX3_pass_60 : decode cX3_pass 60 = .ok (.getfield 10, 3) := by decide +kernel
theorem dX3_pass_63 : decode cX3_pass 63 = .ok (.invokevirtual 109, 3) := by decide +kernel
theorem dX3_pass_66 : decode cX3_pass 66 = .ok (.iload_n 2, 1) := by decide +kernel
theorem dX3_pass_67 : decode cX3_pass 67 = .ok (.isub, 1) := by decide +kernel
theorem dX3_pass_68 : decode cX3_pass 68 = .ok (.ireturn, 1) := by decide +kernel
theorem dX3_undo_0 : decode cX3_undo 0 = .ok (.aload_n 0, 1) := by decide +kernel
theorem dX3_undo_1 : decode cX3_undo 1 = .ok (.getfield 29, 3) := by decide +kernel
theorem dX3_undo_4 : decode cX3_undo 4 = .ok (.invokevirtual 142, 3) := by decide +kernel
theorem dX3_undo_7 : decode cX3_undo 7 = .ok (.ifCond .ne 6, 3) := by decide +kernel
theorem dX3_undo_10 : decode cX3_undo 10 = .ok (.bipush (-5), 2) := by decide +kernel
theorem dX3_undo_12 : decode cX3_undo 12 = .ok (.ireturn, 1) := by decide +kernel
theorem dX3_undo_13 : decode cX3_undo 13 = .ok (.aload_n 0, 1) := by decide +kernel
theorem dX3_undo_14 : decode cX3_undo 14 = .ok (.getfield 29, 3) := by decide +kernel
theorem dX3_undo_17 : decode cX3_undo 17 = .ok (.aload_n 0, 1) := by decide +kernel
theorem dX3_undo_18 : decode cX3_undo 18 = .ok (.getfield 10, 3) := by decide +kernel
theorem dX3_undo_21 : decode cX3_undo 21 = .ok (.invokevirtual 145, 3) := by decide +kernel
theorem dX3_undo_24 : decode cX3_undo 24 = .ok (.aload_n 0, 1) := by decide +kernel
theorem dX3_undo_25 : decode cX3_undo 25 = .ok (.getfield 29, 3) := by decide +kernel
theorem dX3_undo_28 : decode cX3_undo 28 = .ok (.invokevirtual 142, 3) := by decide +kernel
theorem dX3_undo_31 : decode cX3_undo 31 = .ok (.ireturn, 1) := by decide +kernel
theorem dX3_lamp_0 : decode cX3_lamp 0 = .ok (.aload_n 0, 1) := by decide +kernel
theorem dX3_lamp_1 : decode cX3_lamp 1 = .ok (.getfield 10, 3) := by decide +kernel
theorem dX3_lamp_4 : decode cX3_lamp 4 = .ok (.iload_n 1, 1) := by decide +kernel
theorem dX3_lamp_5 : decode cX3_lamp 5 = .ok (.invokevirtual 59, 3) := by decide +kernel
theorem dX3_lamp_8 : decode cX3_lamp 8 = .ok (.ifCond .ne 5, 3) := by decide +kernel
theorem dX3_lamp_11 : decode cX3_lamp 11 = .ok (.iconst (-1), 1) := by decide +kernel
theorem dX3_lamp_12 : decode cX3_lamp 12 = .ok (.ireturn, 1) := by decide +kernel
theorem dX3_lamp_13 : decode cX3_lamp 13 = .ok (.aload_n 0, 1) := by decide +kernel
theorem dX3_lamp_14 : decode cX3_lamp 14 = .ok (.getfield 10, 3) := by decide +kernel
theorem dX3_lamp_17 : decode cX3_lamp 17 = .ok (.iload_n 1, 1) := by decide +kernel
theorem dX3_lamp_18 : decode cX3_lamp 18 = .ok (.iload_n 2, 1) := by decide +kernel
theorem dX3_lamp_19 : decode cX3_lamp 19 = .ok (.invokevirtual 151, 3) := by decide +kernel
theorem dX3_lamp_22 : decode cX3_lamp 22 = .ok (.ireturn, 1) := by decide +kernel
theorem dX3_apart_0 : decode cX3_apart 0 = .ok (.aload_n 0, 1) := by decide +kernel
theorem dX3_apart_1 : decode cX3_apart 1 = .ok (.getfield 10, 3) := by decide +kernel
theorem dX3_apart_4 : decode cX3_apart 4 = .ok (.iload_n 1, 1) := by decide +kernel
theorem dX3_apart_5 : decode cX3_apart 5 = .ok (.invokevirtual 59, 3) := by decide +kernel
theorem dX3_apart_8 : decode cX3_apart 8 = .ok (.ifCond .eq 14, 3) := by decide +kernel
theorem dX3_apart_11 : decode cX3_apart 11 = .ok (.aload_n 0, 1) := by decide +kernel
theorem dX3_apart_12 : decode cX3_apart 12 = .ok (.getfield 10, 3) := by decide +kernel
theorem dX3_apart_15 : decode cX3_apart 15 = .ok (.iload_n 2, 1) := by decide +kernel
theorem dX3_apart_16 : decode cX3_apart 16 = .ok (.invokevirtual 59, 3) := by decide +kernel
theorem dX3_apart_19 : decode cX3_apart 19 = .ok (.ifCond .ne 5, 3) := by decide +kernel
theorem dX3_apart_22 : decode cX3_apart 22 = .ok (.iconst (-1), 1) := by decide +kernel
theorem dX3_apart_23 : decode cX3_apart 23 = .ok (.ireturn, 1) := by decide +kernel
theorem dX3_apart_24 : decode cX3_apart 24 = .ok (.aload_n 0, 1) := by decide +kernel
theorem dX3_apart_25 : decode cX3_apart 25 = .ok (.getfield 10, 3) := by decide +kernel
theorem dX3_apart_28 : decode cX3_apart 28 = .ok (.iload_n 1, 1) := by decide +kernel
theorem dX3_apart_29 : decode cX3_apart 29 = .ok (.iload_n 2, 1) := by decide +kernel
theorem dX3_apart_30 : decode cX3_apart 30 = .ok (.invokevirtual 154, 3) := by decide +kernel
theorem dX3_apart_33 : decode cX3_apart 33 = .ok (.ireturn, 1) := by decide +kernel
theorem dX3_next_0 : decode cX3_next 0 = .ok (.iload_n 1, 1) := by decide +kernel
theorem dX3_next_1 : decode cX3_next 1 = .ok (.ifCond .lt 8, 3) := by decide +kernel
theorem dX3_next_4 : decode cX3_next 4 = .ok (.iload_n 1, 1) := by decide +kernel
theorem dX3_next_5 : decode cX3_next 5 = .ok (.iconst 1, 1) := by decide +kernel
theorem dX3_next_6 : decode cX3_next 6 = .ok (.if_icmp .le 6, 3) := by decide +kernel
theorem dX3_next_9 : decode cX3_next 9 = .ok (.bipush (-2), 2) := by decide +kernel
theorem dX3_next_11 : decode cX3_next 11 = .ok (.ireturn, 1) := by decide +kernel
theorem dX3_next_12 : decode cX3_next 12 = .ok (.aload_n 0, 1) := by decide +kernel
theorem dX3_next_13 : decode cX3_next 13 = .ok (.getfield 10, 3) := by decide +kernel
theorem dX3_next_16 : decode cX3_next 16 = .ok (.invokevirtual 73, 3) := by decide +kernel
theorem dX3_next_19 : decode cX3_next 19 = .ok (.ifCond .ne 6, 3) := by decide +kernel
theorem dX3_next_22 : decode cX3_next 22 = .ok (.bipush (-5), 2) := by decide +kernel
theorem dX3_next_24 : decode cX3_next 24 = .ok (.ireturn, 1) := by decide +kernel
theorem dX3_next_25 : decode cX3_next 25 = .ok (.aload_n 0, 1) := by decide +kernel
theorem dX3_next_26 : decode cX3_next 26 = .ok (.getfield 16, 3) := by decide +kernel
theorem dX3_next_29 : decode cX3_next 29 = .ok (.aload_n 0, 1) := by decide +kernel
theorem dX3_next_30 : decode cX3_next 30 = .ok (.getfield 10, 3) := by decide +kernel
theorem dX3_next_33 : decode cX3_next 33 = .ok (.invokevirtual 148, 3) := by decide +kernel
theorem dX3_next_36 : decode cX3_next 36 = .ok (.iconst 1, 1) := by decide +kernel
theorem dX3_next_37 : decode cX3_next 37 = .ok (.istore_n 2, 1) := by decide +kernel
theorem dX3_next_38 : decode cX3_next 38 = .ok (.iload_n 2, 1) := by decide +kernel
theorem dX3_next_39 : decode cX3_next 39 = .ok (.sipush 400, 3) := by decide +kernel
theorem dX3_next_42 : decode cX3_next 42 = .ok (.if_icmp .gt 31, 3) := by decide +kernel
theorem dX3_next_45 : decode cX3_next 45 = .ok (.aload_n 0, 1) := by decide +kernel
theorem dX3_next_46 : decode cX3_next 46 = .ok (.getfield 16, 3) := by decide +kernel
theorem dX3_next_49 : decode cX3_next 49 = .ok (.invokevirtual 157, 3) := by decide +kernel
theorem dX3_next_52 : decode cX3_next 52 = .ok (.istore_n 3, 1) := by decide +kernel
theorem dX3_next_53 : decode cX3_next 53 = .ok (.iload_n 3, 1) := by decide +kernel
theorem dX3_next_54 : decode cX3_next 54 = .ok (.ifCond .eq 13, 3) := by decide +kernel
theorem dX3_next_57 : decode cX3_next 57 = .ok (.iload_n 1, 1) := by decide +kernel
theorem dX3_next_58 : decode cX3_next 58 = .ok (.ifCond .ne 7, 3) := by decide +kernel
theorem dX3_next_61 : decode cX3_next 61 = .ok (.iload_n 2, 1) := by decide +kernel
theorem dX3_next_62 : decode cX3_next 62 = .ok (.goto 4, 3) := by decide +kernel
theorem dX3_next_65 : decode cX3_next 65 = .ok (.iload_n 3, 1) := by decide +kernel
theorem dX3_next_66 : decode cX3_next 66 = .ok (.ireturn, 1) := by decide +kernel
theorem dX3_next_67 : decode cX3_next 67 = .ok (.iinc 2 1, 3) := by decide +kernel
theorem dX3_next_70 : decode cX3_next 70 = .ok (.goto (-32), 3) := by decide +kernel
theorem dX3_next_73 : decode cX3_next 73 = .ok (.bipush (-5), 2) := by decide +kernel
theorem dX3_next_75 : decode cX3_next 75 = .ok (.ireturn, 1) := by decide +kernel
theorem dX3_togetherIn_0 : decode cX3_togetherIn 0 = .ok (.aload_n 0, 1) := by decide +kernel
theorem dX3_togetherIn_1 : decode cX3_togetherIn 1 = .ok (.getfield 16, 3) := by decide +kernel
theorem dX3_togetherIn_4 : decode cX3_togetherIn 4 = .ok (.aload_n 0, 1) := by decide +kernel
theorem dX3_togetherIn_5 : decode cX3_togetherIn 5 = .ok (.getfield 10, 3) := by decide +kernel
theorem dX3_togetherIn_8 : decode cX3_togetherIn 8 = .ok (.invokevirtual 148, 3) := by decide +kernel
theorem dX3_togetherIn_11 : decode cX3_togetherIn 11 = .ok (.aload_n 0, 1) := by decide +kernel
theorem dX3_togetherIn_12 : decode cX3_togetherIn 12 = .ok (.invokevirtual 160, 3) := by decide +kernel
theorem dX3_togetherIn_15 : decode cX3_togetherIn 15 = .ok (.ireturn, 1) := by decide +kernel
theorem dX3_reason_0 : decode cX3_reason 0 = .ok (.aload_n 0, 1) := by decide +kernel
theorem dX3_reason_1 : decode cX3_reason 1 = .ok (.getfield 10, 3) := by decide +kernel
theorem dX3_reason_4 : decode cX3_reason 4 = .ok (.invokevirtual 163, 3) := by decide +kernel
theorem dX3_reason_7 : decode cX3_reason 7 = .ok (.ifCond .eq 5, 3) := by decide +kernel
theorem dX3_reason_10 : decode cX3_reason 10 = .ok (.iconst 0, 1) := by decide +kernel
theorem dX3_reason_11 : decode cX3_reason 11 = .ok (.ireturn, 1) := by decide +kernel
theorem dX3_reason_12 : decode cX3_reason 12 = .ok (.aload_n 0, 1) := by decide +kernel
theorem dX3_reason_13 : decode cX3_reason 13 = .ok (.getfield 10, 3) := by decide +kernel
theorem dX3_reason_16 : decode cX3_reason 16 = .ok (.invokevirtual 73, 3) := by decide +kernel
theorem dX3_reason_19 : decode cX3_reason 19 = .ok (.ifCond .ne 5, 3) := by decide +kernel
theorem dX3_reason_22 : decode cX3_reason 22 = .ok (.iconst 1, 1) := by decide +kernel
theorem dX3_reason_23 : decode cX3_reason 23 = .ok (.ireturn, 1) := by decide +kernel
theorem dX3_reason_24 : decode cX3_reason 24 = .ok (.aload_n 0, 1) := by decide +kernel
theorem dX3_reason_25 : decode cX3_reason 25 = .ok (.getfield 10, 3) := by decide +kernel
theorem dX3_reason_28 : decode cX3_reason 28 = .ok (.invokevirtual 166, 3) := by decide +kernel
theorem dX3_reason_31 : decode cX3_reason 31 = .ok (.iconst 1, 1) := by decide +kernel
theorem dX3_reason_32 : decode cX3_reason 32 = .ok (.if_icmp .le 5, 3) := by decide +kernel
theorem dX3_reason_35 : decode cX3_reason 35 = .ok (.iconst 2, 1) := by decide +kernel
theorem dX3_reason_36 : decode cX3_reason 36 = .ok (.ireturn, 1) := by decide +kernel
theorem dX3_reason_37 : decode cX3_reason 37 = .ok (.aload_n 0, 1) := by decide +kernel
theorem dX3_reason_38 : decode cX3_reason 38 = .ok (.getfield 10, 3) := by decide +kernel
theorem dX3_reason_41 : decode cX3_reason 41 = .ok (.invokevirtual 169, 3) := by decide +kernel
theorem dX3_reason_44 : decode cX3_reason 44 = .ok (.ifCond .eq 5, 3) := by decide +kernel
theorem dX3_reason_47 : decode cX3_reason 47 = .ok (.iconst 3, 1) := by decide +kernel
theorem dX3_reason_48 : decode cX3_reason 48 = .ok (.ireturn, 1) := by decide +kernel
theorem dX3_reason_49 : decode cX3_reason 49 = .ok (.aload_n 0, 1) := by decide +kernel
theorem dX3_reason_50 : decode cX3_reason 50 = .ok (.getfield 10, 3) := by decide +kernel
theorem dX3_reason_53 : decode cX3_reason 53 = .ok (.iconst 1, 1) := by decide +kernel
theorem dX3_reason_54 : decode cX3_reason 54 = .ok (.invokevirtual 98, 3) := by decide +kernel
theorem dX3_reason_57 : decode cX3_reason 57 = .ok (.ifCond .ne 7, 3) := by decide +kernel
theorem dX3_reason_60 : decode cX3_reason 60 = .ok (.iconst 4, 1) := by decide +kernel
theorem dX3_reason_61 : decode cX3_reason 61 = .ok (.goto 4, 3) := by decide +kernel
theorem dX3_reason_64 : decode cX3_reason 64 = .ok (.iconst 0, 1) := by decide +kernel
theorem dX3_reason_65 : decode cX3_reason 65 = .ok (.ireturn, 1) := by decide +kernel
theorem dX3_spread_0 : decode cX3_spread 0 = .ok (.aload_n 0, 1) := by decide +kernel
theorem dX3_spread_1 : decode cX3_spread 1 = .ok (.getfield 10, 3) := by decide +kernel
theorem dX3_spread_4 : decode cX3_spread 4 = .ok (.invokevirtual 73, 3) := by decide +kernel
theorem dX3_spread_7 : decode cX3_spread 7 = .ok (.ifCond .ne 6, 3) := by decide +kernel
theorem dX3_spread_10 : decode cX3_spread 10 = .ok (.bipush (-5), 2) := by decide +kernel
theorem dX3_spread_12 : decode cX3_spread 12 = .ok (.ireturn, 1) := by decide +kernel
theorem dX3_spread_13 : decode cX3_spread 13 = .ok (.aload_n 0, 1) := by decide +kernel
theorem dX3_spread_14 : decode cX3_spread 14 = .ok (.getfield 10, 3) := by decide +kernel
theorem dX3_spread_17 : decode cX3_spread 17 = .ok (.invokevirtual 172, 3) := by decide +kernel
theorem dX3_spread_20 : decode cX3_spread 20 = .ok (.ireturn, 1) := by decide +kernel
theorem dX3_ifLinked_0 : decode cX3_ifLinked 0 = .ok (.aload_n 0, 1) := by decide +kernel
theorem dX3_ifLinked_1 : decode cX3_ifLinked 1 = .ok (.getfield 10, 3) := by decide +kernel
theorem dX3_ifLinked_4 : decode cX3_ifLinked 4 = .ok (.iload_n 1, 1) := by decide +kernel
theorem dX3_ifLinked_5 : decode cX3_ifLinked 5 = .ok (.invokevirtual 59, 3) := by decide +kernel
theorem dX3_ifLinked_8 : decode cX3_ifLinked 8 = .ok (.ifCond .eq 14, 3) := by decide +kernel
theorem dX3_ifLinked_11 : decode cX3_ifLinked 11 = .ok (.aload_n 0, 1) := by decide +kernel
theorem dX3_ifLinked_12 : decode cX3_ifLinked 12 = .ok (.getfield 10, 3) := by decide +kernel
theorem dX3_ifLinked_15 : decode cX3_ifLinked 15 = .ok (.iload_n 2, 1) := by decide +kernel
theorem dX3_ifLinked_16 : decode cX3_ifLinked 16 = .ok (.invokevirtual 59, 3) := by decide +kernel
theorem dX3_ifLinked_19 : decode cX3_ifLinked 19 = .ok (.ifCond .ne 5, 3) := by decide +kernel
theorem dX3_ifLinked_22 : decode cX3_ifLinked 22 = .ok (.iconst (-1), 1) := by decide +kernel
theorem dX3_ifLinked_23 : decode cX3_ifLinked 23 = .ok (.ireturn, 1) := by decide +kernel
theorem dX3_ifLinked_24 : decode cX3_ifLinked 24 = .ok (.iload_n 1, 1) := by decide +kernel
theorem dX3_ifLinked_25 : decode cX3_ifLinked 25 = .ok (.iload_n 2, 1) := by decide +kernel
theorem dX3_ifLinked_26 : decode cX3_ifLinked 26 = .ok (.if_icmp .ne 6, 3) := by decide +kernel
theorem dX3_ifLinked_29 : decode cX3_ifLinked 29 = .ok (.bipush (-2), 2) := by decide +kernel
theorem dX3_ifLinked_31 : decode cX3_ifLinked 31 = .ok (.ireturn, 1) := by decide +kernel
theorem dX3_ifLinked_32 : decode cX3_ifLinked 32 = .ok (.aload_n 0, 1) := by decide +kernel
theorem dX3_ifLinked_33 : decode cX3_ifLinked 33 = .ok (.getfield 16, 3) := by decide +kernel
theorem dX3_ifLinked_36 : decode cX3_ifLinked 36 = .ok (.aload_n 0, 1) := by decide +kernel
theorem dX3_ifLinked_37 : decode cX3_ifLinked 37 = .ok (.getfield 10, 3) := by decide +kernel
theorem dX3_ifLinked_40 : decode cX3_ifLinked 40 = .ok (.invokevirtual 148, 3) := by decide +kernel
theorem dX3_ifLinked_43 : decode cX3_ifLinked 43 = .ok (.aload_n 0, 1) := by decide +kernel
theorem dX3_ifLinked_44 : decode cX3_ifLinked 44 = .ok (.getfield 16, 3) := by decide +kernel
theorem dX3_ifLinked_47 : decode cX3_ifLinked 47 = .ok (.iload_n 1, 1) := by decide +kernel
theorem dX3_ifLinked_48 : decode cX3_ifLinked 48 = .ok (.iload_n 2, 1) := by decide +kernel
theorem dX3_ifLinked_49 : decode cX3_ifLinked 49 = .ok (.aload_n 0, 1) := by decide +kernel
theorem dX3_ifLinked_50 : decode cX3_ifLinked 50 = .ok (.getfield 10, 3) := by decide +kernel
theorem dX3_ifLinked_53 : decode cX3_ifLinked 53 = .ok (.iload_n 1, 1) := by decide +kernel
theorem dX3_ifLinked_54 : decode cX3_ifLinked 54 = .ok (.iload_n 2, 1) := by decide +kernel
theorem dX3_ifLinked_55 : decode cX3_ifLinked 55 = .ok (.invokevirtual 76, 3) := by decide +kernel
theorem dX3_ifLinked_58 : decode cX3_ifLinked 58 = .ok (.ifCond .ne 7, 3) := by decide +kernel
theorem dX3_ifLinked_61 : decode cX3_ifLinked 61 = .ok (.iconst 1, 1) := by decide +kernel
theorem dX3_ifLinked_62 : decode cX3_ifLinked 62 = .ok (.goto 4, 3) := by decide +kernel
theorem dX3_ifLinked_65 : decode cX3_ifLinked 65 = .ok (.iconst 0, 1) := by decide +kernel
theorem dX3_ifLinked_66 : decode cX3_ifLinked 66 = .ok (.invokevirtual 80, 3) := by decide +kernel
theorem dX3_ifLinked_69 : decode cX3_ifLinked 69 = .ok (.aload_n 0, 1) := by decide +kernel
theorem dX3_ifLinked_70 : decode cX3_ifLinked 70 = .ok (.invokevirtual 160, 3) := by decide +kernel
theorem dX3_ifLinked_73 : decode cX3_ifLinked 73 = .ok (.ireturn, 1) := by decide +kernel
theorem dX3_hub_0 : decode cX3_hub 0 = .ok (.aload_n 0, 1) := by decide +kernel
theorem dX3_hub_1 : decode cX3_hub 1 = .ok (.getfield 10, 3) := by decide +kernel
theorem dX3_hub_4 : decode cX3_hub 4 = .ok (.invokevirtual 175, 3) := by decide +kernel
theorem dX3_hub_7 : decode cX3_hub 7 = .ok (.istore_n 1, 1) := by decide +kernel
theorem dX3_hub_8 : decode cX3_hub 8 = .ok (.iload_n 1, 1) := by decide +kernel
theorem dX3_hub_9 : decode cX3_hub 9 = .ok (.iconst (-1), 1) := by decide +kernel
theorem dX3_hub_10 : decode cX3_hub 10 = .ok (.if_icmp .ne 8, 3) := by decide +kernel
theorem dX3_hub_13 : decode cX3_hub 13 = .ok (.bipush (-5), 2) := by decide +kernel
theorem dX3_hub_15 : decode cX3_hub 15 = .ok (.goto 4, 3) := by decide +kernel
theorem dX3_hub_18 : decode cX3_hub 18 = .ok (.iload_n 1, 1) := by decide +kernel
theorem dX3_hub_19 : decode cX3_hub 19 = .ok (.ireturn, 1) := by decide +kernel
theorem dX3_bestLink_0 : decode cX3_bestLink 0 = .ok (.iload_n 1, 1) := by decide +kernel
theorem dX3_bestLink_1 : decode cX3_bestLink 1 = .ok (.ifCond .lt 8, 3) := by decide +kernel
theorem dX3_bestLink_4 : decode cX3_bestLink 4 = .ok (.iload_n 1, 1) := by decide +kernel
theorem dX3_bestLink_5 : decode cX3_bestLink 5 = .ok (.iconst 2, 1) := by decide +kernel
theorem dX3_bestLink_6 : decode cX3_bestLink 6 = .ok (.if_icmp .le 6, 3) := by decide +kernel
theorem dX3_bestLink_9 : decode cX3_bestLink 9 = .ok (.bipush (-2), 2) := by decide +kernel
theorem dX3_bestLink_11 : decode cX3_bestLink 11 = .ok (.ireturn, 1) := by decide +kernel
theorem dX3_bestLink_12 : decode cX3_bestLink 12 = .ok (.bipush (-5), 2) := by decide +kernel
theorem dX3_bestLink_14 : decode cX3_bestLink 14 = .ok (.istore_n 2, 1) := by decide +kernel
theorem dX3_bestLink_15 : decode cX3_bestLink 15 = .ok (.bipush (-5), 2) := by decide +kernel
theorem dX3_bestLink_17 : decode cX3_bestLink 17 = .ok (.istore_n 3, 1) := by decide +kernel
theorem dX3_bestLink_18 : decode cX3_bestLink 18 = .ok (.bipush (-5), 2) := by decide +kernel
theorem dX3_bestLink_20 : decode cX3_bestLink 20 = .ok (.istore 4, 2) := by decide +kernel
theorem dX3_bestLink_22 : decode cX3_bestLink 22 = .ok (.iconst 0, 1) := by decide +kernel
theorem dX3_bestLink_23 : decode cX3_bestLink 23 = .ok (.istore 5, 2) := by decide +kernel
theorem dX3_bestLink_25 : decode cX3_bestLink 25 = .ok (.iload 5, 2) := by decide +kernel
theorem dX3_bestLink_27 : decode cX3_bestLink 27 = .ok (.bipush 16, 2) := by decide +kernel
theorem dX3_bestLink_29 : decode cX3_bestLink 29 = .ok (.if_icmp .ge 76, 3) := by decide +kernel
theorem dX3_bestLink_32 : decode cX3_bestLink 32 = .ok (.iload 5, 2) := by decide +kernel
theorem dX3_bestLink_34 : decode cX3_bestLink 34 = .ok (.iconst 1, 1) := by decide +kernel
theorem dX3_bestLink_35 : decode cX3_bestLink 35 = .ok (.iadd, 1) := by decide +kernel
theorem dX3_bestLink_36 : decode cX3_bestLink 36 = .ok (.istore 6, 2) := by decide +kernel
theorem dX3_bestLink_38 : decode cX3_bestLink 38 = .ok (.iload 6, 2) := by decide +kernel
theorem dX3_bestLink_40 : decode cX3_bestLink 40 = .ok (.bipush 16, 2) := by decide +kernel
theorem dX3_bestLink_42 : decode cX3_bestLink 42 = .ok (.if_icmp .ge 57, 3) := by decide +kernel
theorem dX3_bestLink_45 : decode cX3_bestLink 45 = .ok (.aload_n 0, 1) := by decide +kernel
theorem dX3_bestLink_46 : decode cX3_bestLink 46 = .ok (.getfield 10, 3) := by decide +kernel
theorem dX3_bestLink_49 : decode cX3_bestLink 49 = .ok (.iload 5, 2) := by decide +kernel
theorem dX3_bestLink_51 : decode cX3_bestLink 51 = .ok (.iload 6, 2) := by decide +kernel
theorem dX3_bestLink_53 : decode cX3_bestLink 53 = .ok (.invokevirtual 178, 3) := by decide +kernel
theorem dX3_bestLink_56 : decode cX3_bestLink 56 = .ok (.ifCond .eq 37, 3) := by decide +kernel
theorem dX3_bestLink_59 : decode cX3_bestLink 59 = .ok (.aload_n 0, 1) := by decide +kernel
theorem dX3_bestLink_60 : decode cX3_bestLink 60 = .ok (.iload 5, 2) := by decide +kernel
theorem dX3_bestLink_62 : decode cX3_bestLink 62 = .ok (.iload 6, 2) := by decide +kernel
theorem dX3_bestLink_64 : decode cX3_bestLink 64 = .ok (.invokevirtual 181, 3) := by decide +kernel
theorem dX3_bestLink_67 : decode cX3_bestLink 67 = .ok (.istore 7, 2) := by decide +kernel
theorem dX3_bestLink_69 : decode cX3_bestLink 69 = .ok (.iload 4, 2) := by decide +kernel
theorem dX3_bestLink_71 : decode cX3_bestLink 71 = .ok (.bipush (-5), 2) := by decide +kernel
theorem dX3_bestLink_73 : decode cX3_bestLink 73 = .ok (.if_icmp .eq 10, 3) := by decide +kernel
theorem dX3_bestLink_76 : decode cX3_bestLink 76 = .ok (.iload 7, 2) := by decide +kernel
theorem dX3_bestLink_78 : decode cX3_bestLink 78 = .ok (.iload 4, 2) := by decide +kernel
theorem dX3_bestLink_80 : decode cX3_bestLink 80 = .ok (.if_icmp .ge 13, 3) := by decide +kernel
theorem dX3_bestLink_83 : decode cX3_bestLink 83 = .ok (.iload 5, 2) := by decide +kernel
theorem dX3_bestLink_85 : decode cX3_bestLink 85 = .ok (.istore_n 2, 1) := by decide +kernel
theorem dX3_bestLink_86 : decode cX3_bestLink 86 = .ok (.iload 6, 2) := by decide +kernel
theorem dX3_bestLink_88 : decode cX3_bestLink 88 = .ok (.istore_n 3, 1) := by decide +kernel
theorem dX3_bestLink_89 : decode cX3_bestLink 89 = .ok (.iload 7, 2) := by decide +kernel
theorem dX3_bestLink_91 : decode cX3_bestLink 91 = .ok (.istore 4, 2) := by decide +kernel
theorem dX3_bestLink_93 : decode cX3_bestLink 93 = .ok (.iinc 6 1, 3) := by decide +kernel
theorem dX3_bestLink_96 : decode cX3_bestLink 96 = .ok (.goto (-58), 3) := by decide +kernel
theorem dX3_bestLink_99 : decode cX3_bestLink 99 = .ok (.iinc 5 1, 3) := by decide +kernel
theorem dX3_bestLink_102 : decode cX3_bestLink 102 = .ok (.goto (-77), 3) := by decide +kernel
theorem dX3_bestLink_105 : decode cX3_bestLink 105 = .ok (.iload_n 1, 1) := by decide +kernel
theorem dX3_bestLink_106 : decode cX3_bestLink 106 = .ok (.ifCond .ne 5, 3) := by decide +kernel
theorem dX3_bestLink_109 : decode cX3_bestLink 109 = .ok (.iload_n 2, 1) := by decide +kernel
theorem dX3_bestLink_110 : decode cX3_bestLink 110 = .ok (.ireturn, 1) := by decide +kernel
theorem dX3_bestLink_111 : decode cX3_bestLink 111 = .ok (.iload_n 1, 1) := by decide +kernel
theorem dX3_bestLink_112 : decode cX3_bestLink 112 = .ok (.iconst 1, 1) := by decide +kernel
theorem dX3_bestLink_113 : decode cX3_bestLink 113 = .ok (.if_icmp .ne 7, 3) := by decide +kernel
theorem dX3_bestLink_116 : decode cX3_bestLink 116 = .ok (.iload_n 3, 1) := by decide +kernel
theorem dX3_bestLink_117 : decode cX3_bestLink 117 = .ok (.goto 5, 3) := by decide +kernel
theorem dX3_bestLink_120 : decode cX3_bestLink 120 = .ok (.iload 4, 2) := by decide +kernel
theorem dX3_bestLink_122 : decode cX3_bestLink 122 = .ok (.ireturn, 1) := by decide +kernel
theorem dX3_count_0 : decode cX3_count 0 = .ok (.iload_n 1, 1) := by decide +kernel
theorem dX3_count_1 : decode cX3_count 1 = .ok (.bipush 12, 2) := by decide +kernel
theorem dX3_count_3 : decode cX3_count 3 = .ok (.if_icmp .ne 11, 3) := by decide +kernel
theorem dX3_count_6 : decode cX3_count 6 = .ok (.aload_n 0, 1) := by decide +kernel
theorem dX3_count_7 : decode cX3_count 7 = .ok (.getfield 29, 3) := by decide +kernel
theorem dX3_count_10 : decode cX3_count 10 = .ok (.invokevirtual 142, 3) := by decide +kernel
theorem dX3_count_13 : decode cX3_count 13 = .ok (.ireturn, 1) := by decide +kernel
theorem dX3_count_14 : decode cX3_count 14 = .ok (.iload_n 1, 1) := by decide +kernel
theorem dX3_count_15 : decode cX3_count 15 = .ok (.bipush 13, 2) := by decide +kernel
theorem dX3_count_17 : decode cX3_count 17 = .ok (.if_icmp .ne 11, 3) := by decide +kernel
theorem dX3_count_20 : decode cX3_count 20 = .ok (.aload_n 0, 1) := by decide +kernel
theorem dX3_count_21 : decode cX3_count 21 = .ok (.getfield 36, 3) := by decide +kernel
theorem dX3_count_24 : decode cX3_count 24 = .ok (.invokevirtual 124, 3) := by decide +kernel
theorem dX3_count_27 : decode cX3_count 27 = .ok (.ireturn, 1) := by decide +kernel
theorem dX3_count_28 : decode cX3_count 28 = .ok (.aload_n 0, 1) := by decide +kernel
theorem dX3_count_29 : decode cX3_count 29 = .ok (.getfield 10, 3) := by decide +kernel
theorem dX3_count_32 : decode cX3_count 32 = .ok (.iload_n 1, 1) := by decide +kernel
theorem dX3_count_33 : decode cX3_count 33 = .ok (.invokevirtual 184, 3) := by decide +kernel
theorem dX3_count_36 : decode cX3_count 36 = .ok (.ireturn, 1) := by decide +kernel
theorem dX3_isRate_0 : decode cX3_isRate 0 = .ok (.iload_n 0, 1) := by decide +kernel
theorem dX3_isRate_1 : decode cX3_isRate 1 = .ok (.bipush 50, 2) := by decide +kernel
theorem dX3_isRate_3 : decode cX3_isRate 3 = .ok (.if_icmp .lt 14, 3) := by decide +kernel
theorem dX3_isRate_6 : decode cX3_isRate 6 = .ok (.iload_n 0, 1) := by decide +kernel
theorem dX3_isRate_7 : decode cX3_isRate 7 = .ok (.sipush 150, 3) := by decide +kernel
theorem dX3_isRate_10 : decode cX3_isRate 10 = .ok (.if_icmp .gt 7, 3) := by decide +kernel
theorem dX3_isRate_13 : decode cX3_isRate 13 = .ok (.iconst 1, 1) := by decide +kernel
theorem dX3_isRate_14 : decode cX3_isRate 14 = .ok (.goto 4, 3) := by decide +kernel
theorem dX3_isRate_17 : decode cX3_isRate 17 = .ok (.iconst 0, 1) := by decide +kernel
theorem dX3_isRate_18 : decode cX3_isRate 18 = .ok (.ireturn, 1) := by decide +kernel
theorem dX3_holds_0 : decode cX3_holds 0 = .ok (.iload_n 0, 1) := by decide +kernel
theorem dX3_holds_1 : decode cX3_holds 1 = .ok (.iload_n 1, 1) := by decide +kernel
theorem dX3_holds_2 : decode cX3_holds 2 = .ok (.ishr, 1) := by decide +kernel
theorem dX3_holds_3 : decode cX3_holds 3 = .ok (.iconst 1, 1) := by decide +kernel
theorem dX3_holds_4 : decode cX3_holds 4 = .ok (.iand, 1) := by decide +kernel
theorem dX3_holds_5 : decode cX3_holds 5 = .ok (.ifCond .eq 7, 3) := by decide +kernel
theorem dX3_holds_8 : decode cX3_holds 8 = .ok (.iconst 1, 1) := by decide +kernel
theorem dX3_holds_9 : decode cX3_holds 9 = .ok (.goto 4, 3) := by decide +kernel
theorem dX3_holds_12 : decode cX3_holds 12 = .ok (.iconst 0, 1) := by decide +kernel
theorem dX3_holds_13 : decode cX3_holds 13 = .ok (.ireturn, 1) := by decide +kernel
theorem dX3_trialTogetherIn_0 : decode cX3_trialTogetherIn 0 = .ok (.aload_n 0, 1) := by decide +kernel
theorem dX3_trialTogetherIn_1 : decode cX3_trialTogetherIn 1 = .ok (.getfield 16, 3) := by decide +kernel
theorem dX3_trialTogetherIn_4 : decode cX3_trialTogetherIn 4 = .ok (.invokevirtual 73, 3) := by decide +kernel
theorem dX3_trialTogetherIn_7 : decode cX3_trialTogetherIn 7 = .ok (.ifCond .ne 6, 3) := by decide +kernel
theorem dX3_trialTogetherIn_10 : decode cX3_trialTogetherIn 10 = .ok (.bipush (-5), 2) := by decide +kernel
theorem dX3_trialTogetherIn_12 : decode cX3_trialTogetherIn 12 = .ok (.ireturn, 1) := by decide +kernel
theorem dX3_trialTogetherIn_13 : decode cX3_trialTogetherIn 13 = .ok (.iconst 0, 1) := by decide +kernel
theorem dX3_trialTogetherIn_14 : decode cX3_trialTogetherIn 14 = .ok (.istore_n 1, 1) := by decide +kernel
theorem dX3_trialTogetherIn_15 : decode cX3_trialTogetherIn 15 = .ok (.iload_n 1, 1) := by decide +kernel
theorem dX3_trialTogetherIn_16 : decode cX3_trialTogetherIn 16 = .ok (.sipush 2000, 3) := by decide +kernel
theorem dX3_trialTogetherIn_19 : decode cX3_trialTogetherIn 19 = .ok (.if_icmp .ge 29, 3) := by decide +kernel
theorem dX3_trialTogetherIn_22 : decode cX3_trialTogetherIn 22 = .ok (.aload_n 0, 1) := by decide +kernel
theorem dX3_trialTogetherIn_23 : decode cX3_trialTogetherIn 23 = .ok (.getfield 16, 3) := by decide +kernel
theorem dX3_trialTogetherIn_26 : decode cX3_trialTogetherIn 26 = .ok (.invokevirtual 163, 3) := by decide +kernel
theorem dX3_trialTogetherIn_29 : decode cX3_trialTogetherIn 29 = .ok (.ifCond .eq 5, 3) := by decide +kernel
theorem dX3_trialTogetherIn_32 : decode cX3_trialTogetherIn 32 = .ok (.iload_n 1, 1) := by decide +kernel
theorem dX3_trialTogetherIn_33 : decode cX3_trialTogetherIn 33 = .ok (.ireturn, 1) := by decide +kernel
theorem dX3_trialTogetherIn_34 : decode cX3_trialTogetherIn 34 = .ok (.aload_n 0, 1) := by decide +kernel
theorem dX3_trialTogetherIn_35 : decode cX3_trialTogetherIn 35 = .ok (.getfield 16, 3) := by decide +kernel
theorem dX3_trialTogetherIn_38 : decode cX3_trialTogetherIn 38 = .ok (.invokevirtual 157, 3) := by decide +kernel
theorem dX3_trialTogetherIn_41 : decode cX3_trialTogetherIn 41 = .ok (.pop, 1) := by decide +kernel
theorem dX3_trialTogetherIn_42 : decode cX3_trialTogetherIn 42 = .ok (.iinc 1 1, 3) := by decide +kernel
theorem dX3_trialTogetherIn_45 : decode cX3_trialTogetherIn 45 = .ok (.goto (-30), 3) := by decide +kernel
theorem dX3_trialTogetherIn_48 : decode cX3_trialTogetherIn 48 = .ok (.aload_n 0, 1) := by decide +kernel
theorem dX3_trialTogetherIn_49 : decode cX3_trialTogetherIn 49 = .ok (.getfield 16, 3) := by decide +kernel
theorem dX3_trialTogetherIn_52 : decode cX3_trialTogetherIn 52 = .ok (.invokevirtual 163, 3) := by decide +kernel
theorem dX3_trialTogetherIn_55 : decode cX3_trialTogetherIn 55 = .ok (.ifCond .eq 9, 3) := by decide +kernel
theorem dX3_trialTogetherIn_58 : decode cX3_trialTogetherIn 58 = .ok (.sipush 2000, 3) := by decide +kernel
theorem dX3_trialTogetherIn_61 : decode cX3_trialTogetherIn 61 = .ok (.goto 5, 3) := by decide +kernel
theorem dX3_trialTogetherIn_64 : decode cX3_trialTogetherIn 64 = .ok (.bipush (-5), 2) := by decide +kernel
theorem dX3_trialTogetherIn_66 : decode cX3_trialTogetherIn 66 = .ok (.ireturn, 1) := by decide +kernel
theorem dX3_spreadWith_0 : decode cX3_spreadWith 0 = .ok (.aload_n 0, 1) := by decide +kernel
theorem dX3_spreadWith_1 : decode cX3_spreadWith 1 = .ok (.getfield 16, 3) := by decide +kernel
theorem dX3_spreadWith_4 : decode cX3_spreadWith 4 = .ok (.aload_n 0, 1) := by decide +kernel
theorem dX3_spreadWith_5 : decode cX3_spreadWith 5 = .ok (.getfield 10, 3) := by decide +kernel
theorem dX3_spreadWith_8 : decode cX3_spreadWith 8 = .ok (.invokevirtual 148, 3) := by decide +kernel
theorem dX3_spreadWith_11 : decode cX3_spreadWith 11 = .ok (.aload_n 0, 1) := by decide +kernel
theorem dX3_spreadWith_12 : decode cX3_spreadWith 12 = .ok (.getfield 16, 3) := by decide +kernel
theorem dX3_spreadWith_15 : decode cX3_spreadWith 15 = .ok (.iload_n 1, 1) := by decide +kernel
theorem dX3_spreadWith_16 : decode cX3_spreadWith 16 = .ok (.iload_n 2, 1) := by decide +kernel
theorem dX3_spreadWith_17 : decode cX3_spreadWith 17 = .ok (.iconst 1, 1) := by decide +kernel
theorem dX3_spreadWith_18 : decode cX3_spreadWith 18 = .ok (.invokevirtual 80, 3) := by decide +kernel
theorem dX3_spreadWith_21 : decode cX3_spreadWith 21 = .ok (.aload_n 0, 1) := by decide +kernel
theorem dX3_spreadWith_22 : decode cX3_spreadWith 22 = .ok (.getfield 16, 3) := by decide +kernel
theorem dX3_spreadWith_25 : decode cX3_spreadWith 25 = .ok (.bipush 100, 2) := by decide +kernel
theorem dX3_spreadWith_27 : decode cX3_spreadWith 27 = .ok (.invokevirtual 112, 3) := by decide +kernel
theorem dX3_spreadWith_30 : decode cX3_spreadWith 30 = .ok (.aload_n 0, 1) := by decide +kernel
theorem dX3_spreadWith_31 : decode cX3_spreadWith 31 = .ok (.getfield 16, 3) := by decide +kernel
theorem dX3_spreadWith_34 : decode cX3_spreadWith 34 = .ok (.invokevirtual 172, 3) := by decide +kernel
theorem dX3_spreadWith_37 : decode cX3_spreadWith 37 = .ok (.ireturn, 1) := by decide +kernel
theorem dJ6_bitCount_0f7a4_0 : decode cJ6_bitCount_0f7a4 0 = .ok (.iload_n 0, 1) := by decide +kernel
theorem dJ6_bitCount_0f7a4_1 : decode cJ6_bitCount_0f7a4 1 = .ok (.iload_n 0, 1) := by decide +kernel
theorem dJ6_bitCount_0f7a4_2 : decode cJ6_bitCount_0f7a4 2 = .ok (.iconst 1, 1) := by decide +kernel
theorem dJ6_bitCount_0f7a4_3 : decode cJ6_bitCount_0f7a4 3 = .ok (.iushr, 1) := by decide +kernel
theorem dJ6_bitCount_0f7a4_4 : decode cJ6_bitCount_0f7a4 4 = .ok (.ldc_w 265, 3) := by decide +kernel
theorem dJ6_bitCount_0f7a4_7 : decode cJ6_bitCount_0f7a4 7 = .ok (.iand, 1) := by decide +kernel
theorem dJ6_bitCount_0f7a4_8 : decode cJ6_bitCount_0f7a4 8 = .ok (.isub, 1) := by decide +kernel
theorem dJ6_bitCount_0f7a4_9 : decode cJ6_bitCount_0f7a4 9 = .ok (.istore_n 0, 1) := by decide +kernel
theorem dJ6_bitCount_0f7a4_10 : decode cJ6_bitCount_0f7a4 10 = .ok (.iload_n 0, 1) := by decide +kernel
theorem dJ6_bitCount_0f7a4_11 : decode cJ6_bitCount_0f7a4 11 = .ok (.ldc_w 266, 3) := by decide +kernel
theorem dJ6_bitCount_0f7a4_14 : decode cJ6_bitCount_0f7a4 14 = .ok (.iand, 1) := by decide +kernel
theorem dJ6_bitCount_0f7a4_15 : decode cJ6_bitCount_0f7a4 15 = .ok (.iload_n 0, 1) := by decide +kernel
theorem dJ6_bitCount_0f7a4_16 : decode cJ6_bitCount_0f7a4 16 = .ok (.iconst 2, 1) := by decide +kernel
theorem dJ6_bitCount_0f7a4_17 : decode cJ6_bitCount_0f7a4 17 = .ok (.iushr, 1) := by decide +kernel
theorem dJ6_bitCount_0f7a4_18 : decode cJ6_bitCount_0f7a4 18 = .ok (.ldc_w 266, 3) := by decide +kernel
theorem dJ6_bitCount_0f7a4_21 : decode cJ6_bitCount_0f7a4 21 = .ok (.iand, 1) := by decide +kernel
theorem dJ6_bitCount_0f7a4_22 : decode cJ6_bitCount_0f7a4 22 = .ok (.iadd, 1) := by decide +kernel
theorem dJ6_bitCount_0f7a4_23 : decode cJ6_bitCount_0f7a4 23 = .ok (.istore_n 0, 1) := by decide +kernel
theorem dJ6_bitCount_0f7a4_24 : decode cJ6_bitCount_0f7a4 24 = .ok (.iload_n 0, 1) := by decide +kernel
theorem dJ6_bitCount_0f7a4_25 : decode cJ6_bitCount_0f7a4 25 = .ok (.iload_n 0, 1) := by decide +kernel
theorem dJ6_bitCount_0f7a4_26 : decode cJ6_bitCount_0f7a4 26 = .ok (.iconst 4, 1) := by decide +kernel
theorem dJ6_bitCount_0f7a4_27 : decode cJ6_bitCount_0f7a4 27 = .ok (.iushr, 1) := by decide +kernel
theorem dJ6_bitCount_0f7a4_28 : decode cJ6_bitCount_0f7a4 28 = .ok (.iadd, 1) := by decide +kernel
theorem dJ6_bitCount_0f7a4_29 : decode cJ6_bitCount_0f7a4 29 = .ok (.ldc_w 267, 3) := by decide +kernel
theorem dJ6_bitCount_0f7a4_32 : decode cJ6_bitCount_0f7a4 32 = .ok (.iand, 1) := by decide +kernel
theorem dJ6_bitCount_0f7a4_33 : decode cJ6_bitCount_0f7a4 33 = .ok (.istore_n 0, 1) := by decide +kernel
theorem dJ6_bitCount_0f7a4_34 : decode cJ6_bitCount_0f7a4 34 = .ok (.iload_n 0, 1) := by decide +kernel
theorem dJ6_bitCount_0f7a4_35 : decode cJ6_bitCount_0f7a4 35 = .ok (.iload_n 0, 1) := by decide +kernel
theorem dJ6_bitCount_0f7a4_36 : decode cJ6_bitCount_0f7a4 36 = .ok (.bipush 8, 2) := by decide +kernel
theorem dJ6_bitCount_0f7a4_38 : decode cJ6_bitCount_0f7a4 38 = .ok (.iushr, 1) := by decide +kernel
theorem dJ6_bitCount_0f7a4_39 : decode cJ6_bitCount_0f7a4 39 = .ok (.iadd, 1) := by decide +kernel
theorem dJ6_bitCount_0f7a4_40 : decode cJ6_bitCount_0f7a4 40 = .ok (.istore_n 0, 1) := by decide +kernel
theorem dJ6_bitCount_0f7a4_41 : decode cJ6_bitCount_0f7a4 41 = .ok (.iload_n 0, 1) := by decide +kernel
theorem dJ6_bitCount_0f7a4_42 : decode cJ6_bitCount_0f7a4 42 = .ok (.iload_n 0, 1) := by decide +kernel
theorem dJ6_bitCount_0f7a4_43 : decode cJ6_bitCount_0f7a4 43 = .ok (.bipush 16, 2) := by decide +kernel
theorem dJ6_bitCount_0f7a4_45 : decode cJ6_bitCount_0f7a4 45 = .ok (.iushr, 1) := by decide +kernel
theorem dJ6_bitCount_0f7a4_46 : decode cJ6_bitCount_0f7a4 46 = .ok (.iadd, 1) := by decide +kernel
theorem dJ6_bitCount_0f7a4_47 : decode cJ6_bitCount_0f7a4 47 = .ok (.istore_n 0, 1) := by decide +kernel
theorem dJ6_bitCount_0f7a4_48 : decode cJ6_bitCount_0f7a4 48 = .ok (.iload_n 0, 1) := by decide +kernel
theorem dJ6_bitCount_0f7a4_49 : decode cJ6_bitCount_0f7a4 49 = .ok (.bipush 63, 2) := by decide +kernel
theorem dJ6_bitCount_0f7a4_51 : decode cJ6_bitCount_0f7a4 51 = .ok (.iand, 1) := by decide +kernel
theorem dJ6_bitCount_0f7a4_52 : decode cJ6_bitCount_0f7a4 52 = .ok (.ireturn, 1) := by decide +kernel
theorem dJ9_abs_0f7a4_0 : decode cJ9_abs_0f7a4 0 = .ok (.iload_n 0, 1) := by decide +kernel
theorem dJ9_abs_0f7a4_1 : decode cJ9_abs_0f7a4 1 = .ok (.ifCond .ge 8, 3) := by decide +kernel
theorem dJ9_abs_0f7a4_4 : decode cJ9_abs_0f7a4 4 = .ok (.iload_n 0, 1) := by decide +kernel
theorem dJ9_abs_0f7a4_5 : decode cJ9_abs_0f7a4 5 = .ok (.ineg, 1) := by decide +kernel
theorem dJ9_abs_0f7a4_6 : decode cJ9_abs_0f7a4 6 = .ok (.goto 4, 3) := by decide +kernel
theorem dJ9_abs_0f7a4_9 : decode cJ9_abs_0f7a4 9 = .ok (.iload_n 0, 1) := by decide +kernel
theorem dJ9_abs_0f7a4_10 : decode cJ9_abs_0f7a4 10 = .ok (.ireturn, 1) := by decide +kernel
theorem dJ9_max_7cf53_0 : decode cJ9_max_7cf53 0 = .ok (.iload_n 0, 1) := by decide +kernel
theorem dJ9_max_7cf53_1 : decode cJ9_max_7cf53 1 = .ok (.iload_n 1, 1) := by decide +kernel
theorem dJ9_max_7cf53_2 : decode cJ9_max_7cf53 2 = .ok (.if_icmp .lt 7, 3) := by decide +kernel
theorem dJ9_max_7cf53_5 : decode cJ9_max_7cf53 5 = .ok (.iload_n 0, 1) := by decide +kernel
theorem dJ9_max_7cf53_6 : decode cJ9_max_7cf53 6 = .ok (.goto 4, 3) := by decide +kernel
theorem dJ9_max_7cf53_9 : decode cJ9_max_7cf53 9 = .ok (.iload_n 1, 1) := by decide +kernel
theorem dJ9_max_7cf53_10 : decode cJ9_max_7cf53 10 = .ok (.ireturn, 1) := by decide +kernel
theorem dJ9_min_7cf53_0 : decode cJ9_min_7cf53 0 = .ok (.iload_n 0, 1) := by decide +kernel
theorem dJ9_min_7cf53_1 : decode cJ9_min_7cf53 1 = .ok (.iload_n 1, 1) := by decide +kernel
theorem dJ9_min_7cf53_2 : decode cJ9_min_7cf53 2 = .ok (.if_icmp .gt 7, 3) := by decide +kernel
theorem dJ9_min_7cf53_5 : decode cJ9_min_7cf53 5 = .ok (.iload_n 0, 1) := by decide +kernel
theorem dJ9_min_7cf53_6 : decode cJ9_min_7cf53 6 = .ok (.goto 4, 3) := by decide +kernel
theorem dJ9_min_7cf53_9 : decode cJ9_min_7cf53 9 = .ok (.iload_n 1, 1) := by decide +kernel
theorem dJ9_min_7cf53_10 : decode cJ9_min_7cf53 10 = .ok (.ireturn, 1) := by decide +kernel
